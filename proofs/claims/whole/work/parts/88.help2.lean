section LHELP2
variable {p : Program} {l : Launch} {e : Env} {R : Room} {s : State} {m : MethodId} {args : Array Value} {below : List Frame} {meth : Method} {c : Code}
variable {al : Nat → Nat} {dC : Nat → ClassId} {dI : Nat → Nat → Nat} {aC : Nat → ClassId} {aV : Nat → Nat} {x0 : Nat}
variable {cc : ByteArray} {nL pc ix mid out ct la : Nat} {ls : Array Slot} {as : List Value} {h h' : am_Hp} {n : Nat} {cO : ClassId}
abbrev lh_X : String → State → State → Prop := fun _ _ _ => False
/-- the end of a helper: the call, the answer kept, 0; or the handler, 1 -/
def lh_code (cc : ByteArray) (pc ix la : Nat) (i1 i2 : Instr) : Bool :=
  decide (decode cc pc = .ok (.invokevirtual ix, 3)) && decide (decode cc (pc + 3) = .ok (i1, 1)) && decide (decode cc (pc + 4) = .ok (i2, 1)) && decide (decode cc (pc + 5) = .ok (.goto (5 + (la : Int)), 3)) &&
  decide (decode cc (pc + 8 + la) = .ok (.iconst 1, 1)) && decide (decode cc (pc + 8 + la + 1) = .ok (.ireturn, 1)) && decide (decode cc (pc + 8 + la + 2) = .ok (.iconst 0, 1)) && decide (decode cc (pc + 8 + la + 3) = .ok (.ireturn, 1)) && covers ⟨0, pc + 5, pc + 8, 1⟩ pc
set_option maxHeartbeats 2000000 in
/-- the handler -/
theorem lh_hand {Qc : Array Value → State → Outcome → State → Prop} {H : Heap} {locs : List Loc} {hh : Nat} (hx : p.tables.exec = Jvm.exec) (hb : c.code = cc) (hr : meth.sig.returnType = some .int) (hlocks : meth.locks = false) (d1 : decode cc hh = .ok (.iconst 1, 1)) (d2 : decode cc (hh + 1) = .ok (.ireturn, 1)) (hS : va_S (lh_A al s.heap.size out) s.heap H locs)
    (hq : ∀ t : State, t.heap = H → s.WarmedH t.vm → Qc args s (.returned (some (.int 1))) t) : W p l e R s m args below meth c H locs 1 6 (vx_MQ below Qc lh_X args s 1 6 (lh_A al s.heap.size out)) (F0 m hh ls []) := by
  refine lv_iconst hx hb (v := 1) d1 rfl ?_
  exact vx_ret (W.iret hx hb hr hq hS.2.2 d2)
set_option maxHeartbeats 2000000 in
theorem lh_tail {o : am_Out} {f : Nat → Int64} {x : ExceptionTableEntry} (C : lw_C p s m args c al dC dI aC aV x0 cc nL lw_L) (hrt : meth.sig.returnType = some .int) (hlocks : meth.locks = false) (hok : lw_ok lw_L ix mid n = true) (hM : am_Met l al dC dI aC aV mid (.ref 0 :: as) h o h') (hov : o = none ∨ ∃ v, o = some (some (.int v))) (hln : as.length = n) (hb9 : am_isO 0 (am_ow mid) = true) (hnl : ls.size = nL)
    (hKO : va_K (dC, dI) vwCl [(cO, .long)] s) (hcast : va_Nw (.castable lw_io lw_io) s) (hP : va_P (dC, dI) vwCl (am_W al aC h) s.heap) (hO : va_P (dC, dI) vwCl [(out, .inl (cO, (1, .inr (.inl f))))] s.heap) (ho : x0 + 205 ≤ out)
    (hfr : am_fr mid + 1 ≤ R.frames) (hlo : 8 + (am_ml mid + 11) + am_lo mid ≤ R.locals) (hf : am_mc o ≤ R.cells ∧ am_ms o ≤ R.slots) (htab : c.exceptionTable.toList = [x]) (hx0 : x = ⟨0, pc + 5, pc + 8, ct⟩) (hct : ct ≠ 0) (hlink : (Cond.classLink lw_L ct lw_io).before args s = true)
    (hcode : lh_code cc pc ix la .i2l .lastore = true)
    (hst : ∀ (Q : State → Prop) (H : Heap) (locs : List Loc) (cells slots : Nat) (q : Nat), (∀ ls' : Array Slot, W p l e R s m args below meth c H locs cells slots Q (F0 m (pc + 8 + la) ls' [])) → W p l e R s m args below meth c H locs cells slots Q (F0 m (pc + 8) ls [.ref q])) :
    W p l e R s m args below meth c s.heap [] 0 0 (vx_MQ below (lh_Q s.heap.size al dC dI aC x0 out cO (.inr (.inl f)) o h') lh_X args s (am_mc o) (am_ms o) (lh_A al s.heap.size out)) (F0 m pc ls ((as.map (am_rl al)).reverse ++ .ref (al 0) :: [.int 0, .ref out])) := by
  have C' := C
  obtain ⟨hx, hb, hml, hown, hts, hK, hF, hal⟩ := C
  unfold lh_code at hcode
  simp only [Bool.and_eq_true, decide_eq_true_eq] at hcode
  obtain ⟨⟨⟨⟨⟨⟨⟨⟨d0, d1⟩, d2⟩, d3⟩, d4⟩, d5⟩, d6⟩, d7⟩, d8⟩ := hcode
  have hszx := lw_size hal hP
  have hA := lw_A (H := s.heap) hal (by omega)
  have hr := lw_run (p := p) (l := l) (e := e) (R := R) (below := below) (meth := meth) (locs := []) (cells := 0) (slots := 0) (rest := [.int 0, .ref out]) (o := o) C' hok hM hln hb9 hnl hP va_S.rf hfr hlo (by rw [Nat.zero_add, Nat.zero_add]; exact hf) (by show 1 + (1 + 0) ≤ 8; omega) d0
  intro T hT X
  rcases hr T hT X with ⟨v2, st₀, t, T', L, h00, X', hL, e1, e2, ⟨v', q1, q2, ⟨q3, q4⟩, q5⟩, stp⟩ | ⟨q, st₀, t, T', L, E, ce, h00, X', hL, e1, e2, ⟨q1, qE, ⟨q3, q4⟩, q5⟩, hce, hcv, hcl, stp⟩
  · obtain ⟨k1, k2, k3⟩ := vx_keep (A0 := lh_A al s.heap.size out) h00 e1 va_S.rf (fun q _ z => Or.inl z) (fun q z => Or.inl z) hL q5
    rcases hov with rfl | ⟨v, rfl⟩
    · cases q1
    · cases q1
      cases Outcome.returned.inj q2
      have q3 : va_P (dC, dI) vwCl (am_W al aC h') T'.heap := by rw [e1]; exact q3
      have hO1 := lh_P_at hal ho hO k2
      have key : W p l e R s m args below meth c T'.heap ([] ++ L) 0 0 (vx_MQ below (lh_Q s.heap.size al dC dI aC x0 out cO (.inr (.inl f)) (some (some (.int v))) h') lh_X args s 0 0 (lh_A al s.heap.size out)) (F0 m (pc + 3) ls (.int v :: [.int 0, .ref out])) := by
        refine lv_i2l hx hb d1 rfl ?_
        refine va_last hx hb hKO (lw_W1 q3 hO1) (lw_D hal ho) k3 205 0 lw_Wg rfl (show vp_in 0 1 by intro z; rcases z with z | z <;> exact absurd z (by decide)) d2 (fun H2 locs2 hP2 hD2 hS2 => ?_)
        rw [lw_Ws] at hP2
        obtain ⟨p1, p2⟩ := lw_W2 hP2
        refine lv_goto hx hb (tgt := pc + 8 + la + 2) d3 (by push_cast; omega) ?_
        refine lv_iconst hx hb (v := 0) d6 rfl ?_
        exact vx_ret (W.iret hx hb hrt (fun t ht hW => ⟨0, .inr (.inl (vp_updL f (0 : Int32).toNatClampNeg v.toInt64)), rfl, hS2.F ht, by rw [ht]; exact p1, by rw [ht]; exact p2, Or.inr ⟨_, rfl, rfl, rfl⟩⟩) hS2.2.2 d7)
      obtain ⟨t2, a1, b1⟩ := key T' rfl X'
      exact ⟨t2, stp t2 a1, b1⟩
  · subst q1
    obtain ⟨k1, k2, k3⟩ := vx_keep (A0 := lh_A al s.heap.size out) h00 e1 va_S.rf (fun q _ z => Or.inl z) (fun q z => Or.inl z) hL q5
    have q3 : va_P (dC, dI) vwCl (am_W al aC h') T'.heap := by rw [e1]; exact q3
    have hO1 := lh_P_at hal ho hO k2
    subst qE
    subst hx0
    have hkey : W p l e R s m args below meth c T'.heap ([] ++ L) 1 6 (vx_MQ below (lh_Q s.heap.size al dC dI aC x0 out cO (.inr (.inl f)) none h') lh_X args s 1 6 (lh_A al s.heap.size out)) (F0 m (pc + 8) ls [.ref q]) :=
      hst _ _ _ _ _ q (fun ls' => lh_hand hx hb hrt hlocks d4 d5 k3 (fun t ht hW => ⟨1, _, rfl, k3.F ht, by rw [ht]; exact q3, by rw [ht]; exact hO1, Or.inl ⟨rfl, rfl, rfl⟩⟩))
    obtain ⟨t2, a1, b1⟩ := vx_catch (rest := [.int 0, .ref out]) hown [] ⟨0, pc + 5, pc + 8, ct⟩ [] (by rw [htab]; rfl) (pc := pc) (fun z hz => by cases hz) (show covers ⟨0, pc + 5, pc + 8, ct⟩ pc = true by simp [covers]) hct hlink (va_Nw.use rfl hcast) (by rw [e1]; exact hce) hcv hcl hkey T' rfl X'
    exact ⟨t2, stp.trans a1, b1⟩
end LHELP2
