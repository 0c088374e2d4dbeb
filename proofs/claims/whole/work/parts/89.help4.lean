section LHELP3D
variable {p : Program} {l : Launch} {e : Env} {R : Room} {s : State} {m : MethodId} {args : Array Value} {below : List Frame} {meth : Method} {c : Code}
variable {al : Nat → Nat} {dC : Nat → ClassId} {dI : Nat → Nat → Nat} {aC : Nat → ClassId} {aV : Nat → Nat} {x0 : Nat}
section
variable {cc : ByteArray} {nL pc ix mid out ct la : Nat} {ls : Array Slot} {as : List Value} {h h' : am_Hp} {n : Nat} {cO : ClassId}
set_option maxHeartbeats 2000000 in
theorem lh_tailD {o : am_Out} {f : Nat → UInt64} {x : ExceptionTableEntry} (C : lw_C p s m args c al dC dI aC aV x0 cc nL lw_L) (hrt : meth.sig.returnType = some .int) (hlocks : meth.locks = false) (hok : lw_ok lw_L ix mid n = true) (hM : am_Met l al dC dI aC aV mid (.ref 0 :: as) h o h') (hov : o = none ∨ ∃ v, o = some (some (.float v))) (hne : ∀ v, o = some (some (.float v)) → vf_n64 (FP.f2d v)) (hln : as.length = n) (hb9 : am_isO 0 (am_ow mid) = true) (hnl : ls.size = nL)
    (hKO : va_K (dC, dI) vwCl [(cO, .double)] s) (hcast : va_Nw (.castable lw_io lw_io) s) (hP : va_P (dC, dI) vwCl (am_W al aC h) s.heap) (hO : va_P (dC, dI) vwCl [(out, .inl (cO, (1, .inr (.inr (.inr (.inl f))))))] s.heap) (ho : x0 + 205 ≤ out)
    (hfr : am_fr mid + 1 ≤ R.frames) (hlo : 8 + (am_ml mid + 11) + am_lo mid ≤ R.locals) (hf : am_mc o ≤ R.cells ∧ am_ms o ≤ R.slots) (htab : c.exceptionTable.toList = [x]) (hx0 : x = ⟨0, pc + 5, pc + 8, ct⟩) (hct : ct ≠ 0) (hlink : (Cond.classLink lw_L ct lw_io).before args s = true)
    (hcode : lh_code cc pc ix la .f2d .dastore = true)
    (hst : ∀ (Q : State → Prop) (H : Heap) (locs : List Loc) (cells slots : Nat) (q : Nat), (∀ ls' : Array Slot, W p l e R s m args below meth c H locs cells slots Q (F0 m (pc + 8 + la) ls' [])) → W p l e R s m args below meth c H locs cells slots Q (F0 m (pc + 8) ls [.ref q])) :
    W p l e R s m args below meth c s.heap [] 0 0 (vx_MQ below (lh_Q s.heap.size al dC dI aC x0 out cO (.inr (.inr (.inr (.inl f)))) o h') lh_X args s (am_mc o) (am_ms o) (lh_A al s.heap.size out)) (F0 m pc ls ((as.map (am_rl al)).reverse ++ .ref (al 0) :: [.int 0, .ref out])) := by
  have C' := C
  obtain ⟨hx, hb, hml, hown, hts, hK, hF, hal⟩ := C
  unfold lh_code at hcode
  simp only [Bool.and_eq_true, decide_eq_true_eq] at hcode
  obtain ⟨⟨⟨⟨⟨⟨⟨⟨d0, d1⟩, d2⟩, d3⟩, d4⟩, d5⟩, d6⟩, d7⟩, d8⟩ := hcode
  have hszx := lw_size hal hP
  have hA := lw_A (H := s.heap) hal (by omega)
  have hr := lw_run (p := p) (l := l) (e := e) (R := R) (below := below) (meth := meth) (locs := []) (cells := 0) (slots := 0) (rest := [.int 0, .ref out]) (o := o) C' hok hM hln hb9 hnl hP va_S.rf hfr hlo (by rw [Nat.zero_add, Nat.zero_add]; exact hf) (by show 1 + (1 + 0) ≤ 8; omega) d0
  intro T hT X
  rcases hr T hT X with ⟨v2, st₀, t, T', L, h00, X', hL, e1, e2, ⟨v', q1, q2, ⟨q3, q4⟩, q5⟩, stp⟩ | ⟨q, st₀, t, T', L, E, ce, h00, X', hL, e1, e2, ⟨q1, qE, ⟨q3, q4⟩, q5⟩, hce, hcv, hcl, stp⟩
  · obtain ⟨k1, k2, k3⟩ := vx_keep (A0 := lh_A al s.heap.size out) h00 e1 va_S.rf (fun q _ z => Or.inl z) (fun q z => Or.inl z) hL q5
    rcases hov with rfl | ⟨v, rfl⟩
    · cases q1
    · cases q1
      cases Outcome.returned.inj q2
      have q3 : va_P (dC, dI) vwCl (am_W al aC h') T'.heap := by rw [e1]; exact q3
      have hO1 := lh_P_at hal ho hO k2
      have key : W p l e R s m args below meth c T'.heap ([] ++ L) 0 0 (vx_MQ below (lh_Q s.heap.size al dC dI aC x0 out cO (.inr (.inr (.inr (.inl f)))) (some (some (.float v))) h') lh_X args s 0 0 (lh_A al s.heap.size out)) (F0 m (pc + 3) ls (.float v :: [.int 0, .ref out])) := by
        refine lv_f2d hx hb d1 (hne v rfl) ?_
        refine va_dast hx hb hKO (lw_W1 q3 hO1) (lw_D hal ho) k3 205 0 lw_Wg rfl (show vp_in 0 1 by intro z; rcases z with z | z <;> exact absurd z (by decide)) d2 (fun H2 locs2 hP2 hD2 hS2 => ?_)
        rw [lw_Ws] at hP2
        obtain ⟨p1, p2⟩ := lw_W2 hP2
        refine lv_goto hx hb (tgt := pc + 8 + la + 2) d3 (by push_cast; omega) ?_
        refine lv_iconst hx hb (v := 0) d6 rfl ?_
        exact vx_ret (W.iret hx hb hrt (fun t ht hW => ⟨0, .inr (.inr (.inr (.inl (vf_upd f (0 : Int32).toNatClampNeg (FP.f2d v))))), rfl, hS2.F ht, by rw [ht]; exact p1, by rw [ht]; exact p2, Or.inr ⟨_, rfl, rfl, rfl⟩⟩) hS2.2.2 d7)
      obtain ⟨t2, a1, b1⟩ := key T' rfl X'
      exact ⟨t2, stp t2 a1, b1⟩
  · subst q1
    obtain ⟨k1, k2, k3⟩ := vx_keep (A0 := lh_A al s.heap.size out) h00 e1 va_S.rf (fun q _ z => Or.inl z) (fun q z => Or.inl z) hL q5
    have q3 : va_P (dC, dI) vwCl (am_W al aC h') T'.heap := by rw [e1]; exact q3
    have hO1 := lh_P_at hal ho hO k2
    subst qE
    subst hx0
    have hkey : W p l e R s m args below meth c T'.heap ([] ++ L) 1 6 (vx_MQ below (lh_Q s.heap.size al dC dI aC x0 out cO (.inr (.inr (.inr (.inl f)))) none h') lh_X args s 1 6 (lh_A al s.heap.size out)) (F0 m (pc + 8) ls [.ref q]) :=
      hst _ _ _ _ _ q (fun ls' => lh_hand hx hb hrt hlocks d4 d5 k3 (fun t ht hW => ⟨1, _, rfl, k3.F ht, by rw [ht]; exact q3, by rw [ht]; exact hO1, Or.inl ⟨rfl, rfl, rfl⟩⟩))
    obtain ⟨t2, a1, b1⟩ := vx_catch (rest := [.int 0, .ref out]) hown [] ⟨0, pc + 5, pc + 8, ct⟩ [] (by rw [htab]; rfl) (pc := pc) (fun z hz => by cases hz) (show covers ⟨0, pc + 5, pc + 8, ct⟩ pc = true by simp [covers]) hct hlink (va_Nw.use rfl hcast) (by rw [e1]; exact hce) hcv hcl hkey T' rfl X'
    exact ⟨t2, stp.trans a1, b1⟩
end
set_option maxHeartbeats 2000000 in
theorem lh_metD {y : MethodName} {cc : ByteArray} {nL pc ix mid n la ct out : Nat} {cO : ClassId} {as : List Value} {h h' : am_Hp} {o : am_Out} (hyc : y.cls = lw_L) (hal : ∀ k, k < 205 → al k = x0 + k) (ho : x0 + 205 ≤ out) (has : as.map (am_rl al) = as)
    (hok : lw_ok lw_L ix mid n = true) (hM : am_Met l al dC dI aC aV mid (.ref 0 :: as) h o h') (hov : o = none ∨ ∃ v, o = some (some (.float v))) (hne : ∀ v, o = some (some (.float v)) → vf_n64 (FP.f2d v)) (hln : as.length = n) (hb9 : am_isO 0 (am_ow mid) = true) (hfr : am_fr mid + 1 ≤ 12) (hlo : 8 + (am_ml mid + 11) + am_lo mid ≤ 280)
    (hct : ct ≠ 0) (hlink : cn_inT (.classLink lw_L ct lw_io) = true) (hcode : lh_code cc pc ix la .f2d .dastore = true) (hsl : (lg_sl (.ref x0 :: as ++ [.ref out])).length ≤ nL)
    (hload : ∀ (p : Program) (e : Env) (R : Room) (s : State) (m : MethodId) (args : Array Value) (below : List Frame) (meth : Method) (c : Code) (Q : State → Prop) (H : Heap) (ls : Array Slot), p.tables.exec = Jvm.exec → c.code = cc → lv_has ls nL (lv_args 0 (.ref x0 :: as ++ [.ref out])) → W p l e R s m args below meth c H [] 0 0 Q (F0 m pc ls (as.reverse ++ .ref x0 :: [.int 0, .ref out])) → W p l e R s m args below meth c H [] 0 0 Q (F0 m 0 ls []))
    (hst : ∀ (p : Program) (e : Env) (R : Room) (s : State) (m : MethodId) (args : Array Value) (below : List Frame) (meth : Method) (c : Code) (Q : State → Prop) (H : Heap) (locs : List Loc) (cells slots : Nat) (ls : Array Slot) (q : Nat), p.tables.exec = Jvm.exec → c.code = cc → lv_has ls nL (lv_args 0 (.ref x0 :: as ++ [.ref out])) → (∀ ls' : Array Slot, W p l e R s m args below meth c H locs cells slots Q (F0 m (pc + 8 + la) ls' [])) → W p l e R s m args below meth c H locs cells slots Q (F0 m (pc + 8) ls [.ref q])) :
    lh_Met l al dC dI aC aV x0 out cO .double y cc nL [(0, pc + 5, pc + 8, ct)] as h o h' := by
  intro sz fO _ hfO
  obtain ⟨f, rfl⟩ := hfO rfl
  refine vx_ofWH (cc := cc) (maxL := nL) (ret := some .int) (hh := [(0, pc + 5, pc + 8, ct)]) (by rw [hyc]; decide) rfl ?_
  intro p e s m args below meth c s₁ B hml hv
  obtain ⟨rfl, hsz, hP, hO, hK, hKO, hF, hcast⟩ := hv
  subst hsz
  have hts0 := atoms_spec (ws := lh_ws y cc nL [(0, pc + 5, pc + 8, ct)]) B.pre
  have hts : ∀ w ∈ am_AT, w.before _ s = true := fun w hw => hts0 w (List.mem_cons_of_mem _ hw)
  have htab := vx_table (x := y) B (hts0 _ List.mem_cons_self)
  have hown : s.vm.findClass lw_L = some m.cls := hyc ▸ findClass_of_methodNamed B.named
  have C : lw_C p s m (Value.ref x0 :: as ++ [Value.ref out]).toArray c al dC dI aC aV x0 cc nL lw_L := ⟨B.exec, B.bytes, hml, hown, hts, hK, hF, hal⟩
  have hl := lv_entry (Value.ref x0 :: as ++ [Value.ref out]) (n := nL) hsl
  rw [lg_entry_eq]
  refine hload p e _ s m _ below meth c _ _ _ B.exec B.bytes hl ?_
  have e0 : al 0 = x0 := by rw [hal 0 (by decide), Nat.add_zero]
  have key := lh_tailD (p := p) (l := l) (e := e) (R := lh_rm o) (below := below) (meth := meth) (pc := pc) (ix := ix) (la := la) (ls := (lg_sl (Value.ref x0 :: as ++ [Value.ref out]) ++ List.replicate (nL - (lg_sl (Value.ref x0 :: as ++ [Value.ref out])).length) Slot.unset).toArray) (f := f) C B.returns B.notSynchronized hok hM hov hne hln hb9 hl.1 hKO hcast hP hO ho (by show _ ≤ 12; exact hfr) (by show _ ≤ 280; exact hlo) ⟨Nat.le_refl _, Nat.le_refl _⟩ htab rfl hct (hts _ (cn_inT_spec hlink)) hcode
    (fun Q H locs cells slots q kk => hst p e _ s m _ below meth c Q H locs cells slots _ q B.exec B.bytes hl kk)
  rw [e0, has] at key
  exact key
end LHELP3D
