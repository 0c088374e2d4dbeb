section LAWC
variable {p : Program} {l : Launch} {e : Env} {s : State} {m : MethodId} {args : Array Value} {below : List Frame} {meth : Method} {c : Code} {Q : State → Prop}
variable {al : Nat → Nat} {dC : Nat → ClassId} {dI : Nat → Nat → Nat} {aC : Nat → ClassId} {aV : Nat → Nat} {x0 b L out outD : Nat} {xs : Nat → Int32} {cL cD : ClassId}
variable {H : Heap} {locs : List Loc} {cells slots : Nat} {ls : Array Slot}
theorem lg_cmp_self (x : Int64) : lg_cmp x x = 0 := by simp [lg_cmp]
def lh_cw (y : MethodName) (cc : ByteArray) (nL ixH n : Nat) (hh : List (Nat × Nat × Nat × Nat)) : Bool := cn_inT (.methodLink lw_L ixH y) && cn_inT (.static y) && cn_inT (.initialized y.cls) && cn_inT (.codeWith y cc nL (some .int) hh) && decide ((parseMethodDescriptor y.desc).map (fun d => d.parameters.length) = some (n + 2)) && decide (y.cls = lw_L) && Nat.ble (8 + (nL + 11) + 280) 488
def le_ok (pc : Nat) (qs : List (Nat × Bool)) (ixH ixM midM : Nat) : Bool :=
  decide (decode code pc = .ok (.aload_n 1, 1)) && la_ok code (pc + 1) qs && decide (decode code (la_end (pc + 1) qs) = .ok (.aload_n 3, 1)) && decide (decode code (la_end (pc + 1) qs + 1) = .ok (.invokestatic ixH, 3)) && decide (decode code (la_end (pc + 1) qs + 4) = .ok (.istore 6, 2)) && decide (decode code (la_end (pc + 1) qs + 6) = .ok (.aload_n 2, 1)) && la_ok code (la_end (pc + 1) qs + 7) qs &&
  decide (decode code (la_end (la_end (pc + 1) qs + 7) qs) = .ok (.invokevirtual ixM, 3)) && lw_ok lw_L ixM midM qs.length && am_isO 193 (am_ow midM) && lc_rm midM
def le_tail (q : Nat) : Bool :=
  decide (decode code q = .ok (.istore 7, 2)) && decide (decode code (q + 2) = .ok (.aload_n 2, 1)) && decide (decode code (q + 3) = .ok (.invokevirtual 118, 3)) && decide (decode code (q + 6) = .ok (.iload 6, 2)) && decide (decode code (q + 8) = .ok (.if_icmp .eq 5, 3)) && decide (decode code (q + 13) = .ok (.iload 6, 2)) && decide (decode code (q + 15) = .ok (.ifCond .ne 15, 3)) &&
  decide (decode code (q + 18) = .ok (.aload_n 3, 1)) && decide (decode code (q + 19) = .ok (.iconst 0, 1)) && decide (decode code (q + 20) = .ok (.laload, 1)) && decide (decode code (q + 21) = .ok (.iload 7, 2)) && decide (decode code (q + 23) = .ok (.i2l, 1)) && decide (decode code (q + 24) = .ok (.lcmp, 1)) && decide (decode code (q + 25) = .ok (.ifCond .eq 5, 3)) && decide (decode code (q + 30) = .ok (.goto (2421 - ((q + 30 : Nat) : Int)), 3))
theorem lw_thr : (lw_ok lw_L 118 125 0 && am_isO 193 (am_ow 125) && lc_rm 125) = true := by decide +kernel
set_option maxHeartbeats 2000000 in
/-- behind both answers: what was thrown is compared, and the answers -/
theorem lw_exc2 {q n : Nat} {vM r : Int32} {ov : Option Int32} {h2 : am_Hp} {fL : Nat → Int64} {fD : Nat → UInt64} (hy : am_Hy l al) (N : Nat) (X : lw_X p s m args c al dC dI aC aV x0 b L out outD xs cL cD) (hok : le_tail q = true)
    (hl : lv_has ls 8 ((6, .int r) :: lw_base al b out outD n)) (hH : lw_H al dC dI aC out outD cL cD h2 fL fD H) (hS : va_S (fun q => x0 ≤ q) s.heap H locs) (hc : cells ≤ 601024 ∧ slots ≤ 7293034)
    (ht : f_X10_thrown N h2 = some (r, h2)) (hr : (ov = none ∧ r = 1) ∨ (ov = some vM ∧ r = 0 ∧ fL 0 = vM.toInt64))
    (kk : ∀ (H2 : Heap) (locs2 : List Loc) (ls2 : Array Slot), lv_has ls2 8 (lw_base al b out outD n) → lw_H al dC dI aC out outD cL cD h2 fL fD H2 → va_S (fun q => x0 ≤ q) s.heap H2 locs2 → W p l e room_1 s m args below meth c H2 locs2 cells slots Q (F0 m 2421 ls2 [])) :
    W p l e room_1 s m args below meth c H locs cells slots Q (F0 m q ls [.int vM]) := by
  obtain ⟨C, hXb, hbl, hx0, hL, ho, hoD, hne, hKL, hKD, hcast⟩ := X
  have C' := C
  obtain ⟨hx, hb, hml, hown, hts, hK, hF, hal⟩ := C
  obtain ⟨hP, hO, hOD⟩ := hH
  unfold le_tail at hok
  simp only [Bool.and_eq_true, decide_eq_true_eq] at hok
  obtain ⟨⟨⟨⟨⟨⟨⟨⟨⟨⟨⟨⟨⟨⟨d0, d1⟩, d2⟩, d3⟩, d4⟩, d5⟩, d6⟩, d7⟩, d8⟩, d9⟩, d10⟩, d11⟩, d12⟩, d13⟩, d14⟩ := hok
  have hw := lw_thr
  simp only [lc_rm, Bool.and_eq_true] at hw
  obtain ⟨⟨w1, w2⟩, w3, w4⟩ := hw
  refine lv_istore (lv' := (7, .int vM) :: (6, .int r) :: lw_base al b out outD n) hx hb d0 hl (by decide) rfl (fun ls2 hl2 => ?_)
  have hlb : lv_has ls2 8 (lw_base al b out outD n) := ⟨hl2.1, hl2.2.1, fun z hz => hl2.2.2 z (List.mem_cons_of_mem _ (List.mem_cons_of_mem _ hz))⟩
  refine lv_aload_n hx hb (i := 2) d1 rfl (lv_at hlb 2 rfl) ?_
  refine lw_call (rest := []) (as := []) (n := 0) C' w1 (m_X10_thrown hy N h2 (r, h2) ht) rfl w2 hl2.1 hP hS (Nat.le_of_ble_eq_true w3) (Nat.le_of_ble_eq_true w4) hc (Nat.zero_le _) d2 (fun H1 locs1 hP1 hS1 hz1 hq1 => ?_)
  have hO1 := lh_P_at hal ho hO hq1
  have hOD1 := lh_P_at hal hoD hOD hq1
  have hend : W p l e room_1 s m args below meth c H1 locs1 cells slots Q (F0 m (q + 30) ls2 []) := by
    refine lv_goto hx hb (tgt := 2421) d14 (by omega) ?_
    exact kk H1 locs1 ls2 hlb ⟨hP1, hO1, hOD1⟩ hS1
  refine lv_iload hx hb d3 (lv_at hl2 1 rfl) ?_
  refine lv_icmp_eq hx hb (tgt := q + 13) d4 (by push_cast; omega) (fun _ => ?_) (fun z => absurd rfl z)
  refine lv_iload hx hb d5 (lv_at hl2 1 rfl) ?_
  refine lv_if_ne hx hb (tgt := q + 30) d6 (by push_cast; omega) (fun _ => hend) (fun z => ?_)
  rcases hr with ⟨-, e1⟩ | ⟨-, -, e2⟩
  · rw [e1] at z
    exact absurd z (by decide)
  · refine lv_aload_n hx hb (i := 3) d7 rfl (lv_at hlb 3 rfl) ?_
    refine lv_iconst hx hb (v := 0) d8 rfl ?_
    refine va_lald hx hb hKL hO1 0 0 rfl rfl (show vp_in 0 1 by intro z; rcases z with z | z <;> exact absurd z (by decide)) d9 ?_
    refine lv_iload hx hb d10 (lv_at hl2 0 rfl) ?_
    refine lv_i2l hx hb d11 rfl ?_
    refine W.lcmp hx hb d12 ?_
    have e3 : fL (0 : Int32).toNatClampNeg = vM.toInt64 := e2
    rw [e3, lg_cmp_self]
    exact lv_if_eq hx hb (tgt := q + 30) d13 (by push_cast; omega) (fun _ => hend) (fun z => absurd rfl z)
theorem lh_sum {vs : List Value} (h : vs.all cn_int = true) : (vs.map fun v => v.category).sum = vs.length := by
  induction vs with
  | nil => rfl
  | cons v r ih =>
    simp only [List.all_cons, Bool.and_eq_true] at h
    rw [List.map_cons, List.sum_cons, ih h.2, List.length_cons]
    have e1 : v.category = 1 := by
      have h1 := h.1
      cases v <;> first | rfl | cases h1
    omega
set_option maxHeartbeats 2000000 in
/-- a case whose method may throw -/
theorem lw_exc {pc ixH ixM midM n nL : Nat} {qs : List (Nat × Bool)} {y : MethodName} {cc : ByteArray} {hh : List (Nat × Nat × Nat × Nat)} {vM r : Int32} {ov : Option Int32} {h h1 h2 : am_Hp} {fL : Nat → Int64} {fD : Nat → UInt64} (hy : am_Hy l al) (N : Nat) (X : lw_X p s m args c al dC dI aC aV x0 b L out outD xs cL cD)
    (hok : le_ok pc qs ixH ixM midM = true) (hok2 : le_tail (la_end (la_end (pc + 1) qs + 7) qs + 3) = true) (hcw : lh_cw y cc nL ixH qs.length hh = true) (hn : 6 * n + 6 ≤ L)
    (hl : lv_has ls 8 (lw_base al b out outD n)) (hH : lw_H al dC dI aC out outD cL cD h fL fD H) (hS : va_S (fun q => x0 ≤ q) s.heap H locs) (hc : cells + 1 ≤ 601024 ∧ slots + 6 ≤ 7293034)
    (hX : lh_Met l al dC dI aC aV x0 out cL .long y cc nL hh (la_vs xs n qs) h (am_ot am_oi ov) h1) (hM : am_Met l al dC dI aC aV midM (.ref 193 :: la_vs xs n qs) h1 (some (some (.int vM))) h2)
    (ht : f_X10_thrown N h2 = some (r, h2)) (hr : (ov = none ∧ r = 1) ∨ (ov = some vM ∧ r = 0))
    (kk : ∀ (H2 : Heap) (locs2 : List Loc) (ls2 : Array Slot) (fL2 : Nat → Int64), lv_has ls2 8 (lw_base al b out outD n) → lw_H al dC dI aC out outD cL cD h2 fL2 fD H2 → va_S (fun q => x0 ≤ q) s.heap H2 locs2 → W p l e room_1 s m args below meth c H2 locs2 (cells + 1) (slots + 6) Q (F0 m 2421 ls2 [])) :
    W p l e room_1 s m args below meth c H locs cells slots Q (F0 m pc ls []) := by
  have X' := X
  obtain ⟨C, hXb, hbl, hx0, hL, ho, hoD, hne, hKL, hKD, hcast⟩ := X
  have C' := C
  obtain ⟨hx, hb, hml, hown, hts, hK, hF, hal⟩ := C
  obtain ⟨hP, hO, hOD⟩ := hH
  unfold le_ok at hok
  simp only [Bool.and_eq_true, decide_eq_true_eq] at hok
  obtain ⟨⟨⟨⟨⟨⟨⟨⟨⟨⟨d0, d1⟩, d2⟩, d3⟩, d4⟩, d5⟩, d6⟩, d7⟩, w1⟩, w2⟩, w3⟩ := hok
  simp only [lc_rm, Bool.and_eq_true] at w3
  unfold lh_cw at hcw
  simp only [Bool.and_eq_true, decide_eq_true_eq] at hcw
  obtain ⟨⟨⟨⟨⟨⟨v1, v2⟩, v3⟩, v4⟩, v5⟩, v6⟩, v7⟩ := hcw
  have e0 : al 0 = x0 := by rw [hal 0 (by decide), Nat.add_zero]
  refine lv_aload_n hx hb (i := 1) d0 rfl (lv_at hl 1 rfl) ?_
  refine la_push hx hb hXb hbl hx0 hS hn hL (lv_at hl 0 rfl) (lv_at hl 5 rfl) qs (pc + 1) [.ref (al 0)] d1 ?_
  refine lv_aload_n hx hb (i := 3) d2 rfl (lv_at hl 3 rfl) ?_
  have hPre : ∀ U : State, U.heap = H → s.WarmedH U.vm → va_Pc (Value.ref x0 :: la_vs xs n qs ++ [Value.ref out]) (lh_P H.size al dC dI aC aV x0 out cL .long (.inr (.inl fL)) h) (Value.ref x0 :: la_vs xs n qs ++ [Value.ref out]).toArray U := fun U hU hW =>
    ⟨rfl, by rw [hU], by rw [hU]; exact hP, by rw [hU]; exact hO, va_K.moved hW.alike hK, va_K.moved hW.alike hKL, by rw [hU]; exact am_fx_kept hF hW hS.1 hS.2.1 (fun q _ z => z) (fun q z => z), va_tabs (u := s.setVm U.vm) rfl rfl ((Cond.castable_setVm hW.alike _ _).trans hcast)⟩
  have hgd : GoodIn am_AT (va_wsS lw_L ixH y (lh_ws y cc nL hh)) := am_AT_sub (fun w hw => by
    rcases List.mem_append.mp hw with hw | hw
    · simp only [List.mem_cons, List.not_mem_nil, or_false] at hw
      rcases hw with rfl | rfl | rfl
      · exact cn_inT_spec v1
      · exact cn_inT_spec v2
      · exact cn_inT_spec v3
    · rcases List.mem_cons.mp hw with rfl | hw
      · exact cn_inT_spec v4
      · exact hw)
  have hrun := vx_runSX (p := p) (l := l) (e := e) (R := room_1) (below := below) (meth := meth) (locs := locs) (cells := cells) (slots := slots) (rest := []) (As := Value.ref x0 :: la_vs xs n qs ++ [Value.ref out]) (n := qs.length + 2) (index := ixH) (bytes := cc) (maxL := nL) (ret := some .int) (cc := code) (nL := 8) (own := lw_L) (g := F0 m (la_end (pc + 1) qs + 1) ls ((Value.ref x0 :: la_vs xs n qs ++ [Value.ref out]).reverse ++ [])) ⟨hx, hb, hml, hown, hts⟩ (hX H.size (.inr (.inl fL)) (fun _ => ⟨fL, rfl⟩) (fun z => by cases z)) (vx_cwSW _ hts hgd rfl rfl rfl ⟨by rw [v6]; decide, by rw [v6]; decide, v5⟩ ⟨by show 12 + 1 ≤ 13; omega, Nat.le_of_ble_eq_true v7⟩) ⟨lh_blind, hPre⟩ rfl (by simp [la_vs_len]) hl.1 rfl (by show 2 * 0 + 0 ≤ 8; omega) d3 (by
    cases ov with
    | none => exact hc
    | some v => exact ⟨by show cells + 0 ≤ 601024; omega, by show slots + 0 ≤ 7293034; omega⟩)
  have est : Value.ref out :: ((la_vs xs n qs).reverse ++ [Value.ref (al 0)]) = (Value.ref x0 :: la_vs xs n qs ++ [Value.ref out]).reverse ++ [] := by
    rw [e0]
    simp
  rw [est]
  intro T hT XS
  rcases hrun T hT XS with ⟨v9, st₀, t, T', LL, h00, XS', hLL, f1, f2, ⟨r9, f9, g1, g2, g3, g4, g5⟩, stp⟩ | ⟨q, st₀, t, T', LL, E, ce, h00, XS', hLL, f1, f2, g1, -⟩
  · cases Outcome.returned.inj g1
    have hsz0 := lw_size hal hP
    have hA0 : ∀ q, lh_A al H.size out q → x0 ≤ q := fun q z => by
      rcases z with z | z
      · exact lw_A hal (by omega) q z
      · omega
    obtain ⟨k1, k2, k3⟩ := vx_keep h00 f1 hS (fun q _ z => hA0 q z) (fun q z => hA0 q z) hLL g2
    have hP1 : va_P (dC, dI) vwCl (am_W al aC h1) T'.heap := by rw [f1]; exact g3
    have hO1 : va_P (dC, dI) vwCl [(out, .inl (cL, (1, f9)))] T'.heap := by rw [f1]; exact g4
    have hOD1 : va_P (dC, dI) vwCl [(outD, .inl (cD, (1, .inr (.inr (.inr (.inl fD))))))] T'.heap := hOD.kept (fun k q hk => by
      have h0 : k < 1 := (List.getElem?_eq_some_iff.mp hk).1
      rw [show k = 0 by omega] at hk
      cases hk
      have hlt : outD < H.size := (hOD 0 _ rfl).lt
      refine k2 outD hlt (fun z => ?_)
      rcases z with z | z
      · rcases z with ⟨k, h1, h2⟩ | z
        · rw [hal k h1] at h2
          have h1 : k < 205 := h1
          omega
        · omega
      · exact hne z.symm)
    obtain ⟨fL2, hO2, hr2⟩ : ∃ fL2 : Nat → Int64, va_P (dC, dI) vwCl [(out, .inl (cL, (1, .inr (.inl fL2))))] T'.heap ∧ ((ov = none ∧ r9 = 1) ∨ (∃ w, ov = some w ∧ r9 = 0 ∧ fL2 0 = w.toInt64)) := by
      rcases g5 with ⟨q1, q2, q3⟩ | ⟨w, q1, q2, q3⟩
      · rw [q3] at hO1
        refine ⟨fL, hO1, Or.inl ⟨?_, q2⟩⟩
        cases ov with
        | none => rfl
        | some v => cases q1
      · cases ov with
        | none => cases q1
        | some v =>
          cases q1
          obtain ⟨g, hg⟩ : ∃ g, f9 = .inr (.inl g) := by
            unfold lh_v at q3
            split at q3
            · exact ⟨_, rfl⟩
            · cases ‹Value.int _ = Value.float _›
            · exact q3.elim
          subst hg
          exact ⟨g, hO1, Or.inr ⟨v, rfl, q2, q3⟩⟩
    have hr9 : r9 = r := by
      rcases hr2 with ⟨q1, q2⟩ | ⟨w, q1, q2, -⟩ <;> rcases hr with ⟨z1, z2⟩ | ⟨z1, z2⟩
      · rw [q2, z2]
      · rw [q1] at z1; cases z1
      · rw [q1] at z1; cases z1
      · rw [q2, z2]
    subst hr9
    have hr3 : (ov = none ∧ r9 = 1) ∨ (ov = some vM ∧ r9 = 0 ∧ fL2 0 = vM.toInt64) := by
      rcases hr2 with ⟨q1, q2⟩ | ⟨w, q1, q2, q3⟩
      · exact Or.inl ⟨q1, q2⟩
      · rcases hr with ⟨z1, z2⟩ | ⟨z1, z2⟩
        · rw [q1] at z1; cases z1
        · rw [q1] at z1
          cases z1
          exact Or.inr ⟨q1, q2, q3⟩
    have key : W p l e room_1 s m args below meth c T'.heap (locs ++ LL) (cells + am_mc (am_ot am_oi ov)) (slots + am_ms (am_ot am_oi ov)) Q (F0 m (la_end (pc + 1) qs + 1 + 3) ls [.int r9]) := by
      refine W.widen (k := cells + 1) (n := slots + 6) (by cases ov <;> exact Nat.add_le_add_left (Nat.le_of_ble_eq_true rfl) _) (by cases ov <;> exact Nat.add_le_add_left (Nat.le_of_ble_eq_true rfl) _) ?_
      refine lv_istore (lv' := (6, .int r9) :: lw_base al b out outD n) hx hb d4 hl (by decide) rfl (fun ls2 hl2 => ?_)
      have hlb : lv_has ls2 8 (lw_base al b out outD n) := ⟨hl2.1, hl2.2.1, fun z hz => hl2.2.2 z (List.mem_cons_of_mem _ hz)⟩
      refine lv_aload_n hx hb (i := 2) d5 rfl (lv_at hlb 2 rfl) ?_
      refine la_push hx hb hXb hbl hx0 k3 hn hL (lv_at hlb 0 rfl) (lv_at hlb 5 rfl) qs _ [.ref (al 193)] d6 ?_
      have r2 := lw_call (p := p) (l := l) (e := e) (R := room_1) (below := below) (meth := meth) (Q := Q) (cells := cells + 1) (slots := slots + 6) (rest := []) (as := la_vs xs n qs) (n := qs.length) C' w1 hM la_vs_len w2 hl2.1 hP1 k3 (Nat.le_of_ble_eq_true w3.1) (Nat.le_of_ble_eq_true w3.2) hc (Nat.zero_le _) d7
      rw [la_vs_map] at r2
      refine r2 (fun H2 locs2 hP2 hS2 hz2 hq2 => ?_)
      exact lw_exc2 hy N X' hok2 hl2 ⟨hP2, lh_P_at hal ho hO2 hq2, lh_P_at hal hoD hOD1 hq2⟩ hS2 hc ht hr3 (fun H3 locs3 ls3 hl3 hH3 hS3 => kk H3 locs3 ls3 fL2 hl3 hH3 hS3)
    obtain ⟨t2, a1, b1⟩ := key T' rfl XS'
    exact ⟨t2, stp t2 a1, b1⟩
  · exact g1.elim
end LAWC
