section LAWG
variable {p : Program} {l : Launch} {e : Env} {s : State} {m : MethodId} {args : Array Value} {below : List Frame} {meth : Method} {c : Code} {Q : State → Prop}
variable {al : Nat → Nat} {dC : Nat → ClassId} {dI : Nat → Nat → Nat} {aC : Nat → ClassId} {aV : Nat → Nat} {x0 b L out outD : Nat} {xs : Nat → Int32} {cL cD : ClassId}
variable {H : Heap} {locs : List Loc} {cells slots : Nat} {ls : Array Slot}
def lf_code : Bool :=
  decide (decode code 1695 = .ok (.aload_n 1, 1)) && la_ok code 1696 [(1, false), (2, false)] && decide (decode code 1708 = .ok (.aload 4, 2)) && decide (decode code 1710 = .ok (.invokestatic 173, 3)) && decide (decode code 1713 = .ok (.istore 6, 2)) && decide (decode code 1715 = .ok (.aload_n 2, 1)) && la_ok code 1716 [(1, false), (2, false)] && decide (decode code 1728 = .ok (.invokevirtual 176, 3)) && lw_ok lw_L 176 206 2 && am_isO 193 (am_ow 206) && lc_rm 206
def lf_tail : Bool :=
  decide (decode code 1731 = .ok (.fstore 7, 2)) && decide (decode code 1733 = .ok (.aload_n 2, 1)) && decide (decode code 1734 = .ok (.invokevirtual 118, 3)) && decide (decode code 1737 = .ok (.iload 6, 2)) && decide (decode code 1739 = .ok (.if_icmp .eq 5, 3)) && decide (decode code 1744 = .ok (.iload 6, 2)) && decide (decode code 1746 = .ok (.ifCond .ne 36, 3)) &&
  decide (decode code 1749 = .ok (.aload 4, 2)) && decide (decode code 1751 = .ok (.iconst 0, 1)) && decide (decode code 1752 = .ok (.daload, 1)) && decide (decode code 1753 = .ok (.fload 7, 2)) && decide (decode code 1755 = .ok (.f2d, 1)) && decide (decode code 1756 = .ok (.dcmp .l, 1)) && decide (decode code 1757 = .ok (.ifCond .eq 25, 3)) && decide (decode code 1782 = .ok (.goto 639, 3))
theorem lf_code_ok : lf_code = true := by decide +kernel
theorem lf_tail_ok : lf_tail = true := by decide +kernel
theorem lf_cw : lh_cw ⟨lw_L, "fullness", "(LSharedConsole;II[D)I"⟩ method_20_code 5 173 2 [(0, 10, 13, 13)] = true := by decide +kernel
set_option maxHeartbeats 2000000 in
/-- behind both answers of fullness: what was thrown is compared, and the answers -/
theorem lf_exc2 {n : Nat} {vM : UInt32} {r : Int32} {ov : Option UInt32} {h2 : am_Hp} {fL : Nat → Int64} {fD : Nat → UInt64} (hy : am_Hy l al) (N : Nat) (X : lw_X p s m args c al dC dI aC aV x0 b L out outD xs cL cD) (hnn : vM &&& 0x7fffffff ≤ 0x7f800000)
    (hl : lv_has ls 8 ((6, .int r) :: lw_base al b out outD n)) (hH : lw_H al dC dI aC out outD cL cD h2 fL fD H) (hS : va_S (fun q => x0 ≤ q) s.heap H locs) (hc : cells ≤ 601024 ∧ slots ≤ 7293034)
    (ht : f_X10_thrown N h2 = some (r, h2)) (hr : (ov = none ∧ r = 1) ∨ (ov = some vM ∧ r = 0 ∧ fD 0 = FP.f2d vM))
    (kk : ∀ (H2 : Heap) (locs2 : List Loc) (ls2 : Array Slot), lv_has ls2 8 (lw_base al b out outD n) → lw_H al dC dI aC out outD cL cD h2 fL fD H2 → va_S (fun q => x0 ≤ q) s.heap H2 locs2 → W p l e room_1 s m args below meth c H2 locs2 cells slots Q (F0 m 2421 ls2 [])) :
    W p l e room_1 s m args below meth c H locs cells slots Q (F0 m 1731 ls [.float vM]) := by
  obtain ⟨C, hXb, hbl, hx0, hL, ho, hoD, hne, hKL, hKD, hcast⟩ := X
  have C' := C
  obtain ⟨hx, hb, hml, hown, hts, hK, hF, hal⟩ := C
  obtain ⟨hP, hO, hOD⟩ := hH
  have hok := lf_tail_ok
  unfold lf_tail at hok
  simp only [Bool.and_eq_true, decide_eq_true_eq] at hok
  obtain ⟨⟨⟨⟨⟨⟨⟨⟨⟨⟨⟨⟨⟨⟨d0, d1⟩, d2⟩, d3⟩, d4⟩, d5⟩, d6⟩, d7⟩, d8⟩, d9⟩, d10⟩, d11⟩, d12⟩, d13⟩, d14⟩ := hok
  have hw := lw_thr
  simp only [lc_rm, Bool.and_eq_true] at hw
  obtain ⟨⟨w1, w2⟩, w3, w4⟩ := hw
  refine lv_fstore (lv' := (7, .float vM) :: (6, .int r) :: lw_base al b out outD n) hx hb d0 hl (by decide) rfl (fun ls2 hl2 => ?_)
  have hlb : lv_has ls2 8 (lw_base al b out outD n) := ⟨hl2.1, hl2.2.1, fun z hz => hl2.2.2 z (List.mem_cons_of_mem _ (List.mem_cons_of_mem _ hz))⟩
  refine lv_aload_n hx hb (i := 2) d1 rfl (lv_at hlb 2 rfl) ?_
  refine lw_call (rest := []) (as := []) (n := 0) C' w1 (m_X10_thrown hy N h2 (r, h2) ht) rfl w2 hl2.1 hP hS (Nat.le_of_ble_eq_true w3) (Nat.le_of_ble_eq_true w4) hc (Nat.zero_le _) d2 (fun H1 locs1 hP1 hS1 hz1 hq1 => ?_)
  have hO1 := lh_P_at hal ho hO hq1
  have hOD1 := lh_P_at hal hoD hOD hq1
  have hend : W p l e room_1 s m args below meth c H1 locs1 cells slots Q (F0 m 1782 ls2 []) := by
    refine lv_goto hx hb (tgt := 2421) d14 (by decide) ?_
    exact kk H1 locs1 ls2 hlb ⟨hP1, hO1, hOD1⟩ hS1
  refine lv_iload hx hb d3 (lv_at hl2 1 rfl) ?_
  refine lv_icmp_eq hx hb (tgt := 1744) d4 (by decide) (fun _ => ?_) (fun z => absurd rfl z)
  refine lv_iload hx hb d5 (lv_at hl2 1 rfl) ?_
  refine lv_if_ne hx hb (tgt := 1782) d6 (by decide) (fun _ => hend) (fun z => ?_)
  rcases hr with ⟨-, e1⟩ | ⟨-, -, e2⟩
  · rw [e1] at z
    exact absurd z (by decide)
  · refine lv_aload hx hb (i := 4) d7 (lv_at hlb 4 rfl) ?_
    refine lv_iconst hx hb (v := 0) d8 rfl ?_
    refine va_dald hx hb hKD hOD1 0 0 rfl rfl (show vp_in 0 1 by intro z; rcases z with z | z <;> exact absurd z (by decide)) d9 ?_
    refine lv_fload hx hb d10 (lv_at hl2 0 rfl) ?_
    refine lv_f2d hx hb d11 (lf_f2d hnn) ?_
    refine lv_dcmp hx hb d12 ?_
    have e3 : fD (0 : Int32).toNatClampNeg = FP.f2d vM := e2
    rw [e3, lf_cmp hnn]
    exact lv_if_eq hx hb (tgt := 1782) d13 (by decide) (fun _ => hend) (fun z => absurd rfl z)
set_option maxHeartbeats 2000000 in
/-- the case of fullness -/
theorem lf_exc {n : Nat} {vM : UInt32} {r : Int32} {ov : Option UInt32} {h h1 h2 : am_Hp} {fL : Nat → Int64} {fD : Nat → UInt64} (hy : am_Hy l al) (N : Nat) (X : lw_X p s m args c al dC dI aC aV x0 b L out outD xs cL cD) (hnn : vM &&& 0x7fffffff ≤ 0x7f800000) (hn : 6 * n + 6 ≤ L)
    (hl : lv_has ls 8 (lw_base al b out outD n)) (hH : lw_H al dC dI aC out outD cL cD h fL fD H) (hS : va_S (fun q => x0 ≤ q) s.heap H locs) (hc : cells + 1 ≤ 601024 ∧ slots + 6 ≤ 7293034)
    (hX : lh_Met l al dC dI aC aV x0 outD cD .double ⟨lw_L, "fullness", "(LSharedConsole;II[D)I"⟩ method_20_code 5 [(0, 10, 13, 13)] (la_vs xs n [(1, false), (2, false)]) h (am_ot am_of ov) h1) (hM : am_Met l al dC dI aC aV 206 (.ref 193 :: la_vs xs n [(1, false), (2, false)]) h1 (some (some (.float vM))) h2)
    (ht : f_X10_thrown N h2 = some (r, h2)) (hr : (ov = none ∧ r = 1) ∨ (ov = some vM ∧ r = 0))
    (kk : ∀ (H2 : Heap) (locs2 : List Loc) (ls2 : Array Slot) (fD2 : Nat → UInt64), lv_has ls2 8 (lw_base al b out outD n) → lw_H al dC dI aC out outD cL cD h2 fL fD2 H2 → va_S (fun q => x0 ≤ q) s.heap H2 locs2 → W p l e room_1 s m args below meth c H2 locs2 (cells + 1) (slots + 6) Q (F0 m 2421 ls2 [])) :
    W p l e room_1 s m args below meth c H locs cells slots Q (F0 m 1695 ls []) := by
  have X' := X
  obtain ⟨C, hXb, hbl, hx0, hL, ho, hoD, hne, hKL, hKD, hcast⟩ := X
  have C' := C
  obtain ⟨hx, hb, hml, hown, hts, hK, hF, hal⟩ := C
  obtain ⟨hP, hO, hOD⟩ := hH
  have hok := lf_code_ok
  unfold lf_code at hok
  simp only [Bool.and_eq_true, decide_eq_true_eq] at hok
  obtain ⟨⟨⟨⟨⟨⟨⟨⟨⟨⟨d0, d1⟩, d2⟩, d3⟩, d4⟩, d5⟩, d6⟩, d7⟩, w1⟩, w2⟩, w3⟩ := hok
  simp only [lc_rm, Bool.and_eq_true] at w3
  have hcw := lf_cw
  unfold lh_cw at hcw
  simp only [Bool.and_eq_true, decide_eq_true_eq] at hcw
  obtain ⟨⟨⟨⟨⟨⟨v1, v2⟩, v3⟩, v4⟩, v5⟩, v6⟩, v7⟩ := hcw
  have e0 : al 0 = x0 := by rw [hal 0 (by decide), Nat.add_zero]
  refine lv_aload_n hx hb (i := 1) d0 rfl (lv_at hl 1 rfl) ?_
  refine la_push hx hb hXb hbl hx0 hS hn hL (lv_at hl 0 rfl) (lv_at hl 5 rfl) [(1, false), (2, false)] 1696 [.ref (al 0)] d1 ?_
  refine lv_aload hx hb (i := 4) d2 (lv_at hl 4 rfl) ?_
  have hPre : ∀ U : State, U.heap = H → s.WarmedH U.vm → va_Pc (Value.ref x0 :: la_vs xs n [(1, false), (2, false)] ++ [Value.ref outD]) (lh_P H.size al dC dI aC aV x0 outD cD .double (.inr (.inr (.inr (.inl fD)))) h) (Value.ref x0 :: la_vs xs n [(1, false), (2, false)] ++ [Value.ref outD]).toArray U := fun U hU hW =>
    ⟨rfl, by rw [hU], by rw [hU]; exact hP, by rw [hU]; exact hOD, va_K.moved hW.alike hK, va_K.moved hW.alike hKD, by rw [hU]; exact am_fx_kept hF hW hS.1 hS.2.1 (fun q _ z => z) (fun q z => z), va_tabs (u := s.setVm U.vm) rfl rfl ((Cond.castable_setVm hW.alike _ _).trans hcast)⟩
  have hgd : GoodIn am_AT (va_wsS lw_L 173 ⟨lw_L, "fullness", "(LSharedConsole;II[D)I"⟩ (lh_ws ⟨lw_L, "fullness", "(LSharedConsole;II[D)I"⟩ method_20_code 5 [(0, 10, 13, 13)])) := am_AT_sub (fun w hw => by
    rcases List.mem_append.mp hw with hw | hw
    · simp only [List.mem_cons, List.not_mem_nil, or_false] at hw
      rcases hw with rfl | rfl | rfl
      · exact cn_inT_spec v1
      · exact cn_inT_spec v2
      · exact cn_inT_spec v3
    · rcases List.mem_cons.mp hw with rfl | hw
      · exact cn_inT_spec v4
      · exact hw)
  have hrun := vx_runSX (p := p) (l := l) (e := e) (R := room_1) (below := below) (meth := meth) (locs := locs) (cells := cells) (slots := slots) (rest := []) (As := Value.ref x0 :: la_vs xs n [(1, false), (2, false)] ++ [Value.ref outD]) (n := 4) (index := 173) (bytes := method_20_code) (maxL := 5) (ret := some .int) (cc := code) (nL := 8) (own := lw_L) (g := F0 m 1710 ls ((Value.ref x0 :: la_vs xs n [(1, false), (2, false)] ++ [Value.ref outD]).reverse ++ [])) ⟨hx, hb, hml, hown, hts⟩ (hX H.size (.inr (.inr (.inr (.inl fD)))) (fun z => by cases z) (fun _ => ⟨fD, rfl⟩)) (vx_cwSW _ hts hgd rfl rfl rfl ⟨by decide, by decide, v5⟩ ⟨by show 12 + 1 ≤ 13; omega, Nat.le_of_ble_eq_true v7⟩) ⟨lh_blind, hPre⟩ rfl (by simp [la_vs]) hl.1 rfl (by show 2 * 0 + 0 ≤ 8; omega) d3 (by
    cases ov with
    | none => exact hc
    | some v => exact ⟨by show cells + 0 ≤ 601024; omega, by show slots + 0 ≤ 7293034; omega⟩)
  have est : Value.ref outD :: ((la_vs xs n [(1, false), (2, false)]).reverse ++ [Value.ref (al 0)]) = (Value.ref x0 :: la_vs xs n [(1, false), (2, false)] ++ [Value.ref outD]).reverse ++ [] := by
    rw [e0]
    simp
  show W p l e room_1 s m args below meth c H locs cells slots Q (F0 m 1710 ls (Value.ref outD :: ((la_vs xs n [(1, false), (2, false)]).reverse ++ [Value.ref (al 0)])))
  rw [est]
  intro T hT XS
  rcases hrun T hT XS with ⟨v9, st₀, t, T', LL, h00, XS', hLL, f1, f2, ⟨r9, f9, g1, g2, g3, g4, g5⟩, stp⟩ | ⟨q, st₀, t, T', LL, E, ce, h00, XS', hLL, f1, f2, g1, -⟩
  · cases Outcome.returned.inj g1
    have hsz0 := lw_size hal hP
    have hA0 : ∀ q, lh_A al H.size outD q → x0 ≤ q := fun q z => by
      rcases z with z | z
      · exact lw_A hal (by omega) q z
      · omega
    obtain ⟨k1, k2, k3⟩ := vx_keep h00 f1 hS (fun q _ z => hA0 q z) (fun q z => hA0 q z) hLL g2
    have hP1 : va_P (dC, dI) vwCl (am_W al aC h1) T'.heap := by rw [f1]; exact g3
    have hO1 : va_P (dC, dI) vwCl [(outD, .inl (cD, (1, f9)))] T'.heap := by rw [f1]; exact g4
    have hOL1 : va_P (dC, dI) vwCl [(out, .inl (cL, (1, .inr (.inl fL))))] T'.heap := hO.kept (fun k q hk => by
      have h0 : k < 1 := (List.getElem?_eq_some_iff.mp hk).1
      rw [show k = 0 by omega] at hk
      cases hk
      have hlt : out < H.size := (hO 0 _ rfl).lt
      refine k2 out hlt (fun z => ?_)
      rcases z with z | z
      · rcases z with ⟨k, h1, h2⟩ | z
        · rw [hal k h1] at h2
          have h1 : k < 205 := h1
          omega
        · omega
      · exact hne z)
    obtain ⟨fD2, hO2, hr2⟩ : ∃ fD2 : Nat → UInt64, va_P (dC, dI) vwCl [(outD, .inl (cD, (1, .inr (.inr (.inr (.inl fD2))))))] T'.heap ∧ ((ov = none ∧ r9 = 1) ∨ (∃ w, ov = some w ∧ r9 = 0 ∧ fD2 0 = FP.f2d w)) := by
      rcases g5 with ⟨q1, q2, q3⟩ | ⟨w, q1, q2, q3⟩
      · rw [q3] at hO1
        refine ⟨fD, hO1, Or.inl ⟨?_, q2⟩⟩
        cases ov with
        | none => rfl
        | some v => cases q1
      · cases ov with
        | none => cases q1
        | some v =>
          cases q1
          obtain ⟨g, hg⟩ : ∃ g, f9 = .inr (.inr (.inr (.inl g))) := by
            unfold lh_v at q3
            split at q3
            · cases ‹Value.float _ = Value.int _›
            · exact ⟨_, rfl⟩
            · exact q3.elim
          subst hg
          exact ⟨g, hO1, Or.inr ⟨v, rfl, q2, q3⟩⟩
    have hr9 : r9 = r := by
      rcases hr2 with ⟨q1, q2⟩ | ⟨w, q1, q2, -⟩ <;> rcases hr with ⟨z1, z2⟩ | ⟨z1, z2⟩
      · rw [q2, z2]
      · rw [q1] at z1; cases z1
      · rw [q1] at z1; cases z1
      · rw [q2, z2]
    subst hr9
    have hr3 : (ov = none ∧ r9 = 1) ∨ (ov = some vM ∧ r9 = 0 ∧ fD2 0 = FP.f2d vM) := by
      rcases hr2 with ⟨q1, q2⟩ | ⟨w, q1, q2, q3⟩
      · exact Or.inl ⟨q1, q2⟩
      · rcases hr with ⟨z1, z2⟩ | ⟨z1, z2⟩
        · rw [q1] at z1; cases z1
        · rw [q1] at z1
          cases z1
          exact Or.inr ⟨q1, q2, q3⟩
    have key : W p l e room_1 s m args below meth c T'.heap (locs ++ LL) (cells + am_mc (am_ot am_of ov)) (slots + am_ms (am_ot am_of ov)) Q (F0 m 1713 ls [.int r9]) := by
      refine W.widen (k := cells + 1) (n := slots + 6) (by cases ov <;> exact Nat.add_le_add_left (Nat.le_of_ble_eq_true rfl) _) (by cases ov <;> exact Nat.add_le_add_left (Nat.le_of_ble_eq_true rfl) _) ?_
      refine lv_istore (lv' := (6, .int r9) :: lw_base al b out outD n) hx hb d4 hl (by decide) rfl (fun ls2 hl2 => ?_)
      have hlb : lv_has ls2 8 (lw_base al b out outD n) := ⟨hl2.1, hl2.2.1, fun z hz => hl2.2.2 z (List.mem_cons_of_mem _ hz)⟩
      refine lv_aload_n hx hb (i := 2) d5 rfl (lv_at hlb 2 rfl) ?_
      refine la_push hx hb hXb hbl hx0 k3 hn hL (lv_at hlb 0 rfl) (lv_at hlb 5 rfl) [(1, false), (2, false)] 1716 [.ref (al 193)] d6 ?_
      have r2 := lw_call (p := p) (l := l) (e := e) (R := room_1) (below := below) (meth := meth) (Q := Q) (cells := cells + 1) (slots := slots + 6) (rest := []) (as := la_vs xs n [(1, false), (2, false)]) (n := 2) C' w1 hM la_vs_len w2 hl2.1 hP1 k3 (Nat.le_of_ble_eq_true w3.1) (Nat.le_of_ble_eq_true w3.2) hc (Nat.zero_le _) d7
      rw [la_vs_map] at r2
      refine r2 (fun H2 locs2 hP2 hS2 hz2 hq2 => ?_)
      exact lf_exc2 hy N X' hnn hl2 ⟨hP2, lh_P_at hal ho hOL1 hq2, lh_P_at hal hoD hO2 hq2⟩ hS2 hc ht hr3 (fun H3 locs3 ls3 hl3 hH3 hS3 => kk H3 locs3 ls3 fD2 hl3 hH3 hS3)
    obtain ⟨t2, a1, b1⟩ := key T' rfl XS'
    exact ⟨t2, stp t2 a1, b1⟩
  · exact g1.elim
theorem lw_F {nS nU : Nat} {h : am_Hp} {fX : Option (Option UInt32 × am_Hp)} {fM : am_Hp → Option (UInt32 × am_Hp)} (R : qr_R nS nU h h) (P : ∀ hm, qr_R nS nU h hm → pF fX (fM hm) h hm) : ∃ o v h1 h2, fX = some (o, h1) ∧ fM h1 = some (v, h2) ∧ qr_R nS nU h2 h2 ∧ (v &&& 0x7fffffff ≤ 0x7f800000) ∧ ((o = none ∧ h2 193 0 = am_z 1) ∨ (o = some v ∧ h2 193 0 = am_z 0)) := by
  obtain ⟨o, -, h1, -, e1, -, c1, -⟩ := P h R
  obtain ⟨o2, v, h1', h2, e2, e3, c2, m2, z, q2⟩ := P h1 (qr_cong (fun _ _ => rfl) (cF_c c1) R)
  rw [e1] at e2
  cases e2
  have R1 := qr_cong (fun _ _ => rfl) (cF_c c1) R
  exact ⟨o, v, h1, h2, e1, e3, qr_cong (fun a ha => mF_m m2 a ha) (fun _ _ => rfl) (qr_fr c2 m2 R1), z, q2⟩
theorem lk_fullness {n N nS nU : Nat} {h : am_Hp} {fL : Nat → Int64} {fD : Nat → UInt64} (hy : am_Hy l al) (hN : 60000 ≤ N) (hN1 : 1000 ≤ N) (X : lw_X p s m args c al dC dI aC aV x0 b L out outD xs cL cD) (hn : 6 * n + 6 ≤ L) (hl : lv_has ls 8 (lw_base al b out outD n)) (hH : lw_H al dC dI aC out outD cL cD h fL fD H) (hS : va_S (fun q => x0 ≤ q) s.heap H locs) (hc : cells + 1 ≤ 601024 ∧ slots + 6 ≤ 7293034) (R : qr_R nS nU h h) (K : lw_K p l e s m args below meth c Q al dC dI aC x0 b out outD cL cD n cells slots) : W p l e room_1 s m args below meth c H locs cells slots Q (F0 m 1695 ls []) := by
  obtain ⟨o, v, h1, h2, e1, e2, R2, hnn, hr⟩ := lw_F (fX := f_X9_fullness N (la_v xs n (1, false)) (la_v xs n (2, false)) h) (fM := fun h1 => f_X10_fullness N (la_v xs n (1, false)) (la_v xs n (2, false)) h1) R (fun hm Rm => q_fullness hN1 Rm (la_v xs n (1, false)) (la_v xs n (2, false)))
  refine lf_exc (r := h2 193 0) (ov := o) (vM := v) (h1 := h1) (h2 := h2) hy N X hnn hn hl hH hS hc (lh_fullness hy N X.1.2.2.2.2.2.2.2 X.2.2.2.2.2.2.1 (la_v xs n (1, false)) (la_v xs n (2, false)) h (o, h1) e1 (fun w hw => ?_)) (m_X10_fullness hy N (la_v xs n (1, false)) (la_v xs n (2, false)) h1 (v, h2) e2) (lw_thrown N h2) ?_ (fun H2 locs2 ls2 fD2 hl2 hH2 hS2 => K H2 locs2 ls2 h2 nS nU fL fD2 hl2 hH2 hS2 R2)
  · rcases hr with ⟨z1, z2⟩ | ⟨z1, z2⟩
    · rw [show o = some w from hw] at z1; cases z1
    · rw [show o = some w from hw] at z1
      cases z1
      exact lf_f2d hnn
  · rcases hr with ⟨z1, z2⟩ | ⟨z1, z2⟩
    · exact Or.inl ⟨z1, by rw [z2]; decide⟩
    · exact Or.inr ⟨z1, by rw [z2]; decide⟩
end LAWG
