section DVC
variable {N nS nU : Nat} {hm h0 : am_Hp}
/-- the class as it goes on -/
def dR (nS nU : Nat) (h0 hm h : am_Hp) : Prop := qr_R nS nU h hm ∧ cF h0 h
theorem dR_c {h h1 : am_Hp} (R : dR nS nU h0 hm h) (f : cfr h h1) : dR nS nU h0 hm h1 := ⟨dv_fr R.1 f, cFt R.2 (cF_c f)⟩
theorem dv_m00 : (if (0 : Int32) &&& 1 = (0 : Int32) then true else false) = true := by decide
theorem dv_sh2 (S : dm_S) (h h' : am_Hp) : dm_sh (dm_sh S h) h' = dm_sh S h' := rfl
theorem dv_am0 {c : Int32} : c + (0 : Int32) = c := by
  obtain ⟨v, rfl, -, -⟩ := am_z_ex c
  rw [show (0 : Int32) = am_z 0 from rfl, am_z_add, Int.add_zero]
theorem dV_e {lo : Nat} {S : dm_S} {a : Nat} {t : qc_T} (h : dV lo S a t) : ∃ R Ln A, dW lo S a R Ln A t.2.1 t.2.2.2.2.1 t.2.2.2.2.2 ∧ dWw S a A t.1 t.2.1 t.2.2.2.2.1 ∧ dm_g S a 1 = am_z (t.2.2.1 : Int) ∧ dm_g S a 2 = am_z (t.2.2.2.1 : Int) := by
  obtain ⟨w, hh, row, col, up, L⟩ := t
  exact h
theorem dw_111 {S1 : dm_S} {a R Ln s q i : Nat} {A : Nat → Nat} {lo : Nat} (hN : 2000 ≤ N) (hs : s < nS) (hq : q ≤ nv (hm 197 (55 + 1504 * s))) (hW : dW lo S1 a R Ln A (rLay hm s q).2.1 (rLay hm s q).2.2.2.2.1 (rLay hm s q).2.2.2.2.2) (hw : dWw S1 a A (rLay hm s q).1 (rLay hm s q).2.1 (rLay hm s q).2.2.2.2.1) (ok : qc_OK (rLay hm s q)) (hbg : dm_n S1 < dm_bg) (hi : i < (rLay hm s q).2.1) {K98 : Int32 → Int32 → Nat → Int32 → Int32 → dm_S → Option (Int32 × dm_S)} : ∀ (k j n : Nat) (h : am_Hp), j + k = (rLay hm s q).1 → k < n → dR nS nU h0 hm h →
    ∃ h', el_L_isDrawn_111 N K98 n (am_z (s : Int)) (am_z (q : Int)) a (am_z ((dva_cR (rLay hm s q) i + dva_cF (rLay hm s q) i j : Nat) : Int)) (am_z (i : Int)) (am_z (j : Int)) (dm_sh S1 h) = K98 (am_z (s : Int)) (am_z (q : Int)) a (am_z ((dva_cR (rLay hm s q) (i + 1) : Nat) : Int)) (am_z ((i + 1 : Nat) : Int)) (dm_sh S1 h') ∧ dR nS nU h0 hm h'
  | k, j, 0, h, _, hx, _ => by omega
  | 0, j, n + 1, h, e, _, RR => by
    have o := qc_OKw ok
    have e1 : j = (rLay hm s q).1 := by omega
    have o1 := hW.1.1
    obtain ⟨h1, a1, a2⟩ := dva_at (N := N) (y := i) (c := (rLay hm s q).1) (by omega) RR.1 hs hq (by omega) (by omega)
    rw [if_neg (by omega)] at a1
    refine ⟨h1, ?_, dR_c RR a2⟩
    unfold el_L_isDrawn_111
    simp only [dv_ok_sh, o1, cond_true, dv_g_sh, hw.1, dv_h_sh]
    rw [e1, if_pos (Int32.le_refl _)]
    simp only [a1, am_bt_s, dv_sh2]
    rw [if_pos (show am_z (-1) = (-1 : Int32) from rfl), dv_p1 (show i < 100000 by omega)]
    rfl
  | k + 1, j, n + 1, h, e, hx, RR => by
    have o := qc_OKw ok
    have o1 := hW.1.1
    have o3 := hW.1.2.1
    have b3 := (dm_ok_s o3).2.2
    have l3 := hW.2.1.1
    have g0 := hW.2.1.2.2.1
    have gr := hW.2.2.1 i hi
    obtain ⟨q1, q2, q3, q4, q5⟩ := hW.2.2.2.2.1 ((rLay hm s q).2.2.2.2.1 + i) (by omega)
    have bA := (dm_ok_s q2).2.2
    have lw := hw.2 ((rLay hm s q).2.2.2.2.1 + i) (by omega) (by omega)
    have gc : dm_g S1 (A ((rLay hm s q).2.2.2.2.1 + i)) j = qc_sy (rLay hm s q) i j := q4 j (by omega)
    have cl := dva_cR_le (rLay hm s q) o.2.1 i
    have cl2 := dva_cF_le (rLay hm s q) i j
    have hlt : ¬ (am_z ((rLay hm s q).1 : Int) ≤ am_z j) := by rw [am_z_le (by omega) (by omega) (by omega) (by omega)]; omega
    obtain ⟨h1, a1, a2⟩ := dva_at (N := N) (y := i) (c := j) (by omega) RR.1 hs hq (by omega) (by omega)
    rw [if_pos (by omega)] at a1
    obtain ⟨h2, c1, c2⟩ := dw_111 hN hs hq hW hw ok hbg hi (K98 := K98) k (j + 1) n h1 (by omega) (by omega) (dR_c RR a2)
    refine ⟨h2, ?_, c2⟩
    have i1 : am_in (am_z (i : Int)) (rLay hm s q).2.1 = true := am_z_int (by omega) (by omega) (by omega)
    have i2 : (am_z (i : Int)).toNatClampNeg = i := by rw [am_z_cl (by omega) (by omega), Int.toNat_natCast]
    have i3 : am_in (am_z (j : Int)) (rLay hm s q).1 = true := am_z_int (by omega) (by omega) (by omega)
    have i4 : (am_z (j : Int)).toNatClampNeg = j := by rw [am_z_cl (by omega) (by omega), Int.toNat_natCast]
    have nnR := dv_nn (show R < dm_bg by omega)
    have clR := dv_cl (show R < dm_bg by omega)
    have nnA := dv_nn (show A ((rLay hm s q).2.2.2.2.1 + i) < dm_bg by omega)
    have clA := dv_cl (show A ((rLay hm s q).2.2.2.2.1 + i) < dm_bg by omega)
    unfold el_L_isDrawn_111
    simp only [dv_ok_sh, o1, cond_true, dv_g_sh, hw.1, dv_h_sh, if_neg hlt, a1, am_bt_s, dv_sh2, dv_len_sh, g0, nnR, clR, if_false, o3, l3, i1, Bool.and_true, i2, gr, nnA, clA, q2, lw, i3, i4, gc, if_true, dv_p1 (show j < 100000 by omega), dv_am0, dv_p1 (show dva_cR (rLay hm s q) i + dva_cF (rLay hm s q) i j < 100000 by omega)]
    by_cases z : qc_sy (rLay hm s q) i j = am_z 27
    · have e6 : dva_cF (rLay hm s q) i (j + 1) = dva_cF (rLay hm s q) i j := by
        show dva_cF (rLay hm s q) i j + (if qc_sy (rLay hm s q) i j = am_z 27 then 0 else 1) = _
        rw [if_pos z, Nat.add_zero]
      rw [e6] at c1
      rw [if_pos (show qc_sy (rLay hm s q) i j = (27 : Int32) from z)]
      exact c1
    · have e6 : dva_cF (rLay hm s q) i (j + 1) = dva_cF (rLay hm s q) i j + 1 := by
        show dva_cF (rLay hm s q) i j + (if qc_sy (rLay hm s q) i j = am_z 27 then 0 else 1) = _
        rw [if_neg z]
      rw [e6] at c1
      rw [if_neg (show ¬ qc_sy (rLay hm s q) i j = (27 : Int32) from z)]
      exact c1
theorem dw_215 {S1 : dm_S} {a R Ln s q l : Nat} {A : Nat → Nat} {lo : Nat} {i4 : Int32} (hN : 2000 ≤ N) (hs : s < nS) (hq : q ≤ nv (hm 197 (55 + 1504 * s))) (hW : dW lo S1 a R Ln A (rLay hm s q).2.1 (rLay hm s q).2.2.2.2.1 (rLay hm s q).2.2.2.2.2) (ok : qc_OK (rLay hm s q)) (hbg : dm_n S1 < dm_bg) (hl : l < (rLay hm s q).2.2.2.2.1) {K203 : Int32 → Int32 → Nat → Int32 → Int32 → dm_S → Option (Int32 × dm_S)} : ∀ (k c n : Nat) (h : am_Hp), c + k = 16 → k < n → dR nS nU h0 hm h →
    ∃ h', el_L_isDrawn_215 N K203 n (am_z (s : Int)) (am_z (q : Int)) a i4 (am_z (l : Int)) (am_z (c : Int)) (dm_sh S1 h) = K203 (am_z (s : Int)) (am_z (q : Int)) a i4 (am_z ((l + 1 : Nat) : Int)) (dm_sh S1 h') ∧ dR nS nU h0 hm h'
  | k, c, 0, h, _, hx, _ => by omega
  | 0, c, n + 1, h, e, _, RR => by
    have o := qc_OKw ok
    have e1 : c = 16 := by omega
    refine ⟨h, ?_, RR⟩
    unfold el_L_isDrawn_215
    rw [e1, if_pos (show (16 : Int32) ≤ am_z ((16 : Nat) : Int) from Int32.le_refl _), dv_p1 (show l < 100000 by omega)]
  | k + 1, c, n + 1, h, e, hx, RR => by
    have o := qc_OKw ok
    have o1 := hW.1.1
    have o4 := hW.1.2.2.1
    have b4 := (dm_ok_s o4).2.2
    have l4 := hW.2.1.2.1
    have g4 := hW.2.1.2.2.2.1
    have gq := hW.2.2.2.1 l hl
    obtain ⟨q1, q2, q3, q4, q5⟩ := hW.2.2.2.2.1 l (by omega)
    have bA := (dm_ok_s q2).2.2
    have hlt : ¬ ((16 : Int32) ≤ am_z (c : Int)) := by
      rw [show (16 : Int32) = am_z 16 from rfl, am_z_le (by omega) (by omega) (by omega) (by omega)]; omega
    obtain ⟨h1, a1, a2⟩ := dva_above (N := N) (l := l) (c := c) (by omega) RR.1 hs hq (by omega) (by omega)
    rw [if_pos hl] at a1
    obtain ⟨h2, c1, c2⟩ := dw_215 hN hs hq hW ok hbg hl (i4 := i4) (K203 := K203) k (c + 1) n h1 (by omega) (by omega) (dR_c RR a2)
    refine ⟨h2, ?_, c2⟩
    have i1 : am_in (am_z (l : Int)) 40 = true := am_z_int (by omega) (by omega) (by omega)
    have i2 : (am_z (l : Int)).toNatClampNeg = l := by rw [am_z_cl (by omega) (by omega), Int.toNat_natCast]
    have i4 : (am_z (c : Int)).toNatClampNeg = c := by rw [am_z_cl (by omega) (by omega), Int.toNat_natCast]
    have nnR := dv_nn (show Ln < dm_bg by omega)
    have clR := dv_cl (show Ln < dm_bg by omega)
    have nnA := dv_nn (show A l < dm_bg by omega)
    have clA := dv_cl (show A l < dm_bg by omega)
    unfold el_L_isDrawn_215
    simp only [if_neg hlt, dv_h_sh, a1, am_bt_s, dv_sh2, dv_ok_sh, o1, cond_true, dv_g_sh, g4, nnR, clR, if_false, dv_len_sh, o4, l4, i1, Bool.and_true, i2, gq, nnA, clA, q2, Bool.true_or, dv_of, i4, dv_p1 (show c < 100000 by omega)]
    by_cases z : dm_len S1 (A l) ≤ c
    · rw [if_pos (show am_z (dm_len S1 (A l) : Int) ≤ am_z (c : Int) by rw [am_z_le (by omega) (by omega) (by omega) (by omega)]; omega), if_pos (show (rLay hm s q).2.2.2.2.2 l c = (27 : Int32) from q5 c z)]
      exact c1
    · have i3 : am_in (am_z (c : Int)) (dm_len S1 (A l)) = true := am_z_int (by omega) (by omega) (by omega)
      rw [if_neg (show ¬ am_z (dm_len S1 (A l) : Int) ≤ am_z (c : Int) by rw [am_z_le (by omega) (by omega) (by omega) (by omega)]; omega), i3, Bool.and_true, cond_true, q4 c (by omega), if_pos rfl]
      exact c1
theorem dw_203 {S1 : dm_S} {a R Ln s q : Nat} {A : Nat → Nat} {lo : Nat} (hN : 2000 ≤ N) (hs : s < nS) (hq : q ≤ nv (hm 197 (55 + 1504 * s))) (hW : dW lo S1 a R Ln A (rLay hm s q).2.1 (rLay hm s q).2.2.2.2.1 (rLay hm s q).2.2.2.2.2) (hw : dWw S1 a A (rLay hm s q).1 (rLay hm s q).2.1 (rLay hm s q).2.2.2.2.1) (ok : qc_OK (rLay hm s q)) (hbg : dm_n S1 < dm_bg) : ∀ (k l n : Nat) (h : am_Hp), l + k = (rLay hm s q).2.2.2.2.1 → k < n → dR nS nU h0 hm h →
    ∃ h', el_L_isDrawn_203 N n (am_z (s : Int)) (am_z (q : Int)) a (am_z ((dva_cR (rLay hm s q) (rLay hm s q).2.1 : Nat) : Int)) (am_z (l : Int)) (dm_sh S1 h) = some ((1 : Int32), dm_sh S1 h') ∧ dR nS nU h0 hm h'
  | k, l, 0, h, _, hx, _ => by omega
  | 0, l, n + 1, h, e, _, RR => by
    have o := qc_OKw ok
    have e1 : l = (rLay hm s q).2.2.2.2.1 := by omega
    have o1 := hW.1.1
    have o3 := hW.1.2.1
    have b3 := (dm_ok_s o3).2.2
    have l3 := hW.2.1.1
    have g0 := hW.2.1.2.2.1
    have g5 := hW.2.1.2.2.2.2
    have nnR := dv_nn (show R < dm_bg by omega)
    have clR := dv_cl (show R < dm_bg by omega)
    obtain ⟨h1, a1, a2⟩ := dva_at (N := N) (y := (rLay hm s q).2.1) (c := 0) (by omega) RR.1 hs hq (by omega) (by omega)
    rw [if_neg (by omega)] at a1
    have a1 : f_X9_at N (am_z (s : Int)) (am_z (q : Int)) (am_z ((rLay hm s q).2.1 : Int)) (0 : Int32) h = some (some (am_z (-1)), h1) := a1
    have R1 := dR_c RR a2
    obtain ⟨h2, b1, b2⟩ := dva_above (N := N) (l := (rLay hm s q).2.2.2.2.1) (c := 0) (by omega) R1.1 hs hq (by omega) (by omega)
    rw [if_neg (by omega)] at b1
    have b1 : f_X9_above N (am_z (s : Int)) (am_z (q : Int)) (am_z ((rLay hm s q).2.2.2.2.1 : Int)) (0 : Int32) h1 = some (some (am_z (-1)), h2) := b1
    have R2 := dR_c R1 b2
    obtain ⟨h3, c1, c2⟩ := dva_fullness (N := N) (by omega) R2.1 hs hq
    have hp : (rLay hm s q).1 * (rLay hm s q).2.1 < 97 := by
      have := Nat.mul_le_mul o.2.1 o.2.2.2.1
      omega
    have hp0 : (rLay hm s q).1 * (rLay hm s q).2.1 ≠ 0 := by
      have := Nat.mul_le_mul o.1 o.2.2.1
      omega
    have cl := dva_cR_le (rLay hm s q) o.2.1 (rLay hm s q).2.1
    have f := fp_ok (dva_cR (rLay hm s q) (rLay hm s q).2.1) (by omega) _ hp hp0
    have f2 := dva_fcmp (dva_cR (rLay hm s q) (rLay hm s q).2.1) (by omega) _ hp hp0
    have e2 : am_z ((rLay hm s q).1 : Int) * am_z ((rLay hm s q).2.1 : Int) = Int32.ofNat ((rLay hm s q).1 * (rLay hm s q).2.1) := by
      rw [am_z_mul, am_z_nat]; congr 1
    have ev : am_z ((dva_cR (rLay hm s q) (rLay hm s q).2.1 : Nat) : Int) = Int32.ofNat (dva_cR (rLay hm s q) (rLay hm s q).2.1) := (am_z_nat _).symm
    have em : (am_z (-1) = (-1 : Int32)) = True := eq_true rfl
    have e11 : ((1 : Int32) &&& 1 = (1 : Int32)) = True := eq_true (by decide)
    refine ⟨h3, ?_, dR_c R2 c2⟩
    unfold el_L_isDrawn_203
    rw [e1]
    simp only [dv_ok_sh, o1, cond_true, dv_g_sh, g5, if_pos (Int32.le_refl _), g0, nnR, clR, if_false, o3, Bool.or_true, dv_len_sh, l3, dv_h_sh]
    rw [dv_of]
    simp only [a1, am_bt_s, em, if_true, dv_sh2, dv_ok_sh, o1, cond_true, dv_g_sh, g5, dv_h_sh, b1, c1, g0, nnR, clR, if_false, o3, Bool.or_true, dv_len_sh, l3, hw.1, e11]
    rw [ev, e2, if_pos f, f2]
    rfl
  | k + 1, l, n + 1, h, e, hx, RR => by
    have o := qc_OKw ok
    have o1 := hW.1.1
    have g5 := hW.2.1.2.2.2.2
    have hlt : ¬ (am_z ((rLay hm s q).2.2.2.2.1 : Int) ≤ am_z (l : Int)) := by rw [am_z_le (by omega) (by omega) (by omega) (by omega)]; omega
    obtain ⟨h1, a1, R1⟩ := dw_215 (N := N) (i4 := am_z ((dva_cR (rLay hm s q) (rLay hm s q).2.1 : Nat) : Int)) hN hs hq hW ok hbg (show l < (rLay hm s q).2.2.2.2.1 by omega) (K203 := el_L_isDrawn_203 N n) 16 0 N h (by omega) (by omega) RR
    obtain ⟨h2, b1, R2⟩ := dw_203 hN hs hq hW hw ok hbg k (l + 1) n h1 (by omega) (by omega) R1
    refine ⟨h2, ?_, R2⟩
    unfold el_L_isDrawn_203
    simp only [dv_ok_sh, o1, cond_true, dv_g_sh, g5, if_neg hlt]
    exact a1.trans b1
theorem dw_98 {S1 : dm_S} {a R Ln s q : Nat} {A : Nat → Nat} {lo : Nat} (hN : 2000 ≤ N) (hs : s < nS) (hq : q ≤ nv (hm 197 (55 + 1504 * s))) (hW : dW lo S1 a R Ln A (rLay hm s q).2.1 (rLay hm s q).2.2.2.2.1 (rLay hm s q).2.2.2.2.2) (hw : dWw S1 a A (rLay hm s q).1 (rLay hm s q).2.1 (rLay hm s q).2.2.2.2.1) (ok : qc_OK (rLay hm s q)) (hbg : dm_n S1 < dm_bg) : ∀ (k i n : Nat) (h : am_Hp), i + k = (rLay hm s q).2.1 → k < n → dR nS nU h0 hm h →
    ∃ h', el_L_isDrawn_98 N n (am_z (s : Int)) (am_z (q : Int)) a (am_z ((dva_cR (rLay hm s q) i : Nat) : Int)) (am_z (i : Int)) (dm_sh S1 h) = some ((1 : Int32), dm_sh S1 h') ∧ dR nS nU h0 hm h'
  | k, i, 0, h, _, hx, _ => by omega
  | 0, i, n + 1, h, e, _, RR => by
    have o := qc_OKw ok
    have e1 : i = (rLay hm s q).2.1 := by omega
    have o1 := hW.1.1
    have o3 := hW.1.2.1
    have b3 := (dm_ok_s o3).2.2
    have l3 := hW.2.1.1
    have g0 := hW.2.1.2.2.1
    have nnR := dv_nn (show R < dm_bg by omega)
    have clR := dv_cl (show R < dm_bg by omega)
    obtain ⟨h1, a1, R1⟩ := dw_203 (N := N) hN hs hq hW hw ok hbg (rLay hm s q).2.2.2.2.1 0 N h (by omega) (by omega) RR
    refine ⟨h1, ?_, R1⟩
    unfold el_L_isDrawn_98
    rw [e1]
    simp only [dv_ok_sh, o1, cond_true, dv_g_sh, g0, nnR, clR, if_false, o3, Bool.or_true, dv_len_sh, l3]
    rw [dv_of, if_pos (Int32.le_refl _)]
    exact a1
  | k + 1, i, n + 1, h, e, hx, RR => by
    have o := qc_OKw ok
    have o1 := hW.1.1
    have o3 := hW.1.2.1
    have b3 := (dm_ok_s o3).2.2
    have l3 := hW.2.1.1
    have g0 := hW.2.1.2.2.1
    have nnR := dv_nn (show R < dm_bg by omega)
    have clR := dv_cl (show R < dm_bg by omega)
    have hlt : ¬ (am_z ((rLay hm s q).2.1 : Int) ≤ am_z (i : Int)) := by rw [am_z_le (by omega) (by omega) (by omega) (by omega)]; omega
    obtain ⟨h1, a1, R1⟩ := dw_111 (N := N) hN hs hq hW hw ok hbg (show i < (rLay hm s q).2.1 by omega) (K98 := el_L_isDrawn_98 N n) (rLay hm s q).1 0 N h (by omega) (by omega) RR
    obtain ⟨h2, b1, R2⟩ := dw_98 hN hs hq hW hw ok hbg k (i + 1) n h1 (by omega) (by omega) R1
    refine ⟨h2, ?_, R2⟩
    unfold el_L_isDrawn_98
    simp only [dv_ok_sh, o1, cond_true, dv_g_sh, g0, nnR, clR, if_false, o3, Bool.or_true, dv_len_sh, l3]
    rw [dv_of, if_neg hlt]
    exact a1.trans b1
/-- what a look of the law costs -/
def dvB (x y : Nat) (S S' : dm_S) : Prop := dm_n S ≤ dm_n S' ∧ dm_n S' ≤ dm_n S + x ∧ dm_zz S' ≤ dm_zz S + y
theorem dvB_t {x y x' y' : Nat} {S S1 S2 : dm_S} (h1 : dvB x y S S1) (h2 : dvB x' y' S1 S2) : dvB (x + x') (y + y') S S2 := by
  obtain ⟨a1, a2, a3⟩ := h1
  obtain ⟨b1, b2, b3⟩ := h2
  exact ⟨by omega, by omega, by omega⟩
theorem dvB_m {x y x' y' : Nat} {S S1 : dm_S} (h1 : dvB x y S S1) (hx : x ≤ x') (hy : y ≤ y') : dvB x' y' S S1 := by
  obtain ⟨a1, a2, a3⟩ := h1
  exact ⟨a1, by omega, by omega⟩
theorem dvF_B {lo x y : Nat} {S S1 : dm_S} (h : dvF lo x y S S1) : dvB x y S S1 := ⟨h.2.1, h.2.2.1, h.2.2.2.1⟩
theorem dw_isDrawn {S : dm_S} {s q : Nat} (hN : 2000 ≤ N) (RR : dR nS nU h0 hm (dm_h S)) (hs : s < nS) (hq : q ≤ nv (hm 197 (55 + 1504 * s))) (hn : 1000 ≤ dm_n S) (hb : dm_n S + 8000 < dm_bg) :
    ∃ S', e_L_isDrawn N (am_z (s : Int)) (am_z (q : Int)) S = some ((1 : Int32), S') ∧ dR nS nU h0 hm (dm_h S') ∧ dvB 3909 59548 S S' := by
  obtain ⟨S1, e1, f1, f2⟩ := dv_screen (N := N) hN RR.1 hs hq hn hb
  obtain ⟨v1, v2, v3, v4, v5⟩ := f2
  have ok := rLay_ok RR.1 hs hq
  have o := qc_OKw ok
  obtain ⟨R, Ln, A, hW, hw, gr, gc⟩ := dV_e f1
  have o1 := hW.1.1
  have o3 := hW.1.2.1
  have b3 := (dm_ok_s o3).2.2
  have l3 := hW.2.1.1
  have g0 := hW.2.1.2.2.1
  have g5 := hW.2.1.2.2.2.2
  have nnR := dv_nn (show R < dm_bg by omega)
  have clR := dv_cl (show R < dm_bg by omega)
  have R0 : dR nS nU h0 hm (dm_h S1) := by rw [v1]; exact RR
  obtain ⟨h1, a1, a2⟩ := (dva_screen (N := N) (by omega) R0.1 hs hq).1
  have R1 := dR_c R0 a2
  obtain ⟨h2, b1, b2⟩ := (dva_screen (N := N) (by omega) R1.1 hs hq).2.1
  have R2 := dR_c R1 b2
  obtain ⟨h3, c1, c2⟩ := (dva_screen (N := N) (by omega) R2.1 hs hq).2.2.1
  have R3 := dR_c R2 c2
  obtain ⟨h4, d1, d2⟩ := (dva_screen (N := N) (by omega) R3.1 hs hq).2.2.2.1
  have R4 := dR_c R3 d2
  obtain ⟨h5, p1, p2⟩ := (dva_screen (N := N) (by omega) R4.1 hs hq).2.2.2.2.1
  have R5 := dR_c R4 p2
  obtain ⟨h6, q1, q2⟩ := (dva_screen (N := N) (by omega) R5.1 hs hq).2.2.2.2.2
  have R6 := dR_c R5 q2
  obtain ⟨h7, r1, R7⟩ := dw_98 (N := N) hN hs hq hW hw ok (by omega) (rLay hm s q).2.1 0 N h6 (by omega) (by omega) R6
  refine ⟨dm_sh S1 h7, ?_, R7, ⟨v2, v3, v4⟩⟩
  unfold e_L_isDrawn
  simp only [e1, dv_bi, a1, am_bt_s, dv_ok_sh, o1, cond_true, dv_g_sh, hw.1, if_true, dv_h_sh, dv_sh2, b1, g0, nnR, clR, if_false, o3, Bool.or_true, dv_len_sh, l3]
  rw [if_pos (dv_of (x := (rLay hm s q).2.1)).symm]
  simp only [c1, am_bt_s, dv_ok_sh, o1, cond_true, dv_g_sh, gr, gc, g5, if_true, dv_h_sh, dv_sh2, d1, p1, q1]
  exact r1
end DVC
