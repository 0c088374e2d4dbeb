section DV8
variable {N nS nU : Nat} {hc hm : am_Hp}
theorem dv_fr {h1 : am_Hp} (R : qr_R nS nU hc hm) (f : cfr hc h1) : qr_R nS nU h1 hm := qr_fr f mfr0 R
theorem vi_10 : ((1 : Int) = 0) = False := eq_false (by decide)
theorem vi_20 : ((2 : Int) = 0) = False := eq_false (by decide)
theorem vi_21 : ((2 : Int) = 1) = False := eq_false (by decide)
theorem vi_30 : ((3 : Int) = 0) = False := eq_false (by decide)
theorem vi_31 : ((3 : Int) = 1) = False := eq_false (by decide)
theorem vi_32 : ((3 : Int) = 2) = False := eq_false (by decide)
theorem vi_40 : ((4 : Int) = 0) = False := eq_false (by decide)
theorem vi_41 : ((4 : Int) = 1) = False := eq_false (by decide)
theorem vi_42 : ((4 : Int) = 2) = False := eq_false (by decide)
theorem vi_43 : ((4 : Int) = 3) = False := eq_false (by decide)
theorem vi_50 : ((5 : Int) = 0) = False := eq_false (by decide)
theorem vi_51 : ((5 : Int) = 1) = False := eq_false (by decide)
theorem vi_52 : ((5 : Int) = 2) = False := eq_false (by decide)
theorem vi_53 : ((5 : Int) = 3) = False := eq_false (by decide)
theorem vi_54 : ((5 : Int) = 4) = False := eq_false (by decide)
theorem dva_session0 (R : qr_R nS nU hc hm) {s : Nat} (hs : s < nS) : f_X9_session N (am_z (s : Int)) (0 : Int32) hc = some (some (hm 195 (12 + s)), hc) := by
  obtain ⟨n1, n2, n3, n4, n5, n6⟩ := qr_n R
  have t := R.1.2.2.2.2.2.2.2.2.2.2.1 s hs
  have z0 : (0 : Int32).toInt = 0 := by decide
  unfold f_X9_session
  simp only [c_desk n3 n1 hs, am_bt_s, z0, if_true, c_size0 n3 n1 hs]
  rw [← t.2.1]
  simp only [am_z_lit, c_size0 n3 n1 hs, am_bt_s, am_bi_s]
theorem dva_session1 (R : qr_R nS nU hc hm) {s : Nat} (hs : s < nS) : f_X9_session N (am_z (s : Int)) (1 : Int32) hc = some (some (hm 195 (16 + s)), hc) := by
  obtain ⟨n1, n2, n3, n4, n5, n6⟩ := qr_n R
  have t := R.1.2.2.2.2.2.2.2.2.2.2.1 s hs
  have z1 : (am_z 1).toInt = 1 := by decide
  unfold f_X9_session
  rw [← t.2.2.1]
  simp only [c_desk n3 n1 hs, am_bt_s, am_z_lit, z1, vi_10, if_false, if_true, c_size1 n3 n1 hs, am_bi_s]
theorem dva_event (R : qr_R nS nU hc hm) {s e k : Nat} (hs : s < nS) (he : e < nv (hm 197 (55 + 1504 * s))) (hk : k < 3) : f_X9_event N (am_z (s : Int)) (am_z (e : Int)) (am_z (k : Int)) hc = some (some (rEv (hm 197) s e k), hc) := by
  obtain ⟨n1, n2, n3, n4, n5, n6⟩ := qr_n R
  obtain ⟨c0, c1, c2, c3, cE, ⟨d1, -⟩, -⟩ := qr_S R hs
  have s4 : s < 4 := by omega
  have d2 := d1.2.2
  have hlt : am_z e < hm 197 (55 + 1504 * s) := by rw [d1.1, am_z_lt (by omega) (by omega) (by omega) (by omega)]; omega
  have hn : ¬ am_z (e : Int) < am_z 0 := by rw [am_z_lt (by omega) (by omega) (by omega) (by omega)]; omega
  unfold f_X9_event rEv
  have k3 : k = 0 ∨ k = 1 ∨ k = 2 := by omega
  rcases k3 with rfl | rfl | rfl
  · have k0 : f_X3_number N (165 + 7 * s) (am_z 0) (am_z e) hc = _ := c_num3 (k := 0) s4 cE d2 he (by decide)
    have z0 : (am_z ((0 : Nat) : Int)).toInt = 0 := by decide
    simp only [am_z_lit, if_neg hn, c_desk n3 n1 hs, am_bt_s, (g_d s s4).2.2, cond_true, c0, if_pos hlt, c_rec n3 n1 hs, (rc_f s s4).1, z0, if_true, k0, am_bi_s]
  · have k0 : f_X3_number N (165 + 7 * s) (am_z 1) (am_z e) hc = _ := c_num3 (k := 1) s4 cE d2 he (by decide)
    have z1 : (am_z ((1 : Nat) : Int)).toInt = 1 := by decide
    simp only [am_z_lit, if_neg hn, c_desk n3 n1 hs, am_bt_s, (g_d s s4).2.2, cond_true, c0, if_pos hlt, c_rec n3 n1 hs, (rc_f s s4).1, z1, vi_10, if_false, if_true, k0, am_bi_s]
  · have k0 : f_X3_number N (165 + 7 * s) (am_z 2) (am_z e) hc = _ := c_num3 (k := 2) s4 cE d2 he (by decide)
    have z2 : (am_z ((2 : Nat) : Int)).toInt = 2 := by decide
    simp only [am_z_lit, if_neg hn, c_desk n3 n1 hs, am_bt_s, (g_d s s4).2.2, cond_true, c0, if_pos hlt, c_rec n3 n1 hs, (rc_f s s4).1, z2, vi_20, vi_21, if_false, if_true, k0, am_bi_s]
/-- an answer that only lays a screen of the class -/
def dvaP {α : Type} (a : Option (Option α × am_Hp)) (v : α) (hc : am_Hp) : Prop := ∃ h1, a = some (some v, h1) ∧ cfr hc h1
theorem dva_lay (hN : 1000 ≤ N) (R : qr_R nS nU hc hm) {s q : Nat} (hs : s < nS) (hq : q ≤ nv (hm 197 (55 + 1504 * s))) :
    ∃ h1, f_X9_draw N 161 (am_z s) (am_z q) hc = some (some (), h1) ∧ qc_R 161 162 h1 (rLay hm s q) ∧ cfr hc h1 := by
  obtain ⟨h1, a1, a2, a3⟩ := c_draw (N := N) (o := 161) (p := 162) hN (Or.inl ⟨rfl, rfl⟩) R hs hq
  exact ⟨h1, a1, a2, cfrs (Or.inl ⟨rfl, rfl⟩) a3⟩
theorem dva_screen (hN : 1000 ≤ N) (R : qr_R nS nU hc hm) {s q : Nat} (hs : s < nS) (hq : q ≤ nv (hm 197 (55 + 1504 * s))) :
    dvaP (f_X9_screen N (am_z s) (am_z q) (0 : Int32) hc) (am_z (rLay hm s q).1) hc ∧ dvaP (f_X9_screen N (am_z s) (am_z q) (1 : Int32) hc) (am_z (rLay hm s q).2.1) hc ∧ dvaP (f_X9_screen N (am_z s) (am_z q) (2 : Int32) hc) (am_z (rLay hm s q).2.2.1) hc ∧ dvaP (f_X9_screen N (am_z s) (am_z q) (3 : Int32) hc) (am_z (rLay hm s q).2.2.2.1) hc ∧ dvaP (f_X9_screen N (am_z s) (am_z q) (4 : Int32) hc) (am_z (rLay hm s q).2.2.2.2.1) hc ∧ dvaP (f_X9_screen N (am_z s) (am_z q) (5 : Int32) hc) (-2 : Int32) hc := by
  obtain ⟨h1, a1, a2, a3⟩ := dva_lay (N := N) hN R hs hq
  obtain ⟨w1, w2, w3, w4, w5⟩ := qc_Rw a2
  unfold f_X9_screen
  simp only [a1, am_bt_s]
  refine ⟨⟨h1, ?_, a3⟩, ⟨h1, ?_, a3⟩, ⟨h1, ?_, a3⟩, ⟨h1, ?_, a3⟩, ⟨h1, ?_, a3⟩, ⟨h1, ?_, a3⟩⟩
  · rw [if_pos (by decide), w1]
  · rw [if_neg (by decide), if_pos (by decide), w2]
  · rw [if_neg (by decide), if_neg (by decide), if_pos (by decide), w4]
  · rw [if_neg (by decide), if_neg (by decide), if_neg (by decide), if_pos (by decide), w5]
  · rw [if_neg (by decide), if_neg (by decide), if_neg (by decide), if_neg (by decide), if_pos (by decide), w3]
  · rw [if_neg (by decide), if_neg (by decide), if_neg (by decide), if_neg (by decide), if_neg (by decide)]
theorem dva_at (hN : 1000 ≤ N) (R : qr_R nS nU hc hm) {s q y c : Nat} (hs : s < nS) (hq : q ≤ nv (hm 197 (55 + 1504 * s))) (hy : y < 1000) (hcc : c < 1000) :
    dvaP (f_X9_at N (am_z s) (am_z q) (am_z y) (am_z c) hc) (if y < (rLay hm s q).2.1 ∧ c < (rLay hm s q).1 then qc_sy (rLay hm s q) y c else am_z (-1)) hc := by
  obtain ⟨h1, a1, a2, a3⟩ := dva_lay (N := N) hN R hs hq
  have ok := rLay_ok R hs hq
  obtain ⟨w1, w2, w3, w4, w5⟩ := qc_Rw a2
  have o := qc_OKw ok
  refine ⟨h1, ?_, a3⟩
  unfold f_X9_at
  simp only [a1, am_bt_s, am_z_lit, am_z_neg, w1, w2]
  have c1 : ¬ am_z (y : Int) < am_z 0 := by rw [am_z_lt (by omega) (by omega) (by omega) (by omega)]; omega
  have c3 : ¬ am_z (c : Int) < am_z 0 := by rw [am_z_lt (by omega) (by omega) (by omega) (by omega)]; omega
  rw [if_neg c1]
  by_cases c2 : (rLay hm s q).2.1 ≤ y
  · rw [if_pos (by rw [am_z_le (by omega) (by omega) (by omega) (by omega)]; omega), if_neg (by omega)]
  · rw [if_neg (by rw [am_z_le (by omega) (by omega) (by omega) (by omega)]; omega), if_neg c3]
    by_cases c4 : c < (rLay hm s q).1
    · rw [if_pos (by rw [am_z_lt (by omega) (by omega) (by omega) (by omega)]; omega), if_pos (by omega), q_symS (Or.inl ⟨rfl, rfl⟩) a2 ok (by omega), am_bi_s]
    · rw [if_neg (by rw [am_z_lt (by omega) (by omega) (by omega) (by omega)]; omega), if_neg (by omega)]
theorem dva_above (hN : 1000 ≤ N) (R : qr_R nS nU hc hm) {s q l c : Nat} (hs : s < nS) (hq : q ≤ nv (hm 197 (55 + 1504 * s))) (hl : l < 1000) (hcc : c < 16) :
    dvaP (f_X9_above N (am_z s) (am_z q) (am_z l) (am_z c) hc) (if l < (rLay hm s q).2.2.2.2.1 then (rLay hm s q).2.2.2.2.2 l c else am_z (-1)) hc := by
  obtain ⟨h1, a1, a2, a3⟩ := dva_lay (N := N) hN R hs hq
  have ok := rLay_ok R hs hq
  obtain ⟨w1, w2, w3, w4, w5⟩ := qc_Rw a2
  have o := qc_OKw ok
  refine ⟨h1, ?_, a3⟩
  unfold f_X9_above
  simp only [a1, am_bt_s, am_z_lit, am_z_neg, w3]
  have c1 : ¬ am_z (l : Int) < am_z 0 := by rw [am_z_lt (by omega) (by omega) (by omega) (by omega)]; omega
  have c3 : ¬ am_z (c : Int) < am_z 0 := by rw [am_z_lt (by omega) (by omega) (by omega) (by omega)]; omega
  have c4 : am_z (c : Int) < am_z 16 := by rw [am_z_lt (by omega) (by omega) (by omega) (by omega)]; omega
  rw [if_neg c1]
  by_cases c2 : (rLay hm s q).2.2.2.2.1 ≤ l
  · rw [if_pos (by rw [am_z_le (by omega) (by omega) (by omega) (by omega)]; omega), if_neg (by omega)]
  · rw [if_neg (by rw [am_z_le (by omega) (by omega) (by omega) (by omega)]; omega), if_neg c3, if_pos c4, qc_symL (Or.inl ⟨rfl, rfl⟩) a2 ok (by omega), am_bi_s, if_neg (by omega), if_pos (by omega), Int.toNat_natCast, Int.toNat_natCast]
end DV8
