section Q6
variable {N nS nU : Nat} {hc hm : am_Hp}
theorem qc_Rw {o p : Nat} {h : am_Hp} {t : qc_T} (hR : qc_R o p h t) : h o 3 = am_z t.1 ∧ h o 4 = am_z t.2.1 ∧ h o 2 = am_z t.2.2.2.2.1 ∧ h o 5 = am_z t.2.2.1 ∧ h o 6 = am_z t.2.2.2.1 := by
  obtain ⟨w, hh, row, col, up, L⟩ := t
  obtain ⟨f, d0, d1, d2, d3, d4, d5, d6, d7⟩ := hR
  exact ⟨d3, d4, d2, d5, d6⟩
theorem qm_Rw {h : am_Hp} {t : qc_T} (hR : qm_R h t) : h 193 9 = am_z t.1 ∧ h 193 10 = am_z t.2.1 ∧ h 193 14 = am_z t.2.2.2.2.1 ∧ h 193 11 = am_z t.2.2.1 ∧ h 193 12 = am_z t.2.2.2.1 := by
  obtain ⟨w, hh, row, col, up, L⟩ := t
  obtain ⟨r1, r2, r3, k1, k2, k3, k4⟩ := hR
  exact ⟨k1, r1, k2, r2, r3⟩
theorem qc_OKw {t : qc_T} (h : qc_OK t) : 2 ≤ t.1 ∧ t.1 ≤ 16 ∧ 1 ≤ t.2.1 ∧ t.2.1 ≤ 6 ∧ t.2.2.1 < t.2.1 ∧ t.2.2.2.2.1 ≤ 40 := by
  obtain ⟨w, hh, row, col, up, L⟩ := t
  exact ⟨h.1, h.2.1, h.2.2.1, h.2.2.2.1, h.2.2.2.2.1, h.2.2.2.2.2.2.1⟩
/-- a place of the screen, as both read it -/
def qc_sy (t : qc_T) (y x : Nat) : Int32 := t.2.2.2.2.2 (t.2.2.2.2.1 + y) x
theorem q_symS {o p : Nat} {h : am_Hp} {t : qc_T} {y x : Nat} (hO : qc_O o p) (hR : qc_R o p h t) (hk : qc_OK t) (b : y < 100 ∧ x < 100) : f_X4_symbolOnScreen N o (am_z y) (am_z x) h = some (qc_sy t y x, h) := by
  rw [qc_symS hO hR hk (by omega)]
  rfl
theorem q_place {h : am_Hp} {t : qc_T} {y x : Nat} (hR : qm_R h t) (hk : qc_OK t) (b : y < t.2.1 ∧ x < t.1) : f_X10_place N (am_z y) (am_z x) h = some (qc_sy t y x, h) := by
  have o := qc_OKw hk
  rw [m_place hR hk (by omega), if_pos (by omega)]
  rfl
/-- how many places of row i from column j on are full -/
theorem q_fullC {t : qc_T} {h1 h2 : am_Hp} {K4 : Nat → Int32 → Int32 → am_Hp → Option (Int32 × am_Hp)} {K26 : Int32 → Int32 → am_Hp → Option (UInt32 × am_Hp)} (hR : qc_R 161 162 h1 t) (hM : qm_R h2 t) (ok : qc_OK t) {i : Nat} (hi : i < t.2.1) : ∀ (k j n m : Nat) (c : Nat), j + k = t.1 → k < n → k < m → c + k ≤ 200 →
    ∃ v : Nat, v ≤ c + k ∧ l_X4_fullPlaces_14 N K4 n 161 (am_z c) (am_z i) (am_z j) h1 = K4 161 (am_z v) (am_z ((i + 1 : Nat) : Int)) h1 ∧ l_X10_fullness_38 N K26 m (am_z c) (am_z i) (am_z j) h2 = K26 (am_z v) (am_z ((i + 1 : Nat) : Int)) h2
  | k, j, 0, m, c, _, h, _, _ => by omega
  | k, j, n, 0, c, _, _, h, _ => by omega
  | 0, j, n + 1, m + 1, c, e, _, _, _ => by
    have e1 : j = t.1 := by omega
    subst e1
    have g1 := (qc_O1 (o := 161) (p := 162) (Or.inl ⟨rfl, rfl⟩)).1
    have e4 : (i : Int) + 1 = ((i + 1 : Nat) : Int) := by omega
    refine ⟨c, by omega, ?_, ?_⟩
    · unfold l_X4_fullPlaces_14
      simp only [g1, cond_true, (qc_Rw hR).1, if_pos (Int32.le_refl _), am_z_lit, am_z_add, e4]
    · unfold l_X10_fullness_38
      simp only [(qm_Rw hM).1, if_pos (Int32.le_refl _), am_z_lit, am_z_add, e4]
  | k + 1, j, n + 1, m + 1, c, e, h3, h4, h5 => by
    have o := qc_OKw ok
    have g1 := (qc_O1 (o := 161) (p := 162) (Or.inl ⟨rfl, rfl⟩)).1
    have hlt : ¬ (am_z t.1 ≤ am_z j) := by rw [am_z_le (by omega) (by omega) (by omega) (by omega)]; omega
    have e4 : (j : Int) + 1 = ((j + 1 : Nat) : Int) := by omega
    have e5 : (c : Int) + 1 = ((c + 1 : Nat) : Int) := by omega
    have e6 : (c : Int) + 0 = (c : Int) := by omega
    unfold l_X4_fullPlaces_14 l_X10_fullness_38
    simp only [g1, cond_true, (qc_Rw hR).1, (qm_Rw hM).1, if_neg hlt, q_symS (Or.inl ⟨rfl, rfl⟩) hR ok (show i < 100 ∧ j < 100 by omega), q_place hM ok (show i < t.2.1 ∧ j < t.1 by omega), am_bi_s, am_z_lit, am_z_add, e4, e5, e6]
    by_cases q : qc_sy t i j = am_z 27
    · simp only [if_pos q]
      obtain ⟨v, a1, a2, a3⟩ := q_fullC hR hM ok hi k (j + 1) n m c (by omega) (by omega) (by omega) (by omega)
      exact ⟨v, by omega, a2, a3⟩
    · simp only [if_neg q]
      obtain ⟨v, a1, a2, a3⟩ := q_fullC hR hM ok hi k (j + 1) n m (c + 1) (by omega) (by omega) (by omega) (by omega)
      exact ⟨v, by omega, a2, a3⟩
theorem q_fullR {t : qc_T} {h1 h2 : am_Hp} (hN : 1000 ≤ N) (hR : qc_R 161 162 h1 t) (hM : qm_R h2 t) (ok : qc_OK t) : ∀ (k i n m : Nat) (c : Nat), i + k = t.2.1 → k < n → k < m → c ≤ 16 * i →
    ∃ v : Nat, v ≤ 96 ∧ l_X4_fullPlaces_4 N n 161 (am_z c) (am_z i) h1 = some (am_z v, h1) ∧ l_X10_fullness_26 N m (am_z c) (am_z i) h2 = some (FP.fdiv (FP.i2f (am_z v)) (FP.i2f (am_z t.1 * am_z t.2.1)), h2)
  | k, i, 0, m, c, _, h, _, _ => by omega
  | k, i, n, 0, c, _, _, h, _ => by omega
  | 0, i, n + 1, m + 1, c, e, _, _, h5 => by
    have o := qc_OKw ok
    have e1 : i = t.2.1 := by omega
    subst e1
    have g1 := (qc_O1 (o := 161) (p := 162) (Or.inl ⟨rfl, rfl⟩)).1
    refine ⟨c, by omega, ?_, ?_⟩
    · unfold l_X4_fullPlaces_4
      simp only [g1, cond_true, (qc_Rw hR).2.1, if_pos (Int32.le_refl _)]
    · unfold l_X10_fullness_26
      have hp : t.1 * t.2.1 < 97 := by
        have := Nat.mul_le_mul o.2.1 o.2.2.2.1
        omega
      have hp0 : t.1 * t.2.1 ≠ 0 := by
        have := Nat.mul_le_mul o.1 o.2.2.1
        omega
      have f := fp_ok c (by omega) (t.1 * t.2.1) hp hp0
      have e2 : am_z t.1 * am_z t.2.1 = Int32.ofNat (t.1 * t.2.1) := by
        rw [am_z_mul, am_z_nat]; congr 1
      rw [am_z_nat, ← e2] at f
      simp only [(qm_Rw hM).1, (qm_Rw hM).2.1, if_pos (Int32.le_refl _), if_pos f]
  | k + 1, i, n + 1, m + 1, c, e, h3, h4, h5 => by
    have o := qc_OKw ok
    have g1 := (qc_O1 (o := 161) (p := 162) (Or.inl ⟨rfl, rfl⟩)).1
    have hlt : ¬ (am_z t.2.1 ≤ am_z i) := by rw [am_z_le (by omega) (by omega) (by omega) (by omega)]; omega
    obtain ⟨v, a1, a2, a3⟩ := q_fullC (N := N) (K4 := l_X4_fullPlaces_4 N n) (K26 := l_X10_fullness_26 N m) hR hM ok (i := i) (by omega) t.1 0 N N c (by omega) (by omega) (by omega) (by omega)
    have a2' : l_X4_fullPlaces_14 N (l_X4_fullPlaces_4 N n) N 161 (am_z c) (am_z i) (am_z 0) h1 = _ := a2
    have a3' : l_X10_fullness_38 N (l_X10_fullness_26 N m) N (am_z c) (am_z i) (am_z 0) h2 = _ := a3
    obtain ⟨v2, b1, b2, b3⟩ := q_fullR hN hR hM ok k (i + 1) n m v (by omega) (by omega) (by omega) (by omega)
    refine ⟨v2, b1, ?_, ?_⟩
    · unfold l_X4_fullPlaces_4
      simp only [g1, cond_true, (qc_Rw hR).2.1, if_neg hlt, am_z_lit, a2', b2]
    · unfold l_X10_fullness_26
      simp only [(qm_Rw hM).2.1, if_neg hlt, am_z_lit, a3', b3]
/-- as pT, for a float -/
def pF (a : Option (Option UInt32 × am_Hp)) (b : Option (UInt32 × am_Hp)) (hc hm : am_Hp) : Prop := ∃ o v h1 h2, a = some (o, h1) ∧ b = some (v, h2) ∧ cfr hc h1 ∧ mfr hm h2 ∧ (v &&& 0x7fffffff ≤ 0x7f800000) ∧ ((o = none ∧ h2 193 0 = am_z 1) ∨ (o = some v ∧ h2 193 0 = am_z 0))
theorem q_fullness (hN : 1000 ≤ N) (R : qr_R nS nU hc hm) (x y : Int32) : pF (f_X9_fullness N x y hc) (f_X10_fullness N x y hm) hc hm := by
  unfold f_X9_fullness f_X10_fullness
  rcases q_posn (N := N) R x y with ⟨s, q, hs, hq, rfl, rfl, e⟩ | ⟨e1, e2⟩
  · obtain ⟨h1, h2, a1, a2, a3, b1, b2, b3, ok⟩ := q_lay (N := N) hN R hs hq (h := am_pi hm 193 0 (am_z 0)) (thr_e (by decide)) (thr_e (by decide))
    have o := qc_OKw ok
    obtain ⟨v, c0, c1, c2⟩ := q_fullR (N := N) hN a2 b2 ok (rLay hm s q).2.1 0 N N 0 (by omega) (by omega) (by omega) (by omega)
    have c1' : l_X4_fullPlaces_4 N N 161 (am_z 0) (am_z 0) h1 = _ := c1
    have c2' : l_X10_fullness_26 N N (am_z 0) (am_z 0) h2 = _ := c2
    have hp : (rLay hm s q).1 * (rLay hm s q).2.1 < 97 := by
      have := Nat.mul_le_mul o.2.1 o.2.2.2.1
      omega
    have hp0 : (rLay hm s q).1 * (rLay hm s q).2.1 ≠ 0 := by
      have := Nat.mul_le_mul o.1 o.2.2.1
      omega
    have f := fp_ok v (by omega) _ hp hp0
    have e2 : am_z (rLay hm s q).2.1 * am_z (rLay hm s q).1 = Int32.ofNat ((rLay hm s q).1 * (rLay hm s q).2.1) := by
      rw [am_z_mul, am_z_nat, Int.mul_comm]; congr 1
    have e3 : am_z (rLay hm s q).1 * am_z (rLay hm s q).2.1 = Int32.ofNat ((rLay hm s q).1 * (rLay hm s q).2.1) := by
      rw [am_z_mul, am_z_nat]; congr 1
    have pos : am_z 0 < Int32.ofNat ((rLay hm s q).1 * (rLay hm s q).2.1) := by
      rw [am_z_nat, am_z_lt (by omega) (by omega) (by omega) (by omega)]; omega
    have ev : am_z v = Int32.ofNat v := (am_z_nat v).symm
    rw [← ev] at f
    unfold f_X4_fullPlaces
    simp only [e, a1, am_bt_s, am_bi_s, m_chk1, am_z_lit, if_neg z_10, b1, c2', (qc_Rw a2).1, (qc_Rw a2).2.1, e2, e3, if_pos pos, c1', if_pos f]
    exact ⟨_, _, _, _, rfl, rfl, a3, mfrt (mfrp (by omega)) (mfrs b3), f, Or.inr ⟨rfl, by rw [b3.2 0 (by decide) (by decide) (by decide) (by decide) (by decide)]; exact am_pi_s _ _ _ _⟩⟩
  · simp only [e1, am_bt_n, e2, am_bi_s, m_chk0, am_z_lit, if_true]
    exact ⟨_, _, _, _, rfl, rfl, cfr0, mfrp (by omega), by decide, Or.inl ⟨rfl, am_pi_s _ _ _ _⟩⟩
end Q6
