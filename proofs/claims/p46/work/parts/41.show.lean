section SHOW
variable {N nS nU : Nat} {hc hm : am_Hp}
def gW (x : Int32) (n : Nat) : Prop := 1 ≤ n ∧ n ≤ 6 ∧ (∀ i, i < n → ∃ g : Nat, gL x i = am_z g ∧ 1 ≤ g ∧ g ≤ 26) ∧ ∀ i, n ≤ i → i < 6 → gL x i = am_z 0
/-- the word stands there from its letter k on -/
def Bm (t : qc_T) (x : Int32) (n i j k : Nat) : Prop := ∀ k', k ≤ k' → k' < n → qc_sy t i (j + k') = gL x k'
theorem Bm_s {t : qc_T} {x : Int32} {n i j k : Nat} (hk : k < n) : Bm t x n i j k ↔ (qc_sy t i (j + k) = gL x k ∧ Bm t x n i j (k + 1)) := by
  refine ⟨fun h => ⟨h k (Nat.le_refl _) hk, fun k' a b => h k' (by omega) b⟩, fun h k' a b => ?_⟩
  by_cases q : k' = k
  · subst q; exact h.1
  · exact h.2 k' (by omega) b
theorem Bm_w {t : qc_T} {x : Int32} {n i j : Nat} (ok : qc_OK t) (hw : gW x n) (h : Bm t x n i j 0) : j + n ≤ t.1 := by
  obtain ⟨n1, n6, hg, -⟩ := hw
  obtain ⟨g, hg1, g1, g26⟩ := hg (n - 1) (by omega)
  have := h (n - 1) (by omega) (by omega)
  rw [hg1] at this
  obtain ⟨w, hh, row, col, up, L⟩ := t
  by_cases q : w ≤ j + (n - 1)
  · have e : L (up + i) (j + (n - 1)) = am_z 27 := ok.2.2.2.2.2.2.2.2.1 _ _ (by omega) q
    have this : L (up + i) (j + (n - 1)) = am_z g := this
    rw [e, am_z_eq (by omega) (by omega) (by omega) (by omega)] at this
    omega
  · show j + n ≤ w
    omega
theorem c_from {t : qc_T} {h1 : am_Hp} {x : Int32} {n i j : Nat} (hR : qc_R 161 162 h1 t) (ok : qc_OK t) (hw : gW x n) (hi : i < 50) (hj : j < 50) : ∀ (r k m : Nat), k + r = n → r < m → (Bm t x n i j k → l_X4_showsWordFrom_3 N m 161 (am_z i) (am_z j) x (am_z k) h1 = some (am_z 1, h1)) ∧ (¬ Bm t x n i j k → l_X4_showsWordFrom_3 N m 161 (am_z i) (am_z j) x (am_z k) h1 = some (am_z 0, h1))
  | r, k, 0, _, h => by omega
  | 0, k, m + 1, e, _ => by
    have ek : k = n := by omega
    subst ek
    refine ⟨fun _ => ?_, fun h => absurd (fun k' a b => by omega) h⟩
    unfold l_X4_showsWordFrom_3
    simp only [am_z_lit, am_z_and1, if_true]
    by_cases q : am_z 6 ≤ am_z k
    · rw [if_pos q]
    · have hk6 : k < 6 := by
        rw [am_z_le (by omega) (by omega) (by have := hw.2.1; omega) (by have := hw.2.1; omega)] at q
        omega
      simp only [if_neg q, g_at, hw.2.2.2 k (Nat.le_refl _) hk6, am_bi_s, if_true]
  | r + 1, k, m + 1, e, hm => by
    have n6 := hw.2.1
    obtain ⟨g, hg, g1, g26⟩ := hw.2.2.1 k (by omega)
    have e4 : (k : Int) + 1 = ((k + 1 : Nat) : Int) := by omega
    have e5 : (j : Int) + k = ((j + k : Nat) : Int) := by omega
    have hlt : ¬ (am_z 6 ≤ am_z k) := by rw [am_z_le (by omega) (by omega) (by omega) (by omega)]; omega
    have g0 : ¬ (am_z g = am_z 0) := by rw [am_z_eq (by omega) (by omega) (by omega) (by omega)]; omega
    have ih := c_from hR ok hw hi hj r (k + 1) m (by omega) (by omega)
    have hs := Bm_s (t := t) (x := x) (i := i) (j := j) (show k < n by omega)
    rw [hg] at hs
    have step : l_X4_showsWordFrom_3 N (m + 1) 161 (am_z i) (am_z j) x (am_z k) h1 = if qc_sy t i (j + k) = am_z g then l_X4_showsWordFrom_3 N m 161 (am_z i) (am_z j) x (am_z ((k + 1 : Nat) : Int)) h1 else some (am_z 0, h1) := by
      conv => lhs; unfold l_X4_showsWordFrom_3
      simp only [am_z_lit, if_neg hlt, g_at, hg, am_bi_s, if_neg g0, (qc_O1 (o := 161) (p := 162) (Or.inl ⟨rfl, rfl⟩)).1, cond_true, am_z_add, e4, e5, q_symS (Or.inl ⟨rfl, rfl⟩) hR ok (show i < 100 ∧ j + k < 100 by omega), am_z_and0, if_true]
    rw [step]
    by_cases q : qc_sy t i (j + k) = am_z g
    · rw [if_pos q]
      exact ⟨fun h => ih.1 (hs.mp h).2, fun h => ih.2 (fun z => h (hs.mpr ⟨q, z⟩))⟩
    · rw [if_neg q]
      exact ⟨fun h => absurd (hs.mp h).1 q, fun _ => rfl⟩
theorem m_from0 {h2 : am_Hp} {x : Int32} {n i j : Nat} (n6 : n ≤ 6) {K2 : Int32 → Int32 → Int32 → am_Hp → Option (Int32 × am_Hp)} {K13 : Int32 → Int32 → Int32 → Int32 → am_Hp → Option (Int32 × am_Hp)} : ∀ (r k m : Nat), k + r = n → r < m → l_X10_shows_30 N K2 K13 m x (am_z n) (am_z i) (am_z j) (am_z 0) (am_z k) h2 = K13 x (am_z n) (am_z i) (am_z ((j + 1 : Nat) : Int)) h2
  | r, k, 0, _, h => by omega
  | 0, k, m + 1, e, _ => by
    have ek : k = n := by omega
    subst ek
    have e4 : (j : Int) + 1 = ((j + 1 : Nat) : Int) := by omega
    unfold l_X10_shows_30
    simp only [am_z_lit, if_pos (Int32.le_refl _), if_true, am_z_add, e4]
  | r + 1, k, m + 1, e, hm => by
    have e4 : (k : Int) + 1 = ((k + 1 : Nat) : Int) := by omega
    have hlt : ¬ (am_z n ≤ am_z k) := by rw [am_z_le (by omega) (by omega) (by omega) (by omega)]; omega
    unfold l_X10_shows_30
    simp only [am_z_lit, if_neg hlt, if_true, am_z_add, e4]
    exact m_from0 n6 r (k + 1) m (by omega) (by omega)
theorem m_from {t : qc_T} {h2 : am_Hp} {x : Int32} {n i j : Nat} (hR : qm_R h2 t) (ok : qc_OK t) (hw : gW x n) (hi : i < t.2.1) (hj : j + n ≤ t.1) {K2 : Int32 → Int32 → Int32 → am_Hp → Option (Int32 × am_Hp)} {K13 : Int32 → Int32 → Int32 → Int32 → am_Hp → Option (Int32 × am_Hp)} : ∀ (r k m : Nat), k + r = n → r < m → (Bm t x n i j k → l_X10_shows_30 N K2 K13 m x (am_z n) (am_z i) (am_z j) (am_z 1) (am_z k) h2 = some (am_z 1, h2)) ∧ (¬ Bm t x n i j k → l_X10_shows_30 N K2 K13 m x (am_z n) (am_z i) (am_z j) (am_z 1) (am_z k) h2 = K13 x (am_z n) (am_z i) (am_z ((j + 1 : Nat) : Int)) h2)
  | r, k, 0, _, h => by omega
  | 0, k, m + 1, e, _ => by
    have ek : k = n := by omega
    subst ek
    refine ⟨fun _ => ?_, fun h => absurd (fun k' a b => by omega) h⟩
    unfold l_X10_shows_30
    simp only [am_z_lit, if_pos (Int32.le_refl _), if_neg z_10, am_z_and1, if_true]
  | r + 1, k, m + 1, e, hm => by
    have n6 := hw.2.1
    have o := qc_OKw ok
    have e4 : (k : Int) + 1 = ((k + 1 : Nat) : Int) := by omega
    have e5 : (j : Int) + k = ((j + k : Nat) : Int) := by omega
    have hlt : ¬ (am_z n ≤ am_z k) := by rw [am_z_le (by omega) (by omega) (by omega) (by omega)]; omega
    have ih := m_from hR ok hw hi hj (K2 := K2) (K13 := K13) r (k + 1) m (by omega) (by omega)
    have hs := Bm_s (t := t) (x := x) (i := i) (j := j) (show k < n by omega)
    have step : l_X10_shows_30 N K2 K13 (m + 1) x (am_z n) (am_z i) (am_z j) (am_z 1) (am_z k) h2 = if qc_sy t i (j + k) = gL x k then l_X10_shows_30 N K2 K13 m x (am_z n) (am_z i) (am_z j) (am_z 1) (am_z ((k + 1 : Nat) : Int)) h2 else K13 x (am_z n) (am_z i) (am_z ((j + 1 : Nat) : Int)) h2 := by
      conv => lhs; unfold l_X10_shows_30
      simp only [am_z_lit, if_neg hlt, if_neg z_10, am_z_add, e4, e5, q_place hR ok (show i < t.2.1 ∧ j + k < t.1 by omega), l_of, am_bi_s, m_from0 n6 r (k + 1) m (by omega) (by omega)]
    rw [step]
    by_cases q : qc_sy t i (j + k) = gL x k
    · rw [if_pos q]
      exact ⟨fun h => ih.1 (hs.mp h).2, fun h => ih.2 (fun z => h (hs.mpr ⟨q, z⟩))⟩
    · rw [if_neg q]
      exact ⟨fun h => absurd (hs.mp h).1 q, fun _ => rfl⟩
/-- somewhere in row i from column j on -/
def Em (t : qc_T) (x : Int32) (n i j : Nat) : Prop := ∃ j', j ≤ j' ∧ j' + n ≤ t.1 ∧ Bm t x n i j' 0
theorem Em_s {t : qc_T} {x : Int32} {n i j : Nat} : Em t x n i j ↔ ((j + n ≤ t.1 ∧ Bm t x n i j 0) ∨ Em t x n i (j + 1)) := by
  constructor
  · rintro ⟨j', a, b, c⟩
    by_cases q : j' = j
    · subst q; exact Or.inl ⟨b, c⟩
    · exact Or.inr ⟨j', by omega, b, c⟩
  · rintro (⟨a, b⟩ | ⟨j', a, b, c⟩)
    · exact ⟨j, Nat.le_refl _, a, b⟩
    · exact ⟨j', by omega, b, c⟩
theorem c_row {t : qc_T} {h1 : am_Hp} {x : Int32} {n i : Nat} (hN : 1000 ≤ N) (hR : qc_R 161 162 h1 t) (ok : qc_OK t) (hw : gW x n) (hi : i < 50) {K2 : Nat → Int32 → Int32 → am_Hp → Option (Int32 × am_Hp)} : ∀ (r j m : Nat), j + r = t.1 → r < m → (Em t x n i j → l_X4_showsWord_12 N K2 m 161 x (am_z i) (am_z j) h1 = some (am_z 1, h1)) ∧ (¬ Em t x n i j → l_X4_showsWord_12 N K2 m 161 x (am_z i) (am_z j) h1 = K2 161 x (am_z ((i + 1 : Nat) : Int)) h1)
  | r, j, 0, _, h => by omega
  | 0, j, m + 1, e, _ => by
    have ej : j = t.1 := by omega
    subst ej
    have n1 := hw.1
    have e4 : (i : Int) + 1 = ((i + 1 : Nat) : Int) := by omega
    refine ⟨fun ⟨j', a, b, _⟩ => by omega, fun _ => ?_⟩
    unfold l_X4_showsWord_12
    simp only [(qc_O1 (o := 161) (p := 162) (Or.inl ⟨rfl, rfl⟩)).1, cond_true, (qc_Rw hR).1, if_pos (Int32.le_refl _), am_z_lit, am_z_add, e4]
  | r + 1, j, m + 1, e, hm => by
    have o := qc_OKw ok
    have e4 : (j : Int) + 1 = ((j + 1 : Nat) : Int) := by omega
    have hlt : ¬ (am_z t.1 ≤ am_z j) := by rw [am_z_le (by omega) (by omega) (by omega) (by omega)]; omega
    have ih := c_row hN hR ok hw hi (K2 := K2) r (j + 1) m (by omega) (by omega)
    have hf := c_from (N := N) (i := i) (j := j) hR ok hw hi (by omega) n 0 N (by omega) (by have := hw.2.1; omega)
    have hs := Em_s (t := t) (x := x) (n := n) (i := i) (j := j)
    have n6 := hw.2.1
    unfold l_X4_showsWord_12 f_X4_showsWordFrom
    simp only [(qc_O1 (o := 161) (p := 162) (Or.inl ⟨rfl, rfl⟩)).1, cond_true, (qc_Rw hR).1, if_neg hlt, am_z_lit, am_z_add, e4]
    by_cases q : Bm t x n i j 0
    · have hf1 : l_X4_showsWordFrom_3 N N 161 (am_z i) (am_z j) x (am_z 0) h1 = _ := hf.1 q
      simp only [hf1, am_bi_s, if_neg z_10, am_z_and1, if_true]
      exact ⟨fun _ => trivial, fun h => absurd (hs.mpr (Or.inl ⟨Bm_w ok hw q, q⟩)) h⟩
    · have hf1 : l_X4_showsWordFrom_3 N N 161 (am_z i) (am_z j) x (am_z 0) h1 = _ := hf.2 q
      simp only [hf1, am_bi_s, if_true]
      refine ⟨fun h => ih.1 ?_, fun h => ih.2 (fun z => h (hs.mpr (Or.inr z)))⟩
      rcases hs.mp h with z | z
      · exact absurd z.2 q
      · exact z
theorem m_row {t : qc_T} {h2 : am_Hp} {x : Int32} {n i : Nat} (hN : 1000 ≤ N) (hR : qm_R h2 t) (ok : qc_OK t) (hw : gW x n) (hi : i < t.2.1) {K2 : Int32 → Int32 → Int32 → am_Hp → Option (Int32 × am_Hp)} : ∀ (r j m : Nat), j + r = t.1 → r < m → (Em t x n i j → l_X10_shows_13 N K2 m x (am_z n) (am_z i) (am_z j) h2 = some (am_z 1, h2)) ∧ (¬ Em t x n i j → l_X10_shows_13 N K2 m x (am_z n) (am_z i) (am_z j) h2 = K2 x (am_z n) (am_z ((i + 1 : Nat) : Int)) h2)
  | r, j, 0, _, h => by omega
  | r, j, m + 1, e, hm => by
    have o := qc_OKw ok
    have n1 := hw.1
    have n6 := hw.2.1
    have e3 : (i : Int) + 1 = ((i + 1 : Nat) : Int) := by omega
    have e5 : (j : Int) + n = ((j + n : Nat) : Int) := by omega
    by_cases hjn : j + n ≤ t.1
    · obtain ⟨r', rfl⟩ : ∃ r', r = r' + 1 := ⟨r - 1, by omega⟩
      have hlt : ¬ (am_z t.1 < am_z ((j + n : Nat) : Int)) := by rw [am_z_lt (by omega) (by omega) (by omega) (by omega)]; omega
      have ih := m_row hN hR ok hw hi (K2 := K2) r' (j + 1) m (by omega) (by omega)
      have hf := m_from (N := N) (i := i) (j := j) hR ok hw hi hjn (K2 := K2) (K13 := l_X10_shows_13 N K2 m) n 0 N (by omega) (by omega)
      have hs := Em_s (t := t) (x := x) (n := n) (i := i) (j := j)
      unfold l_X10_shows_13
      simp only [(qm_Rw hR).1, am_z_add, e5, if_neg hlt, am_z_lit]
      by_cases q : Bm t x n i j 0
      · have hf1 : l_X10_shows_30 N K2 (l_X10_shows_13 N K2 m) N x (am_z n) (am_z i) (am_z j) (am_z 1) (am_z 0) h2 = _ := hf.1 q
        rw [hf1]
        exact ⟨fun _ => rfl, fun h => absurd (hs.mpr (Or.inl ⟨hjn, q⟩)) h⟩
      · have hf1 : l_X10_shows_30 N K2 (l_X10_shows_13 N K2 m) N x (am_z n) (am_z i) (am_z j) (am_z 1) (am_z 0) h2 = _ := hf.2 q
        rw [hf1]
        refine ⟨fun h => ih.1 ?_, fun h => ih.2 (fun z => h (hs.mpr (Or.inr z)))⟩
        rcases hs.mp h with z | z
        · exact absurd z.2 q
        · exact z
    · have hlt : am_z t.1 < am_z ((j + n : Nat) : Int) := by rw [am_z_lt (by omega) (by omega) (by omega) (by omega)]; omega
      unfold l_X10_shows_13
      simp only [(qm_Rw hR).1, am_z_add, e5, if_pos hlt, am_z_lit, e3]
      exact ⟨fun ⟨j', a, b, _⟩ => by omega, fun _ => trivial⟩
/-- the screen shows the word, from row i on -/
def Sm (t : qc_T) (x : Int32) (n i : Nat) : Prop := ∃ i', i ≤ i' ∧ i' < t.2.1 ∧ Em t x n i' 0
theorem c_shows {t : qc_T} {h1 : am_Hp} {x : Int32} {n : Nat} (hN : 1000 ≤ N) (hR : qc_R 161 162 h1 t) (ok : qc_OK t) (hw : gW x n) : ∀ (r i m : Nat), i + r = t.2.1 → r < m → (Sm t x n i → l_X4_showsWord_2 N m 161 x (am_z i) h1 = some (am_z 1, h1)) ∧ (¬ Sm t x n i → l_X4_showsWord_2 N m 161 x (am_z i) h1 = some (am_z 0, h1))
  | r, i, 0, _, h => by omega
  | 0, i, m + 1, e, _ => by
    have ei : i = t.2.1 := by omega
    subst ei
    refine ⟨fun ⟨i', a, b, _⟩ => by omega, fun _ => ?_⟩
    unfold l_X4_showsWord_2
    simp only [(qc_O1 (o := 161) (p := 162) (Or.inl ⟨rfl, rfl⟩)).1, cond_true, (qc_Rw hR).2.1, if_pos (Int32.le_refl _), am_z_lit, am_z_and0, if_true]
  | r + 1, i, m + 1, e, hm => by
    have o := qc_OKw ok
    have hlt : ¬ (am_z t.2.1 ≤ am_z i) := by rw [am_z_le (by omega) (by omega) (by omega) (by omega)]; omega
    have ih := c_shows hN hR ok hw r (i + 1) m (by omega) (by omega)
    have hf := c_row (N := N) (i := i) hN hR ok hw (by omega) (K2 := l_X4_showsWord_2 N m) t.1 0 N (by omega) (by omega)
    unfold l_X4_showsWord_2
    simp only [(qc_O1 (o := 161) (p := 162) (Or.inl ⟨rfl, rfl⟩)).1, cond_true, (qc_Rw hR).2.1, if_neg hlt, am_z_lit]
    by_cases q : Em t x n i 0
    · have hf1 : l_X4_showsWord_12 N (l_X4_showsWord_2 N m) N 161 x (am_z i) (am_z 0) h1 = _ := hf.1 q
      rw [hf1]
      exact ⟨fun _ => rfl, fun h => absurd ⟨i, Nat.le_refl _, by omega, q⟩ h⟩
    · have hf1 : l_X4_showsWord_12 N (l_X4_showsWord_2 N m) N 161 x (am_z i) (am_z 0) h1 = _ := hf.2 q
      rw [hf1]
      refine ⟨fun ⟨i', a, b, c⟩ => ih.1 ⟨i', ?_, b, c⟩, fun h => ih.2 (fun ⟨i', a, b, c⟩ => h ⟨i', by omega, b, c⟩)⟩
      by_cases qi : i' = i
      · subst qi; exact absurd c q
      · omega
theorem m_shows {t : qc_T} {h2 : am_Hp} {x : Int32} {n : Nat} (hN : 1000 ≤ N) (hR : qm_R h2 t) (ok : qc_OK t) (hw : gW x n) : ∀ (r i m : Nat), i + r = t.2.1 → r < m → (Sm t x n i → l_X10_shows_2 N m x (am_z n) (am_z i) h2 = some (am_z 1, h2)) ∧ (¬ Sm t x n i → l_X10_shows_2 N m x (am_z n) (am_z i) h2 = some (am_z 0, h2))
  | r, i, 0, _, h => by omega
  | 0, i, m + 1, e, _ => by
    have ei : i = t.2.1 := by omega
    subst ei
    refine ⟨fun ⟨i', a, b, _⟩ => by omega, fun _ => ?_⟩
    unfold l_X10_shows_2
    simp only [(qm_Rw hR).2.1, if_pos (Int32.le_refl _), am_z_lit, am_z_and0, if_true]
  | r + 1, i, m + 1, e, hm => by
    have o := qc_OKw ok
    have hlt : ¬ (am_z t.2.1 ≤ am_z i) := by rw [am_z_le (by omega) (by omega) (by omega) (by omega)]; omega
    have ih := m_shows hN hR ok hw r (i + 1) m (by omega) (by omega)
    have hf := m_row (N := N) (i := i) hN hR ok hw (by omega) (K2 := l_X10_shows_2 N m) t.1 0 N (by omega) (by omega)
    unfold l_X10_shows_2
    simp only [(qm_Rw hR).2.1, if_neg hlt, am_z_lit]
    by_cases q : Em t x n i 0
    · have hf1 : l_X10_shows_13 N (l_X10_shows_2 N m) N x (am_z n) (am_z i) (am_z 0) h2 = _ := hf.1 q
      rw [hf1]
      exact ⟨fun _ => rfl, fun h => absurd ⟨i, Nat.le_refl _, by omega, q⟩ h⟩
    · have hf1 : l_X10_shows_13 N (l_X10_shows_2 N m) N x (am_z n) (am_z i) (am_z 0) h2 = _ := hf.2 q
      rw [hf1]
      refine ⟨fun ⟨i', a, b, c⟩ => ih.1 ⟨i', ?_, b, c⟩, fun h => ih.2 (fun ⟨i', a, b, c⟩ => h ⟨i', by omega, b, c⟩)⟩
      by_cases qi : i' = i
      · subst qi; exact absurd c q
      · omega
end SHOW
