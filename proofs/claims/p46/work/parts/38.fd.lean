section FD
variable {N nS nU : Nat} {hc hm : am_Hp}
theorem m_copyL {a0 a1 n0 : Nat} {h0 : am_Hp} (g0 : gm_isI a0 = true) (g1 : gm_isI a1 = true) (l0 : gm_len a0 = n0) (l1 : gm_len a1 = n0) (hne : a0 ≠ a1) (h7 : n0 ≤ 10000) : ∀ (k i n : Nat) (h : am_Hp), i + k = n0 → k < n → h a0 = h0 a0 → l_X10_copies_2 N n a0 a1 (am_z i) h = some ((), qm_map a1 i n0 (h0 a0) h)
  | k, i, 0, h, _, hx, _ => by omega
  | 0, i, n + 1, h, e, _, _ => by
    have e1 : i = n0 := by omega
    subst e1
    unfold l_X10_copies_2
    simp only [g0, Bool.true_or, cond_true, l0, am_z_nat]
    rw [if_pos (Int32.le_refl _), qm_map_0]
  | k + 1, i, n + 1, h, e, h2, hh => by
    have e4 : (i : Int) + 1 = ((i + 1 : Nat) : Int) := by omega
    have i1 : am_in (am_z i) n0 = true := m_in (by omega) (by omega)
    unfold l_X10_copies_2
    simp (disch := omega) only [g0, g1, Bool.true_or, Bool.true_and, cond_true, l0, l1, am_z_nat, am_z_le, i1, am_z_lit, am_z_add, e4, am_z_cl, Int.toNat_natCast]
    rw [if_neg (by omega), m_copyL (h0 := h0) g0 g1 l0 l1 hne h7 k (i + 1) n _ (by omega) (by omega) (by rw [qc_pia hne]; exact hh), qm_map_v (g := h0 a0) (i := i) (by omega) (by rw [hh])]
theorem m_copies {a0 a1 n0 : Nat} {h : am_Hp} (hN : 60000 ≤ N) (g0 : gm_isI a0 = true) (g1 : gm_isI a1 = true) (l0 : gm_len a0 = n0) (l1 : gm_len a1 = n0) (hne : a0 ≠ a1) (h7 : n0 ≤ 10000) : f_X10_copies N a0 a1 h = some ((), qm_map a1 0 n0 (h a0) h) :=
  m_copyL (N := N) (h0 := h) g0 g1 l0 l1 hne h7 n0 0 N h (by omega) (by omega) rfl
theorem q_fdL {t1 t2 : qc_T} {h1 h2 : am_Hp} {i : Nat} (hA : qc_R 161 162 h1 t1) (hB : qc_R 163 164 h1 t2) (k1 : qc_OK t1) (k2 : qc_OK t2) (hM : qm_R h2 t2) (ho : ∀ y x, y < 6 → x < 16 → h2 203 (16 * y + x) = qc_sy t1 y x) (hi : i < 6) {K61 : Int32 → Int32 → Int32 → am_Hp → Option (Option Int32 × am_Hp)} {K70 : Int32 → Int32 → Int32 → am_Hp → Option (Int32 × am_Hp)} {rr cc w4 w5 : Int32} (ew : am_z (min t1.1 t2.1 : Nat) = cc) (ew2 : w4 = am_z t1.1) : ∀ (k j n m : Nat), j + k = min t1.1 t2.1 → k < n → k < m →
    (∃ v, l_X9_firstDifference_71 N K61 n rr cc (am_z i) (am_z j) h1 = some (some v, h1) ∧ l_X10_firstDifference_87 N K70 m w4 w5 (am_z i) (am_z j) h2 = some (v, h2)) ∨ (l_X9_firstDifference_71 N K61 n rr cc (am_z i) (am_z j) h1 = K61 rr cc (am_z ((i + 1 : Nat) : Int)) h1 ∧ l_X10_firstDifference_87 N K70 m w4 w5 (am_z i) (am_z j) h2 = K70 w4 w5 (am_z ((i + 1 : Nat) : Int)) h2)
  | k, j, 0, m, _, hx, _ => by omega
  | k, j, n, 0, _, _, hx => by omega
  | 0, j, n + 1, m + 1, e, _, _ => by
    have o1 := qc_OKw k1
    have o2 := qc_OKw k2
    have e4 : (i : Int) + 1 = ((i + 1 : Nat) : Int) := by omega
    right
    subst ew ew2
    unfold l_X9_firstDifference_71 l_X10_firstDifference_87
    have ej : j = min t1.1 t2.1 := by omega
    have em : (if am_z t2.1 < am_z t1.1 then am_z t2.1 else am_z t1.1) = am_z (min t1.1 t2.1 : Nat) := by
      simp (disch := omega) only [am_z_lt, am_z_min]; congr 1; omega
    simp only [(qm_Rw hM).1, em, ← ej, if_pos (Int32.le_refl _), am_z_lit, am_z_add, e4]
    exact ⟨trivial, trivial⟩
  | k + 1, j, n + 1, m + 1, e, h3, h4 => by
    have o1 := qc_OKw k1
    have o2 := qc_OKw k2
    have e4 : (j : Int) + 1 = ((j + 1 : Nat) : Int) := by omega
    have ih := q_fdL hA hB k1 k2 hM ho hi (K61 := K61) (K70 := K70) (rr := rr) (w5 := w5) ew ew2 k (j + 1) n m (by omega) (by omega) (by omega)
    subst ew ew2
    have em : (if am_z t2.1 < am_z t1.1 then am_z t2.1 else am_z t1.1) = am_z (min t1.1 t2.1 : Nat) := by
      simp (disch := omega) only [am_z_lt, am_z_min]; congr 1; omega
    have hlt : ¬ (am_z (min t1.1 t2.1 : Nat) ≤ am_z j) := by rw [am_z_le (by omega) (by omega) (by omega) (by omega)]; omega
    have e5 : 16 * (i : Int) + j = ((16 * i + j : Nat) : Int) := by omega
    have s2 : h2 200 (16 * i + j) = qc_sy t2 i j := by
      obtain ⟨w, hh, row, col, up, L⟩ := t2
      exact hM.2.2.2.2.2.1 i j hi (by have := o2.2.1; have : j < w := by simp only at e; omega
                                      have : w ≤ 16 := o2.2.1
                                      omega)
    unfold l_X9_firstDifference_71 l_X10_firstDifference_87
    simp (disch := omega) only [(qm_Rw hM).1, em, if_neg hlt, q_symS (Or.inl ⟨rfl, rfl⟩) hA k1 (show i < 100 ∧ j < 100 by omega), q_symS (Or.inr ⟨rfl, rfl⟩) hB k2 (show i < 100 ∧ j < 100 by omega), am_bi_s, am_z_lit, am_z_mul, am_z_add, e5, m_in, cond_true, am_z_cl, Int.toNat_natCast, s2, ho i j hi (show j < 16 by omega), e4]
    by_cases q : qc_sy t1 i j = qc_sy t2 i j
    · simp only [if_pos q, if_pos q.symm]
      exact ih
    · simp only [if_neg q, if_neg (Ne.symm q)]
      exact Or.inl ⟨_, rfl, rfl⟩
theorem q_fdR {t1 t2 : qc_T} {h1 h2 : am_Hp} (hN : 1000 ≤ N) (hA : qc_R 161 162 h1 t1) (hB : qc_R 163 164 h1 t2) (k1 : qc_OK t1) (k2 : qc_OK t2) (hM : qm_R h2 t2) (ho : ∀ y x, y < 6 → x < 16 → h2 203 (16 * y + x) = qc_sy t1 y x) : ∀ (k i n m : Nat), i + k = min t1.2.1 t2.2.1 → k < n → k < m →
    ∃ v, l_X9_firstDifference_61 N n (am_z (min t1.2.1 t2.2.1 : Nat)) (am_z (min t1.1 t2.1 : Nat)) (am_z i) h1 = some (some v, h1) ∧ l_X10_firstDifference_70 N m (am_z t1.1) (am_z t1.2.1) (am_z i) h2 = some (v, h2)
  | k, j, 0, m, _, hx, _ => by omega
  | k, j, n, 0, _, _, hx => by omega
  | 0, i, n + 1, m + 1, e, _, _ => by
    have o1 := qc_OKw k1
    have o2 := qc_OKw k2
    unfold l_X9_firstDifference_61 l_X10_firstDifference_70
    have ej : i = min t1.2.1 t2.2.1 := by omega
    have em : (if am_z t2.2.1 < am_z t1.2.1 then am_z t2.2.1 else am_z t1.2.1) = am_z (min t1.2.1 t2.2.1 : Nat) := by
      simp (disch := omega) only [am_z_lt, am_z_min]; congr 1; omega
    simp only [(qm_Rw hM).2.1, em, ← ej, if_pos (Int32.le_refl _)]
    exact ⟨_, rfl, rfl⟩
  | k + 1, i, n + 1, m + 1, e, h3, h4 => by
    have o1 := qc_OKw k1
    have o2 := qc_OKw k2
    have em : (if am_z t2.2.1 < am_z t1.2.1 then am_z t2.2.1 else am_z t1.2.1) = am_z (min t1.2.1 t2.2.1 : Nat) := by
      simp (disch := omega) only [am_z_lt, am_z_min]; congr 1; omega
    have hlt : ¬ (am_z (min t1.2.1 t2.2.1 : Nat) ≤ am_z i) := by rw [am_z_le (by omega) (by omega) (by omega) (by omega)]; omega
    unfold l_X9_firstDifference_61 l_X10_firstDifference_70
    simp only [(qm_Rw hM).2.1, em, if_neg hlt, am_z_lit]
    have inner := q_fdL (N := N) (i := i) hA hB k1 k2 hM ho (by omega) (K61 := l_X9_firstDifference_61 N n) (K70 := l_X10_firstDifference_70 N m) (rr := am_z (min t1.2.1 t2.2.1 : Nat)) (w5 := am_z t1.2.1) rfl rfl (min t1.1 t2.1) 0 N N (by omega) (by omega) (by omega)
    rcases inner with ⟨v, a1, a2⟩ | ⟨a1, a2⟩
    · exact ⟨v, a1, a2⟩
    · have a1' : l_X9_firstDifference_71 N (l_X9_firstDifference_61 N n) N (am_z (min t1.2.1 t2.2.1 : Nat)) (am_z (min t1.1 t2.1 : Nat)) (am_z i) (am_z 0) h1 = _ := a1
      have a2' : l_X10_firstDifference_87 N (l_X10_firstDifference_70 N m) N (am_z t1.1) (am_z t1.2.1) (am_z i) (am_z 0) h2 = _ := a2
      rw [a1', a2']
      exact q_fdR hN hA hB k1 k2 hM ho k (i + 1) n m (by omega) (by omega) (by omega)
theorem q_firstDifference (hN : 60000 ≤ N) (R : qr_R nS nU hc hm) (x y z : Int32) : pT (f_X9_firstDifference N x y z hc) (f_X10_firstDifference N x y z hm) hc hm := by
  unfold f_X9_firstDifference f_X10_firstDifference
  rcases q_posn (N := N) R x y with ⟨s, q, hs, hq, rfl, rfl, e⟩ | ⟨e1, e2⟩
  · obtain ⟨h1, h2, a1, a2, a3, b1, b2, b3, ok⟩ := q_lay (N := N) (by omega) R hs hq (h := am_pi hm 193 0 (am_z 0)) (thr_e (by decide)) (thr_e (by decide))
    have R1 : qr_R nS nU h1 hm := qr_fr a3 mfr0 R
    rcases q_posn (N := N) R1 (am_z s) z with ⟨s', q', hs', hq', es, rfl, e'⟩ | ⟨e1, e2⟩
    · have n1 := (qr_n R).1
      have : s' = s := by
        rw [am_z_eq (by omega) (by omega) (by omega) (by omega)] at es
        omega
      subst this
      obtain ⟨h3, c1, c2, c3⟩ := c_draw (N := N) (o := 163) (p := 164) (by omega) (Or.inr ⟨rfl, rfl⟩) R1 hs hq'
      have hcp := m_copies (N := N) (a0 := 200) (a1 := 203) (n0 := 96) (h := h2) hN (by decide) (by decide) (by decide) (by decide) (by decide) (by decide)
      generalize hh4 : qm_map 203 0 96 (h2 200) h2 = h4 at hcp
      have e195 : h4 195 = hm 195 := by subst hh4; rw [qm_map_a (by decide), b3.1 _ (by decide) (by decide) (by decide) (by decide)]; exact thr_e (by decide)
      have e197 : h4 197 = hm 197 := by subst hh4; rw [qm_map_a (by decide), b3.1 _ (by decide) (by decide) (by decide) (by decide)]; exact thr_e (by decide)
      obtain ⟨h5, d1, d2, d3⟩ := m_lays (N := N) (h := h4) (by omega) R hs hq' e195 e197
      have w1 : h4 193 9 = am_z (rLay hm s' q).1 := by subst hh4; rw [qm_map_a (by decide)]; exact (qm_Rw b2).1
      have w2 : h4 193 10 = am_z (rLay hm s' q).2.1 := by subst hh4; rw [qm_map_a (by decide)]; exact (qm_Rw b2).2.1
      have hA : qc_R 161 162 h3 (rLay hm s' q) := by
        generalize rLay hm s' q = t at a2
        obtain ⟨w, hh, row, col, up, L⟩ := t
        unfold qc_R qc_D at a2 ⊢
        rw [c3 161 (by decide) (by decide), c3 162 (by decide) (by decide)]
        exact a2
      have ho : ∀ y x, y < 6 → x < 16 → h5 203 (16 * y + x) = qc_sy (rLay hm s' q) y x := by
        intro y x hy hx
        rw [d3.1 203 (by decide) (by decide) (by decide) (by decide)]
        subst hh4
        rw [qm_map_p (by omega)]
        generalize rLay hm s' q = t at b2
        obtain ⟨w, hh, row, col, up, L⟩ := t
        exact b2.2.2.2.2.2.1 y x hy hx
      have ok2 := rLay_ok R hs hq'
      obtain ⟨v, f1, f2⟩ := q_fdR (N := N) (by omega) hA c2 ok ok2 d2 ho (min (rLay hm s' q).2.1 (rLay hm s' q').2.1) 0 N N (by omega) (by have := (qc_OKw ok).2.2.2.1; omega) (by have := (qc_OKw ok).2.2.2.1; omega)
      have o1 := qc_OKw ok
      have o2 := qc_OKw ok2
      have em1 : (if am_z (rLay hm s' q').2.1 < am_z (rLay hm s' q).2.1 then am_z (rLay hm s' q').2.1 else am_z (rLay hm s' q).2.1) = am_z (min (rLay hm s' q).2.1 (rLay hm s' q').2.1 : Nat) := by
        simp (disch := omega) only [am_z_lt, am_z_min]; congr 1; omega
      have em2 : (if am_z (rLay hm s' q').1 < am_z (rLay hm s' q).1 then am_z (rLay hm s' q').1 else am_z (rLay hm s' q).1) = am_z (min (rLay hm s' q).1 (rLay hm s' q').1 : Nat) := by
        simp (disch := omega) only [am_z_lt, am_z_min]; congr 1; omega
      have f1' : l_X9_firstDifference_61 N N (am_z (min (rLay hm s' q).2.1 (rLay hm s' q').2.1 : Nat)) (am_z (min (rLay hm s' q).1 (rLay hm s' q').1 : Nat)) (am_z 0) h3 = _ := f1
      have f2' : l_X10_firstDifference_70 N N (am_z (rLay hm s' q).1) (am_z (rLay hm s' q).2.1) (am_z 0) h5 = _ := f2
      simp only [a1, am_bt_s, c1, (qc_Rw hA).1, (qc_Rw hA).2.1, (qc_Rw c2).1, (qc_Rw c2).2.1, em1, em2, am_z_lit, f1', e, am_bi_s, if_neg z_10, e', m_chk1, b1, hcp, d1, w1, w2, f2']
      refine ⟨_, _, _, _, rfl, rfl, cfrt a3 (cfrs (Or.inr ⟨rfl, rfl⟩) c3), mfrt (mfrp (by omega)) (mfrt (mfrs b3) (mfrt ?_ (mfrs d3))), Or.inr ⟨rfl, ?_⟩⟩
      · subst hh4
        exact ⟨fun a y _ _ _ p => qm_map_a p, fun x y z u v w p q => by rw [qm_map_a (by decide)]⟩
      · rw [d3.2 0 (by decide) (by decide) (by decide) (by decide) (by decide), ← hh4, qm_map_a (by decide), b3.2 0 (by decide) (by decide) (by decide) (by decide) (by decide)]; exact am_pi_s _ _ _ _
    · refine ⟨none, am_z 0, h1, am_pi hm 193 0 (am_z 1), ?_, ?_, a3, mfrp (by omega), Or.inl ⟨rfl, am_pi_s _ _ _ _⟩⟩
      · simp only [a1, am_bt_s, e1, am_bt_n]
      · simp only [e, am_bi_s, am_z_lit, if_neg z_10, e2, if_true, m_chk0]
  · refine pT_n ?_ ?_
    · simp only [e1, am_bt_n]
    · simp only [e2, am_bi_s, m_chk0, am_z_lit, if_true]
end FD
