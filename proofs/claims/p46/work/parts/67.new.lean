section NEWC
variable {N nS nU : Nat} {hc hm : am_Hp}
theorem m_new53 : ∀ (k i n : Nat) (h : am_Hp), i + k = 4 → k < n → ∃ h', l_X10_newConsoles_53 N n (am_z i) h = some ((), h') ∧ (∀ a, a ≠ 197 → h' a = h a) ∧ (∀ s, i ≤ s → s < 4 → h' 197 (56 + 1504 * s) = am_z (-1) ∧ h' 197 (57 + 1504 * s) = am_z (-1)) ∧ ∀ k, (∀ s, i ≤ s → s < 4 → k ≠ 56 + 1504 * s ∧ k ≠ 57 + 1504 * s) → h' 197 k = h 197 k
  | k, i, 0, h, _, hx => by omega
  | 0, i, n + 1, h, hi, _ => by
    have e1 : i = 4 := by omega
    subst e1
    refine ⟨h, ?_, fun _ _ => rfl, fun s p q => by omega, fun _ _ => rfl⟩
    unfold l_X10_newConsoles_53
    rw [if_pos (by decide)]
  | k + 1, i, n + 1, h, hi, hx => by
    have i4 : i < 4 := by omega
    have e4 : (i : Int) + 1 = ((i + 1 : Nat) : Int) := by omega
    have z : ¬ (am_z 4 ≤ am_z (i : Int)) := by rw [am_z_le (by omega) (by omega) (by omega) (by omega)]; omega
    obtain ⟨h', p1, p2, p3, p4⟩ := m_new53 k (i + 1) n (am_pi (am_pi h 197 (56 + 1504 * i) (am_z (-1))) 197 (57 + 1504 * i) (am_z (-1))) (by omega) (by omega)
    refine ⟨h', ?_, fun a ha => by rw [p2 a ha, qc_pia ha, qc_pia ha], fun s q r => ?_, fun k hk => ?_⟩
    · unfold l_X10_newConsoles_53
      simp only [am_z_lit, am_z_neg, if_neg z, w_s1 i4, w_s2 i4, am_bi_s, am_z_add, e4]
      exact p1
    · by_cases w : s = i
      · subst w
        rw [p4 _ (fun s' q' r' => by omega), p4 _ (fun s' q' r' => by omega), am_pi_k (by omega), am_pi_s, am_pi_s]
        exact ⟨rfl, rfl⟩
      · exact p3 s (by omega) r
    · have := hk i (Nat.le_refl _) i4
      rw [p4 k (fun s q r => hk s (by omega) r), am_pi_k this.2, am_pi_k this.1]
theorem m_new23 : ∀ (k i n : Nat) (h : am_Hp), i + k = 6071 → k < n → l_X10_newConsoles_23 N n (am_z i) h = l_X10_newConsoles_53 N N (am_z 0) (am_pi (qm_map 197 i 6071 (fun _ => am_z 0) h) 197 0 (am_z 10))
  | k, i, 0, h, _, hx => by omega
  | 0, i, n + 1, h, hi, _ => by
    have e1 : i = 6071 := by omega
    have j0 : am_in (am_z 0) 6071 = true := by decide
    have z : am_z 6071 ≤ am_z (i : Int) := by rw [am_z_le (by omega) (by omega) (by omega) (by omega)]; omega
    rw [l_X10_newConsoles_23]
    simp only [am_z_lit, if_pos z, j0, cond_true]
    rw [e1, qm_map_0]
  | k + 1, i, n + 1, h, hi, hx => by
    have e4 : (i : Int) + 1 = ((i + 1 : Nat) : Int) := by omega
    have i1 : am_in (am_z (i : Int)) 6071 = true := m_in (by omega) (by decide)
    have z : ¬ (am_z 6071 ≤ am_z (i : Int)) := by rw [am_z_le (by omega) (by omega) (by omega) (by omega)]; omega
    rw [l_X10_newConsoles_23]
    simp (disch := omega) only [am_z_lit, if_neg z, i1, cond_true, am_z_cl, Int.toNat_natCast, am_z_add, e4]
    rw [m_new23 k (i + 1) n _ (by omega) (by omega), qm_map_v (g := fun _ => am_z 0) (i := i) (by omega) rfl]
theorem m_new2 : ∀ (k i n : Nat) (h : am_Hp), i + k = 20 → k < n → l_X10_newConsoles_2 N n (am_z i) h = l_X10_newConsoles_23 N N (am_z 0) (qm_map 195 i 20 (fun _ => am_z 0) h)
  | k, i, 0, h, _, hx => by omega
  | 0, i, n + 1, h, hi, _ => by
    have e1 : i = 20 := by omega
    have z : am_z 20 ≤ am_z (i : Int) := by rw [am_z_le (by omega) (by omega) (by omega) (by omega)]; omega
    rw [l_X10_newConsoles_2]
    simp only [am_z_lit, if_pos z]
    rw [e1, qm_map_0]
  | k + 1, i, n + 1, h, hi, hx => by
    have e4 : (i : Int) + 1 = ((i + 1 : Nat) : Int) := by omega
    have i1 : am_in (am_z (i : Int)) 20 = true := m_in (by omega) (by decide)
    have z : ¬ (am_z 20 ≤ am_z (i : Int)) := by rw [am_z_le (by omega) (by omega) (by omega) (by omega)]; omega
    rw [l_X10_newConsoles_2]
    simp (disch := omega) only [am_z_lit, if_neg z, i1, cond_true, am_z_cl, Int.toNat_natCast, am_z_add, e4]
    rw [m_new2 k (i + 1) n _ (by omega) (by omega), qm_map_v (g := fun _ => am_z 0) (i := i) (by omega) rfl]
theorem m_newC (hN : 60000 ≤ N) : ∃ h', f_X10_newConsoles N hm = some ((), h') ∧ (∀ a, a ≠ 195 → a ≠ 197 → h' a = hm a) ∧ (∀ k, k < 20 → h' 195 k = am_z 0) ∧ h' 197 0 = am_z 10 ∧ h' 197 1 = am_z 0 ∧ nB 0 (h' 197) := by
  obtain ⟨h', p1, p2, p3, p4⟩ := m_new53 (N := N) 4 0 N (am_pi (qm_map 197 0 6071 (fun _ => am_z 0) (qm_map 195 0 20 (fun _ => am_z 0) hm)) 197 0 (am_z 10)) (by omega) (by omega)
  have s1 := m_new2 (N := N) 20 0 N hm (by omega) (by omega)
  have s2 := m_new23 (N := N) 6071 0 N (qm_map 195 0 20 (fun _ => am_z 0) hm) (by omega) (by omega)
  refine ⟨h', ?_, fun a h1 h2 => by rw [p2 a h2, qc_pia h2, qm_map_a h2, qm_map_a h1], fun k hk => ?_, ?_, ?_, fun s hs => p3 s (Nat.zero_le _) hs, fun k h1 h2 h3 h4 => ?_⟩
  · unfold f_X10_newConsoles
    exact s1.trans (s2.trans p1)
  · rw [p2 195 (by decide), am_pi_a (by decide), qm_map_a (by decide), qm_map_p (by omega)]
  · rw [p4 0 (fun s q r => by omega), am_pi_s]
  · rw [p4 1 (fun s q r => by omega), am_pi_k (by decide), qm_map_p (by omega)]
  · rw [p4 k (fun s q r => h3 s r), am_pi_k (by omega), qm_map_p (by omega)]
-- ---- the class: things are copied
theorem c_cpTL {T T' a most : Nat} (hT : tO T) (hT' : tO T') (hd : T + 4 ≤ T' ∨ T' + 4 ≤ T) (ha : a ≤ most) (hm6 : most ≤ 6) : ∀ (k i n : Nat) (h : am_Hp), i + k = a → k < n → h T 0 = am_z most → h T 4 = am_z i → h T' 4 = am_z a → ∃ h', l_X8_copyFrom_7 N n T T' (am_z i) h = some ((), h') ∧ h' T 4 = am_z a ∧ (∀ x, x ≠ T → ¬ (T + 1 ≤ x ∧ x ≤ T + 3) → h' x = h x) ∧ (∀ k, k ≠ 4 → h' T k = h T k) ∧ (∀ j k, 1 ≤ j → j ≤ 3 → i ≤ k → k < a → h' (T + j) k = h (T' + j) k) ∧ ∀ j k, 1 ≤ j → j ≤ 3 → k < i → h' (T + j) k = h (T + j) k
  | k, i, 0, h, _, hx, _, _, _ => by omega
  | 0, i, n + 1, h, hi, _, h0, h4, h4' => by
    obtain ⟨g1, g2, g3, g4, g5, g6, g7, g8, g9, g10⟩ := tO_f hT'
    have e1 : i = a := by omega
    subst e1
    refine ⟨h, ?_, h4, fun _ _ _ => rfl, fun _ _ => rfl, fun j k _ _ p q => by omega, fun _ _ _ _ _ => rfl⟩
    unfold l_X8_copyFrom_7
    simp only [g1, cond_true, h4', if_pos (Int32.le_refl _)]
  | k + 1, i, n + 1, h, hi, hx, h0, h4, h4' => by
    obtain ⟨g1, g2, g3, g4, g5, g6, g7, g8, g9, g10⟩ := tO_f hT'
    have i1 : am_in (am_z (i : Int)) 6 = true := m_in (by omega) (by decide)
    have e4 : (i : Int) + 1 = ((i + 1 : Nat) : Int) := by omega
    have z : ¬ (am_z (a : Int) ≤ am_z (i : Int)) := by rw [am_z_le (by omega) (by omega) (by omega) (by omega)]; omega
    have z2 : ¬ (am_z ((6 : Nat) : Int) ≤ am_z (i : Int)) := by rw [am_z_le (by omega) (by omega) (by omega) (by omega)]; omega
    have ad := c_add (N := N) (h := h) (x := h (T' + 1) i) (w := h (T' + 2) i) (t := h (T' + 3) i) hT h0 h4 (show i < most by omega) hm6
    obtain ⟨h', p1, p2, p3, p4, p5, p6⟩ := c_cpTL hT hT' hd ha hm6 k (i + 1) n (am_pi (am_pi (am_pi (am_pi h (T + 1) i (h (T' + 1) i)) (T + 2) i (h (T' + 2) i)) (T + 3) i (h (T' + 3) i)) T 4 (am_z ((i + 1 : Nat) : Int))) (by omega) (by omega) (by rw [am_pi_k (by decide), am_pi_a (by omega), am_pi_a (by omega), am_pi_a (by omega)]; exact h0) (am_pi_s _ _ _ _) (by rw [am_pi_a (by omega), am_pi_a (by omega), am_pi_a (by omega), am_pi_a (by omega)]; exact h4')
    refine ⟨h', ?_, p2, fun x q r => ?_, fun k q => ?_, fun j k q r s t => ?_, fun j k q r s => ?_⟩
    · unfold l_X8_copyFrom_7
      simp (disch := omega) only [g1, cond_true, h4', if_neg z, g2, g3, g4, Option.bind_some, g5, g6, g7, Bool.true_or, g8, g9, g10, am_z_nat, if_neg z2, i1, (tO_f hT).1, am_z_cl, Int.toNat_natCast, ad, am_bi_s, am_z_lit, am_z_add, e4]
      exact p1
    · rw [p3 x q r, qc_pia q, qc_pia (by omega), qc_pia (by omega), qc_pia (by omega)]
    · rw [p4 k q, am_pi_k q, am_pi_a (by omega), am_pi_a (by omega), am_pi_a (by omega)]
    · by_cases w : k = i
      · subst w
        rw [p6 j _ q r (by omega), am_pi_a (by omega)]
        have : j = 1 ∨ j = 2 ∨ j = 3 := by omega
        rcases this with rfl | rfl | rfl
        · rw [am_pi_a (by omega), am_pi_a (by omega), am_pi_s]
        · rw [am_pi_a (by omega), am_pi_s]
        · rw [am_pi_s]
      · rw [p5 j k q r (by omega) t, am_pi_a (by omega), am_pi_a (by omega), am_pi_a (by omega), am_pi_a (by omega)]
    · rw [p6 j k q r (by omega), am_pi_a (by omega), am_pi_ap, if_neg (by omega), am_pi_ap, if_neg (by omega), am_pi_ap, if_neg (by omega)]
theorem c_cpT {T T' a most : Nat} {h : am_Hp} (hN : 1000 ≤ N) (hT : tO T) (hT' : tO T') (hd : T + 4 ≤ T' ∨ T' + 4 ≤ T) (ha : a ≤ most) (hm6 : most ≤ 6) (h0 : h T 0 = am_z most) (h4 : h T' 4 = am_z a) : ∃ h', f_X8_copyFrom N T T' h = some ((), h') ∧ h' T 4 = am_z a ∧ (∀ x, x ≠ T → ¬ (T + 1 ≤ x ∧ x ≤ T + 3) → h' x = h x) ∧ (∀ k, k ≠ 4 → h' T k = h T k) ∧ ∀ j k, 1 ≤ j → j ≤ 3 → k < a → h' (T + j) k = h (T' + j) k := by
  obtain ⟨h', p1, p2, p3, p4, p5, p6⟩ := c_cpTL (N := N) hT hT' hd ha hm6 a 0 N (am_pi h T 4 (am_z 0)) (by omega) (by omega) (by rw [am_pi_k (by decide)]; exact h0) (am_pi_s _ _ _ _) (by rw [am_pi_a (by omega)]; exact h4)
  refine ⟨h', ?_, p2, fun x q r => by rw [p3 x q r, qc_pia q], fun k q => by rw [p4 k q, am_pi_k q], fun j k q r s => by rw [p5 j k q r (Nat.zero_le _) s, am_pi_a (by omega)]⟩
  unfold f_X8_copyFrom
  simp only [(tO_f hT).1, cond_true, am_z_lit]
  exact p1
-- ---- the class: the state starts anew
theorem c_rsD {a : Nat} {h : am_Hp} (ha : am_isO a 0 = true) : f_X0_restart N a h = some ((), am_pi (am_pi (am_pi (am_pi h a 0 (am_z 0)) a 1 (am_z (-1))) a 2 (am_z (-1))) a 3 (am_z 0)) := by
  unfold f_X0_restart
  simp only [ha, cond_true, am_z_lit, am_z_neg]
theorem c_rsU {a : Nat} {h : am_Hp} {w t : Int32} (ha : am_isO a 5 = true) : ∃ h', f_X5_restart N a w t h = some ((), h') ∧ (∀ x, x ≠ a → h' x = h x) ∧ h' a 0 = w ∧ h' a 1 = t ∧ ∀ k, 2 ≤ k → k < 8 → h' a k = am_z 0 := by
  refine ⟨am_pi (am_pi (am_pi (am_pi (am_pi (am_pi (am_pi (am_pi h a 0 w) a 1 t) a 2 (am_z 0)) a 3 (am_z 0)) a 4 (am_z 0)) a 5 (am_z 0)) a 6 (am_z 0)) a 7 (am_z 0), ?_, fun x hx => ?_, ?_, ?_, fun k h1 h2 => ?_⟩
  · unfold f_X5_restart
    simp only [ha, cond_true, am_z_lit]
  · rw [qc_pia hx, qc_pia hx, qc_pia hx, qc_pia hx, qc_pia hx, qc_pia hx, qc_pia hx, qc_pia hx]
  · rw [am_pi_k (by decide), am_pi_k (by decide), am_pi_k (by decide), am_pi_k (by decide), am_pi_k (by decide), am_pi_k (by decide), am_pi_k (by decide), am_pi_s]
  · rw [am_pi_k (by decide), am_pi_k (by decide), am_pi_k (by decide), am_pi_k (by decide), am_pi_k (by decide), am_pi_k (by decide), am_pi_s]
  · have : k = 2 ∨ k = 3 ∨ k = 4 ∨ k = 5 ∨ k = 6 ∨ k = 7 := by omega
    rcases this with rfl | rfl | rfl | rfl | rfl | rfl
    · rw [am_pi_k (by decide), am_pi_k (by decide), am_pi_k (by decide), am_pi_k (by decide), am_pi_k (by decide), am_pi_s]
    · rw [am_pi_k (by decide), am_pi_k (by decide), am_pi_k (by decide), am_pi_k (by decide), am_pi_s]
    · rw [am_pi_k (by decide), am_pi_k (by decide), am_pi_k (by decide), am_pi_s]
    · rw [am_pi_k (by decide), am_pi_k (by decide), am_pi_s]
    · rw [am_pi_k (by decide), am_pi_s]
    · rw [am_pi_s]
theorem c_szU {h : am_Hp} {i b : Nat} (h4 : h 19 4 = am_z b) (hb : b ≤ 6) (hi : i < 6) : ∃ w t, (∀ g, g 19 = h 19 → g 20 = h 20 → g 21 = h 21 → g 22 = h 22 → f_X8_sizeOf N 19 (am_z i) (am_z 0) g = some (w, g) ∧ f_X8_sizeOf N 19 (am_z i) (am_z 1) g = some (t, g)) ∧ (i < b → w = h 21 i ∧ t = h 22 i) := by
  have g1 := g_th.2.1
  obtain ⟨q1, q2, q3, q4, q5, q6, q7, q8, q9, q10⟩ := tO_f (T := 19) (by unfold tO; decide)
  have i1 : am_in (am_z (i : Int)) 6 = true := m_in hi (by decide)
  by_cases q : i < b
  · refine ⟨h 21 i, h 22 i, fun g e1 e2 e3 e4 => ?_, fun _ => ⟨rfl, rfl⟩⟩
    have hs := c_has19 (N := N) (h := g) (by rw [e1]; exact h4) hb q
    have j1 : am_isI 21 = true := q6
    have j2 : am_isI 22 = true := q7
    have k1 : am_len 21 = 6 := q9
    have k2 : am_len 22 = 6 := q10
    have r1 : am_G 19 2 = some 21 := q3
    have r2 : am_G 19 3 = some 22 := q4
    unfold f_X8_sizeOf
    simp (disch := omega) only [am_z_lit, g1, cond_true, hs, am_bi_s, if_neg z_10, if_true, r1, r2, Option.bind_some, j1, j2, k1, k2, i1, am_z_cl, Int.toNat_natCast, e3, e4]
    exact ⟨trivial, trivial⟩
  · refine ⟨am_z 0, am_z 0, fun g e1 e2 e3 e4 => ?_, fun z => absurd z q⟩
    have hs := c_has19n (N := N) (h := g) (v := (i : Int)) (by rw [e1]; exact h4) hb ⟨by omega, by omega⟩ (by omega)
    unfold f_X8_sizeOf
    simp only [am_z_lit, g1, cond_true, hs, am_bi_s, if_true]
    exact ⟨trivial, trivial⟩
theorem c_rs77 {h0 : am_Hp} {b : Nat} (h4 : h0 19 4 = am_z b) (hb : b ≤ 6) : ∀ (k i n : Nat) (h : am_Hp), i + k = 6 → k < n → (∀ x, 15 ≤ x → x < 23 → h x = h0 x) → ∃ h', l_X6_restart_77 N n 24 19 (am_z i) h = some ((), h') ∧ (∀ a, ¬ (33 + i ≤ a ∧ a < 39) → h' a = h a) ∧ (∀ u, i ≤ u → u < 6 → ∀ k, 2 ≤ k → k < 8 → h' (33 + u) k = am_z 0) ∧ ∀ u, i ≤ u → u < b → h' (33 + u) 0 = h0 21 u ∧ h' (33 + u) 1 = h0 22 u
  | k, i, 0, h, _, hx, _ => by omega
  | 0, i, n + 1, h, hi, _, _ => by
    have e1 : i = 6 := by omega
    subst e1
    refine ⟨h, ?_, fun _ _ => rfl, fun u p q => by omega, fun u p q => by omega⟩
    unfold l_X6_restart_77
    rw [if_pos (by decide)]
  | k + 1, i, n + 1, h, hi, hx, hh => by
    have i6 : i < 6 := by omega
    have e4 : (i : Int) + 1 = ((i + 1 : Nat) : Int) := by omega
    have i1 : am_in (am_z (i : Int)) 6 = true := m_in i6 (by decide)
    have z : ¬ (am_z 6 ≤ am_z (i : Int)) := by rw [am_z_le (by omega) (by omega) (by omega) (by omega)]; omega
    obtain ⟨f1, f2, f3, f4, f5, f6, f7, f8, f9, f10, f11, f12, f13⟩ := st_f0
    obtain ⟨w, t, c1, c2⟩ := c_szU (N := N) (h := h0) (i := i) h4 hb i6
    obtain ⟨c3, c4⟩ := c1 h (hh 19 (by decide) (by decide)) (hh 20 (by decide) (by decide)) (hh 21 (by decide) (by decide)) (hh 22 (by decide) (by decide))
    obtain ⟨h1, r1, r2, r3, r4, r5⟩ := c_rsU (N := N) (h := h) (w := w) (t := t) (g_u i i6).2
    obtain ⟨h', p1, p2, p3, p4⟩ := c_rs77 h4 hb k (i + 1) n h1 (by omega) (by omega) (fun x h1 h2 => by rw [r2 x (by omega)]; exact hh x h1 h2)
    have g19 : am_isO 19 8 = true := g_th.2.1
    refine ⟨h', ?_, fun a ha => by rw [p2 a (by omega), r2 a (by omega)], fun u q r k s t => ?_, fun u q r => ?_⟩
    · unfold l_X6_restart_77
      simp (disch := omega) only [am_z_lit, if_neg z, f1, cond_true, f5, Option.bind_some, f12, f13, Bool.true_and, i1, am_z_cl, Int.toNat_natCast, (g_u i i6).1, (g_u i i6).2, g19, c3, c4, am_bi_s, r1, am_z_add, e4]
      exact p1
    · by_cases y : u = i
      · subst y
        rw [p2 _ (by omega)]; exact r5 k s t
      · exact p3 u (by omega) r k s t
    · by_cases y : u = i
      · subst y
        rw [p2 _ (by omega), r3, r4]; exact c2 r
      · exact p4 u (by omega) r
theorem c_rs55 (hN : 1000 ≤ N) {h0 : am_Hp} {b : Nat} (h4 : h0 19 4 = am_z b) (hb : b ≤ 6) : ∀ (k i n : Nat) (h : am_Hp), i + k = 4 → k < n → (∀ x, 15 ≤ x → x < 23 → h x = h0 x) → ∃ h', l_X6_restart_55 N n 24 19 (am_z i) h = some ((), h') ∧ (∀ a, ¬ (29 + i ≤ a ∧ a < 39) → h' a = h a) ∧ (∀ s, i ≤ s → s < 4 → h' (29 + s) 0 = am_z 0 ∧ h' (29 + s) 1 = am_z (-1) ∧ h' (29 + s) 2 = am_z (-1)) ∧ (∀ u, u < 6 → ∀ k, 2 ≤ k → k < 8 → h' (33 + u) k = am_z 0) ∧ ∀ u, u < b → h' (33 + u) 0 = h0 21 u ∧ h' (33 + u) 1 = h0 22 u
  | k, i, 0, h, _, hx, _ => by omega
  | 0, i, n + 1, h, hi, _, hh => by
    have e1 : i = 4 := by omega
    subst e1
    obtain ⟨h', p1, p2, p3, p4⟩ := c_rs77 (N := N) h4 hb 6 0 N h (by omega) (by omega) hh
    refine ⟨h', ?_, fun a ha => p2 a (by omega), fun s p q => by omega, fun u hu => p3 u (Nat.zero_le _) hu, fun u hu => p4 u (Nat.zero_le _) hu⟩
    unfold l_X6_restart_55
    rw [if_pos (by decide)]
    exact p1
  | k + 1, i, n + 1, h, hi, hx, hh => by
    have i4 : i < 4 := by omega
    have e4 : (i : Int) + 1 = ((i + 1 : Nat) : Int) := by omega
    have i1 : am_in (am_z (i : Int)) 4 = true := m_in i4 (by decide)
    have z : ¬ (am_z 4 ≤ am_z (i : Int)) := by rw [am_z_le (by omega) (by omega) (by omega) (by omega)]; omega
    obtain ⟨f1, f2, f3, f4, f5, f6, f7, f8, f9, f10, f11, f12, f13⟩ := st_f0
    obtain ⟨h', p1, p2, p3, p4, p5⟩ := c_rs55 hN h4 hb k (i + 1) n (am_pi (am_pi (am_pi (am_pi h (29 + i) 0 (am_z 0)) (29 + i) 1 (am_z (-1))) (29 + i) 2 (am_z (-1))) (29 + i) 3 (am_z 0)) (by omega) (by omega) (fun x h1 h2 => by rw [qc_pia (by omega), qc_pia (by omega), qc_pia (by omega), qc_pia (by omega)]; exact hh x h1 h2)
    refine ⟨h', ?_, fun a ha => by rw [p2 a (by omega), qc_pia (by omega), qc_pia (by omega), qc_pia (by omega), qc_pia (by omega)], fun s q r => ?_, p4, p5⟩
    · unfold l_X6_restart_55
      simp (disch := omega) only [am_z_lit, if_neg z, f1, cond_true, f4, Option.bind_some, f10, f11, Bool.true_and, i1, am_z_cl, Int.toNat_natCast, (g_d i i4).1, (g_d i i4).2.2, c_rsD (N := N) (g_d i i4).2.2, am_bi_s, am_z_add, e4]
      exact p1
    · by_cases y : s = i
      · subst y
        rw [p2 _ (by omega)]
        refine ⟨?_, ?_, ?_⟩
        · rw [am_pi_k (by decide), am_pi_k (by decide), am_pi_k (by decide), am_pi_s]
        · rw [am_pi_k (by decide), am_pi_k (by decide), am_pi_s]
        · rw [am_pi_k (by decide), am_pi_s]
      · exact p3 s (by omega) r
theorem c_rs35 : ∀ (k i n : Nat) (h : am_Hp), i + k = 4 → k < n → l_X6_restart_35 N n 24 19 (am_z i) h = l_X6_restart_55 N N 24 19 (am_z 0) (qm_map 26 i 4 (fun _ => am_z 0) h)
  | k, i, 0, h, _, hx => by omega
  | 0, i, n + 1, h, hi, _ => by
    have e1 : i = 4 := by omega
    subst e1
    rw [l_X6_restart_35, if_pos (by decide), qm_map_0]
    rfl
  | k + 1, i, n + 1, h, hi, hx => by
    have i4 : i < 4 := by omega
    have e4 : (i : Int) + 1 = ((i + 1 : Nat) : Int) := by omega
    have i1 : am_in (am_z (i : Int)) 4 = true := m_in i4 (by decide)
    have z : ¬ (am_z 4 ≤ am_z (i : Int)) := by rw [am_z_le (by omega) (by omega) (by omega) (by omega)]; omega
    obtain ⟨f1, f2, f3, f4, f5, f6, f7, f8, f9, f10, f11, f12, f13⟩ := st_f0
    rw [l_X6_restart_35]
    simp (disch := omega) only [am_z_lit, if_neg z, f1, cond_true, f3, Option.bind_some, f8, f9, Bool.true_and, i1, am_z_cl, Int.toNat_natCast, am_z_add, e4]
    rw [c_rs35 k (i + 1) n _ (by omega) (by omega), qm_map_v (g := fun _ => am_z 0) (i := i) (by omega) rfl]
theorem c_rs7 {h0 : am_Hp} : ∀ (k i n : Nat) (h : am_Hp), i + k = 2 → k < n → h 12 = h0 12 → l_X6_restart_7 N n 24 19 12 (am_z i) h = l_X6_restart_35 N N 24 19 (am_z 0) (qm_map 25 i 2 (h0 12) h)
  | k, i, 0, h, _, hx, _ => by omega
  | 0, i, n + 1, h, hi, _, _ => by
    have e1 : i = 2 := by omega
    subst e1
    rw [l_X6_restart_7, if_pos (by decide), qm_map_0]
    rfl
  | k + 1, i, n + 1, h, hi, hx, hh => by
    have i4 : i < 2 := by omega
    have e4 : (i : Int) + 1 = ((i + 1 : Nat) : Int) := by omega
    have i1 : am_in (am_z (i : Int)) 2 = true := m_in i4 (by decide)
    have z : ¬ (am_z 2 ≤ am_z (i : Int)) := by rw [am_z_le (by omega) (by omega) (by omega) (by omega)]; omega
    have z2 : ¬ (am_z ((2 : Nat) : Int) ≤ am_z (i : Int)) := z
    have k1 : am_isI 12 = true := by decide
    have k2 : am_len 12 = 2 := by decide
    obtain ⟨f1, f2, f3, f4, f5, f6, f7, f8, f9, f10, f11, f12, f13⟩ := st_f0
    rw [l_X6_restart_7]
    simp (disch := omega) only [am_z_lit, if_neg z, k1, k2, Bool.true_or, cond_true, am_z_nat, if_neg z2, f1, f2, Option.bind_some, f6, f7, Bool.true_and, i1, am_z_cl, Int.toNat_natCast, am_z_add, e4]
    rw [c_rs7 (h0 := h0) k (i + 1) n _ (by omega) (by omega) (by rw [qc_pia (by decide)]; exact hh), qm_map_v (g := h0 12) (i := i) (by omega) (by rw [hh])]
theorem c_restart {h : am_Hp} {b : Nat} (hN : 1000 ≤ N) (h4 : h 19 4 = am_z b) (hb : b ≤ 6) : ∃ h', f_X6_restart N 24 19 12 h = some ((), h') ∧ (∀ a, ¬ (24 ≤ a ∧ a < 39) → h' a = h a) ∧ h' 24 0 = am_z 0 ∧ (∀ k, k < 2 → h' 25 k = h 12 k) ∧ (∀ k, k < 4 → h' 26 k = am_z 0) ∧ (∀ s, s < 4 → h' (29 + s) 0 = am_z 0 ∧ h' (29 + s) 1 = am_z (-1) ∧ h' (29 + s) 2 = am_z (-1)) ∧ (∀ u, u < 6 → ∀ k, 2 ≤ k → k < 8 → h' (33 + u) k = am_z 0) ∧ ∀ u, u < b → h' (33 + u) 0 = h 21 u ∧ h' (33 + u) 1 = h 22 u := by
  have s1 := c_rs7 (N := N) (h0 := h) 2 0 N (am_pi h 24 0 (am_z 0)) (by omega) (by omega) (by rw [qc_pia (by decide)])
  have s2 := c_rs35 (N := N) 4 0 N (qm_map 25 0 2 (h 12) (am_pi h 24 0 (am_z 0))) (by omega) (by omega)
  obtain ⟨h', p1, p2, p3, p4, p5⟩ := c_rs55 (N := N) (h0 := h) hN h4 hb 4 0 N (qm_map 26 0 4 (fun _ => am_z 0) (qm_map 25 0 2 (h 12) (am_pi h 24 0 (am_z 0)))) (by omega) (by omega) (fun x h1 h2 => by rw [qm_map_a (by omega), qm_map_a (by omega), qc_pia (by omega)])
  refine ⟨h', ?_, fun a ha => ?_, ?_, fun k hk => ?_, fun k hk => ?_, fun s hs => p3 s (Nat.zero_le _) hs, p4, p5⟩
  · unfold f_X6_restart
    simp only [st_f0.1, cond_true, am_z_lit]
    exact s1.trans (s2.trans p1)
  · rw [p2 a (by omega), qm_map_a (by omega), qm_map_a (by omega), qc_pia (by omega)]
  · rw [p2 24 (by decide), qm_map_a (by decide), qm_map_a (by decide), am_pi_s]
  · rw [p2 25 (by decide), qm_map_a (by decide), qm_map_p (by omega)]
  · rw [p2 26 (by decide), qm_map_p (by omega)]
end NEWC
