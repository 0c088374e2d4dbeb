section LOAD
variable {N nS nU : Nat} {hc hm : am_Hp}
theorem c_drs {h : am_Hp} (hN : 1000 ≤ N) : ∃ h', f_X1_restart N h = some ((), h') ∧ (∀ a, a ≠ 4 → a ≠ 8 → a ≠ 12 → a ≠ 13 → h' a = h a) ∧ (∀ k, k ≠ 4 → h' 4 k = h 4 k) ∧ (∀ k, k ≠ 4 → h' 8 k = h 8 k) ∧ h' 4 4 = am_z 0 ∧ h' 8 4 = am_z 0 ∧ h' 12 0 = am_z 10 ∧ h' 12 1 = am_z 0 ∧ h' 13 0 = am_z 0 ∧ h' 13 1 = am_z 0 := by
  obtain ⟨n, hn⟩ : ∃ n, N = n + 3 := ⟨N - 3, by omega⟩
  have x0 : am_sx 205 0 = am_z 10 := by decide
  have x1 : am_sx 205 1 = am_z 0 := by decide
  have j0 : am_in (am_z 0) 2 = true := by decide
  have j1 : am_in (am_z 1) 2 = true := by decide
  have l0 : (am_z 0).toNatClampNeg = 0 := by decide
  have l1 : (am_z 1).toNatClampNeg = 1 := by decide
  have z0 : ¬ (am_z 2 ≤ am_z 0) := by decide
  have z1 : ¬ (am_z 2 ≤ am_z 1) := by decide
  have z2 : am_z 2 ≤ am_z 2 := by decide
  have a1 : am_z 0 + am_z 1 = am_z 1 := by decide
  have a2 : am_z 1 + am_z 1 = am_z 2 := by decide
  refine ⟨am_pi (am_pi (am_pi (am_pi (am_pi (am_pi h 4 4 (am_z 0)) 8 4 (am_z 0)) 12 0 (am_z 10)) 13 0 (am_z 0)) 12 1 (am_z 0)) 13 1 (am_z 0), ?_, fun a p q r s => by rw [qc_pia s, qc_pia r, qc_pia s, qc_pia r, qc_pia q, qc_pia p], fun k p => ?_, fun k p => ?_, ?_, ?_, ?_, ?_, ?_, ?_⟩
  · unfold f_X1_restart
    have e : ∀ g, l_X1_restart_18 N N (am_z 0) g = l_X1_restart_18 N (n + 3) (am_z 0) g := fun g => by rw [← hn]
    simp only [am_z_lit]
    rw [e, l_X1_restart_18]
    simp only [am_z_lit, if_neg z0, j0, cond_true, l0, x0, am_z_and0, a1]
    rw [l_X1_restart_18]
    simp only [am_z_lit, if_neg z1, j1, cond_true, l1, x1, am_z_and0, a2]
    rw [l_X1_restart_18]
    simp only [am_z_lit, if_pos z2]
  · rw [am_pi_a (by decide), am_pi_a (by decide), am_pi_a (by decide), am_pi_a (by decide), am_pi_a (by decide), am_pi_k p]
  · rw [am_pi_a (by decide), am_pi_a (by decide), am_pi_a (by decide), am_pi_a (by decide), am_pi_k p, am_pi_a (by decide)]
  · rw [am_pi_a (by decide), am_pi_a (by decide), am_pi_a (by decide), am_pi_a (by decide), am_pi_a (by decide), am_pi_s]
  · rw [am_pi_a (by decide), am_pi_a (by decide), am_pi_a (by decide), am_pi_a (by decide), am_pi_s]
  · rw [am_pi_a (by decide), am_pi_k (by decide), am_pi_a (by decide), am_pi_s]
  · rw [am_pi_a (by decide), am_pi_s]
  · rw [am_pi_k (by decide), am_pi_a (by decide), am_pi_s]
  · rw [am_pi_s]
/-- a text with an error changes nothing but the buffer -/
theorem q_loadE (R : qr_R nS nU hc hm) {g h : am_Hp} {p : Int32} (f1 : ∀ a, a ≠ 0 → a ≠ 1 → ¬ (4 ≤ a ∧ a ≤ 13) → g a = hc a) (f4 : g 4 0 = hc 4 0) (f8 : g 8 0 = hc 8 0) (g0 : ∀ k, k ≠ 2 → g 0 k = hc 0 k) (g2 : g 0 2 = p) (g11 : g 1 1 = am_z 0)
    (m1 : ∀ k, k < 20 → h 195 k = hm 195 k) (m2 : ∀ k, k < 6071 → h 197 k = hm 197 k) (m3 : h 199 = hm 199) (m4 : h 204 = hm 204) (k2 : h 193 2 = am_z 0) (k8 : h 193 8 = hm 193 8) (k24 : h 193 24 = p) (k30 : h 193 30 = hm 193 30) : qr_R nS nU g h := by
  obtain ⟨n1, n2, -⟩ := qr_n R
  obtain ⟨t, ⟨b1, b2, b3, b4, b5, b6, b7⟩, S, V, y⟩ := R
  have ep : tp h = tp hm := by funext j k; unfold tp; rw [m3]
  refine ⟨?_, ?_, ?_, ?_, ?_⟩
  · obtain ⟨t1, t2, t3, t4, t5, t6, t7, t8, t9, t10, t11, t12⟩ := t
    refine ⟨t1, t2, by rw [f1 15 (by decide) (by decide) (by decide)]; exact t3, by rw [f1 19 (by decide) (by decide) (by decide)]; exact t4, f4.trans t5, f8.trans t6, by rw [f1 15 (by decide) (by decide) (by decide)]; exact t7, by rw [f1 19 (by decide) (by decide) (by decide)]; exact t8, by rw [m1 0 (by decide)]; exact t9, by rw [m1 1 (by decide)]; exact t10, fun i hi => ?_, fun i hi => ?_⟩
    · rw [f1 16 (by decide) (by decide) (by decide), f1 17 (by decide) (by decide) (by decide), f1 18 (by decide) (by decide) (by decide), m1 _ (by omega), m1 _ (by omega), m1 _ (by omega)]
      exact t11 i hi
    · rw [f1 20 (by decide) (by decide) (by decide), m1 _ (by omega)]
      exact t12 i hi
  · have z : nv (g 1 1) = 0 := by rw [g11]; exact nv_z (n := 0) (by decide)
    unfold tB
    rw [z, g0 4 (by decide), f1 14 (by decide) (by decide) (by decide), m4, k30, g2, k24, k2, g11]
    exact ⟨vn_z (n := 0) (by decide) (by decide) (by decide), rfl, fun i hi => absurd hi (Nat.not_lt_zero _), rfl, b5, b6, b7⟩
  · exact sS_r n1 n2 m2 V (sS_same n1 n2 (fun a p q => f1 a (by omega) (by omega) (by omega)) (fun a p q => f1 a (by omega) (by omega) (by omega)) S)
  · exact vV_r n1 n2 m2 V
  · obtain ⟨y1, y2, y3, y4, y5, y6⟩ := y
    unfold tH
    rw [ep, f1 39 (by decide) (by decide) (by decide), k8]
    refine ⟨y1, y2, y3, fun j hj => ⟨sS_same n1 n2 (fun a p q => f1 a (by omega) (by omega) (by omega)) (fun a p q => f1 a (by omega) (by omega) (by omega)) (y4 j hj).1, (y4 j hj).2⟩, fun j s hj hs => ?_, y6⟩
    rw [m2 _ (by omega)]
    exact y5 j s hj hs
/-- a text without an error: everything anew -/
theorem q_loadS (R : qr_R nS nU hc hm) {a b u0 u1 : Nat} {g1 g h : am_Hp} (D : DR a b u0 u1 g1 h) (fo : ∀ x, 14 ≤ x → x < 15 → g x = hc x) (f0 : ∀ k, k ≠ 2 → g 0 k = hc 0 k) (g02 : g 0 2 = am_z (-1)) (g11 : g 1 1 = am_z 0) (f4 : g 4 0 = hc 4 0) (f8 : g 8 0 = hc 8 0)
    (f15 : g 15 0 = hc 15 0) (f19 : g 19 0 = hc 19 0) (g15 : g 15 4 = am_z a) (g19 : g 19 4 = am_z b) (gS : ∀ i, i < a → g 16 i = g1 5 i ∧ g 17 i = g1 6 i ∧ g 18 i = g1 7 i) (gU : ∀ i, i < b → g 20 i = g1 9 i)
    (c24 : g 24 0 = am_z 0) (c25 : ∀ k, k < 2 → g 25 k = g1 12 k) (c26 : ∀ k, k < 4 → g 26 k = am_z 0) (cD : ∀ s, s < 4 → g (29 + s) 0 = am_z 0 ∧ g (29 + s) 1 = am_z (-1) ∧ g (29 + s) 2 = am_z (-1)) (cU : ∀ u, u < 6 → ∀ k, 2 ≤ k → k < 8 → g (33 + u) k = am_z 0) (cW : ∀ u, u < b → g (33 + u) 0 = g1 10 u ∧ g (33 + u) 1 = g1 11 u)
    (g39 : g 39 1 = hc 39 1) (g392 : g 39 2 = am_z 0) (m4 : h 204 = hm 204) (k2 : h 193 2 = am_z 0) (k8 : h 193 8 = am_z 0) (k24 : h 193 24 = am_z (-1)) (k30 : h 193 30 = hm 193 30) : qr_R a b g h := by
  obtain ⟨⟨t1, t2, t3, t4, t5, t6, -⟩, ⟨b1, b2, b3, b4, b5, b6, b7⟩, S, V, ⟨y1, -⟩⟩ := R
  obtain ⟨⟨da, db, dg0, dg1, d40, d80, d44, d84, m0, m1'⟩, dS, dU, ⟨o0, o1, oV, p0, p1, o26⟩, ⟨n1, n2⟩⟩ := D
  have nz : nv (am_z 0) = 0 := nv_z (n := 0) (by decide)
  have z0 : ∀ k, k < 6071 → 2 ≤ k → (∀ s, s < 4 → k ≠ 56 + 1504 * s ∧ k ≠ 57 + 1504 * s) → (∀ u, u < b → k ≠ 7 + 8 * u ∧ k ≠ 8 + 8 * u) → h 197 k = am_z 0 := n2
  have e55 : ∀ s, s < 4 → h 197 (55 + 1504 * s) = am_z 0 := fun s hs => z0 _ (by omega) (by omega) (fun s' hs' => by omega) (fun u hu => by omega)
  have v00 : vn (am_z 0) 0 0 := vn_z (n := 0) (by decide) (by decide) (by decide)
  refine ⟨⟨da, db, f15.trans t3, f19.trans t4, f4.trans t5, f8.trans t6, g15, g19, m0, m1', fun i hi => ?_, fun i hi => ?_⟩, ?_, ⟨?_, ?_, ?_, fun k hk => ?_, fun s hs => ⟨?_, fun x hx => ?_⟩, fun u hu => ?_⟩, ⟨oV, fun s hs => ⟨⟨?_, ?_, ?_⟩, fun x hx => ?_⟩, fun u hu => ?_⟩, ?_⟩
  · obtain ⟨w1, w2, w3, w4, w5⟩ := dS i hi
    obtain ⟨x1, x2, x3⟩ := gS i hi
    exact ⟨x1.trans w1, x2.trans w2, x3.trans w3, w4, w5⟩
  · exact (gU i hi).trans (dU i hi).1
  · have z : nv (g 1 1) = 0 := by rw [g11]; exact nz
    unfold tB
    rw [z, f0 4 (by decide), fo 14 (by decide) (by decide), m4, k30, g02, k24, k2, g11]
    exact ⟨vn_z (n := 0) (by decide) (by decide) (by decide), rfl, fun i hi => absurd hi (Nat.not_lt_zero _), rfl, b5, b6, b7⟩
  · rw [c24, z0 2 (by decide) (by decide) (fun s hs => by omega) (fun u hu => by omega)]
  · exact (c25 0 (by decide)).trans o0
  · exact (c25 1 (by decide)).trans o1
  · have : g 26 k = am_z 0 := c26 k hk
    rw [z0 (3 + k) (by omega) (by omega) (fun s hs => by omega) (fun u hu => by omega)]
    exact this
  · have e29 : 24 + 5 + s = 29 + s := by omega
    obtain ⟨w1, w2, w3⟩ := cD s (by omega)
    obtain ⟨x1, x2⟩ := n1 s (by omega)
    unfold sD
    rw [e29, w1, w2, w3, e55 s (by omega), x1, x2]
    exact ⟨rfl, rfl, rfl, fun z => absurd rfl z⟩
  · rw [e55 s (by omega), nz] at hx
    exact absurd hx (Nat.not_lt_zero _)
  · have e33 : 24 + 9 + u = 33 + u := by omega
    obtain ⟨w1, w2⟩ := cW u hu
    obtain ⟨-, x2, x3, -⟩ := dU u hu
    have e9 : h 197 (9 + 8 * u) = am_z 0 := z0 _ (by omega) (by omega) (fun s hs => by omega) (fun w hw => by omega)
    have e14 : h 197 (14 + 8 * u) = am_z 0 := z0 _ (by omega) (by omega) (fun s hs => by omega) (fun w hw => by omega)
    unfold sU
    rw [e33, w1, w2, x2, x3, cU u (by omega) 2 (by decide) (by decide), cU u (by omega) 7 (by decide) (by decide), e9, e14]
    refine ⟨rfl, rfl, rfl, fun z => absurd rfl z, fun z => ?_, fun z => ?_, rfl⟩
    · rcases z with z | z <;> exact absurd z (by decide)
    · exact absurd z (by decide)
  · rw [e55 s (by omega)]; exact vn_z (n := 0) (by decide) (by decide) (by decide)
  · rw [(n1 s (by omega)).1]; exact Or.inl rfl
  · rw [(n1 s (by omega)).2]; exact Or.inl rfl
  · rw [e55 s (by omega), nz] at hx
    exact absurd hx (Nat.not_lt_zero _)
  · obtain ⟨-, x2, x3, x4, x5⟩ := dU u hu
    have e9 : h 197 (9 + 8 * u) = am_z 0 := z0 _ (by omega) (by omega) (fun s hs => by omega) (fun w hw => by omega)
    have e13 : h 197 (13 + 8 * u) = am_z 0 := z0 _ (by omega) (by omega) (fun s hs => by omega) (fun w hw => by omega)
    have e14 : h 197 (14 + 8 * u) = am_z 0 := z0 _ (by omega) (by omega) (fun s hs => by omega) (fun w hw => by omega)
    unfold vU
    rw [e9, e13, e14]
    refine ⟨x4, x5, vn_z (n := 0) (by decide) (by decide) (by decide), fun z => absurd rfl z, fun z => ?_, fun z => ?_, fun _ => rfl, vn_z (n := 0) (by decide) (by decide) (by decide)⟩
    · rcases z with z | z <;> exact absurd z (by decide)
    · exact absurd z (by decide)
  · unfold tH
    have z2 : nv (g 39 2) = 0 := by rw [g392]; exact nz
    rw [z2, g39, g392, k8]
    exact ⟨y1, vn_z (n := 0) (by decide) (by decide) (by decide), rfl, fun j hj => absurd hj (Nat.not_lt_zero _), fun j s hj => absurd hj (Nat.not_lt_zero _), fun i j s _ hj => absurd hj (Nat.not_lt_zero _)⟩
theorem q_load (hN : 60000 ≤ N) (R : qr_R nS nU hc hm) (x : Int32) : ∃ nS' nU', pD nS' nU' (f_X9_load N x hc) (f_X10_load N x hm) hc hm := by
  obtain ⟨b1, b2, b3, b4, b5, b6, b7⟩ := R.2.1
  obtain ⟨q1, q2, q3⟩ := b1
  generalize hF : nv (hc 1 1) = F at *
  obtain ⟨v, rfl, v1, v2⟩ := am_z_ex x
  have e0 : (am_z v < am_z 0) = (v < 0) := am_z_lt v1 v2 (by omega) (by omega)
  have e1 : (am_z v ≤ am_z (F : Int)) = (v ≤ F) := am_z_le v1 v2 (by omega) (by omega)
  have em : am_pi hm 193 0 (am_z 0) 193 2 = am_z (F : Int) := by rw [am_pi_k (by decide), b2, q1]
  by_cases qa : v < 0
  · refine ⟨nS, nU, pD_no R (v := am_z (-2)) (w := am_z 0) ?_ ?_⟩
    · unfold f_X9_load; simp only [am_z_lit, am_z_neg, e0, if_pos qa]
    · unfold f_X10_load; simp only [am_z_lit, am_z_neg, e0, if_pos qa]
  by_cases qb : v ≤ F
  rotate_left
  · refine ⟨nS, nU, pD_no R (v := am_z (-2)) (w := am_z 0) ?_ ?_⟩
    · unfold f_X9_load; simp only [am_z_lit, am_z_neg, e0, if_neg qa, q1, e1, if_neg qb]
    · unfold f_X10_load; simp only [am_z_lit, am_z_neg, e0, if_neg qa, em, e1, if_neg qb]
  obtain ⟨L, rfl⟩ : ∃ L : Nat, v = L := ⟨v.toNat, by omega⟩
  have hL : L ≤ 600 := by omega
  have hN1 : 1000 ≤ N := by omega
  obtain ⟨t1, t2, t3, t4, t5, t6, -⟩ := R.1
  -- both sides up to the first token
  have bc0 : cB (am_pi (am_pi (am_pi hc 1 2 (am_z (L : Int))) 1 4 (am_z 0)) 1 5 (am_z 0)) L (fun i => nv (hc 2 i)) := by
    refine ⟨hL, by rw [am_pi_k (by decide), am_pi_k (by decide), am_pi_s], fun i hi => ?_⟩
    rw [am_pi_a (by decide), am_pi_a (by decide), am_pi_a (by decide)]
    have := (b3 i (by omega)).2
    exact ⟨this.1, this.2.2⟩
  have I195 : gm_isI 195 = true ∧ gm_isI 196 = true ∧ gm_isI 197 = true ∧ gm_isI 198 = true ∧ gm_len 195 = 20 ∧ gm_len 196 = 20 ∧ gm_len 197 = 6071 ∧ gm_len 198 = 6071 := by decide +kernel
  obtain ⟨i5, i6, i7, i8, j5, j6, j7, j8⟩ := I195
  have cp1 := m_copies (N := N) (h := am_pi hm 193 0 (am_z 0)) hN i5 i6 j5 j6 (by decide) (by decide)
  generalize hM1 : qm_map 196 0 20 (am_pi hm 193 0 (am_z 0) 195) (am_pi hm 193 0 (am_z 0)) = M1 at *
  have cp2 := m_copies (N := N) (h := M1) hN i7 i8 j7 j8 (by decide) (by decide)
  generalize hM2 : qm_map 198 0 6071 (M1 197) M1 = M2 at *
  obtain ⟨M3, w1, w2, w3, w4, w5, w6⟩ := m_newC (N := N) (hm := M2) hN
  have M2a : ∀ a, a ≠ 193 → a ≠ 196 → a ≠ 198 → M2 a = hm a := fun a p q r => by subst hM2; subst hM1; rw [qm_map_a r, qm_map_a q, qc_pia p]
  have M2k : ∀ k, k ≠ 0 → M2 193 k = hm 193 k := fun k p => by subst hM2; subst hM1; rw [qm_map_a (by decide), qm_map_a (by decide), am_pi_k p]
  have M196 : ∀ k, k < 20 → M2 196 k = hm 195 k := fun k hk => by subst hM2; subst hM1; rw [qm_map_a (by decide), qm_map_p (by omega), qc_pia (by decide)]
  have M198 : ∀ k, k < 6071 → M2 198 k = hm 197 k := fun k hk => by subst hM2; subst hM1; rw [qm_map_p (by omega), qm_map_a (by decide), qc_pia (by decide)]
  generalize hM4 : am_pi (am_pi (am_pi (am_pi (am_pi M3 193 17 (am_z (L : Int))) 193 18 (am_z 0)) 193 22 (am_z 0)) 193 25 (am_z 0)) 193 26 (am_z 0) = M4 at *
  have M4a : ∀ a, a ≠ 193 → M4 a = M3 a := fun a p => by subst hM4; rw [qc_pia p, qc_pia p, qc_pia p, qc_pia p, qc_pia p]
  have M4k : ∀ k, k ≠ 17 → k ≠ 18 → k ≠ 22 → k ≠ 25 → k ≠ 26 → M4 193 k = M3 193 k := fun k p q r s t => by subst hM4; rw [am_pi_k t, am_pi_k s, am_pi_k r, am_pi_k q, am_pi_k p]
  have M417 : M4 193 17 = am_z (L : Int) := by subst hM4; rw [am_pi_k (by decide), am_pi_k (by decide), am_pi_k (by decide), am_pi_k (by decide), am_pi_s]
  have M418 : M4 193 18 = am_z 0 := by subst hM4; rw [am_pi_k (by decide), am_pi_k (by decide), am_pi_k (by decide), am_pi_s]
  have M422 : M4 193 22 = am_z 0 := by subst hM4; rw [am_pi_k (by decide), am_pi_k (by decide), am_pi_s]
  have M425 : M4 193 25 = am_z 0 := by subst hM4; rw [am_pi_k (by decide), am_pi_s]
  have M426 : M4 193 26 = am_z 0 := by subst hM4; rw [am_pi_s]
  have bm0 : mB M4 L (fun i => nv (hc 2 i)) := by
    refine ⟨hL, M417, fun i hi => ?_⟩
    rw [M4a 194 (by decide), w2 194 (by decide) (by decide), M2a 194 (by decide) (by decide) (by decide)]
    have := b3 i (by omega)
    exact ⟨this.1.symm.trans this.2.1, this.2.2.2⟩
  obtain ⟨g1, M5, s, e, K, A, X, T, le, fa, fb, fc, fd, bc1, bm1⟩ := q_adv (N := N) (p := 0) hN1 bc0 bm0 (Nat.zero_le _) (am_pi_s _ _ _ _) M418
  obtain ⟨g2, r1, r2, r3, r4, r5, r6, r7, r8, r9, r10⟩ := c_drs (N := N) (h := g1) hN1
  have g1a : ∀ a, a ≠ 1 → g1 a = hc a := fun a p => by rw [fa a p, qc_pia p, qc_pia p, qc_pia p]
  have g11 : g1 1 1 = hc 1 1 := by rw [fb 1 (by decide) (by decide) (by decide), am_pi_k (by decide), am_pi_k (by decide), am_pi_k (by decide)]
  have bc2 : cB g2 L (fun i => nv (hc 2 i)) := ⟨bc1.1, by rw [r2 1 (by decide) (by decide) (by decide) (by decide)]; exact bc1.2.1, fun i hi => by rw [r2 2 (by decide) (by decide) (by decide) (by decide)]; exact bc1.2.2 i hi⟩
  have T2 : TKp L (fun i => nv (hc 2 i)) g2 M5 s e K := TKp_m (r2 1 (by decide) (by decide) (by decide) (by decide)) (fun _ _ _ => rfl) T
  have D0 : DR 0 0 0 0 g2 M5 := by
    refine ⟨⟨by decide, by decide, by decide, by decide, ?_, ?_, r5, r6, ?_, ?_⟩, fun i hi => absurd hi (Nat.not_lt_zero _), fun i hi => absurd hi (Nat.not_lt_zero _), ⟨?_, ?_, ?_, r9, r10, ?_⟩, ?_⟩
    · rw [r3 0 (by decide), g1a 4 (by decide)]; exact t5
    · rw [r4 0 (by decide), g1a 8 (by decide)]; exact t6
    · rw [fc 195 (by decide), M4a 195 (by decide)]; exact w3 0 (by decide)
    · rw [fc 195 (by decide), M4a 195 (by decide)]; exact w3 1 (by decide)
    · rw [r7, fc 197 (by decide), M4a 197 (by decide), w4]
    · rw [r8, fc 197 (by decide), M4a 197 (by decide), w5]
    · rw [fc 197 (by decide), M4a 197 (by decide), w5]; exact vn_z (n := 0) (by decide) (by decide) (by decide)
    · rw [fd 26 (by decide)]; exact M426
    · rw [fc 197 (by decide), M4a 197 (by decide)]; exact w6
  obtain ⟨c, g3, M6, f, x1, x2, x3, x4⟩ := q_readL (N := N) hN1 (L + 1) s e K 0 0 0 0 0 N N g2 M5 (by omega) (by omega) (by omega) bc2 bm1 T2 (by rw [fd 22 (by decide)]; exact M422) D0 (Nat.zero_le _) (by rw [fd 25 (by decide)]; exact M425)
  have x1' : l_X1_read_6 N N (am_z 0) g2 = some (am_z c, g3) := x1
  obtain ⟨y1, y2, y3, y4, y5, y6⟩ := x3
  have G3 : ∀ a, a ≠ 1 → ¬ (4 ≤ a ∧ a ≤ 13) → g3 a = hc a := fun a p q => by rw [y1 a p q, r2 a (by omega) (by omega) (by omega) (by omega), g1a a p]
  have G31 : g3 1 1 = hc 1 1 := by rw [y2 1 (by decide) (by decide) (by decide), r2 1 (by decide) (by decide) (by decide) (by decide), g11]
  have G40 : g3 4 0 = hc 4 0 := by rw [y3, r3 0 (by decide), g1a 4 (by decide)]
  have G80 : g3 8 0 = hc 8 0 := by rw [y4, r4 0 (by decide), g1a 8 (by decide)]
  have M6a : ∀ a, a ≠ 193 → a ≠ 195 → a ≠ 197 → M6 a = M2 a := fun a p q r => by rw [y5 a p q r, fc a p, M4a a p, w2 a q r]
  have M6k : ∀ k, k ≠ 0 → k < 17 ∨ k = 24 ∨ 27 ≤ k → M6 193 k = hm 193 k := fun k p q => by rw [y6 k (by omega) (by omega) (by omega), fd k (by omega), M4k k (by omega) (by omega) (by omega) (by omega) (by omega), w2 193 (by decide) (by decide), M2k k p]
  -- the two calls up to the end of the text
  have cC : ∀ out, (let h4 := am_pi g3 1 1 (am_z 0)
      if am_z 0 ≤ am_z c then
        let h5 := am_pi h4 0 2 (am_z (-1))
        am_bi (f_X8_copyFrom N 15 4 h5) (fun _ h6 => am_bi (f_X8_copyFrom N 19 8 h6) (fun _ h7 => am_bi (f_X6_restart N 24 19 12 h7) (fun _ h8 => am_bi (f_X2_forget N h8) (fun _ h9 => some (am_z c, h9)))))
      else
        let h10 := am_pi h4 0 2 (h4 1 4)
        some (am_z c, h10)) = out → f_X9_load N (am_z (L : Int)) hc = out := by
    intro out ho
    unfold f_X9_load f_X7_open f_X1_read
    simp only [am_z_lit, am_z_neg, e0, if_neg qa, q1, e1, if_pos qb, A, am_bi_s, r1, x1']
    exact ho
  have mC : f_X10_load N (am_z (L : Int)) hm = l_X10_load_75 N (f + 1) M6 := by
    rw [← x2]
    unfold f_X10_load
    simp only [am_z_lit, am_z_neg, e0, if_neg qa, em, e1, if_pos qb, cp1, am_bi_s, cp2, w1, hM4, X]
  rcases x4 with ⟨a', b', g0', g1', n', rfl, hn', z20, z22, D, z25⟩ | ⟨ec1, ec2, z22, z23⟩
  · -- no error
    obtain ⟨⟨da, db, dg0, dg1, d40, d80, d44, d84, m0, m1'⟩, dR⟩ := D
    have D : DR a' b' g0' g1' g3 M6 := ⟨⟨da, db, dg0, dg1, d40, d80, d44, d84, m0, m1'⟩, dR⟩
    have H5 : ∀ a, a ≠ 0 → a ≠ 1 → am_pi (am_pi g3 1 1 (am_z 0)) 0 2 (am_z (-1)) a = g3 a := fun a p q => by rw [qc_pia p, qc_pia q]
    have H502 : am_pi (am_pi g3 1 1 (am_z 0)) 0 2 (am_z (-1)) 0 2 = am_z (-1) := am_pi_s _ _ _ _
    have H50 : ∀ k, k ≠ 2 → am_pi (am_pi g3 1 1 (am_z 0)) 0 2 (am_z (-1)) 0 k = hc 0 k := fun k p => by rw [am_pi_k p, am_pi_a (by decide), G3 0 (by decide) (by decide)]
    have H511 : am_pi (am_pi g3 1 1 (am_z 0)) 0 2 (am_z (-1)) 1 1 = am_z 0 := by rw [am_pi_a (by decide), am_pi_s]
    generalize hh5 : am_pi (am_pi g3 1 1 (am_z 0)) 0 2 (am_z (-1)) = h5 at *
    obtain ⟨h6, a1, a2, a3, a4, a5⟩ := c_cpT (N := N) (T := 15) (T' := 4) (a := a') (most := 4) (h := h5) hN1 (by unfold tO; decide) (by unfold tO; decide) (by decide) da (by decide) (by rw [H5 15 (by decide) (by decide), G3 15 (by decide) (by decide)]; exact t3) (by rw [H5 4 (by decide) (by decide)]; exact d44)
    obtain ⟨h7, p1, p2, p3, p4, p5⟩ := c_cpT (N := N) (T := 19) (T' := 8) (a := b') (most := 6) (h := h6) hN1 (by unfold tO; decide) (by unfold tO; decide) (by decide) db (by decide) (by rw [a3 19 (by decide) (by decide), H5 19 (by decide) (by decide), G3 19 (by decide) (by decide)]; exact t4) (by rw [a3 8 (by decide) (by decide), H5 8 (by decide) (by decide)]; exact d84)
    obtain ⟨h8, s1, s2, s3, s4, s5, s6, s7, s8⟩ := c_restart (N := N) (h := h7) (b := b') hN1 p2 db
    have hA : ∀ a, ¬ (15 ≤ a ∧ a ≤ 22) → ¬ (24 ≤ a ∧ a < 39) → h8 a = h5 a := fun a p q => by rw [s2 a q, p3 a (by omega) (by omega), a3 a (by omega) (by omega)]
    refine ⟨a', b', am_z (n' : Int), am_pi h8 39 2 (am_z 0), am_pi (am_pi (am_pi M6 193 2 (am_z 0)) 193 24 (am_z (-1))) 193 8 (am_z 0), cC _ ?_, ?_, ?_, fun a ha => ?_, fun a ha => ?_⟩
    · have z : am_z 0 ≤ am_z (n' : Int) := by rw [am_z_le (by omega) (by omega) (by omega) (by omega)]; omega
      simp only [if_pos z, hh5, a1, am_bi_s, p1, s1]
      unfold f_X2_forget
      simp only [am_bi_s, am_z_lit]
    · rw [mC, l_X10_load_75]
      simp (disch := decide) only [am_z_lit, am_z_neg, z22, if_true, z20, am_pi_k, z25]
    · refine q_loadS R (a := a') (b := b') (u0 := g0') (u1 := g1') (g1 := g3) ?_ (fun x p q => ?_) (fun k p => ?_) ?_ ?_ ?_ ?_ ?_ ?_ ?_ ?_ (fun i hi => ?_) (fun i hi => ?_) ?_ (fun k hk => ?_) (fun k hk => ?_) (fun s hs => ?_) (fun u hu k p q => ?_) (fun u hu => ?_) ?_ (am_pi_s _ _ _ _) ?_ ?_ (am_pi_s _ _ _ _) ?_ ?_
      · exact DR_fr (fun _ _ _ => rfl) (by rw [qc_pia (by decide), qc_pia (by decide), qc_pia (by decide)]) (by rw [qc_pia (by decide), qc_pia (by decide), qc_pia (by decide)]) (by rw [am_pi_k (by decide), am_pi_k (by decide), am_pi_k (by decide)]) D
      · rw [qc_pia (by omega), hA x (by omega) (by omega), H5 x (by omega) (by omega), G3 x (by omega) (by omega)]
      · rw [qc_pia (by decide), hA 0 (by decide) (by decide)]; exact H50 k p
      · rw [qc_pia (by decide), hA 0 (by decide) (by decide)]; exact H502
      · rw [qc_pia (by decide), hA 1 (by decide) (by decide)]; exact H511
      · rw [qc_pia (by decide), hA 4 (by decide) (by decide), H5 4 (by decide) (by decide)]; exact G40
      · rw [qc_pia (by decide), hA 8 (by decide) (by decide), H5 8 (by decide) (by decide)]; exact G80
      · rw [qc_pia (by decide), s2 15 (by decide), p3 15 (by decide) (by decide), a4 0 (by decide), H5 15 (by decide) (by decide), G3 15 (by decide) (by decide)]
      · rw [qc_pia (by decide), s2 19 (by decide), p4 0 (by decide), a3 19 (by decide) (by decide), H5 19 (by decide) (by decide), G3 19 (by decide) (by decide)]
      · rw [qc_pia (by decide), s2 15 (by decide), p3 15 (by decide) (by decide)]; exact a2
      · rw [qc_pia (by decide), s2 19 (by decide)]; exact p2
      · have u1 := a5 1 i (by decide) (by decide) hi
        have u2 := a5 2 i (by decide) (by decide) hi
        have u3 := a5 3 i (by decide) (by decide) hi
        rw [qc_pia (by decide), qc_pia (by decide), qc_pia (by decide), s2 16 (by decide), s2 17 (by decide), s2 18 (by decide), p3 16 (by decide) (by decide), p3 17 (by decide) (by decide), p3 18 (by decide) (by decide), ← H5 5 (by decide) (by decide), ← H5 6 (by decide) (by decide), ← H5 7 (by decide) (by decide)]
        exact ⟨u1, u2, u3⟩
      · have u1 := p5 1 i (by decide) (by decide) hi
        rw [qc_pia (by decide), s2 20 (by decide), ← H5 9 (by decide) (by decide), ← a3 9 (by decide) (by decide)]
        exact u1
      · rw [qc_pia (by decide)]; exact s3
      · rw [qc_pia (by decide), s4 k hk, p3 12 (by decide) (by decide), a3 12 (by decide) (by decide), H5 12 (by decide) (by decide)]
      · rw [qc_pia (by decide)]; exact s5 k hk
      · rw [qc_pia (by omega)]; exact s6 s hs
      · rw [qc_pia (by omega)]; exact s7 u hu k p q
      · have u1 := p5 2 u (by decide) (by decide) hu
        have u2 := p5 3 u (by decide) (by decide) hu
        rw [qc_pia (by omega), (s8 u hu).1, (s8 u hu).2, ← H5 10 (by decide) (by decide), ← H5 11 (by decide) (by decide), ← a3 10 (by decide) (by decide), ← a3 11 (by decide) (by decide)]
        exact ⟨u1, u2⟩
      · rw [am_pi_k (by decide), hA 39 (by decide) (by decide), H5 39 (by decide) (by decide), G3 39 (by decide) (by decide)]
      · rw [qc_pia (by decide), qc_pia (by decide), qc_pia (by decide), M6a 204 (by decide) (by decide) (by decide), M2a 204 (by decide) (by decide) (by decide)]
      · rw [am_pi_k (by decide), am_pi_k (by decide), am_pi_s]
      · rw [am_pi_k (by decide), am_pi_s]
      · rw [am_pi_k (by decide), am_pi_k (by decide), am_pi_k (by decide), M6k 30 (by decide) (by omega)]
    · rw [qc_pia (by omega), hA a (by omega) (by omega), H5 a (by omega) (by omega), G3 a (by omega) (by omega)]
    · rw [qc_pia (by omega), qc_pia (by omega), qc_pia (by omega), M6a a (by omega) (by omega) (by omega), M2a a (by omega) (by omega) (by omega)]
  · -- an error
    have zc := z_c ec1 ec2
    have z : ¬ (am_z 0 ≤ am_z c) := by rw [am_z_le (by omega) (by omega) (by omega) (by omega)]; omega
    have cp3 := m_copies (N := N) (h := am_pi (am_pi M6 193 2 (am_z 0)) 193 24 (M6 193 23)) hN i6 i5 j6 j5 (by decide) (by decide)
    generalize hQ1 : qm_map 195 0 20 (am_pi (am_pi M6 193 2 (am_z 0)) 193 24 (M6 193 23) 196) (am_pi (am_pi M6 193 2 (am_z 0)) 193 24 (M6 193 23)) = Q1 at *
    have cp4 := m_copies (N := N) (h := Q1) hN i8 i7 j8 j7 (by decide) (by decide)
    generalize hQ2 : qm_map 197 0 6071 (Q1 198) Q1 = Q2 at *
    have Qa : ∀ a, a ≠ 193 → a ≠ 195 → a ≠ 197 → Q2 a = M6 a := fun a p q r => by subst hQ2; subst hQ1; rw [qm_map_a r, qm_map_a q, qc_pia p, qc_pia p]
    have Qk : ∀ k, k ≠ 2 → k ≠ 24 → Q2 193 k = M6 193 k := fun k p q => by subst hQ2; subst hQ1; rw [qm_map_a (by decide), qm_map_a (by decide), am_pi_k q, am_pi_k p]
    have Q24 : Q2 193 24 = M6 193 23 := by subst hQ2; subst hQ1; rw [qm_map_a (by decide), qm_map_a (by decide), am_pi_s]
    have Q22 : Q2 193 2 = am_z 0 := by subst hQ2; subst hQ1; rw [qm_map_a (by decide), qm_map_a (by decide), am_pi_k (by decide), am_pi_s]
    have Q195 : ∀ k, k < 20 → Q2 195 k = hm 195 k := fun k hk => by
      subst hQ2; subst hQ1
      rw [qm_map_a (by decide), qm_map_p (by omega), qc_pia (by decide), qc_pia (by decide), M6a 196 (by decide) (by decide) (by decide)]; exact M196 k hk
    have Q197 : ∀ k, k < 6071 → Q2 197 k = hm 197 k := fun k hk => by
      subst hQ2; subst hQ1
      rw [qm_map_p (by omega), qm_map_a (by decide), qc_pia (by decide), qc_pia (by decide), M6a 198 (by decide) (by decide) (by decide)]; exact M198 k hk
    refine ⟨nS, nU, am_z c, am_pi (am_pi g3 1 1 (am_z 0)) 0 2 (g3 1 4), Q2, cC _ ?_, ?_, ?_, fun a ha => ?_, fun a ha => ?_⟩
    · simp (disch := decide) only [if_neg z, am_pi_k]
    · have n22 : ¬ (M6 193 22 = am_z 0) := by rw [z22]; exact zc
      rw [mC, l_X10_load_75]
      simp (disch := decide) only [am_z_lit, if_neg n22, am_pi_k, cp3, am_bi_s, cp4, Qk, z22, if_neg zc]
    · refine q_loadE R (p := g3 1 4) (fun a p q r => ?_) ?_ ?_ (fun k p => ?_) (am_pi_s _ _ _ _) ?_ Q195 Q197 ?_ ?_ Q22 ?_ ?_ ?_
      · rw [qc_pia p, qc_pia q, G3 a q r]
      · rw [am_pi_a (by decide), am_pi_a (by decide)]; exact G40
      · rw [am_pi_a (by decide), am_pi_a (by decide)]; exact G80
      · rw [am_pi_k p, am_pi_a (by decide), G3 0 (by decide) (by decide)]
      · rw [am_pi_a (by decide), am_pi_s]
      · rw [Qa 199 (by decide) (by decide) (by decide), M6a 199 (by decide) (by decide) (by decide), M2a 199 (by decide) (by decide) (by decide)]
      · rw [Qa 204 (by decide) (by decide) (by decide), M6a 204 (by decide) (by decide) (by decide), M2a 204 (by decide) (by decide) (by decide)]
      · rw [Qk 8 (by decide) (by decide), M6k 8 (by decide) (by omega)]
      · rw [Q24, z23]
      · rw [Qk 30 (by decide) (by decide), M6k 30 (by decide) (by omega)]
    · rw [qc_pia (by omega), qc_pia (by omega), G3 a (by omega) (by omega)]
    · rw [Qa a (by omega) (by omega) (by omega), M6a a (by omega) (by omega) (by omega), M2a a (by omega) (by omega) (by omega)]
end LOAD
