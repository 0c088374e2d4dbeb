/-! ===== a State of the class copied onto another; the history ===== -/
section CP
variable {N nS nU : Nat}
/-- b is the number of a State -/
def bS (b : Nat) : Prop := b = 24 ∨ ∃ i, i < 8 ∧ b = 41 + 15 * i
theorem st_f1 : ∀ i, i < 8 → am_isO (41 + 15 * i) 6 = true ∧ am_G (41 + 15 * i) 1 = some (41 + 15 * i + 1) ∧ am_G (41 + 15 * i) 2 = some (41 + 15 * i + 2) ∧ am_G (41 + 15 * i) 3 = some (41 + 15 * i + 3) ∧ am_G (41 + 15 * i) 4 = some (41 + 15 * i + 4) ∧ am_isI (41 + 15 * i + 1) = true ∧ am_len (41 + 15 * i + 1) = 2 ∧ am_isI (41 + 15 * i + 2) = true ∧ am_len (41 + 15 * i + 2) = 4 ∧ am_isA (41 + 15 * i + 3) = true ∧ am_len (41 + 15 * i + 3) = 4 ∧ am_isA (41 + 15 * i + 4) = true ∧ am_len (41 + 15 * i + 4) = 6 ∧ am_G 40 i = some (41 + 15 * i) := by decide +kernel
theorem st_d1 : ∀ i, i < 8 → ∀ s, s < 4 → am_G (41 + 15 * i + 3) s = some (41 + 15 * i + 5 + s) ∧ am_isO (41 + 15 * i + 5 + s) 0 = true := by decide +kernel
theorem st_u1 : ∀ i, i < 8 → ∀ u, u < 6 → am_G (41 + 15 * i + 4) u = some (41 + 15 * i + 9 + u) ∧ am_isO (41 + 15 * i + 9 + u) 5 = true := by decide +kernel
theorem st_f0 : am_isO 24 6 = true ∧ am_G 24 1 = some 25 ∧ am_G 24 2 = some 26 ∧ am_G 24 3 = some 27 ∧ am_G 24 4 = some 28 ∧ am_isI 25 = true ∧ am_len 25 = 2 ∧ am_isI 26 = true ∧ am_len 26 = 4 ∧ am_isA 27 = true ∧ am_len 27 = 4 ∧ am_isA 28 = true ∧ am_len 28 = 6 := by decide +kernel
theorem st_f {b : Nat} (hb : bS b) : am_isO b 6 = true ∧ am_G b 1 = some (b + 1) ∧ am_G b 2 = some (b + 2) ∧ am_G b 3 = some (b + 3) ∧ am_G b 4 = some (b + 4) ∧ am_isI (b + 1) = true ∧ am_len (b + 1) = 2 ∧ am_isI (b + 2) = true ∧ am_len (b + 2) = 4 ∧ am_isA (b + 3) = true ∧ am_len (b + 3) = 4 ∧ am_isA (b + 4) = true ∧ am_len (b + 4) = 6 := by
  rcases hb with rfl | ⟨i, hi, rfl⟩
  · exact st_f0
  · obtain ⟨a1, a2, a3, a4, a5, a6, a7, a8, a9, a10, a11, a12, a13, -⟩ := st_f1 i hi
    exact ⟨a1, a2, a3, a4, a5, a6, a7, a8, a9, a10, a11, a12, a13⟩
theorem st_d {b : Nat} (hb : bS b) {s : Nat} (hs : s < 4) : am_G (b + 3) s = some (b + 5 + s) ∧ am_isO (b + 5 + s) 0 = true := by
  rcases hb with rfl | ⟨i, hi, rfl⟩
  · have e : 24 + 5 + s = 29 + s := by omega
    rw [e]; exact ⟨(g_d s hs).1, (g_d s hs).2.2⟩
  · exact st_d1 i hi s hs
theorem st_u {b : Nat} (hb : bS b) {u : Nat} (hu : u < 6) : am_G (b + 4) u = some (b + 9 + u) ∧ am_isO (b + 9 + u) 5 = true := by
  rcases hb with rfl | ⟨i, hi, rfl⟩
  · have e : 24 + 9 + u = 33 + u := by omega
    rw [e]; exact g_u u hu
  · exact st_u1 i hi u hu
def cpE (a a' : Nat) : Nat → am_Hp → am_Hp
  | 0, h => h
  | n + 1, h => am_pi (cpE a a' n h) a n (cpE a a' n h a' n)
theorem cpE_x {a a' : Nat} {h : am_Hp} {x : Nat} (hx : x ≠ a) : ∀ n, cpE a a' n h x = h x
  | 0 => rfl
  | n + 1 => by
    unfold cpE
    rw [qc_pia hx]; exact cpE_x hx n
theorem cpE_k {a a' : Nat} {h : am_Hp} (hne : a' ≠ a) : ∀ n k, k < n → cpE a a' n h a k = h a' k
  | 0, k, hk => by omega
  | n + 1, k, hk => by
    unfold cpE
    by_cases q : k = n
    · subst q; rw [am_pi_s, cpE_x hne]
    · rw [am_pi_k q]; exact cpE_k hne n k (by omega)
theorem c_cpD {a a' : Nat} {h : am_Hp} (ha : am_isO a 0 = true) (ha' : am_isO a' 0 = true) (hne : a' ≠ a) : ∃ h', f_X0_copyFrom N a a' h = some ((), h') ∧ (∀ x, x ≠ a → h' x = h x) ∧ ∀ k, k < 4 → h' a k = h a' k := by
  refine ⟨cpE a a' 4 h, ?_, fun x hx => cpE_x hx 4, fun k hk => cpE_k hne 4 k hk⟩
  unfold f_X0_copyFrom
  simp only [ha, ha', cond_true]
  rfl
theorem c_cpU {a a' : Nat} {h : am_Hp} (ha : am_isO a 5 = true) (ha' : am_isO a' 5 = true) (hne : a' ≠ a) : ∃ h', f_X5_copyFrom N a a' h = some ((), h') ∧ (∀ x, x ≠ a → h' x = h x) ∧ ∀ k, k < 8 → h' a k = h a' k := by
  refine ⟨cpE a a' 8 h, ?_, fun x hx => cpE_x hx 8, fun k hk => cpE_k hne 8 k hk⟩
  unfold f_X5_copyFrom
  simp only [ha, ha', cond_true]
  rfl
variable {b b' : Nat}
theorem c_cp88 (hb : bS b) (hb' : bS b') (hd : b + 15 ≤ b' ∨ b' + 15 ≤ b) : ∀ (k i n : Nat) (h : am_Hp), i + k = 6 → k < n → ∃ h', l_X6_copyFrom_88 N n b b' (am_z i) h = some ((), h') ∧ (∀ a, ¬ (b + 9 + i ≤ a ∧ a < b + 15) → h' a = h a) ∧ ∀ u, i ≤ u → u < 6 → ∀ k, k < 8 → h' (b + 9 + u) k = h (b' + 9 + u) k
  | k, i, 0, h, _, hx => by omega
  | 0, i, n + 1, h, e, _ => by
    have e1 : i = 6 := by omega
    subst e1
    refine ⟨h, ?_, fun _ _ => rfl, fun u h1 h2 => by omega⟩
    unfold l_X6_copyFrom_88
    rw [if_pos (by decide)]
  | k + 1, i, n + 1, h, e, hx => by
    have e4 : (i : Int) + 1 = ((i + 1 : Nat) : Int) := by omega
    obtain ⟨f1, f2, f3, f4, f5, f6, f7, f8, f9, f10, f11, f12, f13⟩ := st_f hb
    obtain ⟨g1, g2, g3, g4, g5, g6, g7, g8, g9, g10, g11, g12, g13⟩ := st_f hb'
    have i1 : am_in (am_z i) 6 = true := m_in (by omega) (by decide)
    have z : ¬ (am_z 6 ≤ am_z i) := by rw [am_z_le (by omega) (by omega) (by omega) (by omega)]; omega
    obtain ⟨h1, p1, p2, p3⟩ := c_cpU (N := N) (h := h) (st_u hb (show i < 6 by omega)).2 (st_u hb' (show i < 6 by omega)).2 (by omega)
    obtain ⟨h2, q1, q2, q3⟩ := c_cp88 hb hb' hd k (i + 1) n h1 (by omega) (by omega)
    refine ⟨h2, ?_, fun a ha => ?_, fun u hu1 hu2 k hk => ?_⟩
    · unfold l_X6_copyFrom_88
      simp (disch := omega) only [am_z_lit, if_neg z, f1, f5, f12, f13, g1, g5, g12, g13, cond_true, Option.bind_some, Bool.true_and, i1, am_z_cl, Int.toNat_natCast, (st_u hb (show i < 6 by omega)).1, (st_u hb (show i < 6 by omega)).2, (st_u hb' (show i < 6 by omega)).1, p1, am_bi_s, am_z_add, e4]
      exact q1
    · rw [q2 a (by omega), p2 a (by omega)]
    · by_cases q : u = i
      · subst q
        rw [q2 _ (by omega)]; exact p3 k hk
      · rw [q3 u (by omega) hu2 k hk, p2 _ (by omega)]
theorem c_cp60 (hN : 1000 ≤ N) (hb : bS b) (hb' : bS b') (hd : b + 15 ≤ b' ∨ b' + 15 ≤ b) : ∀ (k i n : Nat) (h : am_Hp), i + k = 4 → k < n → ∃ h', l_X6_copyFrom_60 N n b b' (am_z i) h = some ((), h') ∧ (∀ a, ¬ (b + 5 + i ≤ a ∧ a < b + 15) → h' a = h a) ∧ (∀ s, i ≤ s → s < 4 → ∀ k, k < 4 → h' (b + 5 + s) k = h (b' + 5 + s) k) ∧ ∀ u, u < 6 → ∀ k, k < 8 → h' (b + 9 + u) k = h (b' + 9 + u) k
  | k, i, 0, h, _, hx => by omega
  | 0, i, n + 1, h, e, _ => by
    have e1 : i = 4 := by omega
    subst e1
    obtain ⟨h2, q1, q2, q3⟩ := c_cp88 (N := N) hb hb' hd 6 0 N h (by omega) (by omega)
    refine ⟨h2, ?_, fun a ha => q2 a (by omega), fun u h1 h2 => by omega, fun u hu k hk => q3 u (by omega) hu k hk⟩
    unfold l_X6_copyFrom_60
    rw [if_pos (by decide)]
    exact q1
  | k + 1, i, n + 1, h, e, hx => by
    have e4 : (i : Int) + 1 = ((i + 1 : Nat) : Int) := by omega
    obtain ⟨f1, f2, f3, f4, f5, f6, f7, f8, f9, f10, f11, f12, f13⟩ := st_f hb
    obtain ⟨g1, g2, g3, g4, g5, g6, g7, g8, g9, g10, g11, g12, g13⟩ := st_f hb'
    have i1 : am_in (am_z i) 4 = true := m_in (by omega) (by decide)
    have z : ¬ (am_z 4 ≤ am_z i) := by rw [am_z_le (by omega) (by omega) (by omega) (by omega)]; omega
    obtain ⟨h1, p1, p2, p3⟩ := c_cpD (N := N) (h := h) (st_d hb (show i < 4 by omega)).2 (st_d hb' (show i < 4 by omega)).2 (by omega)
    obtain ⟨h2, q1, q2, q3, q4⟩ := c_cp60 hN hb hb' hd k (i + 1) n h1 (by omega) (by omega)
    refine ⟨h2, ?_, fun a ha => ?_, fun u hu1 hu2 k hk => ?_, fun u hu k hk => ?_⟩
    · unfold l_X6_copyFrom_60
      simp (disch := omega) only [am_z_lit, if_neg z, f1, f4, f10, f11, g1, g4, g10, g11, cond_true, Option.bind_some, Bool.true_and, i1, am_z_cl, Int.toNat_natCast, (st_d hb (show i < 4 by omega)).1, (st_d hb (show i < 4 by omega)).2, (st_d hb' (show i < 4 by omega)).1, p1, am_bi_s, am_z_add, e4]
      exact q1
    · rw [q2 a (by omega), p2 a (by omega)]
    · by_cases q : u = i
      · subst q
        rw [q2 _ (by omega)]; exact p3 k hk
      · rw [q3 u (by omega) hu2 k hk, p2 _ (by omega)]
    · rw [q4 u hu k hk, p2 _ (by omega)]
theorem c_cp35 (hb : bS b) (hb' : bS b') (hd : b + 15 ≤ b' ∨ b' + 15 ≤ b) : ∀ (k i n : Nat) (h : am_Hp), i + k = 4 → k < n → ∃ h', l_X6_copyFrom_35 N n b b' (am_z i) h = l_X6_copyFrom_60 N N b b' (am_z 0) h' ∧ (∀ a, a ≠ b + 2 → h' a = h a) ∧ (∀ j, i ≤ j → j < 4 → h' (b + 2) j = h (b' + 2) j) ∧ ∀ j, j < i → h' (b + 2) j = h (b + 2) j
  | k, i, 0, h, _, hx => by omega
  | 0, i, n + 1, h, e, _ => by
    have e1 : i = 4 := by omega
    subst e1
    refine ⟨h, ?_, fun a ha => rfl, fun u h1 h2 => by omega, fun _ _ => rfl⟩
    rw [l_X6_copyFrom_35]
    rw [if_pos (by decide)]
    rfl
  | k + 1, i, n + 1, h, e, hx => by
    have e4 : (i : Int) + 1 = ((i + 1 : Nat) : Int) := by omega
    obtain ⟨f1, f2, f3, f4, f5, f6, f7, f8, f9, f10, f11, f12, f13⟩ := st_f hb
    obtain ⟨g1, g2, g3, g4, g5, g6, g7, g8, g9, g10, g11, g12, g13⟩ := st_f hb'
    have i1 : am_in (am_z i) 4 = true := m_in (by omega) (by decide)
    have z : ¬ (am_z 4 ≤ am_z i) := by rw [am_z_le (by omega) (by omega) (by omega) (by omega)]; omega
    obtain ⟨h2, q1, q2, q3, q4⟩ := c_cp35 hb hb' hd k (i + 1) n (am_pi h (b + 2) i (h (b' + 2) i)) (by omega) (by omega)
    refine ⟨h2, ?_, fun a ha => ?_, fun j hj1 hj2 => ?_, fun j hj => ?_⟩
    · rw [l_X6_copyFrom_35]
      simp (disch := omega) only [am_z_lit, if_neg z, f1, f3, f8, f9, g1, g3, g8, g9, cond_true, Option.bind_some, Bool.true_and, i1, am_z_cl, Int.toNat_natCast, am_z_add, e4]
      exact q1
    · rw [q2 a ha, qc_pia ha]
    · by_cases q : j = i
      · subst q
        rw [q4 _ (by omega), am_pi_s]
      · rw [q3 j (by omega) hj2, qc_pia (by omega)]
    · rw [q4 j (by omega), am_pi_k (by omega)]
theorem c_cp10 (hb : bS b) (hb' : bS b') (hd : b + 15 ≤ b' ∨ b' + 15 ≤ b) : ∀ (k i n : Nat) (h : am_Hp), i + k = 2 → k < n → ∃ h', l_X6_copyFrom_10 N n b b' (am_z i) h = l_X6_copyFrom_35 N N b b' (am_z 0) h' ∧ (∀ a, a ≠ b + 1 → h' a = h a) ∧ (∀ j, i ≤ j → j < 2 → h' (b + 1) j = h (b' + 1) j) ∧ ∀ j, j < i → h' (b + 1) j = h (b + 1) j
  | k, i, 0, h, _, hx => by omega
  | 0, i, n + 1, h, e, _ => by
    have e1 : i = 2 := by omega
    subst e1
    refine ⟨h, ?_, fun a ha => rfl, fun u h1 h2 => by omega, fun _ _ => rfl⟩
    rw [l_X6_copyFrom_10]
    rw [if_pos (by decide)]
    rfl
  | k + 1, i, n + 1, h, e, hx => by
    have e4 : (i : Int) + 1 = ((i + 1 : Nat) : Int) := by omega
    obtain ⟨f1, f2, f3, f4, f5, f6, f7, f8, f9, f10, f11, f12, f13⟩ := st_f hb
    obtain ⟨g1, g2, g3, g4, g5, g6, g7, g8, g9, g10, g11, g12, g13⟩ := st_f hb'
    have i1 : am_in (am_z i) 2 = true := m_in (by omega) (by decide)
    have z : ¬ (am_z 2 ≤ am_z i) := by rw [am_z_le (by omega) (by omega) (by omega) (by omega)]; omega
    obtain ⟨h2, q1, q2, q3, q4⟩ := c_cp10 hb hb' hd k (i + 1) n (am_pi h (b + 1) i (h (b' + 1) i)) (by omega) (by omega)
    refine ⟨h2, ?_, fun a ha => ?_, fun j hj1 hj2 => ?_, fun j hj => ?_⟩
    · rw [l_X6_copyFrom_10]
      simp (disch := omega) only [am_z_lit, if_neg z, f1, f2, f6, f7, g1, g2, g6, g7, cond_true, Option.bind_some, Bool.true_and, i1, am_z_cl, Int.toNat_natCast, am_z_add, e4]
      exact q1
    · rw [q2 a ha, qc_pia ha]
    · by_cases q : j = i
      · subst q
        rw [q4 _ (by omega), am_pi_s]
      · rw [q3 j (by omega) hj2, qc_pia (by omega)]
    · rw [q4 j (by omega), am_pi_k (by omega)]
/-- a State is copied onto another: nothing else changes -/
theorem c_copy {h : am_Hp} (hN : 1000 ≤ N) (hb : bS b) (hb' : bS b') (hd : b + 15 ≤ b' ∨ b' + 15 ≤ b) : ∃ h', f_X6_copyFrom N b b' h = some ((), h') ∧ (∀ a, ¬ (b ≤ a ∧ a < b + 15) → h' a = h a) ∧ h' b 0 = h b' 0 ∧ (∀ j, j < 2 → h' (b + 1) j = h (b' + 1) j) ∧ (∀ j, j < 4 → h' (b + 2) j = h (b' + 2) j) ∧ (∀ s, s < 4 → ∀ k, k < 4 → h' (b + 5 + s) k = h (b' + 5 + s) k) ∧ ∀ u, u < 6 → ∀ k, k < 8 → h' (b + 9 + u) k = h (b' + 9 + u) k := by
  obtain ⟨h1, p1, p2, p3, -⟩ := c_cp10 (N := N) hb hb' hd 2 0 N (am_pi h b 0 (h b' 0)) (by omega) (by omega)
  obtain ⟨h2, q1, q2, q3, -⟩ := c_cp35 (N := N) hb hb' hd 4 0 N h1 (by omega) (by omega)
  obtain ⟨h3, r1, r2, r3, r4⟩ := c_cp60 (N := N) hN hb hb' hd 4 0 N h2 (by omega) (by omega)
  refine ⟨h3, ?_, fun a ha => ?_, ?_, fun j hj => ?_, fun j hj => ?_, fun s hs k hk => ?_, fun u hu k hk => ?_⟩
  · unfold f_X6_copyFrom
    simp only [(st_f hb).1, (st_f hb').1, cond_true, am_z_lit]
    exact p1.trans (q1.trans r1)
  · rw [r2 a (by omega), q2 a (by omega), p2 a (by omega), qc_pia (by omega)]
  · rw [r2 _ (by omega), q2 _ (by omega), p2 _ (by omega), am_pi_s]
  · rw [r2 _ (by omega), q2 _ (by omega), p3 j (by omega) hj, qc_pia (by omega)]
  · rw [r2 _ (by omega), q3 j (by omega) hj, p2 _ (by omega), qc_pia (by omega)]
  · rw [r3 s (by omega) hs k hk, q2 _ (by omega), p2 _ (by omega), qc_pia (by omega)]
  · rw [r4 u hu k hk, q2 _ (by omega), p2 _ (by omega), qc_pia (by omega)]
/-- what a copied State holds -/
theorem sS_copy {h h' : am_Hp} {r : Nat → Int32} (n1 : nS ≤ 4) (n2 : nU ≤ 6) (hb : b + 15 ≤ 161) (f : ∀ a, ¬ (b ≤ a ∧ a < b + 15) → h' a = h a) (c0 : h' b 0 = h b' 0) (c1 : ∀ j, j < 2 → h' (b + 1) j = h (b' + 1) j) (c2 : ∀ j, j < 4 → h' (b + 2) j = h (b' + 2) j) (c3 : ∀ s, s < 4 → ∀ k, k < 4 → h' (b + 5 + s) k = h (b' + 5 + s) k) (c4 : ∀ u, u < 6 → ∀ k, k < 8 → h' (b + 9 + u) k = h (b' + 9 + u) k) (S : sS nS nU h b' r) : sS nS nU h' b r := by
  obtain ⟨a1, a2, a3, a4, a5, a6⟩ := S
  refine ⟨c0.trans a1, (c1 0 (by decide)).trans a2, (c1 1 (by decide)).trans a3, fun k hk => (c2 k hk).trans (a4 k hk), fun s hs => ?_, fun u hu => ?_⟩
  · obtain ⟨b1, b2⟩ := a5 s hs
    refine ⟨?_, fun x hx k hk => ?_⟩
    · unfold sD
      rw [c3 s (by omega) 0 (by decide), c3 s (by omega) 1 (by decide), c3 s (by omega) 2 (by decide), c3 s (by omega) 3 (by decide)]
      exact b1
    · unfold rc_e
      rw [f _ (by omega)]; exact b2 x hx k hk
  · unfold sU
    rw [c4 u (by omega) 0 (by decide), c4 u (by omega) 1 (by decide), c4 u (by omega) 2 (by decide), c4 u (by omega) 3 (by decide), c4 u (by omega) 4 (by decide), c4 u (by omega) 5 (by decide), c4 u (by omega) 6 (by decide), c4 u (by omega) 7 (by decide)]
    exact a6 u hu
/-- only the first 6071 places of a row count -/
theorem vV_r {r r' : Nat → Int32} (n1 : nS ≤ 4) (n2 : nU ≤ 6) (e : ∀ k, k < 6071 → r' k = r k) (V : vV nS nU r) : vV nS nU r' := by
  obtain ⟨v1, v2, v3⟩ := V
  have key : ∀ s x, vP r nU s x → vP r' nU s x := by
    intro s x hp
    rcases hp with z | ⟨w, w1, w2, w3, w4⟩
    · exact Or.inl z
    · exact Or.inr ⟨w, w1, w2, by rw [e _ (by omega)]; exact w3, by rw [e _ (by omega)]; exact w4⟩
  refine ⟨by rw [e _ (by decide)]; exact v1, fun s hs => ?_, fun u hu => ?_⟩
  · obtain ⟨⟨d1, d2, d3⟩, dE⟩ := v2 s hs
    refine ⟨?_, fun x hx => ?_⟩
    · unfold vD
      rw [e _ (by omega), e _ (by omega), e _ (by omega)]
      exact ⟨d1, key _ _ d2, key _ _ d3⟩
    · rw [e _ (by omega)] at hx
      have h300 := d1.2.2
      have := dE x hx
      refine ⟨qc_EV_c ?_ ?_ ?_ this.1, ?_⟩
      · exact (e _ (by omega)).symm
      · exact (e _ (by omega)).symm
      · exact (e _ (by omega)).symm
      · rw [e _ (by omega), e _ (by omega)]; exact this.2
  · have := v3 u hu
    obtain ⟨w1, w2, w3, w4, w5, w6, w7, w8⟩ := this
    unfold vU
    rw [e (7 + 8 * u) (by omega), e (8 + 8 * u) (by omega), e (9 + 8 * u) (by omega), e (10 + 8 * u) (by omega), e (11 + 8 * u) (by omega), e (13 + 8 * u) (by omega), e (14 + 8 * u) (by omega)]
    refine ⟨w1, w2, w3, w4, fun z => ?_, w6, w7, w8⟩
    have hw0 : r (9 + 8 * u) ≠ am_z 0 := by rcases z with z | z <;> rw [z] <;> decide
    have := (w4 hw0).2
    rw [e _ (by omega)]
    exact w5 z
theorem sS_r {h : am_Hp} {r r' : Nat → Int32} (n1 : nS ≤ 4) (n2 : nU ≤ 6) (e : ∀ k, k < 6071 → r' k = r k) (V : vV nS nU r) (S : sS nS nU h b r) : sS nS nU h b r' := by
  obtain ⟨a1, a2, a3, a4, a5, a6⟩ := S
  refine ⟨by rw [e _ (by decide)]; exact a1, by rw [e _ (by decide)]; exact a2, by rw [e _ (by decide)]; exact a3, fun k hk => by rw [e _ (by omega)]; exact a4 k hk, fun s hs => ?_, fun u hu => ?_⟩
  · obtain ⟨b1, b2⟩ := a5 s hs
    have h300 := (V.2.1 s hs).1.1.2.2
    refine ⟨?_, fun x hx k hk => ?_⟩
    · unfold sD
      rw [e (55 + 1504 * s) (by omega), e (56 + 1504 * s) (by omega), e (57 + 1504 * s) (by omega), e (58 + 1504 * s) (by omega)]
      exact b1
    · rw [e _ (by omega)] at hx
      rw [e _ (by omega)]; exact b2 x hx k hk
  · unfold sU
    rw [e (7 + 8 * u) (by omega), e (8 + 8 * u) (by omega), e (9 + 8 * u) (by omega), e (10 + 8 * u) (by omega), e (11 + 8 * u) (by omega), e (12 + 8 * u) (by omega), e (13 + 8 * u) (by omega), e (14 + 8 * u) (by omega)]
    exact a6 u hu
end CP
