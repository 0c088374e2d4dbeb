section KEEP
variable {N nS nU : Nat} {hc hm : am_Hp}
theorem m_k53 {h0 : am_Hp} {c : Nat} (hcc : c < 8) : ∀ (k i n : Nat) (h : am_Hp), i + k = 6071 → k < n → h 193 8 = am_z c → h 197 = h0 197 → l_X10_keeps_53 N n (am_z i) h = some ((), am_pi (qm_map 199 (6071 * c + i) (6071 * c + 6071) (fun j => h0 197 (j - 6071 * c)) h) 193 8 (am_z ((c + 1 : Nat) : Int)))
  | k, i, 0, h, _, hx, _, _ => by omega
  | 0, i, n + 1, h, e, _, h8, _ => by
    have e1 : i = 6071 := by omega
    subst e1
    have e4 : (c : Int) + 1 = ((c + 1 : Nat) : Int) := by omega
    unfold l_X10_keeps_53
    rw [am_z_lit, if_pos (by decide), h8, qm_map_0, am_z_lit, am_z_add, e4]
  | k + 1, i, n + 1, h, e, hx, h8, h7 => by
    have e4 : (i : Int) + 1 = ((i + 1 : Nat) : Int) := by omega
    have e5 : 6071 * (c : Int) + i = ((6071 * c + i : Nat) : Int) := by omega
    have i1 : am_in (am_z i) 6071 = true := m_in (by omega) (by decide)
    have i2 : am_in (am_z ((6071 * c + i : Nat) : Int)) 48568 = true := m_in (by omega) (by decide)
    have z : ¬ (am_z 6071 ≤ am_z i) := by rw [am_z_le (by omega) (by omega) (by omega) (by omega)]; omega
    unfold l_X10_keeps_53
    simp (disch := omega) only [am_z_lit, if_neg z, i1, cond_true, h8, am_z_mul, am_z_add, e5, i2, am_z_cl, Int.toNat_natCast, e4]
    rw [m_k53 (h0 := h0) hcc k (i + 1) n _ (by omega) (by omega) (by rw [am_pi_a (by decide)]; exact h8) (by rw [qc_pia (by decide)]; exact h7), ← Nat.add_assoc]
    have e6 : h 197 i = (fun j => h0 197 (j - 6071 * c)) (6071 * c + i) := by
      show _ = h0 197 (6071 * c + i - 6071 * c)
      rw [h7]; exact congrArg (h0 197) (by omega)
    rw [qm_map_v (g := fun j => h0 197 (j - 6071 * c)) (i := 6071 * c + i) (by omega) e6]
theorem m_k13 {h0 : am_Hp} (k : Nat) : ∀ (i n : Nat) (h : am_Hp), i + k = 42497 → k < n → h 193 8 = am_z 8 → (∀ j, i ≤ j → h 199 (j + 6071) = h0 199 (j + 6071)) → l_X10_keeps_13 N n (am_z ((i : Int) + 6071)) h = l_X10_keeps_53 N N (am_z 0) (am_pi (qm_map 199 i 42497 (fun j => h0 199 (j + 6071)) h) 193 8 (am_z 7)) := by
  induction k with
  | zero =>
    intro i n h e hn h8 _
    obtain ⟨n, rfl⟩ : ∃ n', n = n' + 1 := ⟨n - 1, by omega⟩
    have e2 : i = 42497 := by omega
    have e3 : am_z 8 - am_z 1 = am_z 7 := by decide
    have z : am_z 48568 ≤ am_z ((i : Int) + 6071) := by rw [am_z_le (by omega) (by omega) (by omega) (by omega)]; omega
    rw [l_X10_keeps_13]
    simp only [am_z_lit, h8, e3, if_pos z]
    rw [e2, qm_map_0]
  | succ k ih =>
    intro i n h e hn h8 h7
    obtain ⟨n, rfl⟩ : ∃ n', n = n' + 1 := ⟨n - 1, by omega⟩
    have e4 : (i : Int) + 6071 + 1 = ((i + 1 : Nat) : Int) + 6071 := by omega
    have e5 : (i : Int) + 6071 - 6071 = (i : Int) := by omega
    have e6 : ((i : Int) + 6071).toNat = i + 6071 := by omega
    have i1 : am_in (am_z ((i : Int) + 6071)) 48568 = true := am_z_int (by omega) (by omega) (by decide)
    have i2 : am_in (am_z (i : Int)) 48568 = true := m_in (by omega) (by decide)
    have z : ¬ (am_z 48568 ≤ am_z ((i : Int) + 6071)) := by rw [am_z_le (by omega) (by omega) (by omega) (by omega)]; omega
    rw [l_X10_keeps_13]
    simp (disch := omega) only [am_z_lit, if_neg z, i1, cond_true, am_z_sub, am_z_add, e5, i2, am_z_cl, Int.toNat_natCast, e4, e6]
    rw [ih (i + 1) n _ (by omega) (by omega) (by rw [am_pi_a (by decide)]; exact h8) (fun j hj => by rw [am_pi_k (by omega)]; exact h7 j (by omega)), qm_map_v (g := fun j => h0 199 (j + 6071)) (i := i) (by omega) (h7 i (Nat.le_refl _))]
theorem m_keeps (hN : 60000 ≤ N) {c : Nat} (hcc : c ≤ 8) (h8 : hm 193 8 = am_z c) : ∃ d h', (d = 0 ∧ c < 8 ∨ d = 1 ∧ c = 8) ∧ f_X10_keeps N hm = some ((), h') ∧ h' 193 8 = am_z ((c + 1 - d : Nat) : Int) ∧ (∀ a, a ≠ 193 → a ≠ 199 → h' a = hm a) ∧ (∀ k, k ≠ 8 → h' 193 k = hm 193 k) ∧ (∀ j k, k < 6071 → j < c - d → tp h' j k = tp hm (j + d) k) ∧ ∀ k, k < 6071 → tp h' (c - d) k = hm 197 k := by
  unfold f_X10_keeps
  by_cases q : c = 8
  · subst q
    have z : am_z ((8 : Nat) : Int) = am_z 8 := rfl
    rw [z] at h8
    have s1 := m_k13 (N := N) (h0 := hm) 42497 0 N hm (by omega) (by omega) h8 (fun _ _ => rfl)
    have s1' : l_X10_keeps_13 N N (am_z 6071) hm = _ := s1
    have s2 := m_k53 (N := N) (h0 := hm) (c := 7) (by decide) 6071 0 N (am_pi (qm_map 199 0 42497 (fun j => hm 199 (j + 6071)) hm) 193 8 (am_z 7)) (by omega) (by omega) (by rw [am_pi_s]; rfl) (by rw [qc_pia (by decide), qm_map_a (by decide)])
    have s2' : l_X10_keeps_53 N N (am_z 0) _ = _ := s2
    simp only [am_z_lit, h8, if_true]
    rw [s1', s2']
    refine ⟨1, _, Or.inr ⟨by first | rfl | trivial, by first | rfl | trivial⟩, rfl, am_pi_s _ _ _ _, fun a h1 h2 => ?_, fun k hk => ?_, fun j k hk hj => ?_, fun k hk => ?_⟩
    · rw [qc_pia h1, qm_map_a h2, qc_pia h1, qm_map_a h2]
    · rw [am_pi_k hk, qm_map_a (by decide), am_pi_k hk, qm_map_a (by decide)]
    · unfold tp
      rw [am_pi_a (by decide), qm_map_n (by omega), am_pi_a (by decide), qm_map_p (by omega)]
      exact congrArg (hm 199) (by omega)
    · unfold tp
      rw [am_pi_a (by decide), qm_map_p (by omega)]
      show am_pi (qm_map 199 0 42497 (fun j => hm 199 (j + 6071)) hm) 193 8 (am_z 7) 197 _ = hm 197 k
      rw [qc_pia (by decide), qm_map_a (by decide)]
      exact congrArg (hm 197) (by omega)
  · have s2 := m_k53 (N := N) (h0 := hm) (c := c) (by omega) 6071 0 N hm (by omega) (by omega) h8 rfl
    have s2' : l_X10_keeps_53 N N (am_z 0) _ = _ := s2
    have z : ¬ (am_z c = am_z 8) := by rw [am_z_eq (by omega) (by omega) (by omega) (by omega)]; omega
    simp only [am_z_lit, h8, if_neg z]
    rw [s2']
    refine ⟨0, _, Or.inl ⟨rfl, by omega⟩, rfl, am_pi_s _ _ _ _, fun a h1 h2 => ?_, fun k hk => ?_, fun j k hk hj => ?_, fun k hk => ?_⟩
    · rw [qc_pia h1, qm_map_a h2]
    · rw [am_pi_k hk, qm_map_a (by decide)]
    · unfold tp
      rw [am_pi_a (by decide), qm_map_n (by omega)]
      rfl
    · unfold tp
      rw [am_pi_a (by decide), qm_map_p (by omega)]
      exact congrArg (hm 197) (by omega)
theorem c_keep (hN : 1000 ≤ N) {n c : Nat} (hn : n < 8) (hcc : c ≤ 8) (h1 : hc 39 1 = am_z n) (h2 : hc 39 2 = am_z c) : ∃ h', f_X2_keep N 24 hc = some ((), h') ∧ h' 39 1 = am_z (((n + 1) % 8 : Nat) : Int) ∧ h' 39 2 = am_z ((min (c + 1) 8 : Nat) : Int) ∧ (∀ a, a ≠ 39 → ¬ (41 + 15 * n ≤ a ∧ a < 41 + 15 * n + 15) → h' a = hc a) ∧ (∀ k, k ≠ 1 → k ≠ 2 → h' 39 k = hc 39 k) ∧ ∀ nS nU r, nS ≤ 4 → nU ≤ 6 → sS nS nU hc 24 r → sS nS nU h' (41 + 15 * n) r := by
  obtain ⟨h3, c1, c2, c3, c4, c5, c6, c7⟩ := c_copy (N := N) (h := hc) (b := 41 + 15 * n) (b' := 24) hN (Or.inr ⟨n, hn, rfl⟩) (Or.inl rfl) (Or.inr (by omega))
  have e1 : (n : Int) % 8 = ((n : Nat) : Int) := by omega
  have e2 : (n : Int) + 1 = ((n + 1 : Nat) : Int) := by omega
  have e3 : ((n + 1 : Nat) : Int) % 8 = (((n + 1) % 8 : Nat) : Int) := by omega
  have e4 : (c : Int) + 1 = ((c + 1 : Nat) : Int) := by omega
  have i1 : am_in (am_z n) 8 = true := m_in (by omega) (by decide)
  have g1 := (st_f1 n hn).2.2.2.2.2.2.2.2.2.2.2.2.2
  have g2 := (st_f1 n hn).1
  have f1 : f_J9_floorMod_7cf53 N (am_z n) (am_z 8) hc = some (am_z n, hc) := by
    rw [am_fm (by omega) (by omega) (by decide) (by decide), e1]
  have f2 : f_J9_floorMod_7cf53 N (am_z ((n + 1 : Nat) : Int)) (am_z 8) h3 = some (am_z (((n + 1) % 8 : Nat) : Int), h3) := by
    rw [am_fm (by omega) (by omega) (by decide) (by decide), e3]
  have x1 : h3 39 1 = am_z n := by rw [c2 _ (by omega)]; exact h1
  have x2 : h3 39 2 = am_z c := by rw [c2 _ (by omega)]; exact h2
  have e5 : (if am_z 8 < am_z ((c + 1 : Nat) : Int) then am_z 8 else am_z ((c + 1 : Nat) : Int)) = am_z ((min (c + 1) 8 : Nat) : Int) := by
    by_cases q : c = 8
    · subst q; decide
    · rw [if_neg (by rw [am_z_lt (by omega) (by omega) (by omega) (by omega)]; omega)]; exact congrArg am_z (by omega)
  refine ⟨am_pi (am_pi h3 39 1 (am_z (((n + 1) % 8 : Nat) : Int))) 39 2 (am_z ((min (c + 1) 8 : Nat) : Int)), ?_, ?_, am_pi_s _ _ _ _, fun a p q => ?_, fun k p q => ?_, fun nS nU r n1 n2 S => ?_⟩
  · unfold f_X2_keep
    simp (disch := first | omega | decide) only [am_z_lit, h1, f1, am_bi_s, i1, cond_true, am_z_cl, Int.toNat_natCast, g1, Option.bind_some, g2, c1, x1, am_z_add, e2, f2, am_pi_k, x2, e4, e5]
  · rw [am_pi_k (by decide), am_pi_s]
  · rw [qc_pia p, qc_pia p, c2 a q]
  · rw [am_pi_k q, am_pi_k p, c2 _ (by omega)]
  · have S2 := sS_copy n1 n2 (by omega) c2 c3 c4 c5 c6 c7 S
    obtain ⟨a1, a2, a3, a4, a5, a6⟩ := S2
    refine ⟨by rw [qc_pia (by omega), qc_pia (by omega)]; exact a1, by rw [qc_pia (by omega), qc_pia (by omega)]; exact a2, by rw [qc_pia (by omega), qc_pia (by omega)]; exact a3, fun k hk => by rw [qc_pia (by omega), qc_pia (by omega)]; exact a4 k hk, fun s hs => ?_, fun u hu => ?_⟩
    · obtain ⟨b1, b2⟩ := a5 s hs
      refine ⟨?_, fun x hx k hk => ?_⟩
      · unfold sD
        rw [qc_pia (by omega), qc_pia (by omega)]; exact b1
      · unfold rc_e
        rw [qc_pia (by omega), qc_pia (by omega)]; exact b2 x hx k hk
    · unfold sU
      rw [qc_pia (by omega), qc_pia (by omega)]; exact a6 u hu
/-- a State that isn't touched -/
theorem sS_same {h h' : am_Hp} {b : Nat} {r : Nat → Int32} (n1 : nS ≤ 4) (n2 : nU ≤ 6) (e : ∀ a, b ≤ a → a < b + 15 → h' a = h a) (e2 : ∀ a, 165 ≤ a → a < 193 → h' a = h a) (S : sS nS nU h b r) : sS nS nU h' b r := by
  obtain ⟨a1, a2, a3, a4, a5, a6⟩ := S
  refine ⟨by rw [e _ (by omega) (by omega)]; exact a1, by rw [e _ (by omega) (by omega)]; exact a2, by rw [e _ (by omega) (by omega)]; exact a3, fun k hk => by rw [e _ (by omega) (by omega)]; exact a4 k hk, fun s hs => ?_, fun u hu => ?_⟩
  · obtain ⟨b1, b2⟩ := a5 s hs
    refine ⟨?_, fun x hx k hk => ?_⟩
    · unfold sD
      rw [e _ (by omega) (by omega)]; exact b1
    · unfold rc_e
      rw [e2 _ (by omega) (by omega)]; exact b2 x hx k hk
  · unfold sU
    rw [e _ (by omega) (by omega)]; exact a6 u hu
/-- the state is kept on both sides -/
theorem q_keep (hN : 60000 ≤ N) (R : qr_R nS nU hc hm) : ∃ hc' hm', f_X2_keep N 24 hc = some ((), hc') ∧ f_X10_keeps N hm = some ((), hm') ∧ qr_R nS nU hc' hm' ∧ (∀ a, ¬ (39 ≤ a ∧ a < 161) → hc' a = hc a) ∧ (∀ a, a ≠ 193 → a ≠ 199 → hm' a = hm a) ∧ ∀ k, k ≠ 8 → hm' 193 k = hm 193 k := by
  obtain ⟨n1, n2, -⟩ := qr_n R
  obtain ⟨t, b, S, V, y⟩ := R
  obtain ⟨⟨w1, w2, w3⟩, ⟨v1, v2, v3⟩, y3, y4, y5, y6⟩ := y
  generalize hn : nv (hc 39 1) = n at *
  generalize hcn : nv (hc 39 2) = c at *
  obtain ⟨h1, k1, k2, k3, k4, k5, k6⟩ := c_keep (N := N) (by omega) (show n < 8 by omega) v3 w1 v1
  obtain ⟨d, h2, hd, m1, m2, m3, m4, m5, m6⟩ := m_keeps hN v3 (y3.trans v1)
  have z1 : nv (h1 39 1) = (n + 1) % 8 := by rw [k2]; exact nv_z (by omega)
  have z2 : nv (h1 39 2) = min (c + 1) 8 := by rw [k3]; exact nv_z (by omega)
  have e : ∀ x, x < 39 ∨ 161 ≤ x → h1 x = hc x := fun x hx => k4 x (by omega) (by omega)
  have em : h2 197 = hm 197 := m3 _ (by decide) (by decide)
  have hcd : c + 1 - d = min (c + 1) 8 := by omega
  refine ⟨h1, h2, k1, m1, ⟨?_, ?_, ?_, ?_, ?_⟩, fun a ha => e a (by omega), m3, m4⟩
  · unfold tT at t ⊢
    simp (disch := decide) only [e, m3]
    exact t
  · unfold tB at b ⊢
    simp (disch := decide) only [e, m3, m4]
    exact b
  · rw [em]
    exact sS_same n1 n2 (fun a p q => e a (by omega)) (fun a p q => e a (by omega)) S
  · rw [em]; exact V
  · unfold tH
    rw [z1, z2, em]
    have old : ∀ j, j < c - d → (n + 1) % 8 + 8 - min (c + 1) 8 + j ≥ 0 ∧ ((n + 1) % 8 + 8 - min (c + 1) 8 + j) % 8 = (n + 8 - c + (j + d)) % 8 ∧ (n + 8 - c + (j + d)) % 8 ≠ n := fun j hj => by omega
    have new : ((n + 1) % 8 + 8 - min (c + 1) 8 + (c - d)) % 8 = n := by omega
    have ec : min (c + 1) 8 = c - d + 1 := by omega
    refine ⟨⟨?_, ?_, ?_⟩, ⟨?_, ?_, ?_⟩, ?_, fun j hj => ?_, fun j s hj hs => ?_, fun i j s hij hj hs => ?_⟩
    · rw [z1]; exact k2
    · omega
    · rw [z1]; omega
    · rw [z2]; exact k3
    · omega
    · rw [z2]; omega
    · rw [m2, k3, hcd]
    · by_cases q : j = c - d
      · subst q
        rw [new]
        exact ⟨sS_r n1 n2 m6 V (k6 nS nU _ n1 n2 S), vV_r n1 n2 m6 V⟩
      · have hj2 : j < c - d := by omega
        obtain ⟨-, o1, o2⟩ := old j hj2
        obtain ⟨p1, p2⟩ := y4 (j + d) (by omega)
        rw [o1]
        refine ⟨sS_r n1 n2 (fun k hk => m5 j k hk hj2) p2 (sS_same n1 n2 (fun a p q => k4 a (by omega) ?_) (fun a p q => e a (by omega)) p1), vV_r n1 n2 (fun k hk => m5 j k hk hj2) p2⟩
        omega
    · by_cases q : j = c - d
      · subst q
        rw [m6 _ (by omega)]; exact Nat.le_refl _
      · rw [m5 j _ (by omega) (by omega)]
        exact y5 _ _ (by omega) hs
    · by_cases q : j = c - d
      · subst q
        rw [m6 _ (by omega)]
        by_cases q2 : i = c - d
        · subst q2
          rw [m6 _ (by omega)]; exact Nat.le_refl _
        · rw [m5 i _ (by omega) (by omega)]
          exact y5 _ _ (by omega) hs
      · rw [m5 j _ (by omega) (by omega), m5 i _ (by omega) (by omega)]
        exact y6 _ _ _ (by omega) (by omega) hs
/-- what a change answers, and that the relation holds behind it -/
def pS (nS nU : Nat) (a : Option (Option Int32 × am_Hp)) (b : Option (Int32 × am_Hp)) (hc hm : am_Hp) : Prop := ∃ v h1 h2, a = some (some v, h1) ∧ b = some (v, h2) ∧ qr_R nS nU h1 h2 ∧ cF hc h1 ∧ mF hm h2
def pD (nS nU : Nat) (a : Option (Int32 × am_Hp)) (b : Option (Int32 × am_Hp)) (hc hm : am_Hp) : Prop := ∃ v h1 h2, a = some (v, h1) ∧ b = some (v, h2) ∧ qr_R nS nU h1 h2 ∧ cF hc h1 ∧ mF hm h2
theorem R_thr (R : qr_R nS nU hc hm) {v : Int32} : qr_R nS nU hc (am_pi hm 193 0 v) := qr_fr cfr0 (mfrp (by omega)) R
theorem cF0 : cF hc hc := fun _ _ => rfl
theorem mF0 : mF hm hm := fun _ _ => rfl
theorem pS_no (R : qr_R nS nU hc hm) {a : Option (Option Int32 × am_Hp)} {b : Option (Int32 × am_Hp)} {v w : Int32} (h1 : a = some (some v, hc)) (h2 : b = some (v, am_pi hm 193 0 w)) : pS nS nU a b hc hm := ⟨v, _, _, h1, h2, R_thr R, cF0, mF_p (by decide)⟩
theorem pD_no (R : qr_R nS nU hc hm) {a : Option (Int32 × am_Hp)} {b : Option (Int32 × am_Hp)} {v w : Int32} (h1 : a = some (v, hc)) (h2 : b = some (v, am_pi hm 193 0 w)) : pD nS nU a b hc hm := ⟨v, _, _, h1, h2, R_thr R, cF0, mF_p (by decide)⟩
theorem m_undoL {h0 : am_Hp} {c : Nat} (hcc : c < 8) : ∀ (k i n : Nat) (h : am_Hp), i + k = 6071 → k < n → h 193 8 = am_z c → h 199 = h0 199 → l_X10_undo_26 N n (am_z i) h = some (am_z c, qm_map 197 i 6071 (tp h0 c) h)
  | k, i, 0, h, _, hx, _, _ => by omega
  | 0, i, n + 1, h, e, _, h8, _ => by
    have e1 : i = 6071 := by omega
    subst e1
    unfold l_X10_undo_26
    rw [am_z_lit, if_pos (by decide), h8, qm_map_0]
  | k + 1, i, n + 1, h, e, hx, h8, h7 => by
    have e4 : (i : Int) + 1 = ((i + 1 : Nat) : Int) := by omega
    have e5 : 6071 * (c : Int) + i = ((6071 * c + i : Nat) : Int) := by omega
    have i1 : am_in (am_z i) 6071 = true := m_in (by omega) (by decide)
    have i2 : am_in (am_z ((6071 * c + i : Nat) : Int)) 48568 = true := m_in (by omega) (by decide)
    have z : ¬ (am_z 6071 ≤ am_z i) := by rw [am_z_le (by omega) (by omega) (by omega) (by omega)]; omega
    unfold l_X10_undo_26
    simp (disch := omega) only [am_z_lit, if_neg z, i1, cond_true, h8, am_z_mul, am_z_add, e5, i2, am_z_cl, Int.toNat_natCast, e4]
    rw [m_undoL (h0 := h0) hcc k (i + 1) n _ (by omega) (by omega) (by rw [am_pi_a (by decide)]; exact h8) (by rw [qc_pia (by decide)]; exact h7)]
    have e6 : h 199 (6071 * c + i) = tp h0 c i := by
      unfold tp
      rw [h7]
    rw [qm_map_v (g := tp h0 c) (i := i) (by omega) e6]
theorem q_undo (hN : 60000 ≤ N) (R : qr_R nS nU hc hm) : pD nS nU (f_X9_undo N hc) (f_X10_undo N hm) hc hm := by
  obtain ⟨n1, n2, -⟩ := qr_n R
  have R' := R
  obtain ⟨t, b, S, V, y⟩ := R'
  obtain ⟨⟨w1, w2, w3⟩, ⟨v1, v2, v3⟩, y3, y4, y5, y6⟩ := y
  generalize hn : nv (hc 39 1) = n at *
  generalize hcn : nv (hc 39 2) = c at *
  have e8 : am_pi hm 193 0 (am_z 0) 193 8 = am_z c := by rw [am_pi_k (by decide), y3, v1]
  unfold f_X9_undo f_X10_undo
  by_cases q : c = 0
  · subst q
    have z : am_z ((0 : Nat) : Int) = am_z 0 := rfl
    rw [z] at e8 v1
    refine pD_no R (v := am_z (-1)) (w := am_z 0) ?_ ?_
    · simp only [am_z_lit, v1, if_true, am_z_neg]
    · simp only [am_z_lit, e8, if_true, am_z_neg]
  · obtain ⟨c', rfl⟩ : ∃ c', c = c' + 1 := ⟨c - 1, by omega⟩
    have z0 : ¬ (am_z ((c' + 1 : Nat) : Int) = am_z 0) := by rw [am_z_eq (by omega) (by omega) (by omega) (by omega)]; omega
    have z1 : ¬ (am_z ((c' + 1 : Nat) : Int) ≤ am_z 0) := by rw [am_z_le (by omega) (by omega) (by omega) (by omega)]; omega
    have e1 : ((c' + 1 : Nat) : Int) - 1 = (c' : Int) := by omega
    generalize hp : (n + 7) % 8 = p at *
    have p8 : p < 8 := by omega
    -- the class
    have fm : ∀ h, f_J9_floorMod_7cf53 N (am_z ((n : Int) - 1)) (am_z 8) h = some (am_z p, h) := by
      intro h
      by_cases qn : n = 0
      · subst qn
        have : p = 7 := by omega
        subst this
        exact am_fm8
      · rw [am_fm (by omega) (by omega) (by decide) (by decide)]
        have : ((n : Int) - 1) % 8 = (p : Int) := by omega
        rw [this]
    have i1 : am_in (am_z p) 8 = true := m_in (by omega) (by decide)
    have g1 := (st_f1 p p8).2.2.2.2.2.2.2.2.2.2.2.2.2
    have g2 := st_f0.1
    generalize hh1 : am_pi (am_pi hc 39 2 (am_z c')) 39 1 (am_z p) = h1 at *
    have x1 : h1 39 1 = am_z p := by subst hh1; exact am_pi_s _ _ _ _
    have x2 : h1 39 2 = am_z c' := by subst hh1; rw [am_pi_k (by decide), am_pi_s]
    have xa : ∀ a, a ≠ 39 → h1 a = hc a := by intro a ha; subst hh1; rw [qc_pia ha, qc_pia ha]
    obtain ⟨h3, c1, c2, c3, c4, c5, c6, c7⟩ := c_copy (N := N) (h := h1) (b := 24) (b' := 41 + 15 * p) (by omega) (Or.inl rfl) (Or.inr ⟨p, p8, rfl⟩) (Or.inl (by omega))
    have kc : (am_bi (f_X2_takeBack N 24 hc) fun _ h1 => some (h1 39 2, h1)) = some (am_z c', h3) := by
      unfold f_X2_takeBack
      simp (disch := first | omega | decide) only [am_z_lit, v1, if_neg z1, am_z_sub, e1, am_pi_k, w1, fm, am_bi_s, hh1, x1, i1, cond_true, am_z_cl, Int.toNat_natCast, g1, Option.bind_some, g2, c1]
      rw [c2 39 (by decide), x2]
    -- the model
    have mk := m_undoL (N := N) (h0 := hm) (c := c') (by omega) 6071 0 N (am_pi (am_pi hm 193 0 (am_z 0)) 193 8 (am_z c')) (by omega) (by omega) (am_pi_s _ _ _ _) (by rw [qc_pia (by decide), qc_pia (by decide)])
    have mk' : l_X10_undo_26 N N (am_z 0) _ = _ := mk
    obtain ⟨p1, p2⟩ := y4 c' (by omega)
    have ei : (n + 8 - (c' + 1) + c') % 8 = p := by omega
    rw [ei] at p1
    generalize hh2 : qm_map 197 0 6071 (tp hm c') (am_pi (am_pi hm 193 0 (am_z 0)) 193 8 (am_z c')) = h2 at *
    have fa : ∀ a, a ≠ 193 → a ≠ 197 → h2 a = hm a := by intro a p q; subst hh2; rw [qm_map_a q, qc_pia p, qc_pia p]
    have fk : ∀ k, k ≠ 0 → k ≠ 8 → h2 193 k = hm 193 k := by intro k p q; subst hh2; rw [qm_map_a (by decide), am_pi_k q, am_pi_k p]
    have f8 : h2 193 8 = am_z c' := by subst hh2; rw [qm_map_a (by decide), am_pi_s]
    have fr : ∀ k, k < 6071 → h2 197 k = tp hm c' k := by intro k hk; subst hh2; rw [qm_map_p (by omega)]
    have ep : tp h2 = tp hm := by funext j k; unfold tp; rw [fa _ (by decide) (by decide)]
    have e : ∀ x, x < 24 ∨ 40 ≤ x → h3 x = hc x := fun x hx => by rw [c2 x (by omega), xa x (by omega)]
    have zn1 : nv (h3 39 1) = p := by rw [c2 _ (by decide), x1]; exact nv_z (by omega)
    have zn2 : nv (h3 39 2) = c' := by rw [c2 _ (by decide), x2]; exact nv_z (by omega)
    refine ⟨am_z c', h3, h2, ?_, ?_, ⟨?_, ?_, ?_, ?_, ?_⟩, fun a ha => e a (by omega), fun a ha => fa a (by omega) (by omega)⟩
    · simp only [am_z_lit, v1, if_neg z0]
      exact kc
    · simp only [am_z_lit, e8, if_neg z0, am_z_sub, e1]
      exact mk'
    · unfold tT at t ⊢
      simp (disch := decide) only [e, fa]
      exact t
    · unfold tB at b ⊢
      simp (disch := decide) only [e, fa, fk]
      exact b
    · refine sS_r n1 n2 fr p2 (sS_copy n1 n2 (by omega) c2 c3 c4 c5 c6 c7 (sS_same n1 n2 (fun a p q => xa a (by omega)) (fun a p q => xa a (by omega)) p1))
    · exact vV_r n1 n2 fr p2
    · unfold tH
      rw [zn1, zn2, ep]
      refine ⟨⟨?_, ?_, ?_⟩, ⟨?_, ?_, ?_⟩, ?_, fun j hj => ?_, fun j s hj hs => ?_, fun i j s hij hj hs => ?_⟩
      · rw [zn1, c2 _ (by decide)]; exact x1
      · omega
      · rw [zn1]; omega
      · rw [zn2, c2 _ (by decide)]; exact x2
      · omega
      · rw [zn2]; omega
      · rw [f8, c2 _ (by decide), x2]
      · obtain ⟨o1, o2⟩ := y4 j (by omega)
        have ej : (p + 8 - c' + j) % 8 = (n + 8 - (c' + 1) + j) % 8 := by omega
        rw [ej]
        exact ⟨sS_same n1 n2 (fun a p q => e a (by omega)) (fun a p q => e a (by omega)) o1, o2⟩
      · rw [fr _ (by omega)]
        exact y6 j c' s (by omega) (by omega) hs
      · exact y6 i j s hij (by omega) hs
end KEEP
