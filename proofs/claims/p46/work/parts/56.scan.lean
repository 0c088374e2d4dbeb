section TOK2
variable {N L : Nat} {B : Nat → Nat}
-- ---- scanning: the class
theorem c_97 {K : Nat} (hK : K ≤ 4) : ∀ (k e n : Nat) (h : am_Hp), e + k = L → k < n → cB h L B → h 1 5 = am_z e → h 1 3 = am_z K → l_X7_advance_97 N n h = some ((), am_pi h 1 5 (am_z (scE B K k e)))
  | k, e, 0, h, _, hx, _, _, _ => by omega
  | 0, e, n + 1, h, he, _, b, h5, h3 => by
    have b1 := b.1
    have z : am_z L ≤ am_z (e : Int) := by rw [am_z_le (by omega) (by omega) (by omega) (by omega)]; omega
    unfold l_X7_advance_97 scE
    rw [b.2.1, h5, if_pos z, am_pi_id h5]
  | k + 1, e, n + 1, h, he, hx, b, h5, h3 => by
    have b1 := b.1
    have hlt : e < L := by omega
    have z : ¬ (am_z L ≤ am_z (e : Int)) := by rw [am_z_le (by omega) (by omega) (by omega) (by omega)]; omega
    have kr := kd_r (B e)
    have e4 : (e : Int) + 1 = ((e + 1 : Nat) : Int) := by omega
    have ec : (am_z (kd (B e)) = am_z K) = (kd (B e) = K) := by
      rw [am_z_eq (by omega) (by omega) (by omega) (by omega)]
      refine propext ?_
      omega
    unfold l_X7_advance_97
    rw [scE]
    simp only [b.2.1, h5, if_neg z, c_byte b hlt, am_bi_s, c_kind (b.2.2 e hlt).2, h3, ec]
    by_cases q : kd (B e) = K
    · simp only [if_pos q, am_z_lit, am_z_add, e4]
      rw [c_97 hK k (e + 1) n _ (by omega) (by omega) (cB_p (by decide) b) (am_pi_s _ _ _ _) (by rw [am_pi_k (by decide)]; exact h3), am_pi_pi]
    · simp only [if_neg q, am_pi_id h5]
theorem c_8 : ∀ (k p n : Nat) (h : am_Hp), p + k = L → k < n → cB h L B → h 1 4 = am_z p → ∃ n', l_X7_advance_8 N n h = l_X7_advance_8 N (n' + 1) (am_pi h 1 4 (am_z (scW B k p)))
  | k, p, 0, h, _, hx, _, _ => by omega
  | 0, p, n + 1, h, he, _, b, h4 => by
    refine ⟨n, ?_⟩
    rw [scW, am_pi_id h4]
  | k + 1, p, n + 1, h, he, hx, b, h4 => by
    have b1 := b.1
    have hlt : p < L := by omega
    have b3 := (b.2.2 p hlt).2
    have z : ¬ (am_z L ≤ am_z (p : Int)) := by rw [am_z_le (by omega) (by omega) (by omega) (by omega)]; omega
    have e4 : (p : Int) + 1 = ((p + 1 : Nat) : Int) := by omega
    have ea : (am_z (B p) = am_z 32) = (B p = 32) := by
      rw [am_z_eq (by omega) (by omega) (by omega) (by omega)]; refine propext ?_; omega
    have eb : (am_z (B p) = am_z 10) = (B p = 10) := by
      rw [am_z_eq (by omega) (by omega) (by omega) (by omega)]; refine propext ?_; omega
    rw [scW]
    by_cases q : B p = 32 ∨ B p = 10
    · obtain ⟨n', ih⟩ := c_8 k (p + 1) n (am_pi h 1 4 (am_z ((p + 1 : Nat) : Int))) (by omega) (by omega) (cB_p (by decide) b) (am_pi_s _ _ _ _)
      rw [am_pi_pi] at ih
      refine ⟨n', ?_⟩
      rw [if_pos q, ← ih, l_X7_advance_8]
      simp only [b.2.1, h4, if_neg z, c_byte b hlt, am_bi_s, am_z_lit, ea, eb, am_z_add, e4]
      by_cases q1 : B p = 32
      · rw [if_pos q1]
      · rw [if_neg q1, if_pos (by omega)]
    · refine ⟨n, ?_⟩
      rw [if_neg q, am_pi_id h4]
-- ---- scanning: the model
theorem m_64 : ∀ (k e n : Nat) (h : am_Hp), e + k = L → k < n → mB h L B → h 193 18 = am_z e → l_X10_next_64 N n h = some ((), am_pi (am_pi h 193 18 (am_z (scE B 1 k e))) 193 20 (am_z 0))
  | k, e, 0, h, _, hx, _, _ => by omega
  | 0, e, n + 1, h, he, _, b, h8 => by
    unfold l_X10_next_64 scE
    simp only [m_heren b h8 (by omega), am_bi_s, m_smn, am_z_lit, if_true, am_pi_id h8]
  | k + 1, e, n + 1, h, he, hx, b, h8 => by
    have hlt : e < L := by omega
    have e4 : (e : Int) + 1 = ((e + 1 : Nat) : Int) := by omega
    unfold l_X10_next_64
    rw [scE]
    simp only [m_here b h8 hlt, am_bi_s, m_sm (b.2.2 e hlt).2, am_z_lit]
    by_cases q : kd (B e) = 1
    · simp only [if_pos q, if_neg z_10, h8, am_z_add, e4]
      rw [m_64 k (e + 1) n _ (by omega) (by omega) (mB_p (by decide) b) (am_pi_s _ _ _ _), am_pi_pi]
    · simp only [if_neg q, if_true, am_pi_id h8]
def mv (B : Nat → Nat) (s : Nat) : Nat → Nat
  | 0 => 0
  | n + 1 => if mv B s n ≤ 100000 then 10 * mv B s n + B (s + n) - 48 else mv B s n
theorem m_112 {s : Nat} : ∀ (k e n : Nat) (h : am_Hp), e + k = L → k < n → mB h L B → s ≤ e → h 193 18 = am_z e → h 193 21 = am_z (mv B s (e - s)) → mv B s (e - s) ≤ 1000009 → ∃ h', l_X10_next_112 N n h = some ((), h') ∧ h' 193 18 = am_z (scE B 2 k e) ∧ h' 193 21 = am_z (mv B s (scE B 2 k e - s)) ∧ mv B s (scE B 2 k e - s) ≤ 1000009 ∧ (∀ a, a ≠ 193 → h' a = h a) ∧ ∀ k, k ≠ 18 → k ≠ 21 → h' 193 k = h 193 k
  | k, e, 0, h, _, hx, _, _, _, _, _ => by omega
  | 0, e, n + 1, h, he, _, b, hs, h8, h1, hb => by
    refine ⟨h, ?_, h8, h1, hb, fun _ _ => rfl, fun _ _ _ => rfl⟩
    unfold l_X10_next_112
    simp only [m_heren b h8 (by omega), am_bi_s, m_dgn, am_z_lit, if_true]
  | k + 1, e, n + 1, h, he, hx, b, hs, h8, h1, hb => by
    have hlt : e < L := by omega
    have e4 : (e : Int) + 1 = ((e + 1 : Nat) : Int) := by omega
    rw [scE]
    by_cases q : kd (B e) = 2
    · have d := kd_2 q
      have es : e + 1 - s = e - s + 1 := by omega
      have ee : s + (e - s) = e := by omega
      generalize hv : mv B s (e - s) = v at *
      have ev : mv B s (e + 1 - s) = if v ≤ 100000 then 10 * v + B e - 48 else v := by rw [es, mv, hv, ee]
      have ec : (am_z (v : Int) ≤ am_z 100000) = (v ≤ 100000) := by
        rw [am_z_le (by omega) (by omega) (by omega) (by omega)]; refine propext ?_; omega
      by_cases qv : v ≤ 100000
      · rw [if_pos qv] at ev
        have e5 : 10 * (v : Int) + (B e : Int) - 48 = ((10 * v + B e - 48 : Nat) : Int) := by omega
        obtain ⟨h', p1, p2, p3, p4, p5, p6⟩ := m_112 (s := s) k (e + 1) n (am_pi (am_pi h 193 21 (am_z ((10 * v + B e - 48 : Nat) : Int))) 193 18 (am_z ((e + 1 : Nat) : Int))) (by omega) (by omega) (mB_p (by decide) (mB_p (by decide) b)) (by omega) (am_pi_s _ _ _ _) (by rw [am_pi_k (by decide), am_pi_s, ev]) (by rw [ev]; omega)
        rw [if_pos q]
        refine ⟨h', ?_, p2, p3, p4, fun a ha => by rw [p5 a ha, qc_pia ha, qc_pia ha], fun k h1 h2 => by rw [p6 k h1 h2, am_pi_k h1, am_pi_k h2]⟩
        unfold l_X10_next_112
        simp (disch := decide) only [m_here b h8 hlt, am_bi_s, m_dg (b.2.2 e hlt).2, if_pos q, am_z_lit, if_neg z_10, h1, ec, if_pos qv, am_z_mul, am_z_add, am_z_sub, e5, am_pi_k, h8, e4]
        exact p1
      · rw [if_neg qv] at ev
        have hid : am_pi h 193 21 (am_z (v : Int)) = h := am_pi_id h1
        obtain ⟨h', p1, p2, p3, p4, p5, p6⟩ := m_112 (s := s) k (e + 1) n (am_pi h 193 18 (am_z ((e + 1 : Nat) : Int))) (by omega) (by omega) (mB_p (by decide) b) (by omega) (am_pi_s _ _ _ _) (by rw [am_pi_k (by decide), ev]; exact h1) (by rw [ev]; omega)
        rw [if_pos q]
        refine ⟨h', ?_, p2, p3, p4, fun a ha => by rw [p5 a ha, qc_pia ha], fun k h1 h2 => by rw [p6 k h1 h2, am_pi_k h1]⟩
        unfold l_X10_next_112
        simp (disch := decide) only [m_here b h8 hlt, am_bi_s, m_dg (b.2.2 e hlt).2, if_pos q, am_z_lit, if_neg z_10, h1, ec, if_neg qv, hid, h8, am_z_add, e4]
        exact p1
    · rw [if_neg q]
      refine ⟨h, ?_, h8, h1, hb, fun _ _ => rfl, fun _ _ _ => rfl⟩
      unfold l_X10_next_112
      simp only [m_here b h8 hlt, am_bi_s, m_dg (b.2.2 e hlt).2, if_neg q, am_z_lit, if_true]
theorem m_0 : ∀ (k p n : Nat) (h : am_Hp), p + k = L → k < n → mB h L B → h 193 18 = am_z p → ∃ n', l_X10_next_0 N n h = l_X10_next_0 N (n' + 1) (am_pi h 193 18 (am_z (scW B k p)))
  | k, p, 0, h, _, hx, _, _ => by omega
  | 0, p, n + 1, h, he, _, b, h4 => by
    refine ⟨n, ?_⟩
    rw [scW, am_pi_id h4]
  | k + 1, p, n + 1, h, he, hx, b, h4 => by
    have b1 := b.1
    have hlt : p < L := by omega
    have b3 := (b.2.2 p hlt).2
    have e4 : (p : Int) + 1 = ((p + 1 : Nat) : Int) := by omega
    have ea : (am_z (B p) = am_z 32) = (B p = 32) := by
      rw [am_z_eq (by omega) (by omega) (by omega) (by omega)]; refine propext ?_; omega
    have eb : (am_z (B p) = am_z 10) = (B p = 10) := by
      rw [am_z_eq (by omega) (by omega) (by omega) (by omega)]; refine propext ?_; omega
    rw [scW]
    by_cases q : B p = 32 ∨ B p = 10
    · obtain ⟨n', ih⟩ := m_0 k (p + 1) n (am_pi h 193 18 (am_z ((p + 1 : Nat) : Int))) (by omega) (by omega) (mB_p (by decide) b) (am_pi_s _ _ _ _)
      rw [am_pi_pi] at ih
      refine ⟨n', ?_⟩
      rw [if_pos q, ← ih, l_X10_next_0]
      simp only [h4, m_here b h4 hlt, am_bi_s, am_z_lit, ea, eb, am_z_add, e4]
      by_cases q1 : B p = 10
      · rw [if_pos q1]
      · rw [if_neg q1, if_pos (by omega)]
    · refine ⟨n, ?_⟩
      rw [if_neg q, am_pi_id h4]
end TOK2
