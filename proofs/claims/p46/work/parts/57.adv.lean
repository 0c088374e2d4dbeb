section TOK3
variable {N L : Nat} {B : Nat → Nat}
-- ---- the next token
def tkS (B : Nat → Nat) (L p : Nat) : Nat := scW B (L - p) p
def tkK (B : Nat → Nat) (L p : Nat) : Nat := if tkS B L p < L then kd (B (tkS B L p)) else 0
def tkE (B : Nat → Nat) (L p : Nat) : Nat := if tkK B L p = 0 then tkS B L p else if tkK B L p ≤ 2 then scE B (tkK B L p) (L - tkS B L p) (tkS B L p) else tkS B L p + 1
theorem tkS_le {p : Nat} (hp : p ≤ L) : p ≤ tkS B L p ∧ tkS B L p ≤ L ∧ (tkS B L p < L → ¬ (B (tkS B L p) = 32 ∨ B (tkS B L p) = 10)) := by
  obtain ⟨a1, a2, a3⟩ := scW_le (B := B) (L - p) p
  exact ⟨a1, by unfold tkS; omega, fun h => a3 (by unfold tkS at h; omega)⟩
theorem tkE_le {p : Nat} (hp : p ≤ L) : tkS B L p ≤ tkE B L p ∧ tkE B L p ≤ L ∧ tkK B L p ≤ 4 ∧ (tkK B L p = 0 → tkS B L p = L) ∧ (tkK B L p ≠ 0 → tkS B L p < tkE B L p) ∧ (tkK B L p = 1 → ∀ i, tkS B L p ≤ i → i < tkE B L p → 97 ≤ B i ∧ B i ≤ 122) ∧ (tkK B L p = 2 → ∀ i, tkS B L p ≤ i → i < tkE B L p → 48 ≤ B i ∧ B i ≤ 57) := by
  obtain ⟨a1, a2, a3⟩ := tkS_le (B := B) hp
  generalize hs : tkS B L p = s at *
  have hK : tkK B L p = if s < L then kd (B s) else 0 := by unfold tkK; rw [hs]
  have hE : tkE B L p = if tkK B L p = 0 then s else if tkK B L p ≤ 2 then scE B (tkK B L p) (L - s) s else s + 1 := by unfold tkE; rw [hs]
  generalize tkK B L p = K at *
  generalize tkE B L p = e at *
  have kr := kd_r (B s)
  by_cases q : s < L
  · rw [if_pos q] at hK
    have k0 : K ≠ 0 := by omega
    rw [if_neg k0] at hE
    obtain ⟨b1, b2, b3⟩ := scE_le (B := B) (K := K) (L - s) s
    by_cases q2 : K ≤ 2
    · rw [if_pos q2] at hE
      have hne : s < e := by
        obtain ⟨k, hk⟩ : ∃ k, L - s = k + 1 := ⟨L - s - 1, by omega⟩
        rw [hE, hk, scE, if_pos hK.symm]
        have := (scE_le (B := B) (K := K) k (s + 1)).1
        omega
      refine ⟨by omega, by omega, by omega, fun z => absurd z k0, fun _ => hne, fun z i h1 h2 => ?_, fun z i h1 h2 => ?_⟩
      · exact kd_1 (by rw [b3 i h1 (by omega)]; exact z)
      · exact kd_2 (by rw [b3 i h1 (by omega)]; exact z)
    · rw [if_neg q2] at hE
      exact ⟨by omega, by omega, by omega, fun z => absurd z k0, fun _ => by omega, fun z => by omega, fun z => by omega⟩
  · rw [if_neg q] at hK
    rw [if_pos hK] at hE
    exact ⟨by omega, by omega, by omega, fun _ => by omega, fun z => absurd hK z, fun z => by omega, fun z => by omega⟩
theorem c_adv {h : am_Hp} {p : Nat} (hN : 1000 ≤ N) (b : cB h L B) (hp : p ≤ L) (h5 : h 1 5 = am_z p) : f_X7_advance N h = some ((), am_pi (am_pi (am_pi h 1 4 (am_z (tkS B L p))) 1 3 (am_z (tkK B L p))) 1 5 (am_z (tkE B L p))) := by
  have b1 := b.1
  obtain ⟨n', ih⟩ := c_8 (N := N) (L - p) p N (am_pi h 1 4 (am_z p)) (by omega) (by omega) (cB_p (by decide) b) (am_pi_s _ _ _ _)
  rw [am_pi_pi] at ih
  obtain ⟨a1, a2, a3⟩ := tkS_le (B := B) hp
  have hs : scW B (L - p) p = tkS B L p := rfl
  rw [hs] at ih
  unfold f_X7_advance
  simp only [h5, ih]
  have hK : tkK B L p = if tkS B L p < L then kd (B (tkS B L p)) else 0 := rfl
  have hE : tkE B L p = if tkK B L p = 0 then tkS B L p else if tkK B L p ≤ 2 then scE B (tkK B L p) (L - tkS B L p) (tkS B L p) else tkS B L p + 1 := rfl
  generalize tkS B L p = s at *
  generalize tkK B L p = K at *
  generalize tkE B L p = e at *
  have bg : cB (am_pi h 1 4 (am_z s)) L B := cB_p (by decide) b
  have g4 : am_pi h 1 4 (am_z s) 1 4 = am_z s := am_pi_s _ _ _ _
  generalize am_pi h 1 4 (am_z s) = g at *
  have e4 : (s : Int) + 1 = ((s + 1 : Nat) : Int) := by omega
  rw [l_X7_advance_8]
  by_cases q : s < L
  · rw [if_pos q] at hK
    have kr := kd_r (B s)
    have b3 := (bg.2.2 s q).2
    have z : ¬ (am_z L ≤ am_z (s : Int)) := by rw [am_z_le (by omega) (by omega) (by omega) (by omega)]; omega
    have ea : ¬ (am_z (B s) = am_z 32) := by
      rw [am_z_eq (by omega) (by omega) (by omega) (by omega)]; have := a3 q; omega
    have eb : ¬ (am_z (B s) = am_z 10) := by
      rw [am_z_eq (by omega) (by omega) (by omega) (by omega)]; have := a3 q; omega
    have k0 : ¬ (am_z K = am_z 0) := by rw [am_z_eq (by omega) (by omega) (by omega) (by omega)]; omega
    rw [if_neg (by omega)] at hE
    simp (disch := decide) only [bg.2.1, g4, if_neg z, c_byte bg q, am_bi_s, am_z_lit, if_neg ea, if_neg eb, c_kind b3, ← hK, am_pi_k, am_pi_s, if_neg k0, am_z_add, e4]
    by_cases q1 : K = 1
    · rw [if_pos (by omega)] at hE
      have z1 : am_z K = am_z 1 := by rw [q1]; rfl
      rw [if_pos z1, c_97 (K := K) (by omega) (L - s) s N _ (by omega) (by omega) (cB_p (by decide) (cB_p (by decide) bg)) (am_pi_s _ _ _ _) (by rw [am_pi_k (by decide), am_pi_s]), am_pi_pi, hE]
    · have z1 : ¬ (am_z K = am_z 1) := by rw [am_z_eq (by omega) (by omega) (by omega) (by omega)]; omega
      rw [if_neg z1]
      by_cases q2 : K = 2
      · rw [if_pos (by omega)] at hE
        have z2 : am_z K = am_z 2 := by rw [q2]; rfl
        rw [if_pos z2, c_97 (K := K) (by omega) (L - s) s N _ (by omega) (by omega) (cB_p (by decide) (cB_p (by decide) bg)) (am_pi_s _ _ _ _) (by rw [am_pi_k (by decide), am_pi_s]), am_pi_pi, hE]
      · have z2 : ¬ (am_z K = am_z 2) := by rw [am_z_eq (by omega) (by omega) (by omega) (by omega)]; omega
        rw [if_neg (by omega)] at hE
        rw [if_neg z2, am_pi_pi, hE]
  · rw [if_neg q] at hK
    rw [if_pos hK] at hE
    have z : am_z L ≤ am_z (s : Int) := by rw [am_z_le (by omega) (by omega) (by omega) (by omega)]; omega
    have z1 : ¬ (am_z 0 = am_z 2) := by decide
    simp (disch := decide) only [bg.2.1, g4, if_pos z, c_byten bg (show L ≤ s by omega) (show s ≤ 100000 by omega), am_bi_s, am_z_lit, c_kindn, am_pi_k, am_pi_s, if_neg z_01, if_neg z1, if_true]
    rw [hE, hK]
    rfl
end TOK3
