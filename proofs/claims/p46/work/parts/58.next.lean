section TOK4
variable {N L : Nat} {B : Nat → Nat}
def tk (K : Nat) : Nat := if K = 0 then 3 else if K = 1 then 0 else if K = 2 then 1 else if K = 3 then 2 else 4
theorem m_next {h : am_Hp} {p : Nat} (hN : 1000 ≤ N) (b : mB h L B) (hp : p ≤ L) (h8 : h 193 18 = am_z p) : ∃ h', f_X10_next N h = some ((), h') ∧ h' 193 19 = am_z (tkS B L p) ∧ h' 193 18 = am_z (tkE B L p) ∧ h' 193 20 = am_z (tk (tkK B L p)) ∧ (tkK B L p = 2 → h' 193 21 = am_z (mv B (tkS B L p) (tkE B L p - tkS B L p)) ∧ mv B (tkS B L p) (tkE B L p - tkS B L p) ≤ 1000009) ∧ (∀ a, a ≠ 193 → h' a = h a) ∧ ∀ k, ¬ (18 ≤ k ∧ k ≤ 21) → h' 193 k = h 193 k := by
  have b1 := b.1
  obtain ⟨n', ih⟩ := m_0 (N := N) (L - p) p N h (by omega) (by omega) b h8
  obtain ⟨a1, a2, a3⟩ := tkS_le (B := B) hp
  have hs : scW B (L - p) p = tkS B L p := rfl
  rw [hs] at ih
  unfold f_X10_next
  rw [ih]
  have hK : tkK B L p = if tkS B L p < L then kd (B (tkS B L p)) else 0 := rfl
  have hE : tkE B L p = if tkK B L p = 0 then tkS B L p else if tkK B L p ≤ 2 then scE B (tkK B L p) (L - tkS B L p) (tkS B L p) else tkS B L p + 1 := rfl
  generalize tkS B L p = s at *
  generalize tkK B L p = K at *
  generalize tkE B L p = e at *
  have bg : mB (am_pi h 193 18 (am_z s)) L B := mB_p (by decide) b
  have g4 : am_pi h 193 18 (am_z s) 193 18 = am_z s := am_pi_s _ _ _ _
  have fa : ∀ a, a ≠ 193 → am_pi h 193 18 (am_z s) a = h a := fun a ha => qc_pia ha
  have fk : ∀ k, ¬ (18 ≤ k ∧ k ≤ 21) → am_pi h 193 18 (am_z s) 193 k = h 193 k := fun k hk => am_pi_k (by omega)
  generalize am_pi h 193 18 (am_z s) = g at *
  have e4 : (s : Int) + 1 = ((s + 1 : Nat) : Int) := by omega
  have bg2 : mB (am_pi g 193 19 (am_z s)) L B := mB_p (by decide) bg
  have g5 : am_pi g 193 19 (am_z s) 193 18 = am_z s := by rw [am_pi_k (by decide)]; exact g4
  rw [l_X10_next_0]
  by_cases q : s < L
  · rw [if_pos q] at hK
    have kr := kd_r (B s)
    have b3 := (bg.2.2 s q).2
    have ea : ¬ (am_z (B s) = am_z 32) := by
      rw [am_z_eq (by omega) (by omega) (by omega) (by omega)]; have := a3 q; omega
    have eb : ¬ (am_z (B s) = am_z 10) := by
      rw [am_z_eq (by omega) (by omega) (by omega) (by omega)]; have := a3 q; omega
    have en : ¬ (am_z (B s) = am_z (-1)) := by
      rw [am_z_eq (by omega) (by omega) (by omega) (by omega)]; omega
    rw [if_neg (by omega)] at hE
    simp (disch := decide) only [m_here bg g4 q, am_bi_s, am_z_lit, am_z_neg, if_neg eb, if_neg ea, g4, m_here bg2 g5 q, if_neg en, m_sm b3, m_dg b3, ← hK]
    by_cases q1 : K = 1
    · rw [if_pos (by omega)] at hE
      subst q1
      simp only [if_true, if_neg z_10]
      refine ⟨_, m_64 (L - s) s N _ (by omega) (by omega) bg2 g5, ?_, ?_, ?_, fun z => by omega, fun a ha => ?_, fun k hk => ?_⟩
      · rw [am_pi_k (by decide), am_pi_k (by decide), am_pi_s]
      · rw [am_pi_k (by decide), am_pi_s, hE]
      · rw [am_pi_s]; rfl
      · rw [qc_pia ha, qc_pia ha, qc_pia ha, fa a ha]
      · rw [am_pi_k (by omega), am_pi_k (by omega), am_pi_k (by omega), fk k hk]
    · by_cases q2 : K = 2
      · rw [if_pos (by omega)] at hE
        subst q2
        have z12 : ¬ (2 : Nat) = 1 := by decide
        simp only [if_true, if_neg z_10, if_neg z12]
        obtain ⟨h', p1, p2, p3, p4, p5, p6⟩ := m_112 (N := N) (s := s) (L - s) s N (am_pi (am_pi (am_pi g 193 19 (am_z s)) 193 20 (am_z 1)) 193 21 (am_z 0)) (by omega) (by omega) (mB_p (by decide) (mB_p (by decide) bg2)) (Nat.le_refl _) (by rw [am_pi_k (by decide), am_pi_k (by decide)]; exact g5) (by rw [am_pi_s, Nat.sub_self]; rfl) (by rw [Nat.sub_self]; exact Nat.zero_le _)
        rw [← hE] at p2 p3 p4
        refine ⟨h', p1, ?_, p2, ?_, fun _ => ⟨p3, p4⟩, fun a ha => ?_, fun k hk => ?_⟩
        · rw [p6 _ (by decide) (by decide), am_pi_k (by decide), am_pi_k (by decide), am_pi_s]
        · rw [p6 _ (by decide) (by decide), am_pi_k (by decide), am_pi_s]; rfl
        · rw [p5 a ha, qc_pia ha, qc_pia ha, qc_pia ha, fa a ha]
        · rw [p6 k (by omega) (by omega), am_pi_k (by omega), am_pi_k (by omega), am_pi_k (by omega), fk k hk]
      · rw [if_neg (by omega)] at hE
        simp only [if_neg q1, if_neg q2, if_true]
        by_cases q3 : K = 3
        · have z3 : am_z (B s) = am_z 59 := by rw [kd_3 (by omega : kd (B s) = 3)]; rfl
          subst q3
          simp (disch := decide) only [if_pos z3, am_pi_k, g4, am_z_add, e4]
          refine ⟨_, rfl, ?_, ?_, ?_, fun z => by omega, fun a ha => ?_, fun k hk => ?_⟩
          · rw [am_pi_k (by decide), am_pi_k (by decide), am_pi_s]
          · rw [am_pi_s, hE]
          · rw [am_pi_k (by decide), am_pi_s]; rfl
          · rw [qc_pia ha, qc_pia ha, qc_pia ha, fa a ha]
          · rw [am_pi_k (by omega), am_pi_k (by omega), am_pi_k (by omega), fk k hk]
        · have k4 : K = 4 := by omega
          have z3 : ¬ (am_z (B s) = am_z 59) := by
            have := kd_4 (by omega : kd (B s) = 4)
            rw [am_z_eq (by omega) (by omega) (by omega) (by omega)]; omega
          subst k4
          simp (disch := decide) only [if_neg z3, am_pi_k, g4, am_z_add, e4]
          refine ⟨_, rfl, ?_, ?_, ?_, fun z => by omega, fun a ha => ?_, fun k hk => ?_⟩
          · rw [am_pi_k (by decide), am_pi_k (by decide), am_pi_s]
          · rw [am_pi_s, hE]
          · rw [am_pi_k (by decide), am_pi_s]; rfl
          · rw [qc_pia ha, qc_pia ha, qc_pia ha, fa a ha]
          · rw [am_pi_k (by omega), am_pi_k (by omega), am_pi_k (by omega), fk k hk]
  · rw [if_neg q] at hK
    rw [if_pos hK] at hE
    have z1 : ¬ (am_z (-1) = am_z 10) := by decide
    have z2 : ¬ (am_z (-1) = am_z 32) := by decide
    simp (disch := decide) only [m_heren bg g4 (show s = L by omega), am_bi_s, am_z_lit, am_z_neg, if_neg z1, if_neg z2, g4, m_heren bg2 g5 (show s = L by omega), if_true]
    refine ⟨_, rfl, ?_, ?_, ?_, fun z => by omega, fun a ha => ?_, fun k hk => ?_⟩
    · rw [am_pi_k (by decide), am_pi_s]
    · rw [am_pi_k (by decide), am_pi_k (by decide), hE]; exact g4
    · rw [am_pi_s, hK]; rfl
    · rw [qc_pia ha, qc_pia ha, fa a ha]
    · rw [am_pi_k (by omega), am_pi_k (by omega), fk k hk]
end TOK4
