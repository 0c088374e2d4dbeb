section CNST
/-- the reference's part as it begins -/
def cn_g0 : am_Hp := fun a k => if a = 193 then (if k = 24 then -1 else 0) else cn_hp a k
theorem cn_R0 (N : Nat) (hN : 60000 ≤ N) : ∃ h1, qr_R 0 0 cn_hp h1 := by
  obtain ⟨h1, p1, p2, p3, p4, p5, p6⟩ := m_newC (hm := cn_g0) hN
  refine ⟨h1, ?_⟩
  have hv := cn_vals
  simp only [Bool.and_eq_true, decide_eq_true_eq] at hv
  obtain ⟨⟨⟨⟨⟨⟨⟨⟨⟨⟨⟨⟨⟨⟨⟨⟨⟨v1, v2⟩, v3⟩, v4⟩, v5⟩, v6⟩, v7⟩, v8⟩, v9⟩, v10⟩, v11⟩, v12⟩, v13⟩, v14⟩, v15⟩, v17⟩, v19⟩, v21⟩ := hv
  have q : ∀ a k, a ≠ 195 → a ≠ 197 → h1 a k = cn_g0 a k := fun a k x y => by rw [p2 a x y]
  have z0 : am_z 0 = 0 := by decide
  have r0 : ∀ k, k < 6071 → 2 ≤ k → k < 7 → h1 197 k = 0 := fun k h1 h2 h3 => (p6.2 k h1 h2 (fun s _ => ⟨by omega, by omega⟩) (fun u hu => by omega)).trans z0
  have vn0 : ∀ hi, vn 0 0 hi := fun hi => by
    have := vn_z (n := 0) (lo := 0) (hi := hi) (by omega) (Nat.le_refl _) (Nat.zero_le _)
    rw [show am_z ((0 : Nat) : Int) = 0 by decide] at this
    exact this
  have nv0 : nv 0 = 0 := by decide
  have g0 : ∀ k, k ≠ 24 → cn_g0 193 k = 0 := fun k hk => by unfold cn_g0; rw [if_pos rfl, if_neg hk]
  have e392 : cn_hp 39 2 = 0 := v15
  have e11 : cn_hp 1 1 = 0 := v17
  have e04 : cn_hp 0 4 = 0 := v21
  refine ⟨⟨by omega, by omega, ?_, ?_, ?_, ?_, ?_, ?_, ?_, ?_, fun i hi => absurd hi (by omega), fun i hi => absurd hi (by omega)⟩, ⟨?_, ?_, fun i hi => ?_, ?_, ?_, ?_, fun i hi => ?_⟩, ⟨?_, ?_, ?_, fun k hk => ?_, fun s hs => absurd hs (by omega), fun u hu => absurd hu (by omega)⟩, ⟨?_, fun s hs => absurd hs (by omega), fun u hu => absurd hu (by omega)⟩, ⟨?_, ?_, ?_, fun j hj => ?_, fun j s hj => ?_, fun i j s hij hj => ?_⟩⟩
  · rw [v1]; decide
  · rw [v2]; decide
  · rw [v3]; decide
  · rw [v4]; decide
  · rw [v5]; decide
  · rw [v6]; decide
  · rw [p3 0 (by omega)]; decide
  · rw [p3 1 (by omega)]; decide
  · rw [e11]; exact vn0 _
  · rw [e11, q 193 2 (by decide) (by decide)]; exact g0 2 (by decide)
  · rw [e11, nv0] at hi; omega
  · rw [q 193 24 (by decide) (by decide), v19]; rfl
  · rw [e04]; exact vn0 _
  · rw [e04, q 193 30 (by decide) (by decide)]; exact g0 30 (by decide)
  · rw [e04, nv0] at hi; omega
  · rw [v7]; exact (r0 2 (by omega) (by omega) (by omega)).symm
  · rw [v8, p4]; decide
  · rw [v9, p5]; decide
  · rw [r0 (3 + k) (by omega) (by omega) (by omega)]
    rcases (show k = 0 ∨ k = 1 ∨ k = 2 ∨ k = 3 by omega) with rfl | rfl | rfl | rfl
    · exact v10
    · exact v11
    · exact v12
    · exact v13
  · rw [p5, z0]; exact vn0 _
  · rw [v14]; exact vn0 _
  · rw [e392]; exact vn0 _
  · rw [e392, q 193 8 (by decide) (by decide)]; exact g0 8 (by decide)
  · rw [e392, nv0] at hj; omega
  · rw [e392, nv0] at hj; omega
  · rw [e392, nv0] at hj; omega
end CNST
