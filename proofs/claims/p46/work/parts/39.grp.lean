section GRP
variable {N : Nat} {hc hm : am_Hp}
def gL (x : Int32) (i : Nat) : Int32 := (x >>> (am_z (25 - 5 * i) &&& am_z 31)) &&& am_z 31
theorem gL_r (x : Int32) (i : Nat) : ∃ g : Nat, gL x i = am_z g ∧ g ≤ 31 := by
  unfold gL
  generalize x >>> (am_z (25 - 5 * (i : Int)) &&& am_z 31) = y
  refine ⟨(y &&& am_z 31).toBitVec.toNat, ?_, ?_⟩
  · rw [← am_z_nat]
    refine Int32.toBitVec.inj ?_
    show _ = BitVec.ofNat 32 _
    rw [BitVec.ofNat_toNat, BitVec.setWidth_eq]
  · rw [Int32.toBitVec_and, BitVec.toNat_and]
    have : (am_z 31).toBitVec.toNat = 31 := by decide
    rw [this]
    exact Nat.and_le_right
theorem g_at {x : Int32} {i : Nat} {h : am_Hp} : f_X9_groupAt N x (am_z i) h = some (gL x i, h) := by
  unfold f_X9_groupAt gL
  have e : 5 * (5 - (i : Int)) = 25 - 5 * (i : Int) := by omega
  simp only [am_z_lit, am_z_sub, am_z_mul, e]
theorem l_of {x : Int32} {i : Nat} {h : am_Hp} : f_X10_letterOf N x (am_z i) h = some (gL x i, h) := by
  unfold f_X10_letterOf gL
  simp only [am_z_lit, am_z_sub, am_z_mul]
def gP (x : Int32) : Prop := am_z 0 < x ∧ x >>> (am_z 30 &&& am_z 31) = am_z 0
/-- behind the letters: nothing but zeros -/
theorem g_A {x : Int32} {mx : Nat} (hP : gP x) (hmx : mx ≤ 31) : ∀ (k n j a b c : Nat), n < j → j + k = 6 → k < a → k < b → k < c → ∃ v : Nat, (v = 0 ∨ (v = n ∧ ∀ i, j ≤ i → i < 6 → gL x i = am_z 0)) ∧ l_X9_groupsIn_17 N a x (am_z mx) (am_z n) (am_z j) hc = some (am_z v, hc) ∧ l_X10_lengthOf_36 N b x (am_z n) (am_z j) hm = some (am_z v, hm) ∧ l_X10_symbolsIn_24 N c x (am_z n) (am_z j) hm = some (am_z v, hm)
  | k, n, j, 0, b, c, _, _, h, _, _ => by omega
  | k, n, j, a, 0, c, _, _, _, h, _ => by omega
  | k, n, j, a, b, 0, _, _, _, _, h => by omega
  | 0, n, j, a + 1, b + 1, c + 1, h1, h2, _, _, _ => by
    have e : j = 6 := by omega
    subst e
    have q1 : ¬ (x < am_z 0) := by
      have := hP.1
      rw [Int32.lt_iff_toInt_lt] at this ⊢
      omega
    have q2 : ¬ (x ≤ am_z 0) := by
      have := hP.1
      rw [Int32.lt_iff_toInt_lt] at this
      rw [Int32.le_iff_toInt_le]
      omega
    refine ⟨n, Or.inr ⟨rfl, fun i a b => by omega⟩, ?_, ?_, ?_⟩
    · unfold l_X9_groupsIn_17
      simp (disch := omega) only [am_z_lit, am_z_le]
      rw [if_pos (by omega)]
    · unfold l_X10_lengthOf_36
      simp (disch := omega) only [am_z_lit, am_z_le, if_neg q1, if_pos hP.2]
      rw [if_pos (by omega)]
    · unfold l_X10_symbolsIn_24
      simp (disch := omega) only [am_z_lit, if_neg q2, if_pos hP.2]
      rw [if_pos (by rw [am_z_le (by omega) (by omega) (by omega) (by omega)]; omega)]
  | k + 1, n, j, a + 1, b + 1, c + 1, h1, h2, h3, h4, h5 => by
    obtain ⟨g, hg, g31⟩ := gL_r x j
    have e4 : (j : Int) + 1 = ((j + 1 : Nat) : Int) := by omega
    have hlt : ¬ (am_z 6 ≤ am_z j) := by rw [am_z_le (by omega) (by omega) (by omega) (by omega)]; omega
    have hnj : ¬ (am_z j ≤ am_z n) := by rw [am_z_le (by omega) (by omega) (by omega) (by omega)]; omega
    unfold l_X9_groupsIn_17 l_X10_lengthOf_36 l_X10_symbolsIn_24
    simp only [am_z_lit, if_neg hlt, g_at, l_of, am_bi_s, hg, am_z_add, e4, if_neg hnj]
    by_cases q0 : g = 0
    · subst q0
      have z1 : ¬ (am_z mx < am_z 0) := by rw [am_z_lt (by omega) (by omega) (by omega) (by omega)]; omega
      have z2 : am_z ((0 : Nat) : Int) = am_z 0 := rfl
      have z3 : am_z ((0 : Nat) : Int) ≤ am_z 0 := Int32.le_refl _
      simp only [z2, if_neg z1, if_true]
      rw [if_pos (show am_z 0 ≤ am_z 0 from Int32.le_refl _), if_pos (show am_z 0 ≤ am_z 0 from Int32.le_refl _)]
      obtain ⟨v, a1, a2, a3, a4⟩ := g_A hP hmx k n (j + 1) a b c (by omega) (by omega) (by omega) (by omega) (by omega)
      refine ⟨v, ?_, a2, a3, a4⟩
      rcases a1 with a1 | ⟨a1, a1'⟩
      · exact Or.inl a1
      · refine Or.inr ⟨a1, fun i p q => ?_⟩
        by_cases hi : i = j
        · subst hi; rw [hg]; rfl
        · exact a1' i (by omega) q
    · have z1 : ¬ (am_z g = am_z 0) := by rw [am_z_eq (by omega) (by omega) (by omega) (by omega)]; omega
      have z2 : ¬ (am_z g ≤ am_z 0) := by rw [am_z_le (by omega) (by omega) (by omega) (by omega)]; omega
      simp only [if_neg z1, if_neg z2, ite_self]
      exact ⟨0, Or.inl rfl, rfl, rfl, rfl⟩
/-- the letters, up to mx -/
theorem g_B {x : Int32} (hN : 1000 ≤ N) (hP : gP x) : ∀ (k j a b : Nat), j + k = 6 → k < a → k < b → (∀ i, i < j → ∃ g : Nat, gL x i = am_z g ∧ 1 ≤ g ∧ g ≤ 26) → ∃ v : Nat, v ≤ 6 ∧ (v ≠ 0 → (∀ i, i < v → ∃ g : Nat, gL x i = am_z g ∧ 1 ≤ g ∧ g ≤ 26) ∧ ∀ i, v ≤ i → i < 6 → gL x i = am_z 0) ∧ l_X9_groupsIn_17 N a x (am_z 26) (am_z j) (am_z j) hc = some (am_z v, hc) ∧ l_X10_lengthOf_2 N b x (am_z j) hm = some (am_z v, hm)
  | k, j, 0, b, _, h, _, _ => by omega
  | k, j, a, 0, _, _, h, _ => by omega
  | 0, j, a + 1, b + 1, h1, _, _, hI => by
    have e : j = 6 := by omega
    subst e
    have q1 : ¬ (x < am_z 0) := by
      have := hP.1
      rw [Int32.lt_iff_toInt_lt] at this ⊢
      omega
    have z6 : am_z 6 ≤ am_z ((6 : Nat) : Int) := Int32.le_refl _
    obtain ⟨N', rfl⟩ : ∃ N', N = N' + 1 := ⟨N - 1, by omega⟩
    refine ⟨6, by omega, fun _ => ⟨hI, fun i p q => by omega⟩, ?_, ?_⟩
    · unfold l_X9_groupsIn_17
      simp only [am_z_lit, if_pos z6]
    · unfold l_X10_lengthOf_2 l_X10_lengthOf_36
      simp only [am_z_lit, if_pos z6, if_neg q1, if_pos hP.2]
  | k + 1, j, a + 1, b + 1, h1, h2, h3, hI => by
    obtain ⟨g, hg, g31⟩ := gL_r x j
    have e4 : (j : Int) + 1 = ((j + 1 : Nat) : Int) := by omega
    have hlt : ¬ (am_z 6 ≤ am_z j) := by rw [am_z_le (by omega) (by omega) (by omega) (by omega)]; omega
    unfold l_X9_groupsIn_17 l_X10_lengthOf_2
    simp only [am_z_lit, if_neg hlt, g_at, l_of, am_bi_s, hg, am_z_add, e4, if_pos (Int32.le_refl (am_z j))]
    by_cases q0 : g = 0
    · subst q0
      have z1 : ¬ (am_z 26 < am_z 0) := by decide
      have z2 : am_z ((0 : Nat) : Int) = am_z 0 := rfl
      simp only [z2, if_neg z1, if_true]
      rw [if_pos (show am_z 0 ≤ am_z 0 from Int32.le_refl _)]
      obtain ⟨v, a1, a2, a3, -⟩ := g_A (N := N) (hc := hc) (hm := hm) (mx := 26) hP (by omega) k j (j + 1) a N N (by omega) (by omega) (by omega) (by omega) (by omega)
      have e5 : l_X10_lengthOf_36 N N x (am_z j) (am_z j) hm = l_X10_lengthOf_36 N (N - 1) x (am_z j) (am_z ((j + 1 : Nat) : Int)) hm := by
        obtain ⟨N', rfl⟩ : ∃ N', N = N' + 1 := ⟨N - 1, by omega⟩
        conv => lhs; unfold l_X10_lengthOf_36
        simp only [am_z_lit, if_neg hlt, l_of, am_bi_s, hg, am_z_add, e4]
        rw [if_pos (show am_z ((0 : Nat) : Int) ≤ am_z 0 from Int32.le_refl _)]
        rfl
      obtain ⟨v', a1', a2', a3', -⟩ := g_A (N := N) (hc := hc) (hm := hm) (mx := 26) hP (by omega) k j (j + 1) a (N - 1) N (by omega) (by omega) (by omega) (by omega) (by omega)
      refine ⟨v', ?_, ?_, a2', by rw [e5]; exact a3'⟩
      · rcases a1' with q | ⟨q, -⟩ <;> omega
      · intro hv
        rcases a1' with q | ⟨q, q'⟩
        · exact absurd q hv
        · refine ⟨by rw [q]; exact hI, fun i p r => ?_⟩
          by_cases hi : i = j
          · subst hi; rw [hg]; rfl
          · exact q' i (by omega) r
    · have z1 : ¬ (am_z g = am_z 0) := by rw [am_z_eq (by omega) (by omega) (by omega) (by omega)]; omega
      have z2 : ¬ (am_z g ≤ am_z 0) := by rw [am_z_le (by omega) (by omega) (by omega) (by omega)]; omega
      simp only [if_neg z1, if_neg z2]
      by_cases q26 : g ≤ 26
      · have z3 : ¬ (am_z 26 < am_z g) := by rw [am_z_lt (by omega) (by omega) (by omega) (by omega)]; omega
        have z4 : am_z g ≤ am_z 26 := by rw [am_z_le (by omega) (by omega) (by omega) (by omega)]; omega
        simp only [if_neg z3, if_pos z4]
        exact g_B hN hP k (j + 1) a b (by omega) (by omega) (by omega) (fun i hi => by
          by_cases q : i = j
          · subst q; exact ⟨g, hg, by omega, q26⟩
          · exact hI i (by omega))
      · have z3 : am_z 26 < am_z g := by rw [am_z_lt (by omega) (by omega) (by omega) (by omega)]; omega
        have z4 : ¬ (am_z g ≤ am_z 26) := by rw [am_z_le (by omega) (by omega) (by omega) (by omega)]; omega
        simp only [if_pos z3, if_neg z4]
        exact ⟨0, by omega, fun z => absurd rfl z, rfl, rfl⟩
end GRP
