section GRP2
variable {N nS nU : Nat} {hc hm : am_Hp}
theorem g_C {x : Int32} (hN : 1000 ≤ N) (hP : gP x) : ∀ (k j a b : Nat), j + k = 6 → k < a → k < b → (∀ i, i < j → ∃ g : Nat, gL x i = am_z g ∧ 1 ≤ g ∧ g ≤ 31) → ∃ v : Nat, v ≤ 6 ∧ (v ≠ 0 → ∀ i, i < v → ∃ g : Nat, gL x i = am_z g ∧ 1 ≤ g ∧ g ≤ 31) ∧ l_X9_groupsIn_17 N a x (am_z 31) (am_z j) (am_z j) hc = some (am_z v, hc) ∧ l_X10_symbolsIn_2 N b x (am_z j) hm = some (am_z v, hm)
  | k, j, 0, b, _, h, _, _ => by omega
  | k, j, a, 0, _, _, h, _ => by omega
  | 0, j, a + 1, b + 1, h1, _, _, hI => by
    have e : j = 6 := by omega
    subst e
    have q2 : ¬ (x ≤ am_z 0) := by
      have := hP.1
      rw [Int32.lt_iff_toInt_lt] at this
      rw [Int32.le_iff_toInt_le]
      omega
    have z6 : am_z 6 ≤ am_z ((6 : Nat) : Int) := Int32.le_refl _
    obtain ⟨N', rfl⟩ : ∃ N', N = N' + 1 := ⟨N - 1, by omega⟩
    refine ⟨6, by omega, fun _ => hI, ?_, ?_⟩
    · unfold l_X9_groupsIn_17
      simp only [am_z_lit, if_pos z6]
    · unfold l_X10_symbolsIn_2 l_X10_symbolsIn_24
      simp only [am_z_lit, if_pos z6, if_neg q2, if_pos hP.2]
  | k + 1, j, a + 1, b + 1, h1, h2, h3, hI => by
    obtain ⟨g, hg, g31⟩ := gL_r x j
    have e4 : (j : Int) + 1 = ((j + 1 : Nat) : Int) := by omega
    have hlt : ¬ (am_z 6 ≤ am_z j) := by rw [am_z_le (by omega) (by omega) (by omega) (by omega)]; omega
    unfold l_X9_groupsIn_17 l_X10_symbolsIn_2
    simp only [am_z_lit, if_neg hlt, g_at, l_of, am_bi_s, hg, am_z_add, e4, if_pos (Int32.le_refl (am_z j))]
    have z3 : ¬ (am_z 31 < am_z g) := by rw [am_z_lt (by omega) (by omega) (by omega) (by omega)]; omega
    simp only [if_neg z3]
    by_cases q0 : g = 0
    · subst q0
      have z2 : am_z ((0 : Nat) : Int) = am_z 0 := rfl
      simp only [z2, if_true]
      rw [if_pos (show am_z 0 ≤ am_z 0 from Int32.le_refl _)]
      have e5 : l_X10_symbolsIn_24 N N x (am_z j) (am_z j) hm = l_X10_symbolsIn_24 N (N - 1) x (am_z j) (am_z ((j + 1 : Nat) : Int)) hm := by
        obtain ⟨N', rfl⟩ : ∃ N', N = N' + 1 := ⟨N - 1, by omega⟩
        conv => lhs; unfold l_X10_symbolsIn_24
        simp only [am_z_lit, if_neg hlt, l_of, am_bi_s, hg, am_z_add, e4]
        rw [if_pos (show am_z ((0 : Nat) : Int) ≤ am_z 0 from Int32.le_refl _)]
        rfl
      obtain ⟨v', a1', a2', -, a3'⟩ := g_A (N := N) (hc := hc) (hm := hm) (mx := 31) hP (by omega) k j (j + 1) a N (N - 1) (by omega) (by omega) (by omega) (by omega) (by omega)
      refine ⟨v', ?_, ?_, a2', by rw [e5]; exact a3'⟩
      · rcases a1' with q | ⟨q, -⟩ <;> omega
      · intro hv
        rcases a1' with q | ⟨q, q'⟩
        · exact absurd q hv
        · rw [q]; exact hI
    · have z1 : ¬ (am_z g = am_z 0) := by rw [am_z_eq (by omega) (by omega) (by omega) (by omega)]; omega
      have z2 : ¬ (am_z g ≤ am_z 0) := by rw [am_z_le (by omega) (by omega) (by omega) (by omega)]; omega
      simp only [if_neg z1, if_neg z2]
      exact g_C hN hP k (j + 1) a b (by omega) (by omega) (by omega) (fun i hi => by
          by_cases q : i = j
          · subst q; exact ⟨g, hg, by omega, g31⟩
          · exact hI i (by omega))
/-- refused words -/
theorem g_D {x n : Int32} (hx : x < am_z 0 ∨ x >>> (am_z 30 &&& am_z 31) ≠ am_z 0 ∨ n = am_z 0) : ∀ (k j b : Nat), j + k = 6 → k < b → l_X10_lengthOf_36 N b x n (am_z j) hm = some (am_z 0, hm)
  | k, j, 0, _, h => by omega
  | 0, j, b + 1, h1, _ => by
    have e : j = 6 := by omega
    subst e
    have z6 : am_z 6 ≤ am_z ((6 : Nat) : Int) := Int32.le_refl _
    unfold l_X10_lengthOf_36
    simp only [am_z_lit, if_pos z6]
    by_cases q1 : x < am_z 0
    · rw [if_pos q1]
    rw [if_neg q1]
    by_cases q2 : x >>> (am_z 30 &&& am_z 31) = am_z 0
    · rw [if_pos q2]
      rcases hx with z | z | z
      · exact absurd z q1
      · exact absurd q2 z
      · rw [z]
    · rw [if_neg q2]
  | k + 1, j, b + 1, h1, h2 => by
    have e4 : (j : Int) + 1 = ((j + 1 : Nat) : Int) := by omega
    have hlt : ¬ (am_z 6 ≤ am_z j) := by rw [am_z_le (by omega) (by omega) (by omega) (by omega)]; omega
    unfold l_X10_lengthOf_36
    simp only [am_z_lit, if_neg hlt, l_of, am_bi_s, am_z_add, e4, g_D hx k (j + 1) b (by omega) (by omega), ite_self]
theorem g_E {x : Int32} (hN : 1000 ≤ N) (hx : x < am_z 0 ∨ x >>> (am_z 30 &&& am_z 31) ≠ am_z 0) : ∀ (k j b : Nat), j + k = 6 → k < b → l_X10_lengthOf_2 N b x (am_z j) hm = some (am_z 0, hm)
  | k, j, 0, _, h => by omega
  | 0, j, b + 1, h1, _ => by
    have e : j = 6 := by omega
    subst e
    have z6 : am_z 6 ≤ am_z ((6 : Nat) : Int) := Int32.le_refl _
    unfold l_X10_lengthOf_2
    simp only [am_z_lit, if_pos z6]
    exact g_D (by rcases hx with z | z; exact Or.inl z; exact Or.inr (Or.inl z)) 0 6 N (by omega) (by omega)
  | k + 1, j, b + 1, h1, h2 => by
    have e4 : (j : Int) + 1 = ((j + 1 : Nat) : Int) := by omega
    have hlt : ¬ (am_z 6 ≤ am_z j) := by rw [am_z_le (by omega) (by omega) (by omega) (by omega)]; omega
    unfold l_X10_lengthOf_2
    simp only [am_z_lit, if_neg hlt, l_of, am_bi_s, am_z_add, e4, g_E hN hx k (j + 1) b (by omega) (by omega), g_D (n := am_z j) (by rcases hx with z | z; exact Or.inl z; exact Or.inr (Or.inl z)) (k + 1) j N (by omega) (by omega), ite_self]
theorem g_D' {x n : Int32} (hx : x ≤ am_z 0 ∨ x >>> (am_z 30 &&& am_z 31) ≠ am_z 0) : ∀ (k j b : Nat), j + k = 6 → k < b → l_X10_symbolsIn_24 N b x n (am_z j) hm = some (am_z 0, hm)
  | k, j, 0, _, h => by omega
  | 0, j, b + 1, h1, _ => by
    have e : j = 6 := by omega
    subst e
    have z6 : am_z 6 ≤ am_z ((6 : Nat) : Int) := Int32.le_refl _
    unfold l_X10_symbolsIn_24
    simp only [am_z_lit, if_pos z6]
    by_cases q1 : x ≤ am_z 0
    · rw [if_pos q1]
    rw [if_neg q1]
    rcases hx with z | z
    · exact absurd z q1
    · rw [if_neg z]
  | k + 1, j, b + 1, h1, h2 => by
    have e4 : (j : Int) + 1 = ((j + 1 : Nat) : Int) := by omega
    have hlt : ¬ (am_z 6 ≤ am_z j) := by rw [am_z_le (by omega) (by omega) (by omega) (by omega)]; omega
    unfold l_X10_symbolsIn_24
    simp only [am_z_lit, if_neg hlt, l_of, am_bi_s, am_z_add, e4, g_D' hx k (j + 1) b (by omega) (by omega), ite_self]
theorem g_E' {x : Int32} (hN : 1000 ≤ N) (hx : x ≤ am_z 0 ∨ x >>> (am_z 30 &&& am_z 31) ≠ am_z 0) : ∀ (k j b : Nat), j + k = 6 → k < b → l_X10_symbolsIn_2 N b x (am_z j) hm = some (am_z 0, hm)
  | k, j, 0, _, h => by omega
  | 0, j, b + 1, h1, _ => by
    have e : j = 6 := by omega
    subst e
    have z6 : am_z 6 ≤ am_z ((6 : Nat) : Int) := Int32.le_refl _
    unfold l_X10_symbolsIn_2
    simp only [am_z_lit, if_pos z6]
    exact g_D' hx 0 6 N (by omega) (by omega)
  | k + 1, j, b + 1, h1, h2 => by
    have e4 : (j : Int) + 1 = ((j + 1 : Nat) : Int) := by omega
    have hlt : ¬ (am_z 6 ≤ am_z j) := by rw [am_z_le (by omega) (by omega) (by omega) (by omega)]; omega
    unfold l_X10_symbolsIn_2
    simp only [am_z_lit, if_neg hlt, l_of, am_bi_s, am_z_add, e4, g_E' hN hx k (j + 1) b (by omega) (by omega), g_D' (n := am_z j) hx (k + 1) j N (by omega) (by omega), ite_self]
theorem g_len (hN : 1000 ≤ N) (x : Int32) : ∃ v : Nat, v ≤ 6 ∧ (v ≠ 0 → (∀ i, i < v → ∃ g : Nat, gL x i = am_z g ∧ 1 ≤ g ∧ g ≤ 26) ∧ ∀ i, v ≤ i → i < 6 → gL x i = am_z 0) ∧ f_X9_groupsIn N x (am_z 26) hc = some (am_z v, hc) ∧ f_X10_lengthOf N x hm = some (am_z v, hm) := by
  by_cases hP : gP x
  · obtain ⟨v, a1, a2, a3, a4⟩ := g_B (N := N) (hc := hc) (hm := hm) hN hP 6 0 N N (by omega) (by omega) (by omega) (fun i hi => by omega)
    have q2 : ¬ (x ≤ am_z 0) := by
      have := hP.1
      rw [Int32.lt_iff_toInt_lt] at this
      rw [Int32.le_iff_toInt_le]
      omega
    have a3' : l_X9_groupsIn_17 N N x (am_z 26) (am_z 0) (am_z 0) hc = _ := a3
    refine ⟨v, a1, a2, ?_, ?_⟩
    · unfold f_X9_groupsIn
      simp only [am_z_lit, if_neg q2, if_pos hP.2, a3']
    · unfold f_X10_lengthOf
      rw [am_z_lit]; exact a4
  · refine ⟨0, by omega, fun z => absurd rfl z, ?_, ?_⟩
    · unfold f_X9_groupsIn
      simp only [am_z_lit]
      by_cases q1 : x ≤ am_z 0
      · rw [if_pos q1]; rfl
      · rw [if_neg q1, if_neg]
        · rfl
        · intro z
          refine hP ⟨?_, z⟩
          rw [Int32.lt_iff_toInt_lt]
          rw [Int32.le_iff_toInt_le] at q1
          omega
    · unfold f_X10_lengthOf
      rw [am_z_lit]
      by_cases q0 : x = am_z 0
      · subst q0
        obtain ⟨N', rfl⟩ : ∃ N', N = N' + 1 := ⟨N - 1, by omega⟩
        have hlt : ¬ (am_z 6 ≤ am_z 0) := by decide
        have e0 : f_X10_letterOf (N' + 1) (am_z 0) (am_z 0) hm = some (am_z 0, hm) := by
          have := l_of (N := N' + 1) (x := am_z 0) (i := 0) (h := hm)
          have g0 : gL (am_z 0) 0 = am_z 0 := by decide
          rw [g0] at this
          exact this
        unfold l_X10_lengthOf_2
        simp only [am_z_lit, if_neg hlt, e0, am_bi_s]
        rw [if_pos (show am_z 0 ≤ am_z 0 from Int32.le_refl _)]
        exact g_D (Or.inr (Or.inr rfl)) 6 0 (N' + 1) (by omega) (by omega)
      · refine g_E hN ?_ 6 0 N (by omega) (by omega)
        by_cases q1 : x < am_z 0
        · exact Or.inl q1
        · right
          intro z
          refine hP ⟨?_, z⟩
          rw [Int32.lt_iff_toInt_lt] at q1 ⊢
          have : x.toInt ≠ (am_z 0).toInt := fun w => q0 (Int32.toInt.inj w)
          omega
theorem g_sym (hN : 1000 ≤ N) (x : Int32) : ∃ v : Nat, v ≤ 6 ∧ (v ≠ 0 → ∀ i, i < v → ∃ g : Nat, gL x i = am_z g ∧ 1 ≤ g ∧ g ≤ 31) ∧ f_X9_groupsIn N x (am_z 31) hc = some (am_z v, hc) ∧ f_X10_symbolsIn N x hm = some (am_z v, hm) := by
  by_cases hP : gP x
  · obtain ⟨v, a1, a2, a3, a4⟩ := g_C (N := N) (hc := hc) (hm := hm) hN hP 6 0 N N (by omega) (by omega) (by omega) (fun i hi => by omega)
    have q2 : ¬ (x ≤ am_z 0) := by
      have := hP.1
      rw [Int32.lt_iff_toInt_lt] at this
      rw [Int32.le_iff_toInt_le]
      omega
    have a3' : l_X9_groupsIn_17 N N x (am_z 31) (am_z 0) (am_z 0) hc = _ := a3
    refine ⟨v, a1, a2, ?_, ?_⟩
    · unfold f_X9_groupsIn
      simp only [am_z_lit, if_neg q2, if_pos hP.2, a3']
    · unfold f_X10_symbolsIn
      rw [am_z_lit]; exact a4
  · refine ⟨0, by omega, fun z => absurd rfl z, ?_, ?_⟩
    · unfold f_X9_groupsIn
      simp only [am_z_lit]
      by_cases q1 : x ≤ am_z 0
      · rw [if_pos q1]; rfl
      · rw [if_neg q1, if_neg]
        · rfl
        · intro z
          refine hP ⟨?_, z⟩
          rw [Int32.lt_iff_toInt_lt]
          rw [Int32.le_iff_toInt_le] at q1
          omega
    · unfold f_X10_symbolsIn
      rw [am_z_lit]
      refine g_E' hN ?_ 6 0 N (by omega) (by omega)
      by_cases q1 : x ≤ am_z 0
      · exact Or.inl q1
      · right
        intro z
        refine hP ⟨?_, z⟩
        rw [Int32.le_iff_toInt_le] at q1
        rw [Int32.lt_iff_toInt_lt]
        omega
end GRP2
