section AMW
variable {al : Nat → Nat} {aC : Nat → ClassId} {h : am_Hp}
theorem am_W_get {k : Nat} (hk : k < am_n0) : (am_W al aC h)[k]? = some (al k, am_cell al aC h k) := by
  unfold am_W
  rw [List.getElem?_map, List.getElem?_range hk]
  rfl
theorem am_W_len : (am_W al aC h).length = am_n0 := by simp [am_W]
theorem am_cell_o {a ci : Nat} (ha : am_isO a ci = true) : am_cell al aC h a = .inr (ci, (List.range (am_nF ci)).map (am_fv al h a)) ∧ a < am_n0 ∧ ci < 11 ∧ (am_kd a).2.1 = ci := by
  simp only [am_isO, Bool.and_eq_true] at ha
  have e : (am_kd a).2.1 = ci := Nat.eq_of_beq_eq_true ha.2
  have hl := am_own_lt (a := a) (Or.inl ha.1)
  refine ⟨?_, hl.1, e ▸ hl.2.1 ha.1, e⟩
  simp only [am_cell, ha.1, cond_true, e]
theorem am_cell_i {a : Nat} (ha : am_isI a = true) : am_cell al aC h a = .inl (aC 0, am_len a, .inl (h a)) ∧ a < am_n0 := by
  unfold am_isI at ha
  have e2 : (am_kd a).1 = 2 := Nat.eq_of_beq_eq_true ha
  have hl := am_own_lt (a := a) (Or.inr (Or.inl ha))
  refine ⟨?_, hl.1⟩
  have e3 := hl.2.2.1 ha
  simp only [am_cell, e2, e3, am_len]
  rfl
theorem am_cell_b {a : Nat} (ha : am_isB a = true) : am_cell al aC h a = .inl (aC 1, am_len a, .inl (h a)) ∧ a < am_n0 := by
  unfold am_isB at ha
  have e2 : (am_kd a).1 = 5 := Nat.eq_of_beq_eq_true ha
  have hl := am_own_lt (a := a) (Or.inr (Or.inr (Or.inr ha)))
  refine ⟨?_, hl.1⟩
  have e3 := hl.2.2.2.1 ha
  simp only [am_cell, e2, e3, am_len]
  rfl
theorem am_cell_a {a : Nat} (ha : am_isA a = true) : am_cell al aC h a = .inl (aC (am_kd a).2.1, am_len a, .inr (.inr (.inr (.inr (fun j => (am_G a j).map al))))) ∧ a < am_n0 ∧ 1 < (am_kd a).2.1 ∧ (am_kd a).2.1 < 7 := by
  unfold am_isA at ha
  have e2 : (am_kd a).1 = 3 := Nat.eq_of_beq_eq_true ha
  have hl := am_own_lt (a := a) (Or.inr (Or.inr (Or.inl ha)))
  refine ⟨?_, hl.1, hl.2.2.2.2 ha⟩
  simp only [am_cell, e2, am_len]
  rfl
theorem am_pi_ne {a k b : Nat} {v : Int32} (hb : b ≠ a) : am_pi h a k v b = h b := by
  funext j
  simp [am_pi, hb]
theorem am_pi_eq {a k : Nat} {v : Int32} : am_pi h a k v a = upd (h a) k v := by
  funext j
  simp [am_pi, upd]
theorem am_cell_ne {a k b : Nat} {v : Int32} (hb : b ≠ a) : am_cell al aC (am_pi h a k v) b = am_cell al aC h b := by
  have e : am_fv al (am_pi h a k v) b = am_fv al h b := by
    funext j
    simp only [am_fv, am_pi_ne hb]
  simp only [am_cell, am_pi_ne hb, e]
theorem am_W_set {a k : Nat} {v : Int32} {E : va_E} (ha : a < am_n0) (hE : am_cell al aC (am_pi h a k v) a = E) : (am_W al aC h).set a (al a, E) = am_W al aC (am_pi h a k v) := by
  apply List.ext_getElem?
  intro i
  by_cases hi : i < am_n0
  · rw [am_W_get hi]
    by_cases hia : i = a
    · subst hia
      rw [List.getElem?_set_self (by rw [am_W_len]; exact hi), hE]
    · rw [List.getElem?_set_ne (Ne.symm hia), am_W_get hi, am_cell_ne hia]
  · rw [List.getElem?_eq_none (by rw [List.length_set, am_W_len]; omega), List.getElem?_eq_none (by rw [am_W_len]; omega)]
theorem am_Winj (hi : am_Inj al) (sz : Nat) : va_D (am_A al sz) (am_W al aC h) := by
  have key : ∀ (k : Nat) (q : Nat × va_E), (am_W al aC h)[k]? = some q → k < am_n0 ∧ q.1 = al k := by
    intro k q hk
    have hl : k < am_n0 := by
      have := (List.getElem?_eq_some_iff.mp hk).1
      rwa [am_W_len] at this
    rw [am_W_get hl] at hk
    cases hk
    exact ⟨hl, rfl⟩
  refine ⟨fun i j p q h1 h2 e => ?_, fun k q hk => Or.inl ⟨k, (key k q hk).1, (key k q hk).2⟩⟩
  obtain ⟨a1, a2⟩ := key i p h1
  obtain ⟨b1, b2⟩ := key j q h2
  exact hi i j a1 b1 (a2.symm.trans (e.trans b2))
theorem am_set_o {a ci j : Nat} {x : Int32} (ha : am_isO a ci = true) (hf : am_fi ci j = true) (hj : j < am_nF ci) : am_cell al aC (am_pi h a j x) a = .inr (ci, ((List.range (am_nF ci)).map (am_fv al h a)).set j (.int x)) := by
  obtain ⟨e1, -, -, e2⟩ := am_cell_o (al := al) (aC := aC) (h := am_pi h a j x) ha
  rw [e1]
  congr 2
  apply List.ext_getElem?
  intro i
  by_cases hi : i < am_nF ci
  · rw [List.getElem?_map, List.getElem?_range hi]
    by_cases hij : i = j
    · subst hij
      rw [List.getElem?_set_self (by simpa using hi)]
      simp [am_fv, e2, hf, am_pi]
    · rw [List.getElem?_set_ne (Ne.symm hij), List.getElem?_map, List.getElem?_range hi]
      simp [am_fv, am_pi, hij]
  · rw [List.getElem?_eq_none (by simpa using hi), List.getElem?_eq_none (by simpa using hi)]
theorem am_fv_get {a ci j : Nat} (e : (am_kd a).2.1 = ci) (hj : j < am_nF ci) : ((List.range (am_nF ci)).map (am_fv al h a))[j]? = some (bif am_fi ci j then .int (h a j) else va_rf ((am_G a j).map al)) := by
  rw [List.getElem?_map, List.getElem?_range hj]
  simp [am_fv, e]
end AMW
