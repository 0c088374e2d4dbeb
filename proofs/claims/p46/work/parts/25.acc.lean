section ACC
variable {N nS nU : Nat}
theorem qi (x : Int32) (n : Nat) : (∃ s : Nat, s < n ∧ x = am_z s) ∨ ∃ v : Int, x = am_z v ∧ -2147483648 ≤ v ∧ v < 2147483648 ∧ ¬ (0 ≤ v ∧ v < n) := by
  obtain ⟨v, rfl, h1, h2⟩ := am_z_ex x
  by_cases h : 0 ≤ v ∧ v < n
  · exact Or.inl ⟨v.toNat, by omega, by congr 1; omega⟩
  · exact Or.inr ⟨v, rfl, h1, h2, h⟩
theorem g_th : am_isO 15 8 = true ∧ am_isO 19 8 = true ∧ am_isO 4 8 = true ∧ am_isO 8 8 = true ∧ am_G 15 1 = some 16 ∧ am_G 15 2 = some 17 ∧ am_G 15 3 = some 18 ∧ am_G 19 1 = some 20 ∧ am_G 19 2 = some 21 ∧ am_G 19 3 = some 22 ∧ am_len 16 = 6 ∧ am_len 17 = 6 ∧ am_len 18 = 6 ∧ am_len 20 = 6 ∧ am_len 21 = 6 ∧ am_len 22 = 6 ∧ am_isI 16 = true ∧ am_isI 17 = true ∧ am_isI 18 = true ∧ am_isI 20 = true ∧ am_isI 21 = true ∧ am_isI 22 = true := by decide
theorem g_d : ∀ s, s < 4 → am_G 27 s = some (29 + s) ∧ am_G 23 s = some (165 + 7 * s) ∧ am_isO (29 + s) 0 = true := by decide
theorem g_u : ∀ u, u < 6 → am_G 28 u = some (33 + u) ∧ am_isO (33 + u) 5 = true := by decide
theorem z_01 : ¬ (am_z 0 = am_z 1) := by decide
theorem z_10 : ¬ (am_z 1 = am_z 0) := by decide
-- ---- the class
theorem c_has15 {h : am_Hp} {s : Nat} (h1 : h 15 4 = am_z nS) (hS : nS ≤ 4) (hs : s < nS) : f_X8_has N 15 (am_z s) h = some (am_z 1, h) := by
  unfold f_X8_has
  simp (disch := omega) only [am_z_lit, am_z_neg, am_z_add, am_z_sub, am_z_mul, am_z_le, am_z_lt, am_z_eq, am_z_cl, am_z_int, g_th.1, g_th.2.2.2.2.1, g_th.2.2.2.2.2.2.2.2.2.2.1, g_th.2.2.2.2.2.2.2.2.2.2.2.2.2.2.2.2.1, cond_true, Option.bind_some, Bool.true_or, am_z_nat, h1, if_neg, am_z_and1, if_true]
theorem c_has15n {h : am_Hp} {v : Int} (h1 : h 15 4 = am_z nS) (hS : nS ≤ 4) (b : -2147483648 ≤ v ∧ v < 2147483648) (hv : ¬ (0 ≤ v ∧ v < nS)) : f_X8_has N 15 (am_z v) h = some (am_z 0, h) := by
  unfold f_X8_has
  simp (disch := omega) only [am_z_lit, am_z_neg, am_z_add, am_z_sub, am_z_mul, am_z_lt, am_z_le, g_th.1, g_th.2.2.2.2.1, g_th.2.2.2.2.2.2.2.2.2.2.1, g_th.2.2.2.2.2.2.2.2.2.2.2.2.2.2.2.2.1, cond_true, Option.bind_some, Bool.true_or, am_z_nat, h1, am_z_and0, am_z_and1, if_true]
  by_cases q : v < 0
  · rw [if_pos q]
  · rw [if_neg q, if_pos (by omega)]
theorem c_has19 {h : am_Hp} {s : Nat} (h1 : h 19 4 = am_z nU) (hS : nU ≤ 6) (hs : s < nU) : f_X8_has N 19 (am_z s) h = some (am_z 1, h) := by
  unfold f_X8_has
  simp (disch := omega) only [am_z_lit, am_z_neg, am_z_add, am_z_sub, am_z_mul, am_z_le, am_z_lt, am_z_eq, am_z_cl, am_z_int, g_th.2.1, g_th.2.2.2.2.2.2.2.1, g_th.2.2.2.2.2.2.2.2.2.2.2.2.2.1, g_th.2.2.2.2.2.2.2.2.2.2.2.2.2.2.2.2.2.2.2.1, cond_true, Option.bind_some, Bool.true_or, am_z_nat, h1, if_neg, am_z_and1, if_true]
theorem c_has19n {h : am_Hp} {v : Int} (h1 : h 19 4 = am_z nU) (hS : nU ≤ 6) (b : -2147483648 ≤ v ∧ v < 2147483648) (hv : ¬ (0 ≤ v ∧ v < nU)) : f_X8_has N 19 (am_z v) h = some (am_z 0, h) := by
  unfold f_X8_has
  simp (disch := omega) only [am_z_lit, am_z_neg, am_z_add, am_z_sub, am_z_mul, am_z_lt, am_z_le, g_th.2.1, g_th.2.2.2.2.2.2.2.1, g_th.2.2.2.2.2.2.2.2.2.2.2.2.2.1, g_th.2.2.2.2.2.2.2.2.2.2.2.2.2.2.2.2.2.2.2.1, cond_true, Option.bind_some, Bool.true_or, am_z_nat, h1, am_z_and0, am_z_and1, if_true]
  by_cases q : v < 0
  · rw [if_pos q]
  · rw [if_neg q, if_pos (by omega)]
theorem c_desk {h : am_Hp} {s : Nat} (h1 : h 15 4 = am_z nS) (hS : nS ≤ 4) (hs : s < nS) : f_X9_deskOf N (am_z s) h = some (some (29 + s), h) := by
  unfold f_X9_deskOf
  have e1 : am_in (am_z s) 4 = true := am_z_int (by omega) (by omega) (by decide)
  simp (disch := omega) only [am_z_lit, am_z_neg, am_z_add, am_z_sub, am_z_mul, c_has15 h1 hS hs, am_bi_s, if_neg z_10, am_z_nat, am_z_lt, e1, cond_true, am_z_cl, Int.toNat_natCast, (g_d s (by omega)).1, Option.bind_some]
  rw [if_pos (by omega)]
theorem c_deskn {h : am_Hp} {v : Int} (h1 : h 15 4 = am_z nS) (hS : nS ≤ 4) (b : -2147483648 ≤ v ∧ v < 2147483648) (hv : ¬ (0 ≤ v ∧ v < nS)) : f_X9_deskOf N (am_z v) h = some (none, h) := by
  unfold f_X9_deskOf
  simp only [am_z_lit, c_has15n h1 hS b hv, am_bi_s, if_true]
theorem c_rec {h : am_Hp} {s : Nat} (h1 : h 15 4 = am_z nS) (hS : nS ≤ 4) (hs : s < nS) : f_X9_recordingOf N (am_z s) h = some (some (165 + 7 * s), h) := by
  unfold f_X9_recordingOf
  have e1 : am_in (am_z s) 4 = true := am_z_int (by omega) (by omega) (by decide)
  simp (disch := omega) only [am_z_lit, am_z_neg, am_z_add, am_z_sub, am_z_mul, c_has15 h1 hS hs, am_bi_s, if_neg z_10, am_z_nat, am_z_lt, e1, cond_true, am_z_cl, Int.toNat_natCast, (g_d s (by omega)).2.1, Option.bind_some]
  rw [if_pos (by omega)]
theorem c_seat {h : am_Hp} {u : Nat} (h1 : h 19 4 = am_z nU) (hS : nU ≤ 6) (hu : u < nU) : f_X9_seatOf N (am_z u) h = some (some (33 + u), h) := by
  unfold f_X9_seatOf
  have e1 : am_in (am_z u) 6 = true := am_z_int (by omega) (by omega) (by decide)
  simp (disch := omega) only [am_z_lit, am_z_neg, am_z_add, am_z_sub, am_z_mul, c_has19 h1 hS hu, am_bi_s, if_neg z_10, am_z_nat, am_z_lt, e1, cond_true, am_z_cl, Int.toNat_natCast, (g_u u (by omega)).1, Option.bind_some]
  rw [if_pos (by omega)]
theorem c_seatn {h : am_Hp} {v : Int} (h1 : h 19 4 = am_z nU) (hS : nU ≤ 6) (b : -2147483648 ≤ v ∧ v < 2147483648) (hv : ¬ (0 ≤ v ∧ v < nU)) : f_X9_seatOf N (am_z v) h = some (none, h) := by
  unfold f_X9_seatOf
  simp only [am_z_lit, c_has19n h1 hS b hv, am_bi_s, if_true]
theorem c_size0 {h : am_Hp} {s : Nat} (h1 : h 15 4 = am_z nS) (hS : nS ≤ 4) (hs : s < nS) : f_X8_sizeOf N 15 (am_z s) (am_z 0) h = some (h 17 s, h) := by
  unfold f_X8_sizeOf
  have e1 : am_in (am_z s) 6 = true := am_z_int (by omega) (by omega) (by decide)
  simp (disch := omega) only [am_z_lit, am_z_neg, am_z_add, am_z_sub, am_z_mul, g_th.1, c_has15 h1 hS hs, am_bi_s, if_neg z_10, if_true, g_th.2.2.2.2.2.1, Option.bind_some, g_th.2.2.2.2.2.2.2.2.2.2.2.1, e1, g_th.2.2.2.2.2.2.2.2.2.2.2.2.2.2.2.2.2.1, cond_true, am_z_cl, Int.toNat_natCast]
theorem c_size1 {h : am_Hp} {s : Nat} (h1 : h 15 4 = am_z nS) (hS : nS ≤ 4) (hs : s < nS) : f_X8_sizeOf N 15 (am_z s) (am_z 1) h = some (h 18 s, h) := by
  unfold f_X8_sizeOf
  have e1 : am_in (am_z s) 6 = true := am_z_int (by omega) (by omega) (by decide)
  simp (disch := omega) only [am_z_lit, am_z_neg, am_z_add, am_z_sub, am_z_mul, g_th.1, c_has15 h1 hS hs, am_bi_s, if_neg z_10, if_true, g_th.2.2.2.2.2.2.1, Option.bind_some, g_th.2.2.2.2.2.2.2.2.2.2.2.2.1, e1, g_th.2.2.2.2.2.2.2.2.2.2.2.2.2.2.2.2.2.2.1, cond_true, am_z_cl, Int.toNat_natCast]
-- ---- the model
theorem m_in {k n : Nat} (h : k < n) (h2 : n ≤ 2147483648) : am_in (am_z k) n = true := am_z_int (by omega) (by omega) h2
theorem m_sess {h : am_Hp} {s : Nat} (h1 : h 195 0 = am_z nS) (hS : nS ≤ 4) (hs : s < nS) : f_X10_isSession N (am_z s) h = some (am_z 1, h) := by
  have e1 : am_in (am_z 0) 20 = true := by decide
  unfold f_X10_isSession
  simp (disch := omega) only [am_z_lit, am_z_neg, am_z_add, am_z_sub, am_z_mul, am_z_lt, am_z_le, e1, cond_true, h1, am_z_and1, if_true, if_neg]
theorem m_sessn {h : am_Hp} {v : Int} (h1 : h 195 0 = am_z nS) (hS : nS ≤ 4) (b : -2147483648 ≤ v ∧ v < 2147483648) (hv : ¬ (0 ≤ v ∧ v < nS)) : f_X10_isSession N (am_z v) h = some (am_z 0, h) := by
  have e1 : am_in (am_z 0) 20 = true := by decide
  unfold f_X10_isSession
  simp (disch := omega) only [am_z_lit, am_z_neg, am_z_add, am_z_sub, am_z_mul, am_z_lt, am_z_le, e1, cond_true, h1, am_z_and0, if_true]
  by_cases q : v < 0
  · rw [if_pos q]
  · rw [if_neg q, if_pos (by omega)]
theorem m_user {h : am_Hp} {s : Nat} (h1 : h 195 1 = am_z nU) (hS : nU ≤ 6) (hs : s < nU) : f_X10_isUser N (am_z s) h = some (am_z 1, h) := by
  have e1 : am_in (am_z 1) 20 = true := by decide
  unfold f_X10_isUser
  simp (disch := omega) only [am_z_lit, am_z_neg, am_z_add, am_z_sub, am_z_mul, am_z_lt, am_z_le, e1, cond_true, h1, am_z_and1, if_true, if_neg]
theorem m_usern {h : am_Hp} {v : Int} (h1 : h 195 1 = am_z nU) (hS : nU ≤ 6) (b : -2147483648 ≤ v ∧ v < 2147483648) (hv : ¬ (0 ≤ v ∧ v < nU)) : f_X10_isUser N (am_z v) h = some (am_z 0, h) := by
  have e1 : am_in (am_z 1) 20 = true := by decide
  unfold f_X10_isUser
  simp (disch := omega) only [am_z_lit, am_z_neg, am_z_add, am_z_sub, am_z_mul, am_z_lt, am_z_le, e1, cond_true, h1, am_z_and0, if_true]
  by_cases q : v < 0
  · rw [if_pos q]
  · rw [if_neg q, if_pos (by omega)]
theorem m_chk1 {h : am_Hp} : f_X10_checks N (am_z 1) h = some (am_z 1, am_pi h 193 0 (am_z 0)) := by
  unfold f_X10_checks
  have e : am_z 1 &&& am_z 1 = am_z 1 := am_z_and1
  simp only [am_z_lit, if_neg z_10, e, if_true]
theorem m_chk0 {h : am_Hp} : f_X10_checks N (am_z 0) h = some (am_z 0, am_pi h 193 0 (am_z 1)) := by
  unfold f_X10_checks
  have e : am_z 0 &&& am_z 1 = am_z 0 := am_z_and0
  simp only [am_z_lit, if_true, e]
theorem m_ev {h : am_Hp} {s : Nat} (hs : s < 4) : f_X10_events N (am_z s) h = some (h 197 (55 + 1504 * s), h) := by
  unfold f_X10_events
  have := qm_ofS (N := N) (h := h) (s := s) (k := 0) hs (by decide)
  have e : f_X10_ofS N (am_z s) (am_z 0) h = _ := this
  simp only [am_z_lit, e, am_bi_s]
  rfl
/-- what a call answers, and that nothing but screens changes -/
def pN (a b : Option (Int32 × am_Hp)) (hc hm : am_Hp) : Prop := ∃ v h1 h2, a = some (v, h1) ∧ b = some (v, h2) ∧ cfr hc h1 ∧ mfr hm h2
def pO (a : Option (Option Int32 × am_Hp)) (b : Option (Int32 × am_Hp)) (hc hm : am_Hp) : Prop := ∃ v h1 h2, a = some (some v, h1) ∧ b = some (v, h2) ∧ cfr hc h1 ∧ mfr hm h2
def pT (a : Option (Option Int32 × am_Hp)) (b : Option (Int32 × am_Hp)) (hc hm : am_Hp) : Prop := ∃ o v h1 h2, a = some (o, h1) ∧ b = some (v, h2) ∧ cfr hc h1 ∧ mfr hm h2 ∧ ((o = none ∧ h2 193 0 = am_z 1) ∨ (o = some v ∧ h2 193 0 = am_z 0))
theorem pT_n {a : Option (Option Int32 × am_Hp)} {b : Option (Int32 × am_Hp)} {hc hm : am_Hp} (h1 : a = some (none, hc)) (h2 : b = some (am_z 0, am_pi hm 193 0 (am_z 1))) : pT a b hc hm :=
  ⟨_, _, _, _, h1, h2, cfr0, mfrp (by omega), Or.inl ⟨rfl, am_pi_s _ _ _ _⟩⟩
theorem pT_s {a : Option (Option Int32 × am_Hp)} {b : Option (Int32 × am_Hp)} {hc hm : am_Hp} {v v' : Int32} (h1 : a = some (some v, hc)) (h2 : b = some (v', am_pi hm 193 0 (am_z 0))) (e : v = v') : pT a b hc hm :=
  ⟨_, _, _, _, h1, h2, cfr0, mfrp (by omega), Or.inr ⟨by rw [e], am_pi_s _ _ _ _⟩⟩
end ACC
