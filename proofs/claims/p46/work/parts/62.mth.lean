section MTH
variable {N : Nat}
theorem m_thS1 {h : am_Hp} (hN : 1000 ≤ N) (h0 : h 195 0 = am_z 4) (h2 : h 193 22 = am_z 0) : f_X10_readThing N (am_z 0) h = some ((), eS (am_z (-15)) h) := by
  have j0 : am_in (am_z 0) 20 = true := by decide
  have l0 : (am_z 0).toNatClampNeg = 0 := by decide
  have z := eS_2 (h := h) (c := am_z (-15)) (by decide)
  unfold f_X10_readThing j_X10_readThing_9 j_X10_readThing_29
  simp only [am_z_lit, am_z_neg, if_true, j0, cond_true, l0, h0, if_true, m_f2 h2, am_bi_s, m_g1 z, m_nmX hN z, if_neg z, m_f1, m_intE z]
theorem m_thS2 {h h1 : am_Hp} {a : Nat} (hN : 1000 ≤ N) (h0 : h 195 0 = am_z a) (ha : a < 4) (h2 : h 193 22 = am_z 0) (hn : f_X10_next N h = some ((), h1)) (hm : f_X10_nameHere N h1 = some (am_z 0, eS (am_z (-11)) h1)) : f_X10_readThing N (am_z 0) h = some ((), eS (am_z (-11)) h1) := by
  have j0 : am_in (am_z 0) 20 = true := by decide
  have l0 : (am_z 0).toNatClampNeg = 0 := by decide
  have z := eS_2 (h := h1) (c := am_z (-11)) (by decide)
  have q : ¬ (am_z a = am_z 4) := by rw [am_z_eq (by omega) (by omega) (by omega) (by omega)]; omega
  unfold f_X10_readThing j_X10_readThing_9 j_X10_readThing_29
  simp only [am_z_lit, am_z_neg, if_true, j0, cond_true, l0, h0, if_neg q, m_f1, am_bi_s, m_g0 h2 hn, hm, if_neg z, m_g1 z, m_intE z]
theorem m_thS3 {h h1 : am_Hp} {a : Nat} {x v : Int32} (hN : 1000 ≤ N) (h0 : h 195 0 = am_z a) (ha : a < 4) (h2 : h 193 22 = am_z 0) (hn : f_X10_next N h = some ((), h1)) (h21 : h1 193 22 = am_z 0) (hm : f_X10_nameHere N h1 = some (x, h1)) (hf : f_X10_found N (am_z 0) x h1 = some (v, h1)) (hv : v ≠ am_z (-1)) : f_X10_readThing N (am_z 0) h = some ((), eS (am_z (-14)) h1) := by
  have j0 : am_in (am_z 0) 20 = true := by decide
  have l0 : (am_z 0).toNatClampNeg = 0 := by decide
  have z := eS_2 (h := h1) (c := am_z (-14)) (by decide)
  have q : ¬ (am_z a = am_z 4) := by rw [am_z_eq (by omega) (by omega) (by omega) (by omega)]; omega
  unfold f_X10_readThing j_X10_readThing_9 j_X10_readThing_29
  simp only [am_z_lit, am_z_neg, if_true, j0, cond_true, l0, h0, if_neg q, m_f1, am_bi_s, m_g0 h2 hn, hm, h21, if_true, hf, if_neg hv, m_f2 h21, if_neg z, m_g1 z, m_intE z]
theorem m_thS4 {h h1 h3 : am_Hp} {a : Nat} {x c w : Int32} (hN : 1000 ≤ N) (h0 : h 195 0 = am_z a) (ha : a < 4) (h2 : h 193 22 = am_z 0) (hn : f_X10_next N h = some ((), h1)) (h21 : h1 193 22 = am_z 0) (hm : f_X10_nameHere N h1 = some (x, h1)) (hf : f_X10_found N (am_z 0) x h1 = some (am_z (-1), h1)) (hn2 : f_X10_next N h1 = some ((), h3)) (hi : f_X10_integer N (am_z 2) (am_z 16) h3 = some (w, eS c h3)) (hc : c ≠ am_z 0) : f_X10_readThing N (am_z 0) h = some ((), eS c h3) := by
  have j0 : am_in (am_z 0) 20 = true := by decide
  have l0 : (am_z 0).toNatClampNeg = 0 := by decide
  have z := eS_2 (h := h3) hc
  have q : ¬ (am_z a = am_z 4) := by rw [am_z_eq (by omega) (by omega) (by omega) (by omega)]; omega
  unfold f_X10_readThing j_X10_readThing_9 j_X10_readThing_29
  simp only [am_z_lit, am_z_neg, if_true, j0, cond_true, l0, h0, if_neg q, m_f1, am_bi_s, m_g0 h2 hn, hm, h21, if_true, hf, m_g0 h21 hn2, hi, if_neg z, m_intE z]
theorem m_thS5 {h h1 h3 h4 : am_Hp} {a : Nat} {x c w t : Int32} (hN : 1000 ≤ N) (h0 : h 195 0 = am_z a) (ha : a < 4) (h2 : h 193 22 = am_z 0) (hn : f_X10_next N h = some ((), h1)) (h21 : h1 193 22 = am_z 0) (hm : f_X10_nameHere N h1 = some (x, h1)) (hf : f_X10_found N (am_z 0) x h1 = some (am_z (-1), h1)) (hn2 : f_X10_next N h1 = some ((), h3)) (hi : f_X10_integer N (am_z 2) (am_z 16) h3 = some (w, h4)) (hi2 : f_X10_integer N (am_z 1) (am_z 6) h4 = some (t, eS c h4)) (hc : c ≠ am_z 0) : f_X10_readThing N (am_z 0) h = some ((), eS c h4) := by
  have j0 : am_in (am_z 0) 20 = true := by decide
  have l0 : (am_z 0).toNatClampNeg = 0 := by decide
  have z := eS_2 (h := h4) hc
  have q : ¬ (am_z a = am_z 4) := by rw [am_z_eq (by omega) (by omega) (by omega) (by omega)]; omega
  unfold f_X10_readThing j_X10_readThing_9 j_X10_readThing_29
  simp only [am_z_lit, am_z_neg, if_true, j0, cond_true, l0, h0, if_neg q, m_f1, am_bi_s, m_g0 h2 hn, hm, h21, if_true, hf, m_g0 h21 hn2, hi, hi2, if_neg z]
theorem m_thS6 {h h1 h3 h4 h5 : am_Hp} {a : Nat} {x w t : Int32} (hN : 1000 ≤ N) (h0 : h 195 0 = am_z a) (ha : a < 4) (h2 : h 193 22 = am_z 0) (hn : f_X10_next N h = some ((), h1)) (h21 : h1 193 22 = am_z 0) (hm : f_X10_nameHere N h1 = some (x, h1)) (hf : f_X10_found N (am_z 0) x h1 = some (am_z (-1), h1)) (hn2 : f_X10_next N h1 = some ((), h3)) (hi : f_X10_integer N (am_z 2) (am_z 16) h3 = some (w, h4)) (hi2 : f_X10_integer N (am_z 1) (am_z 6) h4 = some (t, h5)) (h25 : h5 193 22 = am_z 0) (h05 : h5 195 0 = am_z a) : f_X10_readThing N (am_z 0) h = some ((), am_pi (am_pi (am_pi (am_pi h5 195 (2 + a) x) 195 0 (am_z ((a + 1 : Nat) : Int))) 195 (12 + a) w) 195 (16 + a) t) := by
  have j0 : am_in (am_z 0) 20 = true := by decide
  have l0 : (am_z 0).toNatClampNeg = 0 := by decide
  have q : ¬ (am_z a = am_z 4) := by rw [am_z_eq (by omega) (by omega) (by omega) (by omega)]; omega
  have e4 : (a : Int) + 1 = ((a + 1 : Nat) : Int) := by omega
  have en : 2 + (a : Int) = ((2 + a : Nat) : Int) := by omega
  have jn : am_in (am_z ((2 + a : Nat) : Int)) 20 = true := m_in (by omega) (by decide)
  have p1 : am_pi h5 195 (2 + a) x 195 0 = am_z a := by rw [am_pi_k (by omega)]; exact h05
  have ew : 12 + (a : Int) = ((12 + a : Nat) : Int) := by omega
  have et : 16 + (a : Int) = ((16 + a : Nat) : Int) := by omega
  have jw : am_in (am_z ((12 + a : Nat) : Int)) 20 = true := m_in (by omega) (by decide)
  have jt : am_in (am_z ((16 + a : Nat) : Int)) 20 = true := m_in (by omega) (by decide)
  unfold f_X10_readThing j_X10_readThing_9 j_X10_readThing_29
  simp only [am_z_lit, am_z_neg, if_true, j0, cond_true, l0, h0, if_neg q, m_f1, am_bi_s, m_g0 h2 hn, hm, h21, if_true, hf, m_g0 h21 hn2, hi, hi2, h25]
  simp (disch := omega) only [am_bi_s, cond_true, am_z_add, en, jn, am_z_cl, Int.toNat_natCast, p1, e4, ew, et, jw, jt]
theorem m_thU1 {h : am_Hp} (hN : 1000 ≤ N) (h0 : h 195 1 = am_z 6) (h2 : h 193 22 = am_z 0) : f_X10_readThing N (am_z 1) h = some ((), eS (am_z (-15)) h) := by
  have j0 : am_in (am_z 1) 20 = true := by decide
  have l0 : (am_z 1).toNatClampNeg = 1 := by decide
  have z := eS_2 (h := h) (c := am_z (-15)) (by decide)
  unfold f_X10_readThing j_X10_readThing_9 j_X10_readThing_29
  simp only [am_z_lit, am_z_neg, if_neg z_10, j0, cond_true, l0, h0, if_true, m_f2 h2, am_bi_s, m_g1 z, m_nmX hN z, if_neg z, m_f1, m_intE z]
theorem m_thU2 {h h1 : am_Hp} {a : Nat} (hN : 1000 ≤ N) (h0 : h 195 1 = am_z a) (ha : a < 6) (h2 : h 193 22 = am_z 0) (hn : f_X10_next N h = some ((), h1)) (hm : f_X10_nameHere N h1 = some (am_z 0, eS (am_z (-11)) h1)) : f_X10_readThing N (am_z 1) h = some ((), eS (am_z (-11)) h1) := by
  have j0 : am_in (am_z 1) 20 = true := by decide
  have l0 : (am_z 1).toNatClampNeg = 1 := by decide
  have z := eS_2 (h := h1) (c := am_z (-11)) (by decide)
  have q : ¬ (am_z a = am_z 6) := by rw [am_z_eq (by omega) (by omega) (by omega) (by omega)]; omega
  unfold f_X10_readThing j_X10_readThing_9 j_X10_readThing_29
  simp only [am_z_lit, am_z_neg, if_neg z_10, j0, cond_true, l0, h0, if_neg q, m_f1, am_bi_s, m_g0 h2 hn, hm, if_neg z, m_g1 z, m_intE z]
theorem m_thU3 {h h1 : am_Hp} {a : Nat} {x v : Int32} (hN : 1000 ≤ N) (h0 : h 195 1 = am_z a) (ha : a < 6) (h2 : h 193 22 = am_z 0) (hn : f_X10_next N h = some ((), h1)) (h21 : h1 193 22 = am_z 0) (hm : f_X10_nameHere N h1 = some (x, h1)) (hf : f_X10_found N (am_z 1) x h1 = some (v, h1)) (hv : v ≠ am_z (-1)) : f_X10_readThing N (am_z 1) h = some ((), eS (am_z (-14)) h1) := by
  have j0 : am_in (am_z 1) 20 = true := by decide
  have l0 : (am_z 1).toNatClampNeg = 1 := by decide
  have z := eS_2 (h := h1) (c := am_z (-14)) (by decide)
  have q : ¬ (am_z a = am_z 6) := by rw [am_z_eq (by omega) (by omega) (by omega) (by omega)]; omega
  unfold f_X10_readThing j_X10_readThing_9 j_X10_readThing_29
  simp only [am_z_lit, am_z_neg, if_neg z_10, j0, cond_true, l0, h0, if_neg q, m_f1, am_bi_s, m_g0 h2 hn, hm, h21, if_true, hf, if_neg hv, m_f2 h21, if_neg z, m_g1 z, m_intE z]
theorem m_thU4 {h h1 h3 : am_Hp} {a : Nat} {x c w : Int32} (hN : 1000 ≤ N) (h0 : h 195 1 = am_z a) (ha : a < 6) (h2 : h 193 22 = am_z 0) (hn : f_X10_next N h = some ((), h1)) (h21 : h1 193 22 = am_z 0) (hm : f_X10_nameHere N h1 = some (x, h1)) (hf : f_X10_found N (am_z 1) x h1 = some (am_z (-1), h1)) (hn2 : f_X10_next N h1 = some ((), h3)) (hi : f_X10_integer N (am_z 2) (am_z 16) h3 = some (w, eS c h3)) (hc : c ≠ am_z 0) : f_X10_readThing N (am_z 1) h = some ((), eS c h3) := by
  have j0 : am_in (am_z 1) 20 = true := by decide
  have l0 : (am_z 1).toNatClampNeg = 1 := by decide
  have z := eS_2 (h := h3) hc
  have q : ¬ (am_z a = am_z 6) := by rw [am_z_eq (by omega) (by omega) (by omega) (by omega)]; omega
  unfold f_X10_readThing j_X10_readThing_9 j_X10_readThing_29
  simp only [am_z_lit, am_z_neg, if_neg z_10, j0, cond_true, l0, h0, if_neg q, m_f1, am_bi_s, m_g0 h2 hn, hm, h21, if_true, hf, m_g0 h21 hn2, hi, if_neg z, m_intE z]
theorem m_thU5 {h h1 h3 h4 : am_Hp} {a : Nat} {x c w t : Int32} (hN : 1000 ≤ N) (h0 : h 195 1 = am_z a) (ha : a < 6) (h2 : h 193 22 = am_z 0) (hn : f_X10_next N h = some ((), h1)) (h21 : h1 193 22 = am_z 0) (hm : f_X10_nameHere N h1 = some (x, h1)) (hf : f_X10_found N (am_z 1) x h1 = some (am_z (-1), h1)) (hn2 : f_X10_next N h1 = some ((), h3)) (hi : f_X10_integer N (am_z 2) (am_z 16) h3 = some (w, h4)) (hi2 : f_X10_integer N (am_z 1) (am_z 6) h4 = some (t, eS c h4)) (hc : c ≠ am_z 0) : f_X10_readThing N (am_z 1) h = some ((), eS c h4) := by
  have j0 : am_in (am_z 1) 20 = true := by decide
  have l0 : (am_z 1).toNatClampNeg = 1 := by decide
  have z := eS_2 (h := h4) hc
  have q : ¬ (am_z a = am_z 6) := by rw [am_z_eq (by omega) (by omega) (by omega) (by omega)]; omega
  unfold f_X10_readThing j_X10_readThing_9 j_X10_readThing_29
  simp only [am_z_lit, am_z_neg, if_neg z_10, j0, cond_true, l0, h0, if_neg q, m_f1, am_bi_s, m_g0 h2 hn, hm, h21, if_true, hf, m_g0 h21 hn2, hi, hi2, if_neg z]
theorem m_thU6 {h h1 h3 h4 h5 : am_Hp} {a : Nat} {x w t : Int32} (hN : 1000 ≤ N) (h0 : h 195 1 = am_z a) (ha : a < 6) (h2 : h 193 22 = am_z 0) (hn : f_X10_next N h = some ((), h1)) (h21 : h1 193 22 = am_z 0) (hm : f_X10_nameHere N h1 = some (x, h1)) (hf : f_X10_found N (am_z 1) x h1 = some (am_z (-1), h1)) (hn2 : f_X10_next N h1 = some ((), h3)) (hi : f_X10_integer N (am_z 2) (am_z 16) h3 = some (w, h4)) (hi2 : f_X10_integer N (am_z 1) (am_z 6) h4 = some (t, h5)) (h25 : h5 193 22 = am_z 0) (h05 : h5 195 1 = am_z a) : f_X10_readThing N (am_z 1) h = some ((), am_pi (am_pi (am_pi (am_pi h5 195 (6 + a) x) 195 1 (am_z ((a + 1 : Nat) : Int))) 197 (7 + 8 * a) w) 197 (8 + 8 * a) t) := by
  have j0 : am_in (am_z 1) 20 = true := by decide
  have l0 : (am_z 1).toNatClampNeg = 1 := by decide
  have q : ¬ (am_z a = am_z 6) := by rw [am_z_eq (by omega) (by omega) (by omega) (by omega)]; omega
  have e4 : (a : Int) + 1 = ((a + 1 : Nat) : Int) := by omega
  have en : 6 + (a : Int) = ((6 + a : Nat) : Int) := by omega
  have jn : am_in (am_z ((6 + a : Nat) : Int)) 20 = true := m_in (by omega) (by decide)
  have p1 : am_pi h5 195 (6 + a) x 195 1 = am_z a := by rw [am_pi_k (by omega)]; exact h05
  have a6 : a < 6 := ha
  unfold f_X10_readThing j_X10_readThing_9 j_X10_readThing_29
  simp only [am_z_lit, am_z_neg, if_neg z_10, j0, cond_true, l0, h0, if_neg q, m_f1, am_bi_s, m_g0 h2 hn, hm, h21, if_true, hf, m_g0 h21 hn2, hi, hi2, h25]
  simp (disch := omega) only [am_bi_s, cond_true, am_z_add, en, jn, am_z_cl, Int.toNat_natCast, p1, e4, w_u0 a6, w_u1 a6]
end MTH
