section SET
variable {N L : Nat} {B : Nat → Nat} {hc hm : am_Hp}
theorem bit_f : ∀ g0, g0 < 2 → ∀ g1, g1 < 2 → (am_z ((g0 + 2 * g1 : Nat) : Int) >>> (am_z 0 &&& am_z 31)) &&& am_z 1 = am_z (g0 : Int) ∧ (am_z ((g0 + 2 * g1 : Nat) : Int) >>> (am_z 1 &&& am_z 31)) &&& am_z 1 = am_z (g1 : Int) ∧ (g0 = 0 → am_z ((g0 + 2 * g1 : Nat) : Int) ||| (am_z 1 <<< (am_z 0 &&& am_z 31)) = am_z ((1 + 2 * g1 : Nat) : Int)) ∧ (g1 = 0 → am_z ((g0 + 2 * g1 : Nat) : Int) ||| (am_z 1 <<< (am_z 1 &&& am_z 31)) = am_z ((g0 + 2 * 1 : Nat) : Int)) := by decide
theorem z_n10 : ¬ (am_z (-1) = am_z 0) := by decide
theorem m_st1 {h h1 : am_Hp} (h2 : h 193 22 = am_z 0) (hn : f_X10_next N h = some ((), h1)) (h21 : h1 193 22 = am_z 0) (hw : f_X10_wordOf N 214 h1 = some (am_z (-1), h1)) : ∃ v, f_X10_readSetting N h = some ((), am_pi (eS (am_z (-11)) h1) 193 26 v) := by
  have z := eS_2 (h := h1) (c := am_z (-11)) (by decide)
  have z' : ∀ v, am_pi (eS (am_z (-11)) h1) 193 26 v 193 22 ≠ am_z 0 := fun v => by rw [am_pi_k (by decide)]; exact z
  have g1' : ∀ v, f_X10_goOn N (am_pi (eS (am_z (-11)) h1) 193 26 v) = some ((), am_pi (eS (am_z (-11)) h1) 193 26 v) := fun v => m_g1 (z' v)
  have i1' : ∀ v lo hi, f_X10_integer N lo hi (am_pi (eS (am_z (-11)) h1) 193 26 v) = some (lo, am_pi (eS (am_z (-11)) h1) 193 26 v) := fun v lo hi => m_intE (z' v)
  have n1' : ∀ v, (am_pi (eS (am_z (-11)) h1) 193 26 v 193 22 = am_z 0) = False := fun v => eq_false (z' v)
  unfold f_X10_readSetting f_X10_low f_X10_top
  simp only [am_z_lit, am_z_neg, m_g0 h2 hn, am_bi_s, hw, if_true, m_f2 h21, if_neg z, m_f0 z, m_f1, g1', i1', n1', if_false, ite_self]
  exact ⟨_, rfl⟩
theorem m_st20 {h h1 : am_Hp} (h2 : h 193 22 = am_z 0) (hn : f_X10_next N h = some ((), h1)) (h21 : h1 193 22 = am_z 0) (hw : f_X10_wordOf N 214 h1 = some (am_z 0, h1)) (hb : (h1 193 26 >>> (am_z 0 &&& am_z 31)) &&& am_z 1 = am_z 1) : ∃ v, f_X10_readSetting N h = some ((), am_pi (eS (am_z (-14)) h1) 193 26 v) := by
  have z := eS_2 (h := h1) (c := am_z (-14)) (by decide)
  have zw : ¬ (am_z 0 = am_z (-1)) := by decide
  have z' : ∀ v, am_pi (eS (am_z (-14)) h1) 193 26 v 193 22 ≠ am_z 0 := fun v => by rw [am_pi_k (by decide)]; exact z
  have g1' : ∀ v, f_X10_goOn N (am_pi (eS (am_z (-14)) h1) 193 26 v) = some ((), am_pi (eS (am_z (-14)) h1) 193 26 v) := fun v => m_g1 (z' v)
  have i1' : ∀ v lo hi, f_X10_integer N lo hi (am_pi (eS (am_z (-14)) h1) 193 26 v) = some (lo, am_pi (eS (am_z (-14)) h1) 193 26 v) := fun v lo hi => m_intE (z' v)
  have n1' : ∀ v, (am_pi (eS (am_z (-14)) h1) 193 26 v 193 22 = am_z 0) = False := fun v => eq_false (z' v)
  unfold f_X10_readSetting f_X10_low f_X10_top
  simp only [am_z_lit, am_z_neg, m_g0 h2 hn, am_bi_s, hw, if_neg zw, m_f1, h21, if_true, hb, m_f2 h21, g1', i1', n1', if_false, if_true]
  exact ⟨_, rfl⟩
theorem m_st30 {h h1 hx : am_Hp} {c w v' : Int32} (h2 : h 193 22 = am_z 0) (hn : f_X10_next N h = some ((), h1)) (h21 : h1 193 22 = am_z 0) (hw : f_X10_wordOf N 214 h1 = some (am_z 0, h1)) (hb : (h1 193 26 >>> (am_z 0 &&& am_z 31)) &&& am_z 1 = am_z 0) (ho : h1 193 26 ||| (am_z 1 <<< (am_z 0 &&& am_z 31)) = v') (hn2 : f_X10_next N (am_pi h1 193 26 v') = some ((), hx)) (hi : f_X10_integer N (am_z 1) (am_z 99) hx = some (w, eS c hx)) (hc : c ≠ am_z 0) : f_X10_readSetting N h = some ((), eS c hx) := by
  have z := eS_2 (h := hx) hc
  have zw : ¬ (am_z 0 = am_z (-1)) := by decide
  have h26 : am_pi h1 193 26 v' 193 22 = am_z 0 := by rw [am_pi_k (by decide)]; exact h21
  unfold f_X10_readSetting f_X10_low f_X10_top
  simp only [am_z_lit, am_z_neg, m_g0 h2 hn, am_bi_s, hw, if_neg zw, m_f1, h21, if_true, hb, if_neg z_01, ho, m_g0 h26 hn2, if_true, hi, if_neg z]
theorem m_st40 {h h1 hx hy : am_Hp} {w v' : Int32} (h2 : h 193 22 = am_z 0) (hn : f_X10_next N h = some ((), h1)) (h21 : h1 193 22 = am_z 0) (hw : f_X10_wordOf N 214 h1 = some (am_z 0, h1)) (hb : (h1 193 26 >>> (am_z 0 &&& am_z 31)) &&& am_z 1 = am_z 0) (ho : h1 193 26 ||| (am_z 1 <<< (am_z 0 &&& am_z 31)) = v') (hn2 : f_X10_next N (am_pi h1 193 26 v') = some ((), hx)) (hi : f_X10_integer N (am_z 1) (am_z 99) hx = some (w, hy)) (hy2 : hy 193 22 = am_z 0) : f_X10_readSetting N h = some ((), am_pi hy 197 0 w) := by
  have zw : ¬ (am_z 0 = am_z (-1)) := by decide
  have h26 : am_pi h1 193 26 v' 193 22 = am_z 0 := by rw [am_pi_k (by decide)]; exact h21
  have j : am_in (am_z 0 + am_z 0) 6071 = true := by decide
  have t : (am_z 0 + am_z 0).toNatClampNeg = 0 := by decide
  unfold f_X10_readSetting f_X10_low f_X10_top
  simp only [am_z_lit, am_z_neg, m_g0 h2 hn, am_bi_s, hw, if_neg zw, m_f1, h21, if_true, hb, if_neg z_01, ho, m_g0 h26 hn2, if_true, hi, hy2, j, t, cond_true]
theorem m_st21 {h h1 : am_Hp} (h2 : h 193 22 = am_z 0) (hn : f_X10_next N h = some ((), h1)) (h21 : h1 193 22 = am_z 0) (hw : f_X10_wordOf N 214 h1 = some (am_z 1, h1)) (hb : (h1 193 26 >>> (am_z 1 &&& am_z 31)) &&& am_z 1 = am_z 1) : ∃ v, f_X10_readSetting N h = some ((), am_pi (eS (am_z (-14)) h1) 193 26 v) := by
  have z := eS_2 (h := h1) (c := am_z (-14)) (by decide)
  have zw : ¬ (am_z 1 = am_z (-1)) := by decide
  have z' : ∀ v, am_pi (eS (am_z (-14)) h1) 193 26 v 193 22 ≠ am_z 0 := fun v => by rw [am_pi_k (by decide)]; exact z
  have g1' : ∀ v, f_X10_goOn N (am_pi (eS (am_z (-14)) h1) 193 26 v) = some ((), am_pi (eS (am_z (-14)) h1) 193 26 v) := fun v => m_g1 (z' v)
  have i1' : ∀ v lo hi, f_X10_integer N lo hi (am_pi (eS (am_z (-14)) h1) 193 26 v) = some (lo, am_pi (eS (am_z (-14)) h1) 193 26 v) := fun v lo hi => m_intE (z' v)
  have n1' : ∀ v, (am_pi (eS (am_z (-14)) h1) 193 26 v 193 22 = am_z 0) = False := fun v => eq_false (z' v)
  unfold f_X10_readSetting f_X10_low f_X10_top
  simp only [am_z_lit, am_z_neg, m_g0 h2 hn, am_bi_s, hw, if_neg zw, m_f1, h21, if_true, hb, m_f2 h21, g1', i1', n1', if_false, if_neg z_10]
  exact ⟨_, rfl⟩
theorem m_st31 {h h1 hx : am_Hp} {c w v' : Int32} (h2 : h 193 22 = am_z 0) (hn : f_X10_next N h = some ((), h1)) (h21 : h1 193 22 = am_z 0) (hw : f_X10_wordOf N 214 h1 = some (am_z 1, h1)) (hb : (h1 193 26 >>> (am_z 1 &&& am_z 31)) &&& am_z 1 = am_z 0) (ho : h1 193 26 ||| (am_z 1 <<< (am_z 1 &&& am_z 31)) = v') (hn2 : f_X10_next N (am_pi h1 193 26 v') = some ((), hx)) (hi : f_X10_integer N (am_z 0) (am_z 1) hx = some (w, eS c hx)) (hc : c ≠ am_z 0) : f_X10_readSetting N h = some ((), eS c hx) := by
  have z := eS_2 (h := hx) hc
  have zw : ¬ (am_z 1 = am_z (-1)) := by decide
  have h26 : am_pi h1 193 26 v' 193 22 = am_z 0 := by rw [am_pi_k (by decide)]; exact h21
  unfold f_X10_readSetting f_X10_low f_X10_top
  simp only [am_z_lit, am_z_neg, m_g0 h2 hn, am_bi_s, hw, if_neg zw, m_f1, h21, if_true, hb, if_neg z_01, ho, m_g0 h26 hn2, if_neg z_10, hi, if_neg z]
theorem m_st41 {h h1 hx hy : am_Hp} {w v' : Int32} (h2 : h 193 22 = am_z 0) (hn : f_X10_next N h = some ((), h1)) (h21 : h1 193 22 = am_z 0) (hw : f_X10_wordOf N 214 h1 = some (am_z 1, h1)) (hb : (h1 193 26 >>> (am_z 1 &&& am_z 31)) &&& am_z 1 = am_z 0) (ho : h1 193 26 ||| (am_z 1 <<< (am_z 1 &&& am_z 31)) = v') (hn2 : f_X10_next N (am_pi h1 193 26 v') = some ((), hx)) (hi : f_X10_integer N (am_z 0) (am_z 1) hx = some (w, hy)) (hy2 : hy 193 22 = am_z 0) : f_X10_readSetting N h = some ((), am_pi hy 197 1 w) := by
  have zw : ¬ (am_z 1 = am_z (-1)) := by decide
  have h26 : am_pi h1 193 26 v' 193 22 = am_z 0 := by rw [am_pi_k (by decide)]; exact h21
  have j : am_in (am_z 0 + am_z 1) 6071 = true := by decide
  have t : (am_z 0 + am_z 1).toNatClampNeg = 1 := by decide
  unfold f_X10_readSetting f_X10_low f_X10_top
  simp only [am_z_lit, am_z_neg, m_g0 h2 hn, am_bi_s, hw, if_neg zw, m_f1, h21, if_true, hb, if_neg z_01, ho, m_g0 h26 hn2, if_neg z_10, hi, hy2, j, t, cond_true]
theorem q_set {a b g0 g1 s e K : Nat} (hN : 1000 ≤ N) (bc : cB hc L B) (bm : mB hm L B) (T : TKp L B hc hm s e K) (h2 : hm 193 22 = am_z 0) (D : DR a b g0 g1 hc hm) : ∃ c hc' hm', f_X1_readSetting N hc = some (am_z c, hc') ∧ f_X10_readSetting N hm = some ((), hm') ∧ FR hc hm hc' hm' ∧ hm' 193 25 = hm 193 25 ∧ ((c = 0 ∧ ∃ g0' g1', OKs N L B a b g0' g1' e hc hm hc' hm') ∨ ERs c hc' hm') := by
  have b1 := bc.1
  obtain ⟨⟨da, db, dg0, dg1, d40, d80, d44, d84, m0, m1'⟩, dS, dU, ⟨o0, o1, oV, p0, p1, o26⟩, dB⟩ := D
  obtain ⟨t1, t2, t3, t4, t5, t6, t7, t8, t9, t10, t11, t12⟩ := T
  obtain ⟨l1, l2, l3, l4, l5, l6, l7⟩ := s_len
  have x1 : am_sx 206 0 = am_z 1 := by decide
  have x2 : am_sx 206 1 = am_z 0 := by decide
  have x3 : am_sx 207 0 = am_z 99 := by decide
  have x4 : am_sx 207 1 = am_z 1 := by decide
  have j0 : am_in (am_z 0) 2 = true := by decide
  have j1 : am_in (am_z 1) 2 = true := by decide
  obtain ⟨c1, m1, s1, e1, K1, A1, X1, T1, le1, fa1, fb1, fc1, fd1, bc1, bm1⟩ := q_adv (N := N) hN bc bm t8 t2 t5
  have F1 : FR hc hm c1 m1 := FR_adv fa1 fb1 fc1 fd1
  have h21 : m1 193 22 = am_z 0 := by rw [fd1 22 (by decide)]; exact h2
  have h251 : m1 193 25 = hm 193 25 := fd1 25 (by decide)
  have h261 : m1 193 26 = am_z ((g0 + 2 * g1 : Nat) : Int) := by rw [fd1 26 (by decide)]; exact o26
  obtain ⟨u1, u2, u3, u4, u5, u6, u7, u8, u9, u10, u11, u12⟩ := T1
  obtain ⟨bt0, bt1, bo0, bo1⟩ := bit_f g0 (by omega) g1 (by omega)
  -- neither word
  have neither : f_X7_isWord N 211 c1 = some (am_z 0, c1) → f_X7_isWord N 212 c1 = some (am_z 0, c1) → f_X10_wordOf N 214 m1 = some (am_z (-1), m1) → ∃ c hc' hm', f_X1_readSetting N hc = some (am_z c, hc') ∧ f_X10_readSetting N hm = some ((), hm') ∧ FR hc hm hc' hm' ∧ hm' 193 25 = hm 193 25 ∧ ((c = 0 ∧ ∃ g0' g1', OKs N L B a b g0' g1' e hc hm hc' hm') ∨ ERs c hc' hm') := by
    intro y1 y2 y3
    obtain ⟨v, y4⟩ := m_st1 (N := N) h2 X1 h21 y3
    refine ⟨-11, c1, _, ?_, y4, FRt F1 ⟨fun _ _ _ => rfl, fun _ _ _ _ => rfl, rfl, rfl, fun x p _ _ => ?_, fun k p q r => ?_⟩, ?_, Or.inr ⟨by decide, by decide, ?_, ?_⟩⟩
    · unfold f_X1_readSetting
      simp only [A1, am_bi_s, y1, y2, am_z_lit, am_z_neg, if_true]
    · unfold eS; rw [qc_pia p, qc_pia p, qc_pia p]
    · unfold eS; rw [am_pi_k r, am_pi_k (by omega), am_pi_k (by omega)]
    · rw [am_pi_k (by decide), eS_25, h251]
    · rw [am_pi_k (by decide), eS_22]
    · rw [am_pi_k (by decide), eS_23, u4, u1]
  by_cases qk : K1 = 1
  rotate_left
  · have zk : c1 1 3 ≠ am_z 1 := by rw [u3, Ne, am_z_eq (by omega) (by omega) (by omega) (by omega)]; omega
    obtain ⟨w1, w2, -⟩ := tk_f K1 (by omega)
    have w3 : tk K1 ≠ 0 := fun y => qk (w2.mp y)
    exact neither (c_isW0 zk) (c_isW0 zk) (m_wordn hN (by rw [u6, Ne, am_z_eq (by omega) (by omega) (by omega) (by omega)]; omega))
  have zk : c1 1 3 = am_z 1 := by rw [u3, qk]; rfl
  have zt : m1 193 20 = am_z 0 := by rw [u6, qk]; rfl
  obtain ⟨r1, r2⟩ := c_isW (N := N) (a := 211) hN bc1 u7 u8 zk u1 u2 (by decide) (by decide) (by omega)
  obtain ⟨r3, r4⟩ := c_isW (N := N) (a := 212) hN bc1 u7 u8 zk u1 u2 (by decide) (by decide) (by omega)
  obtain ⟨w1, w2, w3⟩ := m_word2 (N := N) hN bm1 u7 u8 zt u4 u5
  by_cases q1 : isW B s1 e1 211
  · have ww := w1 q1
    have wt := r1 q1
    have i1 := r1 q1
    by_cases qg : g0 = 1
    · subst qg
      obtain ⟨v, y4⟩ := m_st20 (N := N) h2 X1 h21 ww (by rw [h261]; exact bt0)
      refine ⟨-14, c1, _, ?_, y4, FRt F1 ⟨fun _ _ _ => rfl, fun _ _ _ _ => rfl, rfl, rfl, fun x p _ _ => ?_, fun k p q r => ?_⟩, ?_, Or.inr ⟨by decide, by decide, ?_, ?_⟩⟩
      · have e13 : c1 13 0 = am_z 1 := by rw [fa1 13 (by decide), p0]; rfl
        unfold f_X1_readSetting
        simp only [A1, am_bi_s, i1, am_z_lit, am_z_neg, if_true, if_neg z_10, j0, cond_true, e13]
      · unfold eS; rw [qc_pia p, qc_pia p, qc_pia p]
      · unfold eS; rw [am_pi_k r, am_pi_k (by omega), am_pi_k (by omega)]
      · rw [am_pi_k (by decide), eS_25, h251]
      · rw [am_pi_k (by decide), eS_22]
      · rw [am_pi_k (by decide), eS_23, u4, u1]
    have g00 : g0 = 0 := by omega
    have e13 : c1 13 0 = am_z 0 := by rw [fa1 13 (by decide), p0, g00]; rfl
    have hb : (m1 193 26 >>> (am_z 0 &&& am_z 31)) &&& am_z 1 = am_z 0 := by rw [h261, bt0, g00]; rfl
    have ho : m1 193 26 ||| (am_z 1 <<< (am_z 0 &&& am_z 31)) = am_z ((1 + 2 * g1 : Nat) : Int) := by rw [h261, bo0 g00]
    obtain ⟨c2, m2, s2, e2, K2, A2, X2, T2, le2, fa2, fb2, fc2, fd2, bc2, bm2⟩ := q_adv (N := N) (hm := am_pi m1 193 26 (am_z ((1 + 2 * g1 : Nat) : Int))) hN bc1 (mB_p (by decide) bm1) u8 u2 (by rw [am_pi_k (by decide)]; exact u5)
    have F2 : FR hc hm c2 m2 := by
      refine FRt F1 ⟨fun x p _ => fa2 x p, fb2, by rw [fa2 4 (by decide)], by rw [fa2 8 (by decide)], fun x p _ _ => by rw [fc2 x p, qc_pia p], fun k p q r => by rw [fd2 k (by omega), am_pi_k r]⟩
    have h22 : m2 193 22 = am_z 0 := by rw [fd2 22 (by decide), am_pi_k (by decide)]; exact h21
    have h252 : m2 193 25 = hm 193 25 := by rw [fd2 25 (by decide), am_pi_k (by decide)]; exact h251
    obtain ⟨r1, r2, r3⟩ := c_rdn (N := N) (lo := 1) (hi := 99) hN A2 bc2 T2 (by decide) (by decide)
    obtain ⟨y1, y2, y3⟩ := m_rdn (N := N) (lo := 1) (hi := 99) T2 h22 (by decide) (by decide)
    have T2' := T2
    obtain ⟨v1, v2, v3, v4, v5, v6, v7, v8, v9, v10, v11, v12⟩ := T2'
    have pre : ∀ c, c ≠ am_z 0 → f_X1_readNumber N (am_z 1) (am_z 99) c1 = some (c, c2) → f_X1_readSetting N hc = some (c, c2) := by
      intro c hc0 hr
      unfold f_X1_readSetting
      simp only [A1, am_bi_s, i1, am_z_lit, am_z_neg, if_true, if_neg z_10, j0, cond_true, e13, x1, x2, x3, x4, hr, if_neg hc0]
    by_cases qk2 : K2 = 2
    rotate_left
    · exact ⟨-11, c2, eS (am_z (-11)) m2, pre _ (by decide) (r1 qk2), m_st30 h2 X1 h21 ww hb ho X2 (y1 qk2) (by decide), FRt F2 FR_e, by rw [eS_25, h252], Or.inr ⟨by decide, by decide, eS_22, by rw [eS_23, v4, v1]⟩⟩
    by_cases qr : 1 ≤ mv B s2 (e2 - s2) ∧ mv B s2 (e2 - s2) ≤ 99
    rotate_left
    · exact ⟨-12, c2, eS (am_z (-12)) m2, pre _ (by decide) (r3 qk2 qr), m_st30 h2 X1 h21 ww hb ho X2 (y3 qk2 qr) (by decide), FRt F2 FR_e, by rw [eS_25, h252], Or.inr ⟨by decide, by decide, eS_22, by rw [eS_23, v4, v1]⟩⟩
    obtain ⟨z1, -⟩ := r2 qk2 qr.1 qr.2
    have z1' : f_X1_readNumber N (am_z 1) (am_z 99) c1 = _ := z1
    have bc2' : cB (am_pi c2 13 0 (am_z 1)) L B := ⟨bc2.1, by rw [am_pi_a (by decide)]; exact bc2.2.1, fun i hi => by rw [am_pi_a (by decide)]; exact bc2.2.2 i hi⟩
    have nu := c_num (N := N) hN bc2' v7 v8 (by rw [am_pi_a (by decide)]; exact v1) (by rw [am_pi_a (by decide)]; exact v2) (v12 qk2).1
    have emin : min (mv B s2 (e2 - s2)) 1000 = mv B s2 (e2 - s2) := by omega
    rw [emin] at nu
    obtain ⟨c3, m3, s3, e3, K3, A3, X3, T3, le3, fa3, fb3, fc3, fd3, bc3, bm3⟩ := q_adv (N := N) (hc := am_pi (am_pi c2 13 0 (am_z 1)) 12 0 (am_z (mv B s2 (e2 - s2) : Nat))) hN ⟨bc2'.1, by rw [am_pi_a (by decide)]; exact bc2'.2.1, fun i hi => by rw [am_pi_a (by decide)]; exact bc2'.2.2 i hi⟩ bm2 v8 (by rw [am_pi_a (by decide), am_pi_a (by decide)]; exact v2) v5
    have y4 := y2 qk2 qr.1 qr.2 m3 X3
    generalize mv B s2 (e2 - s2) = V at *
    have h23 : m3 193 22 = am_z 0 := by rw [fd3 22 (by decide)]; exact h22
    have h253 : m3 193 25 = hm 193 25 := (fd3 25 (by decide)).trans h252
    have h263 : m3 193 26 = am_z ((1 + 2 * g1 : Nat) : Int) := by rw [fd3 26 (by decide), fd2 26 (by decide), am_pi_s]
    have c2a : ∀ x, x ≠ 1 → c2 x = hc x := fun x hx => by rw [fa2 x hx, fa1 x hx]
    have m3a : ∀ x, x ≠ 193 → m3 x = hm x := fun x hx => by rw [fc3 x hx, fc2 x hx, qc_pia hx, fc1 x hx]
    refine ⟨0, _, _, ?_, m_st40 h2 X1 h21 ww hb ho X2 y4 h23, ?_, ?_, Or.inl ⟨rfl, 1, g1, c3, s3, e3, K3, A3, bc3, ?_, ?_, ?_, ?_, by omega, ?_⟩⟩
    · unfold f_X1_readSetting
      simp only [A1, am_bi_s, i1, am_z_lit, am_z_neg, if_true, if_neg z_10, j0, cond_true, e13, x1, x2, x3, x4, z1', am_z_and1, nu]
    · refine ⟨fun x p q => ?_, fun k p q r => ?_, ?_, ?_, fun x p q r => ?_, fun k p q r => ?_⟩
      · rw [qc_pia (by omega), qc_pia (by omega)]; exact F2.1 x p q
      · rw [am_pi_a (by decide), am_pi_a (by decide)]; exact F2.2.1 k p q r
      · rw [am_pi_a (by decide), am_pi_a (by decide), c2a 4 (by decide)]
      · rw [am_pi_a (by decide), am_pi_a (by decide), c2a 8 (by decide)]
      · rw [qc_pia r]; exact m3a x p
      · rw [am_pi_a (by decide), fd3 k (by omega)]; exact F2.2.2.2.2.2 k p q r
    · rw [am_pi_a (by decide)]; exact h253
    · exact ⟨bm3.1, by rw [am_pi_a (by decide)]; exact bm3.2.1, fun i hi => by rw [am_pi_a (by decide)]; exact bm3.2.2 i hi⟩
    · unfold TKp at T3 ⊢
      rw [qc_pia (by decide)]
      exact T3
    · rw [am_pi_a (by decide)]; exact h23
    · have kk : ∀ y k, y ≠ 1 → ¬ (12 ≤ y ∧ y ≤ 13 ∧ k = 0) → c3 y k = hc y k := fun y k p q => by
        rw [fa3 y p, am_pi_ap, if_neg (by omega), am_pi_ap, if_neg (by omega), c2a y p]
      have k12 : c3 12 0 = am_z V := by rw [fa3 12 (by decide), am_pi_s]
      have k13 : c3 13 0 = am_z 1 := by rw [fa3 13 (by decide), am_pi_a (by decide), am_pi_s]
      have l7 : ∀ k, k ≠ 0 → am_pi m3 197 0 (am_z V) 197 k = hm 197 k := fun k p => by rw [am_pi_k p, m3a 197 (by decide)]
      have l5 : am_pi m3 197 0 (am_z V) 195 = hm 195 := by rw [qc_pia (by decide), m3a 195 (by decide)]
      have lW : am_pi m3 197 0 (am_z V) 197 0 = am_z V := am_pi_s _ _ _ _
      have l26 : am_pi m3 197 0 (am_z V) 193 26 = am_z ((1 + 2 * g1 : Nat) : Int) := by rw [am_pi_a (by decide)]; exact h263
      generalize am_pi m3 197 0 (am_z V) = M at *
      obtain ⟨n1, n2⟩ := dB
      refine ⟨⟨da, db, by omega, by omega, by rw [kk 4 0 (by decide) (by omega)]; exact d40, by rw [kk 8 0 (by decide) (by omega)]; exact d80, by rw [kk 4 4 (by decide) (by omega)]; exact d44, by rw [kk 8 4 (by decide) (by omega)]; exact d84, by rw [l5]; exact m0, by rw [l5]; exact m1'⟩, fun i hi => ?_, fun i hi => ?_, ?_, fun s hs => ?_, fun k p q r o => ?_⟩
      · rw [kk 5 i (by decide) (by omega), kk 6 i (by decide) (by omega), kk 7 i (by decide) (by omega), l5]
        exact dS i hi
      · rw [kk 9 i (by decide) (by omega), kk 10 i (by decide) (by omega), kk 11 i (by decide) (by omega), l5, l7 (7 + 8 * i) (by omega), l7 (8 + 8 * i) (by omega)]
        exact dU i hi
      · rw [kk 12 1 (by decide) (by omega), kk 13 1 (by decide) (by omega), l7 1 (by decide), k12, k13, lW, l26]
        exact ⟨rfl, o1, oV, rfl, p1, rfl⟩
      · rw [l7 _ (by omega), l7 _ (by omega)]; exact n1 s hs
      · rw [l7 k (by omega)]; exact n2 k p q r o
    · refine ⟨fun x p q => ?_, fun k p q r => ?_, ?_, ?_, fun x p q r => ?_, fun k p q r => ?_⟩
      · rw [fa3 x p, qc_pia (by omega), qc_pia (by omega)]; exact F2.1 x p q
      · rw [fb3 k p q r, am_pi_a (by decide), am_pi_a (by decide)]; exact F2.2.1 k p q r
      · rw [fa3 4 (by decide), am_pi_a (by decide), am_pi_a (by decide), c2a 4 (by decide)]
      · rw [fa3 8 (by decide), am_pi_a (by decide), am_pi_a (by decide), c2a 8 (by decide)]
      · rw [qc_pia r]; exact m3a x p
      · rw [am_pi_a (by decide), fd3 k (by omega)]; exact F2.2.2.2.2.2 k p q r
  by_cases q2 : isW B s1 e1 212
  · have ww := w2 q1 q2
    have wt := r3 q2
    have i1 := r2 q1
    have i2 := r3 q2
    by_cases qg : g1 = 1
    · subst qg
      obtain ⟨v, y4⟩ := m_st21 (N := N) h2 X1 h21 ww (by rw [h261]; exact bt1)
      refine ⟨-14, c1, _, ?_, y4, FRt F1 ⟨fun _ _ _ => rfl, fun _ _ _ _ => rfl, rfl, rfl, fun x p _ _ => ?_, fun k p q r => ?_⟩, ?_, Or.inr ⟨by decide, by decide, ?_, ?_⟩⟩
      · have e13 : c1 13 1 = am_z 1 := by rw [fa1 13 (by decide), p1]; rfl
        unfold f_X1_readSetting
        simp only [A1, am_bi_s, i1, i2, am_z_lit, am_z_neg, if_true, if_neg z_10, j1, cond_true, e13]
      · unfold eS; rw [qc_pia p, qc_pia p, qc_pia p]
      · unfold eS; rw [am_pi_k r, am_pi_k (by omega), am_pi_k (by omega)]
      · rw [am_pi_k (by decide), eS_25, h251]
      · rw [am_pi_k (by decide), eS_22]
      · rw [am_pi_k (by decide), eS_23, u4, u1]
    have g00 : g1 = 0 := by omega
    have e13 : c1 13 1 = am_z 0 := by rw [fa1 13 (by decide), p1, g00]; rfl
    have hb : (m1 193 26 >>> (am_z 1 &&& am_z 31)) &&& am_z 1 = am_z 0 := by rw [h261, bt1, g00]; rfl
    have ho : m1 193 26 ||| (am_z 1 <<< (am_z 1 &&& am_z 31)) = am_z ((g0 + 2 * 1 : Nat) : Int) := by rw [h261, bo1 g00]
    obtain ⟨c2, m2, s2, e2, K2, A2, X2, T2, le2, fa2, fb2, fc2, fd2, bc2, bm2⟩ := q_adv (N := N) (hm := am_pi m1 193 26 (am_z ((g0 + 2 * 1 : Nat) : Int))) hN bc1 (mB_p (by decide) bm1) u8 u2 (by rw [am_pi_k (by decide)]; exact u5)
    have F2 : FR hc hm c2 m2 := by
      refine FRt F1 ⟨fun x p _ => fa2 x p, fb2, by rw [fa2 4 (by decide)], by rw [fa2 8 (by decide)], fun x p _ _ => by rw [fc2 x p, qc_pia p], fun k p q r => by rw [fd2 k (by omega), am_pi_k r]⟩
    have h22 : m2 193 22 = am_z 0 := by rw [fd2 22 (by decide), am_pi_k (by decide)]; exact h21
    have h252 : m2 193 25 = hm 193 25 := by rw [fd2 25 (by decide), am_pi_k (by decide)]; exact h251
    obtain ⟨r1, r2, r3⟩ := c_rdn (N := N) (lo := 0) (hi := 1) hN A2 bc2 T2 (by decide) (by decide)
    obtain ⟨y1, y2, y3⟩ := m_rdn (N := N) (lo := 0) (hi := 1) T2 h22 (by decide) (by decide)
    have T2' := T2
    obtain ⟨v1, v2, v3, v4, v5, v6, v7, v8, v9, v10, v11, v12⟩ := T2'
    have pre : ∀ c, c ≠ am_z 0 → f_X1_readNumber N (am_z 0) (am_z 1) c1 = some (c, c2) → f_X1_readSetting N hc = some (c, c2) := by
      intro c hc0 hr
      unfold f_X1_readSetting
      simp only [A1, am_bi_s, i1, i2, am_z_lit, am_z_neg, if_true, if_neg z_10, j1, cond_true, e13, x1, x2, x3, x4, hr, if_neg hc0]
    by_cases qk2 : K2 = 2
    rotate_left
    · exact ⟨-11, c2, eS (am_z (-11)) m2, pre _ (by decide) (r1 qk2), m_st31 h2 X1 h21 ww hb ho X2 (y1 qk2) (by decide), FRt F2 FR_e, by rw [eS_25, h252], Or.inr ⟨by decide, by decide, eS_22, by rw [eS_23, v4, v1]⟩⟩
    by_cases qr : 0 ≤ mv B s2 (e2 - s2) ∧ mv B s2 (e2 - s2) ≤ 1
    rotate_left
    · exact ⟨-12, c2, eS (am_z (-12)) m2, pre _ (by decide) (r3 qk2 qr), m_st31 h2 X1 h21 ww hb ho X2 (y3 qk2 qr) (by decide), FRt F2 FR_e, by rw [eS_25, h252], Or.inr ⟨by decide, by decide, eS_22, by rw [eS_23, v4, v1]⟩⟩
    obtain ⟨z1, -⟩ := r2 qk2 qr.1 qr.2
    have z1' : f_X1_readNumber N (am_z 0) (am_z 1) c1 = _ := z1
    have bc2' : cB (am_pi c2 13 1 (am_z 1)) L B := ⟨bc2.1, by rw [am_pi_a (by decide)]; exact bc2.2.1, fun i hi => by rw [am_pi_a (by decide)]; exact bc2.2.2 i hi⟩
    have nu := c_num (N := N) hN bc2' v7 v8 (by rw [am_pi_a (by decide)]; exact v1) (by rw [am_pi_a (by decide)]; exact v2) (v12 qk2).1
    have emin : min (mv B s2 (e2 - s2)) 1000 = mv B s2 (e2 - s2) := by omega
    rw [emin] at nu
    obtain ⟨c3, m3, s3, e3, K3, A3, X3, T3, le3, fa3, fb3, fc3, fd3, bc3, bm3⟩ := q_adv (N := N) (hc := am_pi (am_pi c2 13 1 (am_z 1)) 12 1 (am_z (mv B s2 (e2 - s2) : Nat))) hN ⟨bc2'.1, by rw [am_pi_a (by decide)]; exact bc2'.2.1, fun i hi => by rw [am_pi_a (by decide)]; exact bc2'.2.2 i hi⟩ bm2 v8 (by rw [am_pi_a (by decide), am_pi_a (by decide)]; exact v2) v5
    have y4 := y2 qk2 qr.1 qr.2 m3 X3
    generalize mv B s2 (e2 - s2) = V at *
    have h23 : m3 193 22 = am_z 0 := by rw [fd3 22 (by decide)]; exact h22
    have h253 : m3 193 25 = hm 193 25 := (fd3 25 (by decide)).trans h252
    have h263 : m3 193 26 = am_z ((g0 + 2 * 1 : Nat) : Int) := by rw [fd3 26 (by decide), fd2 26 (by decide), am_pi_s]
    have c2a : ∀ x, x ≠ 1 → c2 x = hc x := fun x hx => by rw [fa2 x hx, fa1 x hx]
    have m3a : ∀ x, x ≠ 193 → m3 x = hm x := fun x hx => by rw [fc3 x hx, fc2 x hx, qc_pia hx, fc1 x hx]
    refine ⟨0, _, _, ?_, m_st41 h2 X1 h21 ww hb ho X2 y4 h23, ?_, ?_, Or.inl ⟨rfl, g0, 1, c3, s3, e3, K3, A3, bc3, ?_, ?_, ?_, ?_, by omega, ?_⟩⟩
    · unfold f_X1_readSetting
      simp only [A1, am_bi_s, i1, i2, am_z_lit, am_z_neg, if_true, if_neg z_10, j1, cond_true, e13, x1, x2, x3, x4, z1', am_z_and1, nu]
    · refine ⟨fun x p q => ?_, fun k p q r => ?_, ?_, ?_, fun x p q r => ?_, fun k p q r => ?_⟩
      · rw [qc_pia (by omega), qc_pia (by omega)]; exact F2.1 x p q
      · rw [am_pi_a (by decide), am_pi_a (by decide)]; exact F2.2.1 k p q r
      · rw [am_pi_a (by decide), am_pi_a (by decide), c2a 4 (by decide)]
      · rw [am_pi_a (by decide), am_pi_a (by decide), c2a 8 (by decide)]
      · rw [qc_pia r]; exact m3a x p
      · rw [am_pi_a (by decide), fd3 k (by omega)]; exact F2.2.2.2.2.2 k p q r
    · rw [am_pi_a (by decide)]; exact h253
    · exact ⟨bm3.1, by rw [am_pi_a (by decide)]; exact bm3.2.1, fun i hi => by rw [am_pi_a (by decide)]; exact bm3.2.2 i hi⟩
    · unfold TKp at T3 ⊢
      rw [qc_pia (by decide)]
      exact T3
    · rw [am_pi_a (by decide)]; exact h23
    · have kk : ∀ y k, y ≠ 1 → ¬ (12 ≤ y ∧ y ≤ 13 ∧ k = 1) → c3 y k = hc y k := fun y k p q => by
        rw [fa3 y p, am_pi_ap, if_neg (by omega), am_pi_ap, if_neg (by omega), c2a y p]
      have k12 : c3 12 1 = am_z V := by rw [fa3 12 (by decide), am_pi_s]
      have k13 : c3 13 1 = am_z 1 := by rw [fa3 13 (by decide), am_pi_a (by decide), am_pi_s]
      have l7 : ∀ k, k ≠ 1 → am_pi m3 197 1 (am_z V) 197 k = hm 197 k := fun k p => by rw [am_pi_k p, m3a 197 (by decide)]
      have l5 : am_pi m3 197 1 (am_z V) 195 = hm 195 := by rw [qc_pia (by decide), m3a 195 (by decide)]
      have lW : am_pi m3 197 1 (am_z V) 197 1 = am_z V := am_pi_s _ _ _ _
      have l26 : am_pi m3 197 1 (am_z V) 193 26 = am_z ((g0 + 2 * 1 : Nat) : Int) := by rw [am_pi_a (by decide)]; exact h263
      generalize am_pi m3 197 1 (am_z V) = M at *
      obtain ⟨n1, n2⟩ := dB
      refine ⟨⟨da, db, by omega, by omega, by rw [kk 4 0 (by decide) (by omega)]; exact d40, by rw [kk 8 0 (by decide) (by omega)]; exact d80, by rw [kk 4 4 (by decide) (by omega)]; exact d44, by rw [kk 8 4 (by decide) (by omega)]; exact d84, by rw [l5]; exact m0, by rw [l5]; exact m1'⟩, fun i hi => ?_, fun i hi => ?_, ?_, fun s hs => ?_, fun k p q r o => ?_⟩
      · rw [kk 5 i (by decide) (by omega), kk 6 i (by decide) (by omega), kk 7 i (by decide) (by omega), l5]
        exact dS i hi
      · rw [kk 9 i (by decide) (by omega), kk 10 i (by decide) (by omega), kk 11 i (by decide) (by omega), l5, l7 (7 + 8 * i) (by omega), l7 (8 + 8 * i) (by omega)]
        exact dU i hi
      · rw [kk 12 0 (by decide) (by omega), kk 13 0 (by decide) (by omega), l7 0 (by decide), k12, k13, lW, l26]
        exact ⟨o0, rfl, vn_z (by omega) (by omega) (by omega), p0, rfl, rfl⟩
      · rw [l7 _ (by omega), l7 _ (by omega)]; exact n1 s hs
      · rw [l7 k (by omega)]; exact n2 k p q r o
    · refine ⟨fun x p q => ?_, fun k p q r => ?_, ?_, ?_, fun x p q r => ?_, fun k p q r => ?_⟩
      · rw [fa3 x p, qc_pia (by omega), qc_pia (by omega)]; exact F2.1 x p q
      · rw [fb3 k p q r, am_pi_a (by decide), am_pi_a (by decide)]; exact F2.2.1 k p q r
      · rw [fa3 4 (by decide), am_pi_a (by decide), am_pi_a (by decide), c2a 4 (by decide)]
      · rw [fa3 8 (by decide), am_pi_a (by decide), am_pi_a (by decide), c2a 8 (by decide)]
      · rw [qc_pia r]; exact m3a x p
      · rw [am_pi_a (by decide), fd3 k (by omega)]; exact F2.2.2.2.2.2 k p q r
  · exact neither (r2 q1) (r4 q2) (w3 q1 q2)
end SET
