section SYNU
variable {N L : Nat} {B : Nat → Nat} {hc hm : am_Hp}
theorem q_thU {a b g0 g1 s e K : Nat} (hN : 1000 ≤ N) (bc : cB hc L B) (bm : mB hm L B) (T : TKp L B hc hm s e K) (h2 : hm 193 22 = am_z 0) (D : DR a b g0 g1 hc hm) : ∃ c hc' hm', f_X1_readDeclaration N 8 hc = some (am_z c, hc') ∧ f_X10_readThing N (am_z 1) hm = some ((), hm') ∧ FR hc hm hc' hm' ∧ hm' 193 25 = hm 193 25 ∧ ((c = 0 ∧ OKs N L B a (b + 1) g0 g1 e hc hm hc' hm') ∨ ERs c hc' hm') := by
  have b1 := bc.1
  obtain ⟨⟨da, db, dg0, dg1, d40, d80, d44, d84, m0, m1'⟩, dS, dU, dG, dB⟩ := D
  obtain ⟨t1, t2, t3, t4, t5, t6, t7, t8, t9, t10, t11, t12⟩ := T
  have oT : tO 8 := by unfold tO; decide
  have g8 : am_isO 8 8 = true := (tO_f oT).1
  by_cases qf : b = 6
  · refine ⟨-15, hc, eS (am_z (-15)) hm, ?_, m_thU1 hN (by rw [m1', qf]; rfl) h2, FR_e, eS_25, Or.inr ⟨by decide, by decide, eS_22, by rw [eS_23, t4, t1]⟩⟩
    unfold f_X1_readDeclaration
    simp only [g8, cond_true, c_full (most := 6) oT d80 d84 db (by decide), if_pos qf, am_bi_s, am_z_lit, am_z_neg, if_neg z_10]
  have af : b < 6 := by omega
  obtain ⟨c1, m1, s1, e1, K1, A1, X1, T1, le1, fa1, fb1, fc1, fd1, bc1, bm1⟩ := q_adv (N := N) hN bc bm t8 t2 t5
  have D1 : DR a b g0 g1 c1 m1 := DR_fr (fun x p q => fa1 x (by omega)) (fc1 195 (by decide)) (fc1 197 (by decide)) (fd1 26 (by decide)) ⟨⟨da, db, dg0, dg1, d40, d80, d44, d84, m0, m1'⟩, dS, dU, dG, dB⟩
  have F1 : FR hc hm c1 m1 := FR_adv fa1 fb1 fc1 fd1
  have h21 : m1 193 22 = am_z 0 := by rw [fd1 22 (by decide)]; exact h2
  have h251 : m1 193 25 = hm 193 25 := fd1 25 (by decide)
  obtain ⟨u1, u2, u3, u4, u5, u6, u7, u8, u9, u10, u11, u12⟩ := T1
  have e3 : (e1 : Int) - s1 = ((e1 - s1 : Nat) : Int) := by omega
  by_cases qn : K1 = 1 ∧ e1 ≤ s1 + 6
  rotate_left
  · -- no name
    have tkn : K1 ≠ 1 → m1 193 20 ≠ am_z 0 := by
      intro z
      obtain ⟨w1, w2, -⟩ := tk_f K1 (by omega)
      have w3 : tk K1 ≠ 0 := fun y => z (w2.mp y)
      rw [u6, Ne, am_z_eq (by omega) (by omega) (by omega) (by omega)]
      omega
    refine ⟨-11, c1, eS (am_z (-11)) m1, ?_, m_thU2 hN m1' af h2 X1 (m_nmS hN bm1 u7 u8 u4 u5 h21 ?_), FRt F1 FR_e, by rw [eS_25, h251], Or.inr ⟨by decide, by decide, eS_22, by rw [eS_23, u4, u1]⟩⟩
    · unfold f_X1_readDeclaration f_X7_tokenLength
      simp only [g8, cond_true, c_full (most := 6) oT d80 d84 db (by decide), if_neg qf, am_bi_s, am_z_lit, am_z_neg, if_true, A1, u3, u2, u1, am_z_sub, e3]
      by_cases q : K1 = 1
      · have z : am_z (K1 : Int) = am_z 1 := by rw [q]; rfl
        rw [if_pos z, if_neg (by rw [am_z_le (by omega) (by omega) (by omega) (by omega)]; omega)]
      · rw [if_neg (by rw [am_z_eq (by omega) (by omega) (by omega) (by omega)]; omega)]
    · by_cases q : K1 = 1
      · exact Or.inr (by omega)
      · exact Or.inl (tkn q)
  · obtain ⟨q1, q6⟩ := qn
    have zk : am_z (K1 : Int) = am_z 1 := by rw [q1]; rfl
    have z6 : am_z ((e1 - s1 : Nat) : Int) ≤ am_z 6 := by rw [am_z_le (by omega) (by omega) (by omega) (by omega)]; omega
    have tk0 : m1 193 20 = am_z 0 := by rw [u6, q1]; rfl
    have nm := m_nm0 hN bm1 u7 u8 tk0 u4 u5 h21 q6
    have cl := c_let hN bc1 u8 u1 u2 u7
    obtain ⟨⟨-, -, -, -, f40, f80, f44, f84, k0, k1⟩, fS, fU, fG, fB⟩ := D1
    generalize hx : lt5 B s1 e1 6 = x at *
    have cx : f_X8_indexOf N 8 x c1 = some (fIdx (fun i => m1 195 (6 + i)) x b 0, c1) := c_idxL (N := N) oT (by omega) f84 (fun i hi => (fU i hi).1) b 0 N (by omega) (by omega)
    have mx : f_X10_found N (am_z 1) x m1 = some (fIdx (fun i => m1 195 (6 + i)) x b 0, m1) := m_idxU (N := N) (V := fun i => m1 195 (6 + i)) db k1 (fun i hi => rfl) b 0 N (by omega) (by omega)
    generalize fIdx (fun i => m1 195 (6 + i)) x b 0 = v at *
    by_cases qv : v = am_z (-1)
    rotate_left
    · refine ⟨-14, c1, eS (am_z (-14)) m1, ?_, m_thU3 hN m1' af h2 X1 h21 nm mx qv, FRt F1 FR_e, by rw [eS_25, h251], Or.inr ⟨by decide, by decide, eS_22, by rw [eS_23, u4, u1]⟩⟩
      unfold f_X1_readDeclaration f_X7_tokenLength
      simp only [g8, cond_true, c_full (most := 6) oT d80 d84 db (by decide), if_neg qf, am_bi_s, am_z_lit, am_z_neg, if_true, A1, u3, u2, u1, am_z_sub, e3, if_pos zk, if_pos z6, cl, cx, if_neg qv]
    · subst qv
      obtain ⟨c2, m2, s2, e2, K2, A2, X2, T2, le2, fa2, fb2, fc2, fd2, bc2, bm2⟩ := q_adv (N := N) hN bc1 bm1 u8 u2 u5
      have F2 : FR hc hm c2 m2 := FRt F1 (FR_adv fa2 fb2 fc2 fd2)
      have h22 : m2 193 22 = am_z 0 := by rw [fd2 22 (by decide)]; exact h21
      have h252 : m2 193 25 = hm 193 25 := (fd2 25 (by decide)).trans h251
      obtain ⟨r1, r2, r3⟩ := c_rdn (N := N) (lo := 2) (hi := 16) hN A2 bc2 T2 (by decide) (by decide)
      obtain ⟨w1, w2, w3⟩ := m_rdn (N := N) (lo := 2) (hi := 16) T2 h22 (by decide) (by decide)
      have T2' := T2
      obtain ⟨v1, v2, v3, v4, v5, v6, v7, v8, v9, v10, v11, v12⟩ := T2'
      -- the class up to the first number
      have pre : ∀ c, c ≠ am_z 0 → f_X1_readNumber N (am_z 2) (am_z 16) c1 = some (c, c2) → f_X1_readDeclaration N 8 hc = some (c, c2) := by
        intro c hc0 hr
        unfold f_X1_readDeclaration f_X7_tokenLength
        simp only [g8, cond_true, c_full (most := 6) oT d80 d84 db (by decide), if_neg qf, am_bi_s, am_z_lit, am_z_neg, if_true, A1, u3, u2, u1, am_z_sub, e3, if_pos zk, if_pos z6, cl, cx, hr, if_neg hc0]
      by_cases qk : K2 = 2
      rotate_left
      · refine ⟨-11, c2, eS (am_z (-11)) m2, pre _ (by decide) (r1 qk), m_thU4 hN m1' af h2 X1 h21 nm mx X2 (w1 qk) (by decide), FRt F2 FR_e, by rw [eS_25, h252], Or.inr ⟨by decide, by decide, eS_22, by rw [eS_23, v4, v1]⟩⟩
      by_cases qr : 2 ≤ mv B s2 (e2 - s2) ∧ mv B s2 (e2 - s2) ≤ 16
      rotate_left
      · refine ⟨-12, c2, eS (am_z (-12)) m2, pre _ (by decide) (r3 qk qr), m_thU4 hN m1' af h2 X1 h21 nm mx X2 (w3 qk qr) (by decide), FRt F2 FR_e, by rw [eS_25, h252], Or.inr ⟨by decide, by decide, eS_22, by rw [eS_23, v4, v1]⟩⟩
      obtain ⟨y1, y2⟩ := r2 qk qr.1 qr.2
      have y1' : f_X1_readNumber N (am_z 2) (am_z 16) c1 = _ := y1
      obtain ⟨c3, m3, s3, e3', K3, A3, X3, T3, le3, fa3, fb3, fc3, fd3, bc3, bm3⟩ := q_adv (N := N) hN bc2 bm2 v8 v2 v5
      have y3 := w2 qk qr.1 qr.2 m3 X3
      generalize mv B s2 (e2 - s2) = W at *
      have F3 : FR hc hm c3 m3 := FRt F2 (FR_adv fa3 fb3 fc3 fd3)
      have h23 : m3 193 22 = am_z 0 := by rw [fd3 22 (by decide)]; exact h22
      have h253 : m3 193 25 = hm 193 25 := (fd3 25 (by decide)).trans h252
      obtain ⟨r1, r2, r3⟩ := c_rdn (N := N) (lo := 1) (hi := 6) hN A3 bc3 T3 (by decide) (by decide)
      obtain ⟨w1, w2, w3⟩ := m_rdn (N := N) (lo := 1) (hi := 6) T3 h23 (by decide) (by decide)
      have T3' := T3
      obtain ⟨v1, v2, v3, v4, v5, v6, v7, v8, v9, v10, v11, v12⟩ := T3'
      have pre : ∀ c, c ≠ am_z 0 → f_X1_readNumber N (am_z 1) (am_z 6) c2 = some (c, c3) → f_X1_readDeclaration N 8 hc = some (c, c3) := by
        intro c hc0 hr
        unfold f_X1_readDeclaration f_X7_tokenLength
        simp only [g8, cond_true, c_full (most := 6) oT d80 d84 db (by decide), if_neg qf, am_bi_s, am_z_lit, am_z_neg, if_true, A1, u3, u2, u1, am_z_sub, e3, if_pos zk, if_pos z6, cl, cx, y1', y2, hr, if_neg hc0]
      by_cases qk3 : K3 = 2
      rotate_left
      · refine ⟨-11, c3, eS (am_z (-11)) m3, pre _ (by decide) (r1 qk3), m_thU5 hN m1' af h2 X1 h21 nm mx X2 y3 (w1 qk3) (by decide), FRt F3 FR_e, by rw [eS_25, h253], Or.inr ⟨by decide, by decide, eS_22, by rw [eS_23, v4, v1]⟩⟩
      by_cases qr3 : 1 ≤ mv B s3 (e3' - s3) ∧ mv B s3 (e3' - s3) ≤ 6
      rotate_left
      · refine ⟨-12, c3, eS (am_z (-12)) m3, pre _ (by decide) (r3 qk3 qr3), m_thU5 hN m1' af h2 X1 h21 nm mx X2 y3 (w3 qk3 qr3) (by decide), FRt F3 FR_e, by rw [eS_25, h253], Or.inr ⟨by decide, by decide, eS_22, by rw [eS_23, v4, v1]⟩⟩
      obtain ⟨x1, x2⟩ := r2 qk3 qr3.1 qr3.2
      have x1' : f_X1_readNumber N (am_z 1) (am_z 6) c2 = _ := x1
      have c3a : ∀ x, x ≠ 1 → c3 x = hc x := fun x hx => by rw [fa3 x hx, fa2 x hx, fa1 x hx]
      have m3a : ∀ x, x ≠ 193 → m3 x = hm x := fun x hx => by rw [fc3 x hx, fc2 x hx, fc1 x hx]
      have ad := c_add (N := N) (h := c3) (x := x) (w := am_z (W : Nat)) (t := am_z (mv B s3 (e3' - s3) : Nat)) (most := 6) oT (by rw [c3a _ (by decide)]; exact d80) (by rw [c3a _ (by decide)]; exact d84) af (by decide)
      obtain ⟨c4, m4, s4, e4, K4, A4, X4, T4, le4, fa4, fb4, fc4, fd4, bc4, bm4⟩ := q_adv (N := N) (hc := am_pi (am_pi (am_pi (am_pi c3 (8 + 1) b x) (8 + 2) b (am_z (W : Nat))) (8 + 3) b (am_z (mv B s3 (e3' - s3) : Nat))) 8 4 (am_z ((b + 1 : Nat) : Int))) hN ⟨bc3.1, by rw [am_pi_a (by decide), am_pi_a (by decide), am_pi_a (by decide), am_pi_a (by decide)]; exact bc3.2.1, fun i hi => by rw [am_pi_a (by decide), am_pi_a (by decide), am_pi_a (by decide), am_pi_a (by decide)]; exact bc3.2.2 i hi⟩ bm3 v8 (by rw [am_pi_a (by decide), am_pi_a (by decide), am_pi_a (by decide), am_pi_a (by decide)]; exact v2) v5
      have x3 := w2 qk3 qr3.1 qr3.2 m4 X4
      generalize mv B s3 (e3' - s3) = H at *
      have h24 : m4 193 22 = am_z 0 := by rw [fd4 22 (by decide)]; exact h23
      have m4a : ∀ x, x ≠ 193 → m4 x = hm x := fun x hx => by rw [fc4 x hx, m3a x hx]
      refine ⟨0, _, _, ?_, m_thU6 hN m1' af h2 X1 h21 nm mx X2 y3 x3 h24 (by rw [m4a _ (by decide)]; exact m1'), ?_, ?_, Or.inl ⟨rfl, c4, s4, e4, K4, A4, bc4, ?_, ?_, ?_, ?_, by omega, ?_⟩⟩
      · unfold f_X1_readDeclaration f_X7_tokenLength
        simp only [g8, cond_true, c_full (most := 6) oT d80 d84 db (by decide), if_neg qf, am_bi_s, am_z_lit, am_z_neg, if_true, A1, u3, u2, u1, am_z_sub, e3, if_pos zk, if_pos z6, cl, cx, y1', y2, x1', x2, ad]
      · refine ⟨fun y p q => ?_, fun k p q r => ?_, ?_, ?_, fun y p q r => ?_, fun k p q r => ?_⟩
        · rw [qc_pia (by omega), qc_pia (by omega), qc_pia (by omega), qc_pia (by omega)]; exact F3.1 y p q
        · rw [am_pi_a (by decide), am_pi_a (by decide), am_pi_a (by decide), am_pi_a (by decide)]; exact F3.2.1 k p q r
        · rw [am_pi_a (by decide), am_pi_a (by decide), am_pi_a (by decide), am_pi_a (by decide), c3a 4 (by decide)]
        · rw [am_pi_k (by decide), am_pi_a (by decide), am_pi_a (by decide), am_pi_a (by decide), c3a 8 (by decide)]
        · rw [qc_pia r, qc_pia r, qc_pia q, qc_pia q]; exact m4a y p
        · rw [am_pi_a (by decide), am_pi_a (by decide), am_pi_a (by decide), am_pi_a (by decide), fd4 k (by omega)]; exact F3.2.2.2.2.2 k p q r
      · rw [am_pi_a (by decide), am_pi_a (by decide), am_pi_a (by decide), am_pi_a (by decide), fd4 25 (by decide)]; exact h253
      · exact ⟨bm4.1, by rw [am_pi_a (by decide), am_pi_a (by decide), am_pi_a (by decide), am_pi_a (by decide)]; exact bm4.2.1, fun i hi => by rw [am_pi_a (by decide), am_pi_a (by decide), am_pi_a (by decide), am_pi_a (by decide)]; exact bm4.2.2 i hi⟩
      · unfold TKp at T4 ⊢
        rw [qc_pia (by decide), qc_pia (by decide), qc_pia (by decide), qc_pia (by decide)]
        exact T4
      · rw [am_pi_a (by decide), am_pi_a (by decide), am_pi_a (by decide), am_pi_a (by decide)]; exact h24
      · have k7 : c4 11 b = am_z H := by rw [fa4 11 (by decide), am_pi_a (by decide), am_pi_s]
        have k6 : c4 10 b = am_z W := by rw [fa4 10 (by decide), am_pi_a (by decide), am_pi_a (by decide), am_pi_s]
        have k5 : c4 9 b = x := by rw [fa4 9 (by decide), am_pi_a (by decide), am_pi_a (by decide), am_pi_a (by decide), am_pi_s]
        have kk : ∀ y k, y ≠ 1 → ¬ (y = 8 ∧ k = 4) → ¬ (9 ≤ y ∧ y ≤ 11 ∧ k = b) → c4 y k = hc y k := fun y k p q r => by
          rw [fa4 y p, am_pi_ap, if_neg (by omega), am_pi_ap, if_neg (by omega), am_pi_ap, if_neg (by omega), am_pi_ap, if_neg (by omega), c3a y p]
        have l2 : am_pi (am_pi (am_pi (am_pi m4 195 (6 + b) x) 195 1 (am_z ((b + 1 : Nat) : Int))) 197 (7 + 8 * b) (am_z W)) 197 (8 + 8 * b) (am_z H) 195 (6 + b) = x := by rw [am_pi_a (by decide), am_pi_a (by decide), am_pi_k (by omega), am_pi_s]
        have l0 : am_pi (am_pi (am_pi (am_pi m4 195 (6 + b) x) 195 1 (am_z ((b + 1 : Nat) : Int))) 197 (7 + 8 * b) (am_z W)) 197 (8 + 8 * b) (am_z H) 195 1 = am_z ((b + 1 : Nat) : Int) := by rw [am_pi_a (by decide), am_pi_a (by decide), am_pi_s]
        have l12 : am_pi (am_pi (am_pi (am_pi m4 195 (6 + b) x) 195 1 (am_z ((b + 1 : Nat) : Int))) 197 (7 + 8 * b) (am_z W)) 197 (8 + 8 * b) (am_z H) 197 (7 + 8 * b) = am_z W := by rw [am_pi_k (by omega), am_pi_s]
        have l16 : am_pi (am_pi (am_pi (am_pi m4 195 (6 + b) x) 195 1 (am_z ((b + 1 : Nat) : Int))) 197 (7 + 8 * b) (am_z W)) 197 (8 + 8 * b) (am_z H) 197 (8 + 8 * b) = am_z H := am_pi_s _ _ _ _
        have lk : ∀ k, k ≠ 6 + b → k ≠ 1 → am_pi (am_pi (am_pi (am_pi m4 195 (6 + b) x) 195 1 (am_z ((b + 1 : Nat) : Int))) 197 (7 + 8 * b) (am_z W)) 197 (8 + 8 * b) (am_z H) 195 k = hm 195 k := fun k p q => by
          rw [am_pi_a (by decide), am_pi_a (by decide), am_pi_k q, am_pi_k p, m4a 195 (by decide)]
        have ln : ∀ k, k ≠ 7 + 8 * b → k ≠ 8 + 8 * b → am_pi (am_pi (am_pi (am_pi m4 195 (6 + b) x) 195 1 (am_z ((b + 1 : Nat) : Int))) 197 (7 + 8 * b) (am_z W)) 197 (8 + 8 * b) (am_z H) 197 k = hm 197 k := fun k p q => by
          rw [am_pi_k q, am_pi_k p, am_pi_a (by decide), am_pi_a (by decide), m4a 197 (by decide)]
        have l26 : am_pi (am_pi (am_pi (am_pi m4 195 (6 + b) x) 195 1 (am_z ((b + 1 : Nat) : Int))) 197 (7 + 8 * b) (am_z W)) 197 (8 + 8 * b) (am_z H) 193 26 = hm 193 26 := by
          rw [am_pi_a (by decide), am_pi_a (by decide), am_pi_a (by decide), am_pi_a (by decide), fd4 26 (by decide), fd3 26 (by decide), fd2 26 (by decide), fd1 26 (by decide)]
        generalize am_pi (am_pi (am_pi (am_pi m4 195 (6 + b) x) 195 1 (am_z ((b + 1 : Nat) : Int))) 197 (7 + 8 * b) (am_z W)) 197 (8 + 8 * b) (am_z H) = M at *
        have k44 : c4 8 4 = am_z ((b + 1 : Nat) : Int) := by rw [fa4 8 (by decide), am_pi_s]
        obtain ⟨n1, n2⟩ := dB
        refine ⟨⟨da, by omega, dg0, dg1, by rw [kk 4 0 (by decide) (by omega) (by omega)]; exact d40, by rw [kk 8 0 (by decide) (by omega) (by omega)]; exact d80, by rw [kk 4 4 (by decide) (by omega) (by omega)]; exact d44, k44, by rw [lk 0 (by omega) (by omega)]; exact m0, l0⟩, fun i hi => ?_, fun i hi => ?_, ?_, fun s hs => ?_, fun k p q r o => ?_⟩
        · rw [kk 5 i (by decide) (by omega) (by omega), kk 6 i (by decide) (by omega) (by omega), kk 7 i (by decide) (by omega) (by omega), lk (2 + i) (by omega) (by omega), lk (12 + i) (by omega) (by omega), lk (16 + i) (by omega) (by omega)]
          exact dS i hi
        · by_cases q : i = b
          · subst q
            rw [k5, k6, k7, l2, l12, l16]
            exact ⟨rfl, rfl, rfl, vn_z (by omega) (by omega) (by omega), vn_z (by omega) (by omega) (by omega)⟩
          · rw [kk 9 i (by decide) (by omega) (by omega), kk 10 i (by decide) (by omega) (by omega), kk 11 i (by decide) (by omega) (by omega), lk (6 + i) (by omega) (by omega), ln (7 + 8 * i) (by omega) (by omega), ln (8 + 8 * i) (by omega) (by omega)]
            exact dU i (by omega)
        · rw [kk 12 0 (by decide) (by omega) (by omega), kk 12 1 (by decide) (by omega) (by omega), kk 13 0 (by decide) (by omega) (by omega), kk 13 1 (by decide) (by omega) (by omega), ln 0 (by omega) (by omega), ln 1 (by omega) (by omega), l26]
          exact dG
        · rw [ln _ (by omega) (by omega), ln _ (by omega) (by omega)]; exact n1 s hs
        · rw [ln k (o b (by omega)).1 (o b (by omega)).2]; exact n2 k p q r (fun u hu => o u (by omega))
      · refine ⟨fun y p q => ?_, fun k p q r => ?_, ?_, ?_, fun y p q r => ?_, fun k p q r => ?_⟩
        · rw [fa4 y p, qc_pia (by omega), qc_pia (by omega), qc_pia (by omega), qc_pia (by omega)]; exact F3.1 y p q
        · rw [fb4 k p q r, am_pi_a (by decide), am_pi_a (by decide), am_pi_a (by decide), am_pi_a (by decide)]; exact F3.2.1 k p q r
        · rw [fa4 4 (by decide), am_pi_a (by decide), am_pi_a (by decide), am_pi_a (by decide), am_pi_a (by decide), c3a 4 (by decide)]
        · rw [fa4 8 (by decide), am_pi_k (by decide), am_pi_a (by decide), am_pi_a (by decide), am_pi_a (by decide), c3a 8 (by decide)]
        · rw [qc_pia r, qc_pia r, qc_pia q, qc_pia q]; exact m4a y p
        · rw [am_pi_a (by decide), am_pi_a (by decide), am_pi_a (by decide), am_pi_a (by decide), fd4 k (by omega)]; exact F3.2.2.2.2.2 k p q r
end SYNU
