section STMT
variable {N L : Nat} {B : Nat → Nat} {hc hm : am_Hp}
def mT (N : Nat) (h : am_Hp) : Option (Unit × am_Hp) := if h 193 20 = am_z 2 then am_bi (f_X10_failsIf N (am_z 0) (am_z (-11)) h) (fun _ h4 => am_bi (f_X10_goOn N h4) (fun _ h5 => some ((), am_pi h5 193 25 (h5 193 25 + am_z 1)))) else am_bi (f_X10_failsIf N (am_z 1) (am_z (-11)) h) (fun _ h7 => am_bi (f_X10_goOn N h7) (fun _ h8 => some ((), am_pi h8 193 25 (h8 193 25 + am_z 1))))
def cT (N : Nat) (x : Int32) (h : am_Hp) : Option (Int32 × am_Hp) := if x = am_z 0 then am_bi (f_X7_advance N h) (fun _ h7 => if h7 1 3 = am_z 3 then some (am_z 0, h7) else some (am_z (-11), h7)) else some (x, h)
theorem TKp_m {hc' hm' : am_Hp} {s e K : Nat} (f1 : hc' 1 = hc 1) (f2 : ∀ k, 18 ≤ k → k ≤ 21 → hm' 193 k = hm 193 k) (T : TKp L B hc hm s e K) : TKp L B hc' hm' s e K := by
  unfold TKp at T ⊢
  rw [f1, f2 18 (by decide) (by decide), f2 19 (by decide) (by decide), f2 20 (by decide) (by decide), f2 21 (by decide) (by decide)]
  exact T
theorem q_tail {a b g0 g1 e : Nat} {c : Int} {hcA hmA : am_Hp} (hN : 1000 ≤ N) (F : FR hc hm hcA hmA) (h25 : hmA 193 25 = hm 193 25) (h : (c = 0 ∧ OKs N L B a b g0 g1 e hc hm hcA hmA) ∨ ERs c hcA hmA) : ∃ c' hc' hm', cT N (am_z c) hcA = some (am_z c', hc') ∧ mT N hmA = some ((), hm') ∧ FR hc hm hc' hm' ∧ ((c' = 0 ∧ ∃ a' b' g0' g1', OKs N L B a' b' g0' g1' e hc hm hc' hm' ∧ hm' 193 25 = hm 193 25 + am_z 1) ∨ ERs c' hc' hm') := by
  have fr25 : ∀ (h1 h2 : am_Hp) (v : Int32), FR hc hm h1 h2 → FR hc hm h1 (am_pi h2 193 25 v) := fun h1 h2 v f =>
    ⟨f.1, f.2.1, f.2.2.1, f.2.2.2.1, fun x p q r => by rw [qc_pia p]; exact f.2.2.2.2.1 x p q r, fun k p q r => by rw [am_pi_k q]; exact f.2.2.2.2.2 k p q r⟩
  rcases h with ⟨rfl, hc2, s', e', K', A, bc2, bm2, T, h22, D, le, F2⟩ | ⟨c1, c2, h22, h23⟩
  · have T' := T
    obtain ⟨t1, t2, t3, t4, t5, t6, t7, t8, t9, t10, t11, t12⟩ := T'
    obtain ⟨k1, k2, k3, k4⟩ := tk_f K' (by omega)
    have b1 := bc2.1
    by_cases q : K' = 3
    · obtain ⟨c3, m3, s3, e3, K3, A3, X3, T3, le3, fa3, fb3, fc3, fd3, bc3, bm3⟩ := q_adv (N := N) hN bc2 bm2 t8 t2 t5
      have z3 : hc2 1 3 = am_z 3 := by rw [t3, q]; rfl
      have z2 : hmA 193 20 = am_z 2 := by rw [t6, q]; rfl
      have F3 : FR hc hm c3 m3 := FRt F2 (FR_adv fa3 fb3 fc3 fd3)
      refine ⟨0, hc2, am_pi m3 193 25 (m3 193 25 + am_z 1), ?_, ?_, fr25 _ _ _ ?_, Or.inl ⟨rfl, a, b, g0, g1, ⟨c3, s3, e3, K3, A3, bc3, mB_p (by decide) bm3, TKp_m rfl (fun k p q => am_pi_k (by omega)) T3, ?_, ?_, by omega, fr25 _ _ _ F3⟩, ?_⟩⟩
      · unfold cT
        simp only [if_true, A, am_bi_s, if_pos z3]
      · unfold mT
        simp only [if_pos z2, m_f1, am_bi_s, m_g0 h22 X3]
      · exact FRt F2 ⟨fun _ _ _ => rfl, fun _ _ _ _ => rfl, rfl, rfl, fun x p _ _ => fc3 x p, fun k p _ _ => fd3 k (by omega)⟩
      · rw [am_pi_k (by decide), fd3 22 (by decide)]; exact h22
      · refine DR_fr (hc := hc2) (hm := hmA) (fun x p q => fa3 x (by omega)) ?_ ?_ ?_ D
        · rw [qc_pia (by decide), fc3 195 (by decide)]
        · rw [qc_pia (by decide), fc3 197 (by decide)]
        · rw [am_pi_k (by decide), fd3 26 (by decide)]
      · rw [am_pi_s, fd3 25 (by decide), h25]
    · have z3 : ¬ (hc2 1 3 = am_z 3) := by rw [t3, am_z_eq (by omega) (by omega) (by omega) (by omega)]; omega
      have z2 : ¬ (hmA 193 20 = am_z 2) := by
        have w : tk K' ≠ 2 := fun y => q (k3.mp y)
        rw [t6, am_z_eq (by omega) (by omega) (by omega) (by omega)]; omega
      have z := eS_2 (h := hmA) (c := am_z (-11)) (by decide)
      refine ⟨-11, hc2, am_pi (eS (am_z (-11)) hmA) 193 25 (eS (am_z (-11)) hmA 193 25 + am_z 1), ?_, ?_, fr25 _ _ _ (FRt F2 FR_e), Or.inr ⟨by decide, by decide, ?_, ?_⟩⟩
      · unfold cT
        simp only [if_true, A, am_bi_s, if_neg z3]
      · unfold mT
        simp only [if_neg z2, m_f2 h22, am_bi_s, m_g1 z]
      · rw [am_pi_k (by decide), eS_22]
      · rw [am_pi_k (by decide), eS_23, t4, t1]
  · have z : hmA 193 22 ≠ am_z 0 := by rw [h22]; exact z_c c1 c2
    refine ⟨c, hcA, am_pi hmA 193 25 (hmA 193 25 + am_z 1), ?_, ?_, fr25 _ _ _ F, Or.inr ⟨c1, c2, by rw [am_pi_k (by decide)]; exact h22, by rw [am_pi_k (by decide)]; exact h23⟩⟩
    · unfold cT
      rw [if_neg (z_c c1 c2)]
    · unfold mT
      simp only [m_f0 z, am_bi_s, m_g1 z, ite_self]
theorem rs_0 {h h' : am_Hp} (hw : f_X10_wordOf N 213 h = some (am_z 0, h)) (hr : f_X10_readThing N (am_z 0) h = some ((), h')) : f_X10_readStatement N h = mT N h' := by
  have zi : (am_z 0).toInt = 0 := by decide
  unfold f_X10_readStatement mT
  rw [hw, am_bi_s]
  rw [if_pos zi]
  simp only [am_z_lit, am_z_neg, hr, am_bi_s]
theorem rs_1 {h h' : am_Hp} (hw : f_X10_wordOf N 213 h = some (am_z 1, h)) (hr : f_X10_readThing N (am_z 1) h = some ((), h')) : f_X10_readStatement N h = mT N h' := by
  have z0 : ¬ ((am_z 1).toInt = 0) := by decide
  have zi : (am_z 1).toInt = 1 := by decide
  unfold f_X10_readStatement mT
  rw [hw, am_bi_s]
  rw [if_neg z0, if_pos zi]
  simp only [am_z_lit, am_z_neg, hr, am_bi_s]
theorem rs_2 {h h' : am_Hp} (hw : f_X10_wordOf N 213 h = some (am_z 2, h)) (hr : f_X10_readSetting N h = some ((), h')) : f_X10_readStatement N h = mT N h' := by
  have z0 : ¬ ((am_z 2).toInt = 0) := by decide
  have z1 : ¬ ((am_z 2).toInt = 1) := by decide
  have zi : (am_z 2).toInt = 2 := by decide
  unfold f_X10_readStatement mT
  rw [hw, am_bi_s]
  rw [if_neg z0, if_neg z1, if_pos zi]
  simp only [am_z_lit, am_z_neg, hr, am_bi_s]
theorem rs_n {h : am_Hp} (hw : f_X10_wordOf N 213 h = some (am_z (-1), h)) (h2 : h 193 22 = am_z 0) : f_X10_readStatement N h = mT N (eS (am_z (-11)) h) := by
  have z0 : ¬ ((am_z (-1)).toInt = 0) := by decide
  have z1 : ¬ ((am_z (-1)).toInt = 1) := by decide
  have z2 : ¬ ((am_z (-1)).toInt = 2) := by decide
  unfold f_X10_readStatement mT
  rw [hw, am_bi_s]
  rw [if_neg z0, if_neg z1, if_neg z2]
  simp only [am_z_lit, am_z_neg, m_f2 h2, am_bi_s]
theorem cs_0 {h h' : am_Hp} {c : Int32} (y1 : f_X7_isWord N 208 h = some (am_z 1, h)) (hr : f_X1_readDeclaration N 4 h = some (c, h')) : f_X1_readStatement N h = cT N c h' := by
  unfold f_X1_readStatement cT
  simp only [y1, am_bi_s, am_z_lit, am_z_neg, if_neg z_10, hr]
theorem cs_1 {h h' : am_Hp} {c : Int32} (y1 : f_X7_isWord N 208 h = some (am_z 0, h)) (y2 : f_X7_isWord N 209 h = some (am_z 1, h)) (hr : f_X1_readDeclaration N 8 h = some (c, h')) : f_X1_readStatement N h = cT N c h' := by
  unfold f_X1_readStatement cT
  rw [y1, am_bi_s, if_pos (show am_z 0 = (0 : Int32) by decide), y2, am_bi_s, if_neg (show ¬ (am_z 1 = (0 : Int32)) by decide), hr, am_bi_s]
  simp only [am_z_lit, am_z_neg]
theorem cs_2 {h h' : am_Hp} {c : Int32} (y1 : f_X7_isWord N 208 h = some (am_z 0, h)) (y2 : f_X7_isWord N 209 h = some (am_z 0, h)) (y3 : f_X7_isWord N 210 h = some (am_z 1, h)) (hr : f_X1_readSetting N h = some (c, h')) : f_X1_readStatement N h = cT N c h' := by
  unfold f_X1_readStatement cT
  rw [y1, am_bi_s, if_pos (show am_z 0 = (0 : Int32) by decide), y2, am_bi_s, if_pos (show am_z 0 = (0 : Int32) by decide), y3, am_bi_s, if_neg (show ¬ (am_z 1 = (0 : Int32)) by decide), hr, am_bi_s]
  simp only [am_z_lit, am_z_neg]
theorem cs_n {h : am_Hp} (y1 : f_X7_isWord N 208 h = some (am_z 0, h)) (y2 : f_X7_isWord N 209 h = some (am_z 0, h)) (y3 : f_X7_isWord N 210 h = some (am_z 0, h)) : f_X1_readStatement N h = some (am_z (-11), h) := by
  unfold f_X1_readStatement
  rw [y1, am_bi_s, if_pos (show am_z 0 = (0 : Int32) by decide), y2, am_bi_s, if_pos (show am_z 0 = (0 : Int32) by decide), y3, am_bi_s, if_pos (show am_z 0 = (0 : Int32) by decide), if_neg (show ¬ ((-11 : Int32) = 0) by decide)]
  rfl
theorem mT_n {h : am_Hp} (h2 : h 193 22 ≠ am_z 0) : mT N h = some ((), am_pi h 193 25 (h 193 25 + am_z 1)) := by
  unfold mT
  simp only [m_f0 h2, am_bi_s, m_g1 h2, ite_self]
def SO (N L : Nat) (B : Nat → Nat) (e : Nat) (hc hm : am_Hp) : Prop := ∃ c hc' hm', f_X1_readStatement N hc = some (am_z c, hc') ∧ f_X10_readStatement N hm = some ((), hm') ∧ FR hc hm hc' hm' ∧ ((c = 0 ∧ ∃ a' b' g0' g1', OKs N L B a' b' g0' g1' e hc hm hc' hm' ∧ hm' 193 25 = hm 193 25 + am_z 1) ∨ ERs c hc' hm')
theorem q_none {s e K : Nat} (T : TKp L B hc hm s e K) (h2 : hm 193 22 = am_z 0) (y1 : f_X7_isWord N 208 hc = some (am_z 0, hc)) (y2 : f_X7_isWord N 209 hc = some (am_z 0, hc)) (y3 : f_X7_isWord N 210 hc = some (am_z 0, hc)) (y4 : f_X10_wordOf N 213 hm = some (am_z (-1), hm)) : SO N L B e hc hm := by
  obtain ⟨t1, t2, t3, t4, t5, t6, t7, t8, t9, t10, t11, t12⟩ := T
  have z := eS_2 (h := hm) (c := am_z (-11)) (by decide)
  refine ⟨-11, hc, am_pi (eS (am_z (-11)) hm) 193 25 (eS (am_z (-11)) hm 193 25 + am_z 1), cs_n y1 y2 y3, (rs_n y4 h2).trans (mT_n z), ?_, Or.inr ⟨by decide, by decide, by rw [am_pi_k (by decide), eS_22], by rw [am_pi_k (by decide), eS_23, t4, t1]⟩⟩
  have f := FR_e (hc := hc) (hm := hm) (c := am_z (-11))
  exact ⟨f.1, f.2.1, f.2.2.1, f.2.2.2.1, fun x p q r => by rw [qc_pia p]; exact f.2.2.2.2.1 x p q r, fun k p q r => by rw [am_pi_k q]; exact f.2.2.2.2.2 k p q r⟩
theorem q_stmt {a b g0 g1 s e K : Nat} (hN : 1000 ≤ N) (bc : cB hc L B) (bm : mB hm L B) (T : TKp L B hc hm s e K) (h2 : hm 193 22 = am_z 0) (D : DR a b g0 g1 hc hm) : SO N L B e hc hm := by
  have T' := T
  obtain ⟨t1, t2, t3, t4, t5, t6, t7, t8, t9, t10, t11, t12⟩ := T'
  obtain ⟨l1, l2, l3, l4, l5, l6, l7⟩ := s_len
  have b1 := bc.1
  by_cases qk : K = 1
  rotate_left
  · have zk : hc 1 3 ≠ am_z 1 := by rw [t3, Ne, am_z_eq (by omega) (by omega) (by omega) (by omega)]; omega
    obtain ⟨w1, w2, -⟩ := tk_f K (by omega)
    have w3 : tk K ≠ 0 := fun y => qk (w2.mp y)
    exact q_none T h2 (c_isW0 zk) (c_isW0 zk) (c_isW0 zk) (m_wordn hN (by rw [t6, Ne, am_z_eq (by omega) (by omega) (by omega) (by omega)]; omega))
  have zk : hc 1 3 = am_z 1 := by rw [t3, qk]; rfl
  have zt : hm 193 20 = am_z 0 := by rw [t6, qk]; rfl
  obtain ⟨r1, r2⟩ := c_isW (N := N) (a := 208) hN bc t7 t8 zk t1 t2 (by decide) (by decide) (by omega)
  obtain ⟨r3, r4⟩ := c_isW (N := N) (a := 209) hN bc t7 t8 zk t1 t2 (by decide) (by decide) (by omega)
  obtain ⟨r5, r6⟩ := c_isW (N := N) (a := 210) hN bc t7 t8 zk t1 t2 (by decide) (by decide) (by omega)
  obtain ⟨w1, w2, w3, w4⟩ := m_word3 (N := N) hN bm t7 t8 zt t4 t5
  by_cases q1 : isW B s e 208
  · obtain ⟨c, hcA, hmA, p1, p2, p3, p4, p5⟩ := q_thS (N := N) hN bc bm T h2 D
    obtain ⟨c', hc', hm', x1, x2, x3, x4⟩ := q_tail hN p3 p4 p5
    exact ⟨c', hc', hm', (cs_0 (r1 q1) p1).trans x1, (rs_0 (w1 q1) p2).trans x2, x3, x4⟩
  by_cases q2 : isW B s e 209
  · obtain ⟨c, hcA, hmA, p1, p2, p3, p4, p5⟩ := q_thU (N := N) hN bc bm T h2 D
    obtain ⟨c', hc', hm', x1, x2, x3, x4⟩ := q_tail hN p3 p4 p5
    exact ⟨c', hc', hm', (cs_1 (r2 q1) (r3 q2) p1).trans x1, (rs_1 (w2 q1 q2) p2).trans x2, x3, x4⟩
  by_cases q3 : isW B s e 210
  · obtain ⟨c, hcA, hmA, p1, p2, p3, p4, p5⟩ := q_set (N := N) hN bc bm T h2 D
    have fin : ∀ g0' g1', ((c = 0 ∧ OKs N L B a b g0' g1' e hc hm hcA hmA) ∨ ERs c hcA hmA) → SO N L B e hc hm := by
      intro g0' g1' p6
      obtain ⟨c', hc', hm', x1, x2, x3, x4⟩ := q_tail hN p3 p4 p6
      exact ⟨c', hc', hm', (cs_2 (r2 q1) (r4 q2) (r5 q3) p1).trans x1, (rs_2 (w3 q1 q2 q3) p2).trans x2, x3, x4⟩
    rcases p5 with ⟨z, g0', g1', o⟩ | o
    · exact fin g0' g1' (Or.inl ⟨z, o⟩)
    · exact fin 0 0 (Or.inr o)
  · exact q_none T h2 (r2 q1) (r4 q2) (r6 q3) (w4 q1 q2 q3)
/-- all statements, up to the end or the first error -/
theorem q_readL (hN : 1000 ≤ N) : ∀ (m s e K a b g0 g1 n f1 f2 : Nat) (hc hm : am_Hp), L < s + m → m ≤ f1 → m ≤ f2 → cB hc L B → mB hm L B → TKp L B hc hm s e K → hm 193 22 = am_z 0 → DR a b g0 g1 hc hm → n ≤ s → hm 193 25 = am_z n →
    ∃ c hc' hm' f, l_X1_read_6 N f1 (am_z n) hc = some (am_z c, hc') ∧ l_X10_load_75 N f2 hm = l_X10_load_75 N (f + 1) hm' ∧ FR hc hm hc' hm' ∧ ((∃ a' b' g0' g1' n' : Nat, c = n' ∧ n' ≤ 600 ∧ hm' 193 20 = am_z 3 ∧ hm' 193 22 = am_z 0 ∧ DR a' b' g0' g1' hc' hm' ∧ hm' 193 25 = am_z n') ∨ ERs c hc' hm')
  | 0, s, e, K, a, b, g0, g1, n, f1, f2, hc, hm, hL, _, _, bc, _, T, _, _, _, _ => by
    obtain ⟨t1, t2, t3, t4, t5, t6, t7, t8, -⟩ := T
    omega
  | m + 1, s, e, K, a, b, g0, g1, n, 0, f2, hc, hm, _, h, _, _, _, _, _, _, _, _ => by omega
  | m + 1, s, e, K, a, b, g0, g1, n, f1, 0, hc, hm, _, _, h, _, _, _, _, _, _, _ => by omega
  | m + 1, s, e, K, a, b, g0, g1, n, f1 + 1, f2 + 1, hc, hm, hL, hf1, hf2, bc, bm, T, h2, D, hn, h25 => by
    have T' := T
    obtain ⟨t1, t2, t3, t4, t5, t6, t7, t8, t9, t10, t11, t12⟩ := T'
    obtain ⟨k1, k2, k3, k4⟩ := tk_f K (by omega)
    have b1 := bc.1
    by_cases q : K = 0
    · have z3 : hc 1 3 = am_z 0 := by rw [t3, q]; rfl
      have z20 : hm 193 20 = am_z 3 := by rw [t6, q]; rfl
      refine ⟨n, hc, hm, f2, ?_, rfl, FR0, Or.inl ⟨a, b, g0, g1, n, rfl, by omega, z20, h2, D, h25⟩⟩
      unfold l_X1_read_6
      simp only [am_z_lit, z3, if_true, ite_self]
    · have hse := t11 q
      have z3 : ¬ (hc 1 3 = am_z 0) := by rw [t3, am_z_eq (by omega) (by omega) (by omega) (by omega)]; omega
      have z20 : ¬ (hm 193 20 = am_z 3) := by
        have w : tk K ≠ 3 := fun y => q (k4.mp y)
        rw [t6, am_z_eq (by omega) (by omega) (by omega) (by omega)]; omega
      have zn : ¬ (am_z 600 ≤ am_z (n : Int)) := by rw [am_z_le (by omega) (by omega) (by omega) (by omega)]; omega
      have e4 : (n : Int) + 1 = ((n + 1 : Nat) : Int) := by omega
      obtain ⟨c, hcA, hmA, p1, p2, p3, p4⟩ := q_stmt (N := N) hN bc bm T h2 D
      have mstep : l_X10_load_75 N (f2 + 1) hm = l_X10_load_75 N f2 hmA := by
        rw [l_X10_load_75]
        simp only [am_z_lit, h2, if_true, if_neg z20, p2, am_bi_s]
      rcases p4 with ⟨rfl, a', b', g0', g1', ⟨hc2, s', e', K', A, bc2, bm2, T2, h22, D2, le, F2⟩, h25'⟩ | er
      · obtain ⟨c, hc', hm', f, x1, x2, x3, x4⟩ := q_readL hN m s' e' K' a' b' g0' g1' (n + 1) f1 f2 hc2 hmA (by omega) (by omega) (by omega) bc2 bm2 T2 h22 D2 (by omega) (by rw [h25', h25, am_z_add, e4])
        refine ⟨c, hc', hm', f, ?_, mstep.trans x2, FRt F2 x3, x4⟩
        unfold l_X1_read_6
        simp only [am_z_lit, if_neg zn, if_neg z3, p1, am_bi_s, if_true, A, am_z_add, e4]
        exact x1
      · have zc : ¬ (am_z c = am_z 0) := z_c er.1 er.2.1
        obtain ⟨f, rfl⟩ : ∃ f, f2 = f + 1 := ⟨f2 - 1, by omega⟩
        refine ⟨c, hcA, hmA, f, ?_, mstep, p3, Or.inr er⟩
        unfold l_X1_read_6
        simp only [am_z_lit, if_neg zn, if_neg z3, p1, am_bi_s, if_neg zc]
end STMT
