section CH5
variable {N nS nU : Nat}
theorem q_grL (n1 : nS ≤ 4) : ∀ (k s a b : Nat) (g : Int32) (hc hm : am_Hp), s + k = nS → k < a → k < b → qr_R nS nU hc hm → ∃ v hc' hm', l_X9_grantOldRequests_4 N a g (am_z s) hc = some (some v, hc') ∧ (∀ K i1 i2 i3, l_X10_pass_63 N K b i1 (i2 + g) i3 (am_z s) hm = K i1 (i2 + v) (i3 + am_z 1) hm') ∧ qr_R nS nU hc' hm' ∧ cF hc hc' ∧ mF hm hm'
  | k, s, 0, b, g, hc, hm, _, h, _, _ => by omega
  | k, s, a, 0, g, hc, hm, _, _, h, _ => by omega
  | 0, s, a + 1, b + 1, g, hc, hm, e, _, _, R => by
    obtain ⟨-, n2, n3, n4, n5, n6⟩ := qr_n R
    have i0 : am_in (am_z 0) 20 = true := by decide
    have es : s = nS := by omega
    subst es
    refine ⟨g, hc, hm, ?_, fun K i1 i2 i3 => ?_, R, cF0, mF0⟩
    · unfold l_X9_grantOldRequests_4
      rw [n3, if_pos (Int32.le_refl _)]
    · unfold l_X10_pass_63
      simp only [am_z_lit, i0, cond_true, n5, if_pos (Int32.le_refl _)]
  | k + 1, s, a + 1, b + 1, g, hc, hm, e, ha, hb, R => by
    obtain ⟨-, n2, n3, n4, n5, n6⟩ := qr_n R
    have i0 : am_in (am_z 0) 20 = true := by decide
    have j0 : am_in (am_z 0) 6071 = true := by decide
    have j2 : am_in (am_z 2) 6071 = true := by decide
    have j5 : am_in (am_z 5) 6071 = true := by decide
    have k0 : am_in (am_z 0) 2 = true := by decide
    have k2 : am_in (am_z 2) 4 = true := by decide
    have hs : s < nS := by omega
    have s4 : s < 4 := by omega
    obtain ⟨c0, c1, c2, c3, -⟩ := qr_S R hs
    have e4 : (s : Int) + 1 = ((s + 1 : Nat) : Int) := by omega
    have hlt : ¬ (am_z nS ≤ am_z s) := by rw [am_z_le (by omega) (by omega) (by omega) (by omega)]; omega
    have et : hc 24 0 = hm 197 2 := R.2.2.1.1
    have ew : hc 25 0 = hm 197 0 := R.2.2.1.2.1
    have skip := q_grL n1 k (s + 1) a b g hc hm (by omega) (by omega) (by omega) R
    by_cases qa : hm 197 (57 + 1504 * s) = am_z (-1)
    · obtain ⟨v, hc', hm', p1, p2, p3, p4, p5⟩ := skip
      refine ⟨v, hc', hm', ?_, fun K i1 i2 i3 => ?_, p3, p4, p5⟩
      · unfold l_X9_grantOldRequests_4
        simp only [am_z_lit, am_z_neg, n3, if_neg hlt, c_desk n3 n1 hs, am_bt_s, (g_d s s4).2.2, cond_true, c2, if_pos qa, am_z_add, e4]
        exact p1
      · unfold l_X10_pass_63
        simp only [am_z_lit, am_z_neg, i0, cond_true, n5, if_neg hlt, m_s2 (h := hm) rfl s4, am_bi_s, if_pos qa, am_z_add, e4]
        exact p2 K i1 i2 i3
    · by_cases qw : hm 197 2 - hm 197 (58 + 1504 * s) < hm 197 0
      · have qw' : ¬ (hm 197 0 ≤ hm 197 2 - hm 197 (58 + 1504 * s)) := Int32.not_le.mpr qw
        obtain ⟨v, hc', hm', p1, p2, p3, p4, p5⟩ := skip
        refine ⟨v, hc', hm', ?_, fun K i1 i2 i3 => ?_, p3, p4, p5⟩
        · unfold l_X9_grantOldRequests_4
          simp only [am_z_lit, am_z_neg, n3, if_neg hlt, c_desk n3 n1 hs, am_bt_s, (g_d s s4).2.2, cond_true, c2, if_neg qa, k0, et, c3 qa, ew, if_pos qw, am_z_add, e4]
          exact p1
        · unfold l_X10_pass_63
          simp only [am_z_lit, am_z_neg, i0, cond_true, n5, if_neg hlt, m_s2 (h := hm) rfl s4, am_bi_s, if_neg qa, j2, m_s3 (h := hm) rfl s4, j0, if_neg qw', am_z_add, e4]
          exact p2 K i1 i2 i3
      · have qw' : hm 197 0 ≤ hm 197 2 - hm 197 (58 + 1504 * s) := Int32.not_lt.mp qw
        obtain ⟨g3, m3, l1, l2, R3, F, -⟩ := q_hand (N := N) R hs
        have R4 : qr_R nS nU (am_pi g3 26 2 (g3 26 2 + am_z 1)) (am_pi m3 197 5 (m3 197 5 + am_z 1)) := q_acc R3 (i := 2) (by decide)
        obtain ⟨v, hc', hm', p1, p2, p3, p4, p5⟩ := q_grL n1 k (s + 1) a b (g + am_z 1) _ _ (by omega) (by omega) (by omega) R4
        refine ⟨v, hc', hm', ?_, fun K i1 i2 i3 => ?_, p3, cFt (fun a ha => F.1 a (by omega)) (cFt (cF_p (by decide)) p4), mFt (fun a ha => F.2.1 a (by omega)) (mFt (mF_p (by decide)) p5)⟩
        · unfold l_X9_grantOldRequests_4
          simp only [am_z_lit, am_z_neg, n3, if_neg hlt, c_desk n3 n1 hs, am_bt_s, (g_d s s4).2.2, cond_true, c2, if_neg qa, k0, et, c3 qa, ew, if_neg qw, l1, am_bi_s, k2, am_z_add, e4]
          exact p1
        · unfold l_X10_pass_63
          simp only [am_z_lit, am_z_neg, i0, cond_true, n5, if_neg hlt, m_s2 (h := hm) rfl s4, am_bi_s, if_neg qa, j2, m_s3 (h := hm) rfl s4, j0, if_pos qw', l2, j5, am_z_add, e4]
          rw [Int32.add_assoc]
          exact p2 K i1 i2 i3
theorem q_passL (hN : 60000 ≤ N) (n1 : nS ≤ 4) {T : Nat} (hT : T ≤ 500) : ∀ (k t a b : Nat) (g : Int32) (hc hm : am_Hp), t + k = T → k < a → k < b → qr_R nS nU hc hm → ∃ v hc' hm', l_X9_pass_48 N a (am_z T) g (am_z t) hc = some (some v, hc') ∧ l_X10_pass_45 N b (am_z T) g (am_z t) hm = some (v, hm') ∧ qr_R nS nU hc' hm' ∧ cF hc hc' ∧ mF hm hm'
  | k, t, 0, b, g, hc, hm, _, h, _, _ => by omega
  | k, t, a, 0, g, hc, hm, _, _, h, _ => by omega
  | 0, t, a + 1, b + 1, g, hc, hm, e, _, _, R => by
    have es : t = T := by omega
    subst es
    obtain ⟨c5, m5', t1, t2, R5, sf⟩ := q_settle (N := N) (by omega) R
    refine ⟨g, c5, m5', ?_, ?_, R5, sF_c sf, sF_M sf⟩
    · unfold l_X9_pass_48
      simp only [if_pos (Int32.le_refl _), t1, am_bt_s]
    · unfold l_X10_pass_45
      simp only [if_pos (Int32.le_refl _), t2, am_bi_s]
  | k + 1, t, a + 1, b + 1, g, hc, hm, e, ha, hb, R => by
    have j2 : am_in (am_z 2) 6071 = true := by decide
    have e4 : (t : Int) + 1 = ((t + 1 : Nat) : Int) := by omega
    have hlt : ¬ (am_z T ≤ am_z t) := by rw [am_z_le (by omega) (by omega) (by omega) (by omega)]; omega
    obtain ⟨a1, a2, a3, a4, -⟩ := R.2.2.1
    have R2 : qr_R nS nU (am_pi hc 24 0 (hc 24 0 + am_z 1)) (am_pi hm 197 2 (hm 197 2 + am_z 1)) := by
      refine qr_glob R (fun a p _ _ => qc_pia p) (fun a p => qc_pia p) (fun k hk => am_pi_k (by omega)) ?_ ?_ ?_ ?_ ?_
      · rw [am_pi_s, am_pi_s, a1]
      · rw [qc_pia (by decide), am_pi_k (by omega)]; exact a2
      · rw [qc_pia (by decide), am_pi_k (by omega)]; exact a3
      · intro k hk; rw [qc_pia (by decide), am_pi_k (by omega)]; exact a4 k hk
      · rw [am_pi_k (by omega)]; exact R.2.2.2.1.1
    obtain ⟨v, g3, m3, p1, p2, p3, p4, p5⟩ := q_grL (N := N) n1 nS 0 N N (am_z 0) _ _ (by omega) (by omega) (by omega) R2
    have p1' : l_X9_grantOldRequests_4 N N (am_z 0) (am_z 0) _ = _ := p1
    obtain ⟨w, c5, m5, y1, y2, y3, y4, y5⟩ := q_passL hN n1 hT k (t + 1) a b (g + v) g3 m3 (by omega) (by omega) (by omega) p3
    refine ⟨w, c5, m5, ?_, ?_, y3, cFt (cF_p (by decide)) (cFt p4 y4), mFt (mF_p (by decide)) (mFt p5 y5)⟩
    · unfold l_X9_pass_48 f_X9_grantOldRequests
      simp only [am_z_lit, if_neg hlt, p1', am_bt_s, am_z_add, e4]
      exact y1
    · have e0 : g + am_z 0 = g := Int32.add_zero g
      have p2' := p2 (l_X10_pass_45 N b) (am_z T) g (am_z t)
      have p2'' : l_X10_pass_63 N (l_X10_pass_45 N b) N (am_z T) (g + am_z 0) (am_z t) (am_z 0) _ = _ := p2'
      rw [e0, am_z_add, e4] at p2''
      rw [l_X10_pass_45]
      simp only [am_z_lit, if_neg hlt, j2, cond_true, p2'']
      exact y2
theorem q_pass {hc hm : am_Hp} (hN : 60000 ≤ N) (R : qr_R nS nU hc hm) (x : Int32) : pS nS nU (f_X9_pass N x hc) (f_X10_pass N x hm) hc hm := by
  obtain ⟨n1, n2, n3, n4, n5, n6⟩ := qr_n R
  have R1 : qr_R nS nU hc (am_pi hm 193 0 (am_z 0)) := R_thr R
  have hr : am_pi hm 193 0 (am_z 0) 197 = hm 197 := thr_e (by decide)
  have j2 : am_in (am_z 2) 6071 = true := by decide
  have et : hc 24 0 = hm 197 2 := R.2.2.1.1
  obtain ⟨t, rfl, b1, b2⟩ := am_z_ex x
  have ea : (am_z t < am_z 1) = (t < 1) := am_z_lt b1 b2 (by omega) (by omega)
  have eb : (am_z t ≤ am_z 500) = (t ≤ 500) := am_z_le b1 b2 (by omega) (by omega)
  unfold f_X9_pass f_X10_pass
  by_cases qa : t < 1
  · refine pS_no R (v := am_z (-2)) (w := am_z 0) ?_ ?_
    · simp only [am_z_lit, am_z_neg, ea, if_pos qa]
    · simp only [am_z_lit, am_z_neg, ea, if_pos qa]
  by_cases qb : t ≤ 500
  · by_cases qc : hm 197 2 + am_z t ≤ am_z 9999
    · obtain ⟨g2, m2, k1, k2, R2, kf1, kf2, kf3⟩ := q_keep hN R1
      obtain ⟨T, rfl⟩ : ∃ T : Nat, t = T := ⟨t.toNat, by omega⟩
      obtain ⟨v, c5, m5, p1, p2, p3, p4, p5⟩ := q_passL (N := N) hN n1 (T := T) (by omega) T 0 N N (am_z 0) g2 m2 (by omega) (by omega) (by omega) R2
      refine ⟨v, c5, m5, ?_, ?_, p3, cFt (fun a ha => kf1 a (by omega)) p4, mFt (mF_p (by decide)) (mFt (fun a ha => kf2 a (by omega) (by omega)) p5)⟩
      · simp only [am_z_lit, ea, if_neg qa, eb, if_pos qb, et, if_pos qc, k1, am_bi_s]
        exact p1
      · simp only [am_z_lit, ea, if_neg qa, eb, if_pos qb, j2, cond_true, hr, if_pos qc, k2, am_bi_s]
        exact p2
    · refine pS_no R (v := am_z (-3)) (w := am_z 0) ?_ ?_
      · simp only [am_z_lit, am_z_neg, ea, if_neg qa, eb, if_pos qb, et, if_neg qc]
      · simp only [am_z_lit, am_z_neg, ea, if_neg qa, eb, if_pos qb, j2, cond_true, hr, if_neg qc]
  · refine pS_no R (v := am_z (-2)) (w := am_z 0) ?_ ?_
    · simp only [am_z_lit, am_z_neg, ea, if_neg qa, eb, if_neg qb]
    · simp only [am_z_lit, am_z_neg, ea, if_neg qa, eb, if_neg qb]
theorem q_typL (hN : 60000 ≤ N) {u s n : Nat} {x : Int32} (hs : s < nS) (hu : u < 6) (hn : n ≤ 6) (hg : ∀ i, i < n → ∃ g : Nat, gL x i = am_z g ∧ 1 ≤ g ∧ g ≤ 31) : ∀ (k i a b E : Nat) (hc hm : am_Hp), i + k = n → k < a → k < b → qr_R nS nU hc hm → hm 197 (55 + 1504 * s) = am_z E → E + k ≤ 300 → ∃ v hc' hm', l_X9_type_99 N a (am_z u) x (am_z n) (29 + s) (165 + 7 * s) (am_z i) hc = some (some v, hc') ∧ l_X10_type_70 N b (am_z u) x (am_z n) (am_z s) (am_z i) hm = some (v, hm') ∧ qr_R nS nU hc' hm' ∧ cF hc hc' ∧ mF hm hm'
  | k, i, 0, b, E, hc, hm, _, h, _, _, _, _ => by omega
  | k, i, a, 0, E, hc, hm, _, _, h, _, _, _ => by omega
  | 0, i, a + 1, b + 1, E, hc, hm, e, _, _, R, _, _ => by
    obtain ⟨n1, -⟩ := qr_n R
    have es : i = n := by omega
    subst es
    have s4 : s < 4 := by omega
    obtain ⟨c5, m5', t1, t2, R5, sf⟩ := q_settle (N := N) (by omega) R
    obtain ⟨c0, -⟩ := qr_S R5 hs
    refine ⟨m5' 197 (55 + 1504 * s), c5, m5', ?_, ?_, R5, sF_c sf, sF_M sf⟩
    · unfold l_X9_type_99
      simp only [if_pos (Int32.le_refl _), t1, am_bt_s, (g_d s s4).2.2, cond_true, c0]
    · unfold l_X10_type_70
      simp only [if_pos (Int32.le_refl _), t2, am_bi_s, m_ev s4]
  | k + 1, i, a + 1, b + 1, E, hc, hm, e, ha, hb, R, hE, hE3 => by
    obtain ⟨n1, -⟩ := qr_n R
    have s4 : s < 4 := by omega
    have e4 : (i : Int) + 1 = ((i + 1 : Nat) : Int) := by omega
    have e5 : (E : Int) + 1 = ((E + 1 : Nat) : Int) := by omega
    have hlt : ¬ (am_z n ≤ am_z i) := by rw [am_z_le (by omega) (by omega) (by omega) (by omega)]; omega
    obtain ⟨c0, -⟩ := qr_S R hs
    obtain ⟨g, g1, g2, g3⟩ := hg i (by omega)
    obtain ⟨h0, h1, m2, p1, p2, p3, p4, p5, p6, p7, p8, p9, p10⟩ := q_rec (N := N) (a := am_z 0) (b := gL x i) (c := am_z 0) (d := am_z u) R hs (by omega) hE (Or.inr ⟨rfl, g, g1, g2, g3⟩) (fun z => absurd z z_01)
    obtain ⟨v, c5, m5, y1, y2, y3, y4, y5⟩ := q_typL hN hs hu hn hg k (i + 1) a b (E + 1) _ _ (by omega) (by omega) (by omega) p5 p10 (by omega)
    refine ⟨v, c5, m5, ?_, ?_, y3, cFt (fun a ha => p6 a (by omega) (by omega)) y4, mFt (fun a ha => p8 a (by omega)) y5⟩
    · unfold l_X9_type_99 f_X3_putTyped
      simp only [am_z_lit, if_neg hlt, (g_d s s4).2.2, cond_true, g_at, am_bi_s, (rc_f s s4).1, c0, hE, p1, p2, p3, am_z_add, e4, e5]
      exact y1
    · unfold l_X10_type_70
      simp only [am_z_lit, if_neg hlt, l_of, am_bi_s, p4, am_z_add, e4]
      exact y2
theorem c_stop1 {hc hm : am_Hp} (R : qr_R nS nU hc hm) {u : Nat} (hu : u < nU) (q0 : hm 197 (9 + 8 * u) = am_z 0) : f_X9_reasonNotToType N (am_z u) (33 + u) hc = some (some (am_z 1), hc) := by
  obtain ⟨n1, n2, -⟩ := qr_n R
  obtain ⟨-, -, b3, -⟩ := qr_U R hu
  unfold f_X9_reasonNotToType
  simp only [am_z_lit, (g_u u (by omega)).2, cond_true, b3, if_pos q0]
theorem q_type {hc hm : am_Hp} (hN : 60000 ≤ N) (R : qr_R nS nU hc hm) (x y : Int32) : pS nS nU (f_X9_type N x y hc) (f_X10_type N x y hm) hc hm := by
  obtain ⟨n1, n2, n3, n4, n5, n6⟩ := qr_n R
  have R1 : qr_R nS nU hc (am_pi hm 193 0 (am_z 0)) := R_thr R
  obtain ⟨-, -, -, -, m5, m6⟩ := qr_n R1
  have hr : am_pi hm 193 0 (am_z 0) 197 = hm 197 := thr_e (by decide)
  unfold f_X9_type f_X10_type
  rcases qi x nU with ⟨u, hu, rfl⟩ | ⟨v, rfl, b1, b2, hv⟩
  · have u6 : u < 6 := by omega
    obtain ⟨n, w1, w2, w3, w4⟩ := g_sym (N := N) (hc := hc) (hm := am_pi hm 193 0 (am_z 0)) (by omega) y
    by_cases qn : n = 0
    · subst qn
      have z : am_z ((0 : Nat) : Int) = am_z 0 := rfl
      rw [z] at w3 w4
      refine pS_no R (v := am_z (-2)) (w := am_z 0) ?_ ?_
      · simp only [am_z_lit, am_z_neg, c_has19 n4 n2 hu, am_bi_s, if_neg z_10, w3, if_true]
      · simp only [am_z_lit, am_z_neg, m_user m6 n2 hu, am_bi_s, if_neg z_10, w4, if_true]
    · have zn : ¬ (am_z n = am_z 0) := by rw [am_z_eq (by omega) (by omega) (by omega) (by omega)]; omega
      obtain ⟨v, v1, v2⟩ := q_stops (N := N) R hu (h1 := am_pi hm 193 0 (am_z 0)) hr
      by_cases qv : v = am_z 0
      · subst qv
        have q0 : hm 197 (9 + 8 * u) ≠ am_z 0 := by
          intro z
          have := v1.symm.trans (c_stop1 (N := N) R hu z)
          simp only [Option.some.injEq, Prod.mk.injEq] at this
          exact absurd this.1 z_01
        obtain ⟨-, -, f2, f4, -, -, -, fV⟩ := qr_U R hu
        obtain ⟨s1, s2⟩ := fV.2.2.2.1 q0
        generalize hss : nv (hm 197 (10 + 8 * u)) = s at *
        have s4 : s < 4 := by omega
        have e3 : hm 197 (10 + 8 * u) = am_z s := by rw [s1.1, hss]
        obtain ⟨c0, c1, c2, c3, -, ⟨⟨d1, d2, d3⟩, -⟩, -⟩ := qr_S R s2
        generalize hE : nv (hm 197 (55 + 1504 * s)) = E at *
        have eb : (am_z E + am_z n ≤ am_z 300) = (E + n ≤ 300) := by
          rw [am_z_add, am_z_le (by omega) (by omega) (by omega) (by omega)]
          refine propext ?_
          omega
        by_cases qE : E + n ≤ 300
        · obtain ⟨g2, m2, k1, k2, R2, kf1, kf2, kf3⟩ := q_keep hN R1
          have hr2 : m2 197 = hm 197 := (kf2 _ (by decide) (by decide)).trans hr
          obtain ⟨-, -, k3, -, -, -⟩ := qr_n R2
          have e4 : g2 (33 + u) 3 = am_z s := by rw [kf1 _ (by omega), f4 q0, e3]
          obtain ⟨v, c5, m5', p1, p2, p3, p4, p5⟩ := q_typL (N := N) hN s2 u6 w1 (w2 qn) n 0 N N E g2 m2 (by omega) (by omega) (by omega) R2 (by rw [hr2]; exact d1) qE
          refine ⟨v, c5, m5', ?_, ?_, p3, cFt (fun a ha => kf1 a (by omega)) p4, mFt (mF_p (by decide)) (mFt (fun a ha => kf2 a (by omega) (by omega)) p5)⟩
          · simp only [am_z_lit, am_z_neg, c_has19 n4 n2 hu, am_bi_s, if_neg z_10, w3, if_neg zn, c_seat n4 n2 hu, am_bt_s, v1, if_true, (g_u u u6).2, cond_true, f4 q0, e3, c_desk n3 n1 s2, (g_d s s4).2.2, c0, d1, eb, if_pos qE, k1, e4, c_rec k3 n1 s2]
            exact p1
          · simp only [am_z_lit, am_z_neg, m_user m6 n2 hu, am_bi_s, if_neg z_10, w4, if_neg zn, v2, if_true, m_u3 hr u6, e3, m_evr hr s4, d1, eb, if_pos qE, k2]
            exact p2
        · refine pS_no R (v := am_z (-3)) (w := am_z 0) ?_ ?_
          · simp only [am_z_lit, am_z_neg, c_has19 n4 n2 hu, am_bi_s, if_neg z_10, w3, if_neg zn, c_seat n4 n2 hu, am_bt_s, v1, if_true, (g_u u u6).2, cond_true, f4 q0, e3, c_desk n3 n1 s2, (g_d s s4).2.2, c0, d1, eb, if_neg qE]
          · simp only [am_z_lit, am_z_neg, m_user m6 n2 hu, am_bi_s, if_neg z_10, w4, if_neg zn, v2, if_true, m_u3 hr u6, e3, m_evr hr s4, d1, eb, if_neg qE]
      · refine pS_no R (v := am_z (-4)) (w := am_z 0) ?_ ?_
        · simp only [am_z_lit, am_z_neg, c_has19 n4 n2 hu, am_bi_s, if_neg z_10, w3, if_neg zn, c_seat n4 n2 hu, am_bt_s, v1, if_neg qv]
        · simp only [am_z_lit, am_z_neg, m_user m6 n2 hu, am_bi_s, if_neg z_10, w4, if_neg zn, v2, if_neg qv]
  · refine pS_no R (v := am_z (-1)) (w := am_z 0) ?_ ?_
    · simp only [am_z_lit, am_z_neg, c_has19n n4 n2 ⟨b1, b2⟩ hv, am_bi_s, if_true]
    · simp only [am_z_lit, am_z_neg, m_usern m6 n2 ⟨b1, b2⟩ hv, am_bi_s, if_true]
end CH5
