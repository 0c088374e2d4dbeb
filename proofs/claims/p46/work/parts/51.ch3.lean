section CH3
variable {N nS nU : Nat} {hc hm : am_Hp}
theorem q_lookBack (hN : 60000 ≤ N) (R : qr_R nS nU hc hm) (x y : Int32) : pS nS nU (f_X9_lookBack N x y hc) (f_X10_lookBack N x y hm) hc hm := by
  obtain ⟨n1, n2, n3, n4, n5, n6⟩ := qr_n R
  have R1 : qr_R nS nU hc (am_pi hm 193 0 (am_z 0)) := R_thr R
  obtain ⟨-, -, -, -, m5, m6⟩ := qr_n R1
  have hr : am_pi hm 193 0 (am_z 0) 197 = hm 197 := thr_e (by decide)
  unfold f_X9_lookBack f_X10_lookBack
  rcases qi x nU with ⟨u, hu, rfl⟩ | ⟨v, rfl, b1, b2, hv⟩
  · have u6 : u < 6 := by omega
    by_cases q0 : hm 197 (9 + 8 * u) = am_z 0
    · refine pS_no R (v := am_z (-4)) (w := am_z 0) ?_ ?_
      · simp only [am_z_lit, am_z_neg, c_why R hu, am_bt_s, if_pos q0, if_neg z_40]
      · simp only [am_z_lit, am_z_neg, m_user m6 n2 hu, am_bi_s, if_neg z_10, m_wat hr u6, if_pos q0, if_true]
    · obtain ⟨sp, rfl, b1, b2⟩ := am_z_ex y
      have ea : (am_z sp < am_z 0) = (sp < 0) := am_z_lt b1 b2 (by omega) (by omega)
      have eb : (am_z sp ≤ am_z 40) = (sp ≤ 40) := am_z_le b1 b2 (by omega) (by omega)
      by_cases qa : sp < 0
      · refine pS_no R (v := am_z (-2)) (w := am_z 0) ?_ ?_
        · simp only [am_z_lit, am_z_neg, c_why R hu, am_bt_s, if_neg q0, if_true, c_seat n4 n2 hu, ea, if_pos qa]
        · simp only [am_z_lit, am_z_neg, m_user m6 n2 hu, am_bi_s, if_neg z_10, m_wat hr u6, if_neg q0, ea, if_pos qa]
      by_cases qb : sp ≤ 40
      · obtain ⟨l, rfl⟩ : ∃ l : Nat, sp = l := ⟨sp.toNat, by omega⟩
        obtain ⟨c2, m2, k1, k2, R2, kf1, kf2, kf3⟩ := q_keep hN R1
        obtain ⟨g0, g1, g2, g3, g4, g5, g7, gV⟩ := qr_U R2 hu
        have hp := hP_of R2 hu
        have e33 : 24 + 9 + u = 33 + u := by omega
        have R4 : qr_R nS nU (am_pi c2 (33 + u) 7 (am_z l)) (am_pi m2 197 (14 + 8 * u) (am_z l)) := by
          refine qr_seat R2 hu (fun a ha => qc_pia ha) (fun a ha => qc_pia ha) (fun k hk => am_pi_k (by omega)) ?_ ?_ (fun s hs z => by rw [am_pi_k (by omega), am_pi_k (by omega)]; exact hp s hs z)
          · have kc : ∀ k, k ≠ 7 → am_pi c2 (33 + u) 7 (am_z l) (33 + u) k = c2 (33 + u) k := fun k p => am_pi_k p
            have km : ∀ k, k ≠ 14 + 8 * u → am_pi m2 197 (14 + 8 * u) (am_z l) 197 k = m2 197 k := fun k p => am_pi_k p
            unfold sU
            rw [e33, am_pi_s, am_pi_s, kc 0 (by decide), kc 1 (by decide), kc 2 (by decide), kc 3 (by decide), kc 4 (by decide), kc 5 (by decide), kc 6 (by decide), km (7 + 8 * u) (by omega), km (8 + 8 * u) (by omega), km (9 + 8 * u) (by omega), km (10 + 8 * u) (by omega), km (11 + 8 * u) (by omega), km (12 + 8 * u) (by omega), km (13 + 8 * u) (by omega)]
            exact ⟨g0, g1, g2, g3, g4, g5, rfl⟩
          · unfold vU
            rw [am_pi_s, am_pi_k (show 7 + 8 * u ≠ _ by omega), am_pi_k (show 8 + 8 * u ≠ _ by omega), am_pi_k (show 9 + 8 * u ≠ _ by omega), am_pi_k (show 10 + 8 * u ≠ _ by omega), am_pi_k (show 11 + 8 * u ≠ _ by omega), am_pi_k (show 13 + 8 * u ≠ _ by omega), am_pi_k (show 55 + 1504 * nv (m2 197 (10 + 8 * u)) ≠ _ by omega)]
            obtain ⟨o1, o2, o3, o4, o5, o6, o7, o8⟩ := gV
            exact ⟨o1, o2, o3, o4, o5, o6, o7, vn_z (by omega) (by omega) (by omega)⟩
        obtain ⟨c5, m5', t1, t2, R5, sf⟩ := q_settle (N := N) (by omega) R4
        refine ⟨m2 197 (14 + 8 * u), c5, m5', ?_, ?_, R5, ?_, ?_⟩
        · simp only [am_z_lit, c_why R hu, am_bt_s, if_neg q0, if_true, c_seat n4 n2 hu, ea, if_neg qa, eb, if_pos qb, (g_u u u6).2, cond_true, k1, am_bi_s, t1, g7]
        · simp only [am_z_lit, m_user m6 n2 hu, am_bi_s, if_neg z_10, m_wat hr u6, if_neg q0, ea, if_neg qa, eb, if_pos qb, k2, m_u7 (h := m2) rfl u6, w_u7 u6, t2]
        · exact cFt (fun a ha => kf1 a (by omega)) (cFt (cF_p (by omega)) (sF_c sf))
        · exact mFt (mF_p (by decide)) (mFt (fun a ha => kf2 a (by omega) (by omega)) (mFt (mF_p (by decide)) (sF_M sf)))
      · refine pS_no R (v := am_z (-2)) (w := am_z 0) ?_ ?_
        · simp only [am_z_lit, am_z_neg, c_why R hu, am_bt_s, if_neg q0, if_true, c_seat n4 n2 hu, ea, if_neg qa, eb, if_neg qb]
        · simp only [am_z_lit, am_z_neg, m_user m6 n2 hu, am_bi_s, if_neg z_10, m_wat hr u6, if_neg q0, ea, if_neg qa, eb, if_neg qb]
  · refine pS_no R (v := am_z (-1)) (w := am_z 0) ?_ ?_
    · have z : ¬ (am_z (-1) = am_z 0) := by decide
      simp only [am_z_lit, am_z_neg, c_whyn R ⟨b1, b2⟩ hv, am_bt_s, if_neg z]
    · simp only [am_z_lit, am_z_neg, m_usern m6 n2 ⟨b1, b2⟩ hv, am_bi_s, if_true]
theorem q_window (hN : 60000 ≤ N) (R : qr_R nS nU hc hm) (x y z : Int32) : pS nS nU (f_X9_window N x y z hc) (f_X10_window N x y z hm) hc hm := by
  obtain ⟨n1, n2, n3, n4, n5, n6⟩ := qr_n R
  have R1 : qr_R nS nU hc (am_pi hm 193 0 (am_z 0)) := R_thr R
  obtain ⟨-, -, -, -, m5, m6⟩ := qr_n R1
  unfold f_X9_window f_X10_window
  rcases qi x nU with ⟨u, hu, rfl⟩ | ⟨v, rfl, b1, b2, hv⟩
  · have u6 : u < 6 := by omega
    obtain ⟨w, rfl, b1, b2⟩ := am_z_ex y
    obtain ⟨t, rfl, b3, b4⟩ := am_z_ex z
    have ea : (am_z w < am_z 2) = (w < 2) := am_z_lt b1 b2 (by omega) (by omega)
    have eb : (am_z 16 < am_z w) = (16 < w) := am_z_lt (by omega) (by omega) b1 b2
    have ec : (am_z t < am_z 1) = (t < 1) := am_z_lt b3 b4 (by omega) (by omega)
    have ed : (am_z t ≤ am_z 6) = (t ≤ 6) := am_z_le b3 b4 (by omega) (by omega)
    by_cases qa : w < 2
    · refine pS_no R (v := am_z (-2)) (w := am_z 0) ?_ ?_
      · simp only [am_z_lit, am_z_neg, c_has19 n4 n2 hu, am_bi_s, if_neg z_10, ea, if_pos qa]
      · simp only [am_z_lit, am_z_neg, m_user m6 n2 hu, am_bi_s, if_neg z_10, ea, if_pos qa]
    by_cases qb : 16 < w
    · refine pS_no R (v := am_z (-2)) (w := am_z 0) ?_ ?_
      · simp only [am_z_lit, am_z_neg, c_has19 n4 n2 hu, am_bi_s, if_neg z_10, ea, if_neg qa, eb, if_pos qb]
      · simp only [am_z_lit, am_z_neg, m_user m6 n2 hu, am_bi_s, if_neg z_10, ea, if_neg qa, eb, if_pos qb]
    by_cases qc : t < 1
    · refine pS_no R (v := am_z (-2)) (w := am_z 0) ?_ ?_
      · simp only [am_z_lit, am_z_neg, c_has19 n4 n2 hu, am_bi_s, if_neg z_10, ea, if_neg qa, eb, if_neg qb, ec, if_pos qc]
      · simp only [am_z_lit, am_z_neg, m_user m6 n2 hu, am_bi_s, if_neg z_10, ea, if_neg qa, eb, if_neg qb, ec, if_pos qc]
    by_cases qd : t ≤ 6
    · obtain ⟨w', rfl⟩ : ∃ l : Nat, w = l := ⟨w.toNat, by omega⟩
      obtain ⟨t', rfl⟩ : ∃ l : Nat, t = l := ⟨t.toNat, by omega⟩
      obtain ⟨c2, m2, k1, k2, R2, kf1, kf2, kf3⟩ := q_keep hN R1
      obtain ⟨g0, g1, g2, g3, g4, g5, g7, gV⟩ := qr_U R2 hu
      obtain ⟨-, -, -, k4, -, -⟩ := qr_n R2
      have hp := hP_of R2 hu
      have e33 : 24 + 9 + u = 33 + u := by omega
      have R4 : qr_R nS nU (am_pi (am_pi c2 (33 + u) 0 (am_z w')) (33 + u) 1 (am_z t')) (am_pi (am_pi m2 197 (7 + 8 * u) (am_z w')) 197 (8 + 8 * u) (am_z t')) := by
        have kc : ∀ k, k ≠ 0 → k ≠ 1 → am_pi (am_pi c2 (33 + u) 0 (am_z w')) (33 + u) 1 (am_z t') (33 + u) k = c2 (33 + u) k := fun k p q => by rw [am_pi_k q, am_pi_k p]
        have km : ∀ k, k ≠ 7 + 8 * u → k ≠ 8 + 8 * u → am_pi (am_pi m2 197 (7 + 8 * u) (am_z w')) 197 (8 + 8 * u) (am_z t') 197 k = m2 197 k := fun k p q => by rw [am_pi_k q, am_pi_k p]
        have c0 : am_pi (am_pi c2 (33 + u) 0 (am_z w')) (33 + u) 1 (am_z t') (33 + u) 0 = am_z w' := by rw [am_pi_k (by decide), am_pi_s]
        have m0 : am_pi (am_pi m2 197 (7 + 8 * u) (am_z w')) 197 (8 + 8 * u) (am_z t') 197 (7 + 8 * u) = am_z w' := by rw [am_pi_k (by omega), am_pi_s]
        refine qr_seat R2 hu (fun a ha => by rw [qc_pia ha, qc_pia ha]) (fun a ha => by rw [qc_pia ha, qc_pia ha]) (fun k hk => km k (by omega) (by omega)) ?_ ?_ (fun s hs z => by rw [km _ (by omega) (by omega), km _ (by omega) (by omega)]; exact hp s hs z)
        · unfold sU
          rw [e33, c0, m0, am_pi_s, am_pi_s, kc 2 (by decide) (by decide), kc 3 (by decide) (by decide), kc 4 (by decide) (by decide), kc 5 (by decide) (by decide), kc 6 (by decide) (by decide), kc 7 (by decide) (by decide), km (9 + 8 * u) (by omega) (by omega), km (10 + 8 * u) (by omega) (by omega), km (11 + 8 * u) (by omega) (by omega), km (12 + 8 * u) (by omega) (by omega), km (13 + 8 * u) (by omega) (by omega), km (14 + 8 * u) (by omega) (by omega)]
          exact ⟨rfl, rfl, g2, g3, g4, g5, g7⟩
        · unfold vU
          rw [m0, am_pi_s, km (9 + 8 * u) (by omega) (by omega), km (10 + 8 * u) (by omega) (by omega), km (11 + 8 * u) (by omega) (by omega), km (13 + 8 * u) (by omega) (by omega), km (14 + 8 * u) (by omega) (by omega), km (55 + 1504 * nv (m2 197 (10 + 8 * u))) (by omega) (by omega)]
          obtain ⟨o1, o2, o3, o4, o5, o6, o7, o8⟩ := gV
          exact ⟨vn_z (by omega) (by omega) (by omega), vn_z (by omega) (by omega) (by omega), o3, o4, o5, o6, o7, o8⟩
      obtain ⟨c5, m5', t1, t2, R5, sf⟩ := q_settle (N := N) (by omega) R4
      refine ⟨m2 197 (7 + 8 * u), c5, m5', ?_, ?_, R5, ?_, ?_⟩
      · simp only [am_z_lit, c_has19 n4 n2 hu, am_bi_s, if_neg z_10, ea, if_neg qa, eb, if_neg qb, ec, if_neg qc, ed, if_pos qd, k1, c_seat k4 n2 hu, am_bt_s, (g_u u u6).2, cond_true, t1, g0]
      · simp only [am_z_lit, m_user m6 n2 hu, am_bi_s, if_neg z_10, ea, if_neg qa, eb, if_neg qb, ec, if_neg qc, ed, if_pos qd, k2, m_u0 (h := m2) rfl u6, w_u0 u6, w_u1 u6, t2]
      · exact cFt (fun a ha => kf1 a (by omega)) (cFt (cF_p (by omega)) (cFt (cF_p (by omega)) (sF_c sf)))
      · exact mFt (mF_p (by decide)) (mFt (fun a ha => kf2 a (by omega) (by omega)) (mFt (mF_p (by decide)) (mFt (mF_p (by decide)) (sF_M sf))))
    · refine pS_no R (v := am_z (-2)) (w := am_z 0) ?_ ?_
      · simp only [am_z_lit, am_z_neg, c_has19 n4 n2 hu, am_bi_s, if_neg z_10, ea, if_neg qa, eb, if_neg qb, ec, if_neg qc, ed, if_neg qd]
      · simp only [am_z_lit, am_z_neg, m_user m6 n2 hu, am_bi_s, if_neg z_10, ea, if_neg qa, eb, if_neg qb, ec, if_neg qc, ed, if_neg qd]
  · refine pS_no R (v := am_z (-1)) (w := am_z 0) ?_ ?_
    · simp only [am_z_lit, am_z_neg, c_has19n n4 n2 ⟨b1, b2⟩ hv, am_bi_s, if_true]
    · simp only [am_z_lit, am_z_neg, m_usern m6 n2 ⟨b1, b2⟩ hv, am_bi_s, if_true]
theorem q_setSetting (hN : 60000 ≤ N) (R : qr_R nS nU hc hm) (x y : Int32) : pS nS nU (f_X9_setSetting N x y hc) (f_X10_setSetting N x y hm) hc hm := by
  have R1 : qr_R nS nU hc (am_pi hm 193 0 (am_z 0)) := R_thr R
  have x1 : am_sx 206 0 = am_z 1 := by decide
  have x2 : am_sx 206 1 = am_z 0 := by decide
  have x3 : am_sx 207 0 = am_z 99 := by decide
  have x4 : am_sx 207 1 = am_z 1 := by decide
  unfold f_X9_setSetting f_X10_setSetting f_X10_isSetting f_X10_low f_X10_top
  obtain ⟨v, rfl, b1, b2⟩ := am_z_ex x
  obtain ⟨w, rfl, b3, b4⟩ := am_z_ex y
  have i0 : am_in (am_z 0) 2 = true := by decide
  have i1 : am_in (am_z 1) 2 = true := by decide
  have j0 : am_in (am_z (0 + 0)) 6071 = true := by decide
  have j1 : am_in (am_z (0 + 1)) 6071 = true := by decide
  have l0 : (am_z 0).toNatClampNeg = 0 := by decide
  have l1 : (am_z 1).toNatClampNeg = 1 := by decide
  have k0 : (am_z (0 + 0)).toNatClampNeg = 0 := by decide
  have k1 : (am_z (0 + 1)).toNatClampNeg = 1 := by decide
  have glob : ∀ (i : Nat) (t : Nat) (lo hi : Nat), i < 2 → (i = 1 → lo = 0 ∧ hi = 1) → lo ≤ t → t ≤ hi → hi ≤ 99 → ∃ c2 m2 c5 m5, f_X2_keep N 24 hc = some ((), c2) ∧ f_X10_keeps N (am_pi hm 193 0 (am_z 0)) = some ((), m2) ∧ f_X9_recordRightSizes N (am_pi c2 25 i (am_z t)) = some (some (), c5) ∧ f_X10_settles N (am_pi m2 197 i (am_z t)) = some ((), m5) ∧ c2 25 i = m2 197 i ∧ qr_R nS nU c5 m5 ∧ cF hc c5 ∧ mF hm m5 := by
    intro i t lo hi hi2 hlo ht1 ht2 ht3
    obtain ⟨c2, m2, k1, k2, R2, kf1, kf2, kf3⟩ := q_keep hN R1
    obtain ⟨a1, a2, a3, a4, -⟩ := R2.2.2.1
    have vs := R2.2.2.2.1.1
    have R4 : qr_R nS nU (am_pi c2 25 i (am_z t)) (am_pi m2 197 i (am_z t)) := by
      refine qr_glob R2 (fun a _ p _ => qc_pia p) (fun a p => qc_pia p) (fun k hk => am_pi_k (by omega)) ?_ ?_ ?_ ?_ ?_
      · rw [qc_pia (by decide), am_pi_k (by omega)]; exact a1
      · by_cases q : i = 0
        · subst q; rw [am_pi_s, am_pi_s]
        · rw [am_pi_k (by omega), am_pi_k (by omega)]; exact a2
      · by_cases q : i = 1
        · subst q; rw [am_pi_s, am_pi_s]
        · rw [am_pi_k (by omega), am_pi_k (by omega)]; exact a3
      · intro k hk; rw [qc_pia (by decide), am_pi_k (by omega)]; exact a4 k hk
      · by_cases q : i = 1
        · subst q; rw [am_pi_s]; exact vn_z (by omega) (by omega) (by omega)
        · rw [am_pi_k (by omega)]; exact vs
    obtain ⟨c5, m5, t1, t2, R5, sf⟩ := q_settle (N := N) (by omega) R4
    refine ⟨c2, m2, c5, m5, k1, k2, t1, t2, ?_, R5, cFt (fun a ha => kf1 a (by omega)) (cFt (cF_p (by decide)) (sF_c sf)), mFt (mF_p (by decide)) (mFt (fun a ha => kf2 a (by omega) (by omega)) (mFt (mF_p (by decide)) (sF_M sf)))⟩
    have : i = 0 ∨ i = 1 := by omega
    rcases this with rfl | rfl
    · exact a2
    · exact a3
  simp (disch := omega) only [am_z_lit, am_z_neg, am_z_lt, am_z_le, am_z_eq, am_z_and1, am_z_and0, if_true, am_z_add]
  by_cases q0 : v = 0
  · subst q0
    simp (disch := omega) only [if_true, am_bi_s, i0, l0, j0, k0, x1, x3, cond_true, if_neg z_10, am_z_lt, am_z_le]
    rw [if_neg (by omega), if_neg (by omega)]
    by_cases qa : w < 1
    · exact pS_no R (by rw [if_pos qa]) (by rw [if_pos qa])
    by_cases qb : w ≤ 99
    · obtain ⟨t, rfl⟩ : ∃ t : Nat, w = t := ⟨w.toNat, by omega⟩
      obtain ⟨c2, m2, c5, m5, p1, p2, p3, p4, p5, p6, p7, p8⟩ := glob 0 t 1 99 (by omega) (by omega) (by omega) (by omega) (by omega)
      refine ⟨m2 197 0, c5, m5, ?_, ?_, p6, p7, p8⟩
      · simp only [if_neg qa, if_pos qb, p1, am_bi_s, p3, am_bt_s, p5]
      · simp only [if_neg qa, if_pos qb, p2, am_bi_s, p4]
    · exact pS_no R (by rw [if_neg qa, if_neg qb]) (by rw [if_neg qa, if_neg qb])
  · by_cases q1 : v = 1
    · subst q1
      simp (disch := omega) only [if_true, if_neg q0, am_bi_s, i1, l1, j1, k1, x2, x4, cond_true, if_neg z_10, am_z_lt, am_z_le]
      rw [if_neg (by omega), if_neg (by omega)]
      by_cases qa : w < 0
      · exact pS_no R (by rw [if_pos qa]) (by rw [if_pos qa])
      by_cases qb : w ≤ 1
      · obtain ⟨t, rfl⟩ : ∃ t : Nat, w = t := ⟨w.toNat, by omega⟩
        obtain ⟨c2, m2, c5, m5, p1, p2, p3, p4, p5, p6, p7, p8⟩ := glob 1 t 0 1 (by omega) (by omega) (by omega) (by omega) (by omega)
        refine ⟨m2 197 1, c5, m5, ?_, ?_, p6, p7, p8⟩
        · simp only [if_neg qa, if_pos qb, p1, am_bi_s, p3, am_bt_s, p5]
        · simp only [if_neg qa, if_pos qb, p2, am_bi_s, p4]
      · exact pS_no R (by rw [if_neg qa, if_neg qb]) (by rw [if_neg qa, if_neg qb])
    · refine pS_no R (v := am_z (-2)) (w := am_z 0) ?_ ?_
      · by_cases qa : v < 0
        · rw [if_pos qa]
        · rw [if_neg qa, if_pos (by omega)]
      · simp only [if_neg q0, if_neg q1, am_bi_s, if_true]
end CH3
