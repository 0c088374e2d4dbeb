section Q2
variable {N nS nU : Nat} {hc hm : am_Hp}
theorem q_stops (R : qr_R nS nU hc hm) {u : Nat} (hu : u < nU) {h1 : am_Hp} (hr : h1 197 = hm 197) : ∃ v, f_X9_reasonNotToType N (am_z u) (33 + u) hc = some (some v, hc) ∧ f_X10_stops N (am_z u) h1 = some (v, h1) := by
  obtain ⟨n1, n2, n3, n4, n5, n6⟩ := qr_n R
  obtain ⟨b1, b2, b3, b4, b5, b6, b7, bV⟩ := qr_U R hu
  have u6 : u < 6 := by omega
  unfold f_X9_reasonNotToType f_X10_stops
  simp only [am_z_lit, am_z_neg, (g_u u u6).2, cond_true, b3, m_u3 hr u6, m_u2 hr u6, m_wat hr u6, am_bi_s]
  by_cases q0 : hm 197 (9 + 8 * u) = am_z 0
  · simp only [if_pos q0, if_true]
    exact ⟨_, rfl, rfl⟩
  simp only [if_neg q0, if_neg z_10]
  by_cases q1 : hm 197 (9 + 8 * u) = am_z 1
  · obtain ⟨s1, s2⟩ := bV.2.2.2.1 q0
    generalize hss : nv (hm 197 (10 + 8 * u)) = s at *
    have s4 : s < 4 := by omega
    have e3 : hm 197 (10 + 8 * u) = am_z s := by rw [s1.1, hss]
    obtain ⟨c0, c1, c2, c3, cE, ⟨d1, -⟩, -⟩ := qr_S R s2
    simp only [if_pos q1, b4 q0, e3, c_desk n3 n1 s2, am_bt_s, (g_d s s4).2.2, cond_true, c1, c0, m_s1 hr s4, m_evr hr s4, am_bi_s]
    by_cases q2 : hm 197 (56 + 1504 * s) = am_z (-1)
    · simp only [if_pos q2]; exact ⟨_, rfl, rfl⟩
    simp only [if_neg q2]
    by_cases q3 : hm 197 (56 + 1504 * s) = am_z u
    · simp only [if_pos q3]
      have d2 := d1.2.2
      by_cases q4 : nv (hm 197 (55 + 1504 * s)) < 300
      · rw [if_pos (by rw [d1.1, am_z_lt (by omega) (by omega) (by omega) (by omega)]; omega), if_neg (by rw [d1.1, am_z_eq (by omega) (by omega) (by omega) (by omega)]; omega)]
        exact ⟨_, rfl, rfl⟩
      · rw [if_neg (by rw [d1.1, am_z_lt (by omega) (by omega) (by omega) (by omega)]; omega), if_pos (by rw [d1.1, am_z_eq (by omega) (by omega) (by omega) (by omega)]; omega)]
        exact ⟨_, rfl, rfl⟩
    · simp only [if_neg q3]; exact ⟨_, rfl, rfl⟩
  · simp only [if_neg q1]; exact ⟨_, rfl, rfl⟩
theorem q_whyNot (R : qr_R nS nU hc hm) (x : Int32) : pT (f_X9_whyNot N x hc) (f_X10_whyNot N x hm) hc hm := by
  obtain ⟨n1, n2, n3, n4, n5, n6⟩ := qr_n R
  unfold f_X9_whyNot f_X10_whyNot
  rcases qi x nU with ⟨u, hu, rfl⟩ | ⟨v, rfl, b1, b2, hv⟩
  · obtain ⟨v, a1, a2⟩ := q_stops (N := N) R hu (h1 := am_pi hm 193 0 (am_z 0)) (thr_e (by decide))
    simp only [am_z_lit, c_seat n4 n2 hu, am_bt_s, m_user n6 n2 hu, am_bi_s, m_chk1, if_neg z_10, a1, a2]
    exact pT_s rfl rfl rfl
  · refine pT_n ?_ ?_
    · simp only [c_seatn n4 n2 ⟨b1, b2⟩ hv, am_bt_n]
    · simp only [am_z_lit, m_usern n6 n2 ⟨b1, b2⟩ hv, am_bi_s, m_chk0, if_true]
theorem q_grantedAt (R : qr_R nS nU hc hm) (x : Int32) : pT (f_X9_grantedAt N x hc) (f_X10_grantedAt N x hm) hc hm := by
  obtain ⟨n1, n2, n3, n4, n5, n6⟩ := qr_n R
  unfold f_X9_grantedAt f_X10_grantedAt
  rcases qi x nS with ⟨s, hs, rfl⟩ | ⟨v, rfl, b1, b2, hv⟩
  · obtain ⟨c0, c1, c2, c3, -⟩ := qr_S R hs
    have s4 : s < 4 := by omega
    have hr : am_pi hm 193 0 (am_z 0) 197 = hm 197 := thr_e (by decide)
    have i0 : am_in (am_z 0) 2 = true := by decide
    have i1 : am_in (am_z 0) 6071 = true := by decide
    have i2 : am_in (am_z 2) 6071 = true := by decide
    simp only [am_z_lit, am_z_neg, c_desk n3 n1 hs, am_bt_s, m_sess n5 n1 hs, am_bi_s, m_chk1, if_neg z_10, m_s2 hr s4, m_s3 hr s4, (g_d s s4).2.2, cond_true, c2, i0, i1, i2, hr]
    by_cases qa : hm 197 (57 + 1504 * s) = am_z (-1)
    · simp only [if_pos qa]; exact pT_s rfl rfl rfl
    · simp only [if_neg qa, c3 qa]
      refine pT_s rfl rfl ?_
      have t1 := R.2.2.1.1
      have t2 := R.2.2.1.2.1
      rw [t1, show (25 : Nat) = 24 + 1 from rfl, t2]
      generalize hm 197 (58 + 1504 * s) + hm 197 0 = a
      generalize hm 197 2 + am_z 1 = b
      by_cases h1 : a < b
      · rw [if_pos h1, if_neg]
        rw [Int32.lt_iff_toInt_lt] at h1 ⊢
        omega
      · rw [if_neg h1]
        by_cases h2 : b < a
        · rw [if_pos h2]
        · rw [if_neg h2]
          rw [Int32.lt_iff_toInt_lt] at h1 h2
          exact Int32.toInt.inj (by omega)
  · refine pT_n ?_ ?_
    · simp only [c_deskn n3 n1 ⟨b1, b2⟩ hv, am_bt_n]
    · simp only [am_z_lit, m_sessn n5 n1 ⟨b1, b2⟩ hv, am_bi_s, m_chk0, if_true]
theorem q_behind (hN : 1000 ≤ N) (R : qr_R nS nU hc hm) (x : Int32) : pT (f_X9_behind N x hc) (f_X10_behind N x hm) hc hm := by
  obtain ⟨n1, n2, n3, n4, n5, n6⟩ := qr_n R
  unfold f_X9_behind f_X10_behind
  rcases qi x nU with ⟨u, hu, rfl⟩ | ⟨v, rfl, b1, b2, hv⟩
  · obtain ⟨b1, b2, b3, b4, b5, b6, b7, bV⟩ := qr_U R hu
    have u6 : u < 6 := by omega
    have hr : am_pi hm 193 0 (am_z 0) 197 = hm 197 := thr_e (by decide)
    simp only [am_z_lit, am_z_neg, c_seat n4 n2 hu, am_bt_s, m_user n6 n2 hu, am_bi_s, m_chk1, if_neg z_10, (g_u u u6).2, cond_true, b3, m_wat hr u6, m_u3 hr u6]
    by_cases q0 : hm 197 (9 + 8 * u) = am_z 0
    · simp only [if_pos q0, if_true]; exact pT_s rfl rfl rfl
    simp only [if_neg q0, if_neg z_10]
    have p1 := c_pos (N := N) hN n3 n1 n2 R.2.2.1 R.2.2.2.1 hu q0
    have p2 := m_pos (N := N) (hm := am_pi hm 193 0 (am_z 0)) hN n1 n2 hr R.2.2.2.1 hu q0
    obtain ⟨s1, s2⟩ := bV.2.2.2.1 q0
    generalize hss : nv (hm 197 (10 + 8 * u)) = s at *
    have s4 : s < 4 := by omega
    have e3 : hm 197 (10 + 8 * u) = am_z s := by rw [s1.1, hss]
    obtain ⟨c0, c1, c2, c3, cE, ⟨d1, -⟩, -⟩ := qr_S R s2
    simp only [b4 q0, e3, c_desk n3 n1 s2, am_bt_s, (g_d s s4).2.2, cond_true, c0, p1, p2, m_evr hr s4, am_bi_s]
    exact pT_s rfl rfl rfl
  · refine pT_n ?_ ?_
    · simp only [c_seatn n4 n2 ⟨b1, b2⟩ hv, am_bt_n]
    · simp only [am_z_lit, m_usern n6 n2 ⟨b1, b2⟩ hv, am_bi_s, m_chk0, if_true]
theorem q_user (hN : 1000 ≤ N) (R : qr_R nS nU hc hm) (x y : Int32) : pT (f_X9_user N x y hc) (f_X10_user N x y hm) hc hm := by
  obtain ⟨n1, n2, n3, n4, n5, n6⟩ := qr_n R
  unfold f_X9_user f_X10_user
  rcases qi x nU with ⟨u, hu, rfl⟩ | ⟨v, rfl, b1, b2, hv⟩
  · obtain ⟨b1, b2, b3, b4, b5, b6, b7, bV⟩ := qr_U R hu
    have u6 : u < 6 := by omega
    have hr : am_pi hm 193 0 (am_z 0) 197 = hm 197 := thr_e (by decide)
    simp only [am_z_lit, am_z_neg, c_seat n4 n2 hu, am_bt_s, m_user n6 n2 hu, am_bi_s, m_chk1, if_neg z_10, (g_u u u6).2, cond_true, b1, b2, b3, b7, m_wat hr u6, m_u0 hr u6, m_u1 hr u6, m_u2 hr u6, m_u3 hr u6, m_u6 hr u6, m_u7 hr u6]
    by_cases q0 : y.toInt = 0
    · simp only [q0, if_true]; exact pT_s rfl rfl rfl
    simp only [if_neg q0]
    by_cases q1 : y.toInt = 1
    · simp only [q1, if_true]; exact pT_s rfl rfl rfl
    simp only [if_neg q1]
    by_cases q2 : y.toInt = 2
    · simp only [q2, if_true]; exact pT_s rfl rfl rfl
    simp only [if_neg q2]
    by_cases q3 : y.toInt = 3
    · simp only [q3, if_true]
      by_cases w0 : hm 197 (9 + 8 * u) = am_z 0
      · simp only [if_pos w0, if_true]; exact pT_s rfl rfl rfl
      · simp only [if_neg w0, if_neg z_10, b4 w0]; exact pT_s rfl rfl rfl
    simp only [if_neg q3]
    by_cases q4 : y.toInt = 4
    · simp only [q4, if_true]
      by_cases w0 : hm 197 (9 + 8 * u) = am_z 0
      · simp only [if_pos w0, if_true]; exact pT_s rfl rfl rfl
      · have p1 := c_pos (N := N) hN n3 n1 n2 R.2.2.1 R.2.2.2.1 hu w0
        have p2 := m_pos (N := N) (hm := am_pi hm 193 0 (am_z 0)) hN n1 n2 hr R.2.2.2.1 hu w0
        simp only [if_neg w0, if_neg z_10, p1, p2, am_bt_s, am_bi_s]; exact pT_s rfl rfl rfl
    simp only [if_neg q4]
    by_cases q5 : y.toInt = 5
    · simp only [q5, if_true]; exact pT_s rfl rfl rfl
    simp only [if_neg q5]
    by_cases q6 : y.toInt = 6
    · simp only [q6, if_true]
      by_cases w3 : hm 197 (9 + 8 * u) = am_z 3
      · simp only [if_pos w3, (b6 w3).2]; exact pT_s rfl rfl rfl
      · simp only [if_neg w3]; exact pT_s rfl rfl (bV.2.2.2.2.2.2.1 w3).symm
    simp only [if_neg q6]
    exact pT_s rfl rfl rfl
  · refine pT_n ?_ ?_
    · simp only [c_seatn n4 n2 ⟨b1, b2⟩ hv, am_bt_n]
    · simp only [am_z_lit, m_usern n6 n2 ⟨b1, b2⟩ hv, am_bi_s, m_chk0, if_true]
theorem q_reachedAt (hN : 1000 ≤ N) (R : qr_R nS nU hc hm) (x y : Int32) : pT (f_X9_reachedAt N x y hc) (f_X10_reachedAt N x y hm) hc hm := by
  obtain ⟨n1, n2, n3, n4, n5, n6⟩ := qr_n R
  unfold f_X9_reachedAt f_X10_reachedAt
  rcases qi x nU with ⟨u, hu, rfl⟩ | ⟨v, rfl, b1, b2, hv⟩
  · obtain ⟨b1, b2, b3, b4, b5, b6, b7, bV⟩ := qr_U R hu
    have u6 : u < 6 := by omega
    have hr : am_pi hm 193 0 (am_z 0) 197 = hm 197 := thr_e (by decide)
    simp only [am_z_lit, am_z_neg, c_seat n4 n2 hu, am_bt_s, m_user n6 n2 hu, am_bi_s, m_chk1, if_neg z_10, (g_u u u6).2, cond_true, b3, m_u2 hr u6, m_u3 hr u6, m_u4 hr u6, m_u5 hr u6, m_u6 hr u6]
    by_cases w3 : hm 197 (9 + 8 * u) = am_z 3
    · have w0 : hm 197 (9 + 8 * u) ≠ am_z 0 := by rw [w3]; decide
      obtain ⟨s1, s2⟩ := bV.2.2.2.1 w0
      have v5 := bV.2.2.2.2.1 (Or.inr w3)
      have v6 := bV.2.2.2.2.2.1 w3
      generalize hss : nv (hm 197 (10 + 8 * u)) = s at *
      have s4 : s < 4 := by omega
      have e3 : hm 197 (10 + 8 * u) = am_z s := by rw [s1.1, hss]
      obtain ⟨c0, c1, c2, c3, cE, ⟨d1, -⟩, -⟩ := qr_S R s2
      have d2 := d1.2.2
      simp only [if_pos w3, b5 (Or.inr w3), b4 w0, e3, c_desk n3 n1 s2, am_bt_s, (g_d s s4).2.2, cond_true, c0, m_evr hr s4, am_bi_s, (b6 w3).1, (b6 w3).2]
      by_cases q1 : y < hm 197 (11 + 8 * u)
      · simp only [if_pos q1]; exact pT_s rfl rfl rfl
      simp only [if_neg q1]
      by_cases q2 : y ≤ hm 197 (55 + 1504 * s)
      · simp only [if_pos q2]
        by_cases q3 : y = hm 197 (11 + 8 * u)
        · simp only [if_pos q3, m_u5 hr u6, am_bi_s]; exact pT_s rfl rfl rfl
        simp only [if_neg q3]
        have v52 := v5.2.2
        obtain ⟨p, rfl, y1, y2⟩ := am_z_ex y
        rw [v5.1, Int32.lt_iff_toInt_lt, am_z_ti y1 y2, am_z_ti (by omega) (by omega)] at q1
        rw [d1.1, am_z_le y1 y2 (by omega) (by omega)] at q2
        rw [v5.1, am_z_eq y1 y2 (by omega) (by omega)] at q3
        obtain ⟨p', rfl⟩ : ∃ p' : Nat, p = (p' : Int) + 1 := ⟨p.toNat - 1, by omega⟩
        have hp : (p' : Int) + 1 - 1 = p' := by omega
        have t1 := c_tb (N := N) (e := p') (f := nv (hm 197 (11 + 8 * u))) s4 cE d2 (by omega) (by omega)
        have hsp : am_z 0 < hm 197 (13 + 8 * u) := by rw [v6.1, am_z_lt (by omega) (by omega) (by have := v6.2.2; omega) (by have := v6.2.2; omega)]; have := v6.2.1; omega
        have hs0 : ¬ (hm 197 (13 + 8 * u) = am_z 0) := by intro z; rw [z] at hsp; exact absurd hsp (by decide)
        have ef := m_e3 (N := N) (e := nv (hm 197 (11 + 8 * u))) hr s4 (by omega)
        rw [← v5.1] at t1 ef
        simp only [if_pos hsp, c_rec n3 n1 s2, am_bt_s, cond_true, (rc_f s s4).1, am_z_sub, hp, t1, am_bi_s, if_neg hs0, b5 (Or.inr w3), (b6 w3).1, (b6 w3).2, m_u5 hr u6, m_u6 hr u6, m_e3 hr s4 (show p' < 300 by omega), ef]
        exact pT_s rfl rfl rfl
      · simp only [if_neg q2]; exact pT_s rfl rfl rfl
    · simp only [if_neg w3]; exact pT_s rfl rfl rfl
  · refine pT_n ?_ ?_
    · simp only [c_seatn n4 n2 ⟨b1, b2⟩ hv, am_bt_n]
    · simp only [am_z_lit, m_usern n6 n2 ⟨b1, b2⟩ hv, am_bi_s, m_chk0, if_true]
end Q2
