section Q1
variable {N nS nU : Nat} {hc hm : am_Hp}
theorem q_errorPosition (R : qr_R nS nU hc hm) : pN (f_X9_errorPosition N hc) (f_X10_errorPosition N hm) hc hm := by
  refine ⟨hc 0 2, hc, am_pi hm 193 0 (am_z 0), rfl, ?_, cfr0, mfrp (by omega)⟩
  unfold f_X10_errorPosition
  simp (disch := decide) only [am_z_lit, am_pi_k, R.2.1.2.2.2.1]
theorem q_undoCount (R : qr_R nS nU hc hm) : pN (f_X9_undoCount N hc) (f_X10_undoCount N hm) hc hm := by
  refine ⟨hc 39 2, hc, am_pi hm 193 0 (am_z 0), rfl, ?_, cfr0, mfrp (by omega)⟩
  unfold f_X10_undoCount
  simp (disch := decide) only [am_z_lit, am_pi_k, R.2.2.2.2.2.2.1]
theorem z_div0 : (am_z 0).toInt = 0 := by decide
theorem q_countL (R : qr_R nS nU hc hm) {h1 : am_Hp} (e1 : h1 195 = hm 195) (e2 : h1 197 = hm 197) : ∀ (n u : Nat) (c : Int32), u ≤ nU → nU - u < n → ∃ v, l_X9_usersWhoWatch_4 N n c (am_z u) hc = some (some v, hc) ∧ l_X10_count_54 N n c (am_z u) h1 = some (v, h1)
  | 0, u, c, a, b => by omega
  | n + 1, u, c, a, b => by
    obtain ⟨n1, n2, n3, n4, n5, n6⟩ := qr_n R
    have i1 : am_in (am_z 1) 20 = true := by decide
    unfold l_X9_usersWhoWatch_4 l_X10_count_54
    simp only [am_z_lit, n4, i1, cond_true, e1, n6]
    by_cases q : u = nU
    · subst q
      exact ⟨c, by rw [if_pos (Int32.le_refl _)], by rw [if_pos (Int32.le_refl _)]⟩
    · have hlt : ¬ (am_z nU ≤ am_z u) := by rw [am_z_le (by omega) (by omega) (by omega) (by omega)]; omega
      have e3 : (u : Int) + 1 = ((u + 1 : Nat) : Int) := by omega
      simp only [if_neg hlt, c_seat n4 n2 (show u < nU by omega), am_bt_s, (g_u u (by omega)).2, cond_true, (qr_U R (show u < nU by omega)).2.2.1, m_wat e2 (show u < 6 by omega), am_bi_s, am_z_add, e3]
      by_cases qw : hm 197 (9 + 8 * u) = am_z 0
      · simp only [if_pos qw, if_true]
        have e4 : c + am_z 0 = c := Int32.add_zero c
        rw [e4]
        exact q_countL R e1 e2 n (u + 1) c (by omega) (by omega)
      · simp only [if_neg qw, if_neg z_10]
        exact q_countL R e1 e2 n (u + 1) _ (by omega) (by omega)
theorem q_count (hN : 1000 ≤ N) (R : qr_R nS nU hc hm) (x : Int32) : pO (f_X9_count N x hc) (f_X10_count N x hm) hc hm := by
  obtain ⟨n1, n2, n3, n4, n5, n6⟩ := qr_n R
  have i0 : am_in (am_z 0) 20 = true := by decide
  have i1 : am_in (am_z 1) 20 = true := by decide
  have i2 : am_in (am_z 2) 6071 = true := by decide
  unfold f_X9_count f_X10_count
  simp (disch := decide) only [am_z_lit, i0, i1, i2, cond_true, am_pi_a]
  by_cases q0 : x.toInt = 0
  · simp only [q0, if_true]
    exact ⟨_, _, _, rfl, by rw [n3, n5], cfr0, mfrp (by omega)⟩
  simp only [if_neg q0]
  by_cases q1 : x.toInt = 1
  · simp only [q1, if_true]
    exact ⟨_, _, _, rfl, by rw [n4, n6], cfr0, mfrp (by omega)⟩
  simp only [if_neg q1]
  by_cases q2 : x.toInt = 2
  · simp only [q2, if_true]
    obtain ⟨v, a1, a2⟩ := q_countL (N := N) R (h1 := am_pi hm 193 0 (am_z 0)) (thr_e (by decide)) (thr_e (by decide)) N 0 (am_z 0) (by omega) (by omega)
    have a1' : l_X9_usersWhoWatch_4 N N (am_z 0) (am_z 0) hc = _ := a1
    have a2' : l_X10_count_54 N N (am_z 0) (am_z 0) (am_pi hm 193 0 (am_z 0)) = _ := a2
    unfold f_X9_usersWhoWatch
    rw [am_z_lit, a1', am_bt_s, a2']
    exact ⟨_, _, _, rfl, rfl, cfr0, mfrp (by omega)⟩
  simp only [if_neg q2]
  by_cases q3 : x.toInt = 3
  · simp only [q3, if_true]
    exact ⟨_, _, _, rfl, by rw [R.2.2.1.1], cfr0, mfrp (by omega)⟩
  simp only [if_neg q3]
  exact ⟨_, _, _, rfl, rfl, cfr0, mfrp (by omega)⟩
theorem q_getSetting (R : qr_R nS nU hc hm) (x : Int32) : pN (f_X9_getSetting N x hc) (f_X10_getSetting N x hm) hc hm := by
  obtain ⟨v, rfl, b1, b2⟩ := am_z_ex x
  unfold f_X9_getSetting f_X10_getSetting f_X10_isSetting
  simp (disch := omega) only [am_z_lit, am_z_lt, am_z_eq, am_z_and1, am_z_and0, if_true]
  by_cases q0 : v = 0
  · subst q0
    have i : am_in (am_z 0) 2 = true := by decide
    have i2 : am_in (am_z 0 + am_z 0) 6071 = true := by decide
    simp (disch := decide) only [if_true, if_neg z_10, am_bi_s, i, i2, cond_true]
    refine ⟨hc 25 0, hc, am_pi hm 193 0 (am_z 0), ?_, ?_, cfr0, mfrp (by omega)⟩
    · rw [if_neg (by omega), if_pos (by omega)]; rfl
    · rw [am_pi_a (by decide), R.2.2.1.2.1]; rfl
  · by_cases q1 : v = 1
    · subst q1
      have i : am_in (am_z 1) 2 = true := by decide
      have i2 : am_in (am_z 0 + am_z 1) 6071 = true := by decide
      simp (disch := decide) only [if_true, if_neg z_10, if_neg q0, am_bi_s, i, i2, cond_true]
      refine ⟨hc 25 1, hc, am_pi hm 193 0 (am_z 0), ?_, ?_, cfr0, mfrp (by omega)⟩
      · rw [if_neg (by omega), if_pos (by omega)]; rfl
      · rw [am_pi_a (by decide), R.2.2.1.2.2.1]; rfl
    · simp only [if_neg q0, if_neg q1, am_bi_s, if_true]
      refine ⟨-am_z 2, hc, am_pi hm 193 0 (am_z 0), ?_, rfl, cfr0, mfrp (by omega)⟩
      by_cases q : v < 0
      · rw [if_pos q]
      · rw [if_neg q, if_neg (by omega)]
theorem q_account (R : qr_R nS nU hc hm) (x : Int32) : pN (f_X9_account N x hc) (f_X10_account N x hm) hc hm := by
  obtain ⟨v, rfl, b1, b2⟩ := am_z_ex x
  unfold f_X9_account f_X10_account
  simp (disch := omega) only [am_z_lit, am_z_lt, am_z_le, am_z_add]
  by_cases q0 : v < 0
  · simp only [if_pos q0]
    exact ⟨_, _, _, rfl, rfl, cfr0, mfrp (by omega)⟩
  simp only [if_neg q0]
  by_cases q1 : v < 4
  · rw [if_pos q1, if_pos (by omega)]
    have e : (3 + v).toNat = 3 + v.toNat := by omega
    simp (disch := first | omega | decide) only [am_z_int, cond_true, am_z_cl, am_pi_a, e]
    exact ⟨_, _, _, rfl, by rw [R.2.2.1.2.2.2.1 v.toNat (by omega)], cfr0, mfrp (by omega)⟩
  · rw [if_neg q1, if_neg (by omega)]
    exact ⟨_, _, _, rfl, rfl, cfr0, mfrp (by omega)⟩
theorem q_session (R : qr_R nS nU hc hm) (x y : Int32) : pT (f_X9_session N x y hc) (f_X10_session N x y hm) hc hm := by
  obtain ⟨n1, n2, n3, n4, n5, n6⟩ := qr_n R
  rcases qi x nS with ⟨s, hs, rfl⟩ | ⟨v, rfl, b1, b2, hv⟩
  · obtain ⟨c0, c1, c2, c3, -⟩ := qr_S R hs
    have s4 : s < 4 := by omega
    have hr : am_pi hm 193 0 (am_z 0) 197 = hm 197 := thr_e (by decide)
    have t := R.1.2.2.2.2.2.2.2.2.2.2.1 s hs
    unfold f_X9_session f_X10_session
    simp only [am_z_lit, am_z_neg, c_desk n3 n1 hs, am_bt_s, m_sess n5 n1 hs, am_bi_s, m_chk1, if_neg z_10, c_size0 n3 n1 hs, c_size1 n3 n1 hs, m_evr hr s4, m_s1 hr s4, m_s2 hr s4, m_s3 hr s4, (g_d s s4).2.2, cond_true, c0, c1, c2]
    by_cases q0 : y.toInt = 0
    · simp (disch := omega) only [q0, if_true, am_z_add, am_z_int, cond_true, am_z_cl]
      refine pT_s rfl rfl ?_
      have e : (12 + (s : Int)).toNat = 12 + s := by omega
      rw [e, am_pi_a (by decide)]; exact t.2.1
    simp only [if_neg q0]
    by_cases q1 : y.toInt = 1
    · simp (disch := omega) only [q1, if_true, am_z_add, am_z_int, cond_true, am_z_cl]
      refine pT_s rfl rfl ?_
      have e : (16 + (s : Int)).toNat = 16 + s := by omega
      rw [e, am_pi_a (by decide)]; exact t.2.2.1
    simp only [if_neg q1]
    by_cases q2 : y.toInt = 2
    · simp only [q2, if_true]; exact pT_s rfl rfl rfl
    simp only [if_neg q2]
    by_cases q3 : y.toInt = 3
    · simp only [q3, if_true]; exact pT_s rfl rfl rfl
    simp only [if_neg q3]
    by_cases q4 : y.toInt = 4
    · simp only [q4, if_true]; exact pT_s rfl rfl rfl
    simp only [if_neg q4]
    by_cases q5 : y.toInt = 5
    · simp only [q5, if_true]
      by_cases qa : hm 197 (57 + 1504 * s) = am_z (-1)
      · simp only [if_pos qa]; exact pT_s rfl rfl rfl
      · simp only [if_neg qa]; exact pT_s rfl rfl (c3 qa)
    simp only [if_neg q5]
    exact pT_s rfl rfl rfl
  · unfold f_X9_session f_X10_session
    refine pT_n ?_ ?_
    · simp only [c_deskn n3 n1 ⟨b1, b2⟩ hv, am_bt_n]
    · simp only [am_z_lit, m_sessn n5 n1 ⟨b1, b2⟩ hv, am_bi_s, m_chk0, if_true]
theorem q_event (R : qr_R nS nU hc hm) (x y z : Int32) : pT (f_X9_event N x y z hc) (f_X10_event N x y z hm) hc hm := by
  obtain ⟨n1, n2, n3, n4, n5, n6⟩ := qr_n R
  rcases qi x nS with ⟨s, hs, rfl⟩ | ⟨v, rfl, b1, b2, hv⟩
  · obtain ⟨c0, c1, c2, c3, cE, ⟨d1, -⟩, -⟩ := qr_S R hs
    have s4 : s < 4 := by omega
    have hr : am_pi hm 193 0 (am_z 0) 197 = hm 197 := thr_e (by decide)
    unfold f_X9_event f_X10_event
    simp only [am_z_lit, am_z_neg, c_desk n3 n1 hs, am_bt_s, m_sess n5 n1 hs, am_bi_s, m_chk1, if_neg z_10, m_evr hr s4, (g_d s s4).2.2, cond_true, c0, c_rec n3 n1 hs, (rc_f s s4).1]
    obtain ⟨w, rfl, b1, b2⟩ := am_z_ex y
    have ew : (am_z w < am_z 0) = (w < 0) := am_z_lt b1 b2 (by omega) (by omega)
    simp only [ew]
    by_cases q0 : w < 0
    · simp only [if_pos q0]; exact pT_s rfl rfl rfl
    simp only [if_neg q0]
    obtain ⟨e, rfl⟩ : ∃ e : Nat, w = e := ⟨w.toNat, by omega⟩
    have d2 := d1.2.2
    by_cases q1 : e < nv (hm 197 (55 + 1504 * s))
    · have hlt : am_z e < hm 197 (55 + 1504 * s) := by rw [d1.1, am_z_lt b1 b2 (by omega) (by omega)]; omega
      have e3 : e < 300 := by omega
      have k0 : f_X3_number N (165 + 7 * s) (am_z 0) (am_z e) hc = _ := c_num3 (k := 0) s4 cE d2 q1 (by decide)
      have k1 : f_X3_number N (165 + 7 * s) (am_z 1) (am_z e) hc = _ := c_num3 (k := 1) s4 cE d2 q1 (by decide)
      have k2 : f_X3_number N (165 + 7 * s) (am_z 2) (am_z e) hc = _ := c_num3 (k := 2) s4 cE d2 q1 (by decide)
      have k3 : f_X3_number N (165 + 7 * s) (am_z 3) (am_z e) hc = _ := c_num3 (k := 3) s4 cE d2 q1 (by decide)
      simp only [if_pos hlt, k0, k1, k2, k3, am_bi_s]
      obtain ⟨zz, rfl, z1, z2⟩ := am_z_ex z
      rw [am_z_ti z1 z2]
      simp (disch := omega) only [am_z_lt, am_z_le]
      by_cases r0 : zz = 0
      · subst r0
        simp only [if_true, m_e0 hr s4 e3, am_bi_s]
        rw [if_neg (by omega), if_pos (by omega)]; exact pT_s rfl rfl rfl
      by_cases r1 : zz = 1
      · subst r1
        simp only [if_true, if_neg r0, m_e1 hr s4 e3, am_bi_s]
        rw [if_neg (by omega), if_pos (by omega)]; refine pT_s rfl rfl (by congr 1; omega)
      by_cases r2 : zz = 2
      · subst r2
        simp only [if_true, if_neg r0, if_neg r1, m_e2 hr s4 e3, am_bi_s]
        rw [if_neg (by omega), if_pos (by omega)]; refine pT_s rfl rfl (by congr 1; omega)
      by_cases r3 : zz = 3
      · subst r3
        simp only [if_true, if_neg r0, if_neg r1, if_neg r2, m_e3 hr s4 e3, am_bi_s]
        rw [if_neg (by omega), if_pos (by omega)]; refine pT_s rfl rfl (by congr 1; omega)
      simp only [if_neg r0, if_neg r1, if_neg r2, if_neg r3]
      refine pT_s rfl (v' := am_z (-2)) ?_ rfl
      by_cases rn : zz < 0
      · rw [if_pos rn]
      · rw [if_neg rn, if_neg (by omega)]
    · have hlt : ¬ (am_z e < hm 197 (55 + 1504 * s)) := by rw [d1.1, am_z_lt b1 b2 (by omega) (by omega)]; omega
      simp only [if_neg hlt]; exact pT_s rfl rfl rfl
  · unfold f_X9_event f_X10_event
    refine pT_n ?_ ?_
    · simp only [c_deskn n3 n1 ⟨b1, b2⟩ hv, am_bt_n]
    · simp only [am_z_lit, m_sessn n5 n1 ⟨b1, b2⟩ hv, am_bi_s, m_chk0, if_true]
end Q1
