section CH2
variable {N nS nU : Nat} {hc hm : am_Hp}
/-- a position of a session, on both sides -/
theorem q_isp (R : qr_R nS nU hc hm) {s : Nat} (hs : s < nS) (y : Int32) : (∃ p : Nat, p ≤ nv (hm 197 (55 + 1504 * s)) ∧ y = am_z p ∧ ¬ (y < am_z 0) ∧ y ≤ hm 197 (55 + 1504 * s) ∧ ∀ h, h 195 0 = am_z nS → h 197 = hm 197 → f_X10_isPosition N (am_z s) y h = some (am_z 1, h)) ∨ ((y < am_z 0 ∨ (¬ (y < am_z 0) ∧ ¬ (y ≤ hm 197 (55 + 1504 * s)))) ∧ ∀ h, h 195 0 = am_z nS → h 197 = hm 197 → f_X10_isPosition N (am_z s) y h = some (am_z 0, h)) := by
  obtain ⟨n1, n2, -⟩ := qr_n R
  obtain ⟨c0, c1, c2, c3, cE, ⟨d1, -⟩, -⟩ := qr_S R hs
  have s4 : s < 4 := by omega
  obtain ⟨d1, d2, d3⟩ := d1
  generalize hE : nv (hm 197 (55 + 1504 * s)) = E at *
  rw [d1]
  obtain ⟨v, rfl, b1, b2⟩ := am_z_ex y
  have e1 : (am_z v < am_z 0) = (v < 0) := am_z_lt b1 b2 (by omega) (by omega)
  have e2 : (am_z v ≤ am_z E) = (v ≤ E) := am_z_le b1 b2 (by omega) (by omega)
  have e3 : (am_z E < am_z v) = ((E : Int) < v) := am_z_lt (by omega) (by omega) b1 b2
  by_cases q : 0 ≤ v ∧ v ≤ E
  · refine Or.inl ⟨v.toNat, by omega, by congr 1; omega, by rw [e1]; omega, by rw [e2]; omega, fun h h1 h2 => ?_⟩
    have z1 : ¬ (v < 0) := by omega
    have z2 : ¬ ((E : Int) < v) := by omega
    unfold f_X10_isPosition
    simp only [am_z_lit, m_sess h1 n1 hs, am_bi_s, if_neg z_10, e1, if_neg z1, m_evr h2 s4, d1, e3, if_neg z2, am_z_and1, if_true]
  · refine Or.inr ⟨by rw [e1, e2]; omega, fun h h1 h2 => ?_⟩
    unfold f_X10_isPosition
    simp only [am_z_lit, m_sess h1 n1 hs, am_bi_s, if_neg z_10, e1, m_evr h2 s4, d1, e3, am_z_and0, if_true]
    by_cases z1 : v < 0
    · rw [if_pos z1]
    · rw [if_neg z1, if_pos (by omega)]
theorem q_goTo (hN : 60000 ≤ N) (R : qr_R nS nU hc hm) (x y : Int32) : pS nS nU (f_X9_goTo N x y hc) (f_X10_goTo N x y hm) hc hm := by
  obtain ⟨n1, n2, n3, n4, n5, n6⟩ := qr_n R
  have R1 : qr_R nS nU hc (am_pi hm 193 0 (am_z 0)) := R_thr R
  obtain ⟨-, -, -, -, m5, m6⟩ := qr_n R1
  have hr : am_pi hm 193 0 (am_z 0) 197 = hm 197 := thr_e (by decide)
  unfold f_X9_goTo f_X10_goTo
  rcases qi x nU with ⟨u, hu, rfl⟩ | ⟨v, rfl, b1, b2, hv⟩
  · have u6 : u < 6 := by omega
    by_cases q0 : hm 197 (9 + 8 * u) = am_z 0
    · refine pS_no R (v := am_z (-4)) (w := am_z 0) ?_ ?_
      · simp only [am_z_lit, am_z_neg, c_why R hu, am_bt_s, if_pos q0, if_neg z_40]
      · simp only [am_z_lit, am_z_neg, m_user m6 n2 hu, am_bi_s, if_neg z_10, m_wat hr u6, if_pos q0, if_true]
    · obtain ⟨-, -, -, f4, -, -, -, fV⟩ := qr_U R hu
      obtain ⟨s1, s2⟩ := fV.2.2.2.1 q0
      generalize hss : nv (hm 197 (10 + 8 * u)) = s at *
      have s4 : s < 4 := by omega
      have e3 : hm 197 (10 + 8 * u) = am_z s := by rw [s1.1, hss]
      obtain ⟨c0, -, -, -, -, ⟨d1, -⟩, -⟩ := qr_S R s2
      rcases q_isp (N := N) R s2 y with ⟨p, hp, rfl, y1, y2, y3⟩ | ⟨y1, y2⟩
      · obtain ⟨c2, m2, k1, k2, R2, kf1, kf2, kf3⟩ := q_keep hN R1
        have hr2 : m2 197 = hm 197 := (kf2 _ (by decide) (by decide)).trans hr
        obtain ⟨c3, m3, l1, l2, R3, nu, lf1, lf2, lf3⟩ := q_lose (N := N) R2 hu
        obtain ⟨-, -, k3, k4, -, -⟩ := qr_n R2
        have q0' : m2 197 (9 + 8 * u) ≠ am_z 0 := by rw [hr2]; exact q0
        have p1 := c_pos (N := N) (by omega) k3 n1 n2 R2.2.2.1 R2.2.2.2.1 hu q0'
        have p2 := m_pos (N := N) (by omega) n1 n2 rfl R2.2.2.2.1 hu q0'
        obtain ⟨m4, w1, w2, w3, w4, w5, w6, w7, w8⟩ := m_win (N := N) (h := m3) (w := am_z 2) (x := am_z s) (p := am_z p) (sp := am_z 0) u6
        obtain ⟨-, -, -, -, -, -, b7, bV⟩ := qr_U R3 hu
        have ev : m3 197 (55 + 1504 * s) = hm 197 (55 + 1504 * s) := by rw [lf3 _ (Or.inr ⟨s, rfl⟩), hr2]
        have h300 := d1.2.2
        have R4 : qr_R nS nU (am_pi (am_pi c3 (33 + u) 2 (am_z 2)) (33 + u) 4 (am_z p)) m4 := by
          refine qr_way R3 (w := am_z 2) (x := am_z s) (p := am_z p) (st := am_z 0) (sp := am_z 0) (lb := m3 197 (14 + 8 * u)) hu (fun a ha => by rw [qc_pia ha, qc_pia ha]) w2 (fun k hk => w3 k (by omega)) w4 w5 w6 (by rw [w7, if_neg (by decide)]) w8 (w3 _ (by omega)) ?_ ?_ ?_ ?_ ?_ ?_ ?_ (vn_z (n := 2) (by decide) (by decide) (by decide)) ?_ ?_ ?_ (fun _ => rfl) bV.2.2.2.2.2.2.2 (fun s' hs' z => absurd z (not_or.mpr (nu s' hs')))
          · rw [am_pi_k (by decide), am_pi_k (by decide)]
          · rw [am_pi_k (by decide), am_pi_k (by decide)]
          · rw [am_pi_k (by decide), am_pi_s]
          · intro _; rw [am_pi_k (by decide), am_pi_k (by decide), lf1 _ (by omega), kf1 _ (by omega), f4 q0, e3]
          · intro _; exact am_pi_s _ _ _ _
          · intro z; exact absurd z (by decide)
          · rw [am_pi_k (by decide), am_pi_k (by decide)]; exact b7
          · intro _; rw [nv_z (by omega)]; exact ⟨vn_z (by omega) (by omega) (by omega), s2⟩
          · intro _; rw [nv_z (by omega), ev]; exact vn_z (by omega) (by omega) hp
          · intro z; exact absurd z (by decide)
        obtain ⟨c5, m5', t1, t2, R5, sf⟩ := q_settle (N := N) (by omega) R4
        refine ⟨am_z (rPos (m2 197) u), c5, m5', ?_, ?_, R5, ?_, ?_⟩
        · simp only [am_z_lit, c_why R hu, am_bt_s, if_neg q0, if_true, c_seat n4 n2 hu, if_neg y1, (g_u u u6).2, cond_true, f4 q0, e3, c_desk n3 n1 s2, (g_d s s4).2.2, c0, if_pos y2, k1, am_bi_s, p1, l1, t1]
        · simp only [am_z_lit, m_user m6 n2 hu, am_bi_s, if_neg z_10, m_wat hr u6, if_neg q0, m_u3 hr u6, e3, y3 _ m5 hr, k2, p2, l2, w1, t2]
        · refine cFt (fun a ha => kf1 a (by omega)) (cFt (fun a ha => lf1 a (by omega)) (cFt (fun a ha => ?_) (sF_c sf)))
          rw [qc_pia (by omega), qc_pia (by omega)]
        · exact mFt (mF_p (by decide)) (mFt (fun a ha => kf2 a (by omega) (by omega)) (mFt (fun a ha => lf2 a (by omega)) (mFt (fun a ha => w2 a (by omega)) (sF_M sf))))
      · refine pS_no R (v := am_z (-2)) (w := am_z 0) ?_ ?_
        · simp only [am_z_lit, am_z_neg, c_why R hu, am_bt_s, if_neg q0, if_true, c_seat n4 n2 hu, (g_u u u6).2, cond_true, f4 q0, e3, c_desk n3 n1 s2, (g_d s s4).2.2, c0]
          rcases y1 with y1 | ⟨y1, y3⟩
          · rw [if_pos y1]
          · rw [if_neg y1, if_neg y3]
        · simp only [am_z_lit, am_z_neg, m_user m6 n2 hu, am_bi_s, if_neg z_10, m_wat hr u6, if_neg q0, m_u3 hr u6, e3, y2 _ m5 hr, if_true]
  · refine pS_no R (v := am_z (-1)) (w := am_z 0) ?_ ?_
    · have z : ¬ (am_z (-1) = am_z 0) := by decide
      simp only [am_z_lit, am_z_neg, c_whyn R ⟨b1, b2⟩ hv, am_bt_s, if_neg z]
    · simp only [am_z_lit, am_z_neg, m_usern m6 n2 ⟨b1, b2⟩ hv, am_bi_s, if_true]
theorem q_goLive (hN : 60000 ≤ N) (R : qr_R nS nU hc hm) (x : Int32) : pS nS nU (f_X9_goLive N x hc) (f_X10_goLive N x hm) hc hm := by
  obtain ⟨n1, n2, n3, n4, n5, n6⟩ := qr_n R
  have R1 : qr_R nS nU hc (am_pi hm 193 0 (am_z 0)) := R_thr R
  obtain ⟨-, -, -, -, m5, m6⟩ := qr_n R1
  have hr : am_pi hm 193 0 (am_z 0) 197 = hm 197 := thr_e (by decide)
  unfold f_X9_goLive f_X10_goLive
  rcases qi x nU with ⟨u, hu, rfl⟩ | ⟨v, rfl, b1, b2, hv⟩
  · have u6 : u < 6 := by omega
    by_cases q0 : hm 197 (9 + 8 * u) = am_z 0
    · refine pS_no R (v := am_z (-4)) (w := am_z 0) ?_ ?_
      · simp only [am_z_lit, am_z_neg, c_why R hu, am_bt_s, if_pos q0, if_neg z_40]
      · simp only [am_z_lit, am_z_neg, m_user m6 n2 hu, am_bi_s, if_neg z_10, m_wat hr u6, if_pos q0, if_true]
    · obtain ⟨c2, m2, k1, k2, R2, kf1, kf2, kf3⟩ := q_keep hN R1
      have hr2 : m2 197 = hm 197 := (kf2 _ (by decide) (by decide)).trans hr
      obtain ⟨-, -, k3, k4, -, -⟩ := qr_n R2
      have q0' : m2 197 (9 + 8 * u) ≠ am_z 0 := by rw [hr2]; exact q0
      have p1 := c_pos (N := N) (by omega) k3 n1 n2 R2.2.2.1 R2.2.2.2.1 hu q0'
      have p2 := m_pos (N := N) (by omega) n1 n2 rfl R2.2.2.2.1 hu q0'
      obtain ⟨-, -, -, f4, -, -, b7, fV⟩ := qr_U R2 hu
      obtain ⟨s1, s2⟩ := fV.2.2.2.1 q0'
      have hp := hP_of R2 hu
      obtain ⟨m4, w1, w2, w3, w4, w5, w6, w7, w8⟩ := m_win (N := N) (h := m2) (w := am_z 1) (x := m2 197 (10 + 8 * u)) (p := am_z 0) (sp := am_z 0) u6
      have R4 : qr_R nS nU (am_pi c2 (33 + u) 2 (am_z 1)) m4 := by
        refine qr_way R2 (w := am_z 1) (x := m2 197 (10 + 8 * u)) (p := am_z 0) (st := am_z 0) (sp := am_z 0) (lb := m2 197 (14 + 8 * u)) hu (fun a ha => by rw [qc_pia ha]) w2 (fun k hk => w3 k (by omega)) w4 w5 w6 (by rw [w7, if_neg (by decide)]) w8 (w3 _ (by omega)) ?_ ?_ ?_ ?_ ?_ ?_ ?_ (vn_z (n := 1) (by decide) (by decide) (by decide)) ?_ ?_ ?_ (fun _ => rfl) fV.2.2.2.2.2.2.2 (fun s' hs' z => ⟨rfl, (hp s' hs' z).2⟩)
        · rw [am_pi_k (by decide)]
        · rw [am_pi_k (by decide)]
        · rw [am_pi_s]
        · intro _; rw [am_pi_k (by decide), f4 q0']
        · intro z; rcases z with z | z <;> exact absurd z (by decide)
        · intro z; exact absurd z (by decide)
        · rw [am_pi_k (by decide)]; exact b7
        · intro _; exact ⟨s1, s2⟩
        · intro z; rcases z with z | z <;> exact absurd z (by decide)
        · intro z; exact absurd z (by decide)
      obtain ⟨c5, m5', t1, t2, R5, sf⟩ := q_settle (N := N) (by omega) R4
      refine ⟨am_z (rPos (m2 197) u), c5, m5', ?_, ?_, R5, ?_, ?_⟩
      · simp only [am_z_lit, c_why R hu, am_bt_s, if_neg q0, if_true, c_seat n4 n2 hu, (g_u u u6).2, cond_true, k1, am_bi_s, p1, t1]
      · simp only [am_z_lit, m_user m6 n2 hu, am_bi_s, if_neg z_10, m_wat hr u6, if_neg q0, k2, p2, m_u3 (h := m2) rfl u6, w1, t2]
      · exact cFt (fun a ha => kf1 a (by omega)) (cFt (cF_p (by omega)) (sF_c sf))
      · exact mFt (mF_p (by decide)) (mFt (fun a ha => kf2 a (by omega) (by omega)) (mFt (fun a ha => w2 a (by omega)) (sF_M sf)))
  · refine pS_no R (v := am_z (-1)) (w := am_z 0) ?_ ?_
    · have z : ¬ (am_z (-1) = am_z 0) := by decide
      simp only [am_z_lit, am_z_neg, c_whyn R ⟨b1, b2⟩ hv, am_bt_s, if_neg z]
    · simp only [am_z_lit, am_z_neg, m_usern m6 n2 ⟨b1, b2⟩ hv, am_bi_s, if_true]
theorem q_replay (hN : 60000 ≤ N) (R : qr_R nS nU hc hm) (x y z : Int32) : pS nS nU (f_X9_replay N x y z hc) (f_X10_replay N x y z hm) hc hm := by
  obtain ⟨n1, n2, n3, n4, n5, n6⟩ := qr_n R
  have R1 : qr_R nS nU hc (am_pi hm 193 0 (am_z 0)) := R_thr R
  obtain ⟨-, -, -, -, m5, m6⟩ := qr_n R1
  have hr : am_pi hm 193 0 (am_z 0) 197 = hm 197 := thr_e (by decide)
  unfold f_X9_replay f_X10_replay
  rcases qi x nU with ⟨u, hu, rfl⟩ | ⟨v, rfl, b1, b2, hv⟩
  · have u6 : u < 6 := by omega
    by_cases q0 : hm 197 (9 + 8 * u) = am_z 0
    · refine pS_no R (v := am_z (-4)) (w := am_z 0) ?_ ?_
      · simp only [am_z_lit, am_z_neg, c_why R hu, am_bt_s, if_pos q0, if_neg z_40]
      · simp only [am_z_lit, am_z_neg, m_user m6 n2 hu, am_bi_s, if_neg z_10, m_wat hr u6, if_pos q0, if_true]
    · obtain ⟨-, -, -, f4, -, -, -, fV⟩ := qr_U R hu
      obtain ⟨s1, s2⟩ := fV.2.2.2.1 q0
      generalize hss : nv (hm 197 (10 + 8 * u)) = s at *
      have s4 : s < 4 := by omega
      have e3 : hm 197 (10 + 8 * u) = am_z s := by rw [s1.1, hss]
      obtain ⟨c0, -, -, -, -, ⟨d1, -⟩, -⟩ := qr_S R s2
      obtain ⟨sp, rfl, b1, b2⟩ := am_z_ex z
      have ea : (am_z sp < am_z 10) = (sp < 10) := am_z_lt b1 b2 (by omega) (by omega)
      have eb : (am_z 1000 < am_z sp) = (1000 < sp) := am_z_lt (by omega) (by omega) b1 b2
      by_cases qa : sp < 10
      · refine pS_no R (v := am_z (-2)) (w := am_z 0) ?_ ?_
        · simp only [am_z_lit, am_z_neg, c_why R hu, am_bt_s, if_neg q0, if_true, c_seat n4 n2 hu, ea, if_pos qa]
        · simp only [am_z_lit, am_z_neg, m_user m6 n2 hu, am_bi_s, if_neg z_10, m_wat hr u6, if_neg q0, m_u3 hr u6, e3, ea, if_pos qa]
      by_cases qb : 1000 < sp
      · refine pS_no R (v := am_z (-2)) (w := am_z 0) ?_ ?_
        · simp only [am_z_lit, am_z_neg, c_why R hu, am_bt_s, if_neg q0, if_true, c_seat n4 n2 hu, ea, if_neg qa, eb, if_pos qb]
        · simp only [am_z_lit, am_z_neg, m_user m6 n2 hu, am_bi_s, if_neg z_10, m_wat hr u6, if_neg q0, m_u3 hr u6, e3, ea, if_neg qa, eb, if_pos qb]
      obtain ⟨sn, rfl⟩ : ∃ sn : Nat, sp = sn := ⟨sp.toNat, by omega⟩
      rcases q_isp (N := N) R s2 y with ⟨p, hp, rfl, y1, y2, y3⟩ | ⟨y1, y2⟩
      · obtain ⟨c2, m2, k1, k2, R2, kf1, kf2, kf3⟩ := q_keep hN R1
        have hr2 : m2 197 = hm 197 := (kf2 _ (by decide) (by decide)).trans hr
        obtain ⟨c3, m3, l1, l2, R3, nu, lf1, lf2, lf3⟩ := q_lose (N := N) R2 hu
        obtain ⟨m4, w1, w2, w3, w4, w5, w6, w7, w8⟩ := m_win (N := N) (h := m3) (w := am_z 3) (x := am_z s) (p := am_z p) (sp := am_z sn) u6
        rw [if_pos rfl] at w7
        obtain ⟨-, -, -, -, -, -, b7, bV⟩ := qr_U R3 hu
        have ev : m3 197 (55 + 1504 * s) = hm 197 (55 + 1504 * s) := by rw [lf3 _ (Or.inr ⟨s, rfl⟩), hr2]
        have h300 := d1.2.2
        have et : c3 24 0 = m3 197 2 := R3.2.2.1.1
        have R4 : qr_R nS nU (am_pi (am_pi (am_pi (am_pi c3 (33 + u) 2 (am_z 3)) (33 + u) 4 (am_z p)) (33 + u) 6 (am_z sn)) (33 + u) 5 (c3 24 0)) m4 := by
          refine qr_way R3 (w := am_z 3) (x := am_z s) (p := am_z p) (st := c3 24 0) (sp := am_z sn) (lb := m3 197 (14 + 8 * u)) hu (fun a ha => by rw [qc_pia ha, qc_pia ha, qc_pia ha, qc_pia ha]) w2 (fun k hk => w3 k (by omega)) w4 w5 w6 (by rw [w7, et]) w8 (w3 _ (by omega)) ?_ ?_ ?_ ?_ ?_ ?_ ?_ (vn_z (n := 3) (by decide) (by decide) (by decide)) ?_ ?_ ?_ (fun z => absurd rfl z) bV.2.2.2.2.2.2.2 (fun s' hs' z => absurd z (not_or.mpr (nu s' hs')))
          · rw [am_pi_k (by decide), am_pi_k (by decide), am_pi_k (by decide), am_pi_k (by decide)]
          · rw [am_pi_k (by decide), am_pi_k (by decide), am_pi_k (by decide), am_pi_k (by decide)]
          · rw [am_pi_k (by decide), am_pi_k (by decide), am_pi_k (by decide), am_pi_s]
          · intro _; rw [am_pi_k (by decide), am_pi_k (by decide), am_pi_k (by decide), am_pi_k (by decide), lf1 _ (by omega), kf1 _ (by omega), f4 q0, e3]
          · intro _; rw [am_pi_k (by decide), am_pi_k (by decide), am_pi_s]
          · intro _; rw [am_pi_s, am_pi_k (by decide), am_pi_s]; exact ⟨rfl, rfl⟩
          · rw [am_pi_k (by decide), am_pi_k (by decide), am_pi_k (by decide), am_pi_k (by decide)]; exact b7
          · intro _; rw [nv_z (by omega)]; exact ⟨vn_z (by omega) (by omega) (by omega), s2⟩
          · intro _; rw [nv_z (by omega), ev]; exact vn_z (by omega) (by omega) hp
          · intro _; exact vn_z (by omega) (by omega) (by omega)
        have e24 : am_pi (am_pi (am_pi c3 (33 + u) 2 (am_z 3)) (33 + u) 4 (am_z p)) (33 + u) 6 (am_z sn) 24 0 = c3 24 0 := by
          rw [qc_pia (by omega), qc_pia (by omega), qc_pia (by omega)]
        obtain ⟨c5, m5', t1, t2, R5, sf⟩ := q_settle (N := N) (by omega) R4
        obtain ⟨-, -, k3, k4, -, -⟩ := qr_n R5
        have q3 : m5' 197 (9 + 8 * u) ≠ am_z 0 := by rw [sf.2.2.2.2.1 _ (by omega), w4]; decide
        have p1 := c_pos (N := N) (by omega) k3 n1 n2 R5.2.2.1 R5.2.2.2.1 hu q3
        have p2 := m_pos (N := N) (by omega) n1 n2 rfl R5.2.2.2.1 hu q3
        refine ⟨am_z (rPos (m5' 197) u), c5, m5', ?_, ?_, R5, ?_, ?_⟩
        · simp only [am_z_lit, c_why R hu, am_bt_s, if_neg q0, if_true, c_seat n4 n2 hu, ea, if_neg qa, eb, if_neg qb, if_neg y1, (g_u u u6).2, cond_true, f4 q0, e3, c_desk n3 n1 s2, (g_d s s4).2.2, c0, if_pos y2, k1, am_bi_s, l1, e24, t1, p1]
        · simp only [am_z_lit, m_user m6 n2 hu, am_bi_s, if_neg z_10, m_wat hr u6, if_neg q0, m_u3 hr u6, e3, ea, if_neg qa, eb, if_neg qb, y3 _ m5 hr, k2, l2, w1, t2, p2]
        · refine cFt (fun a ha => kf1 a (by omega)) (cFt (fun a ha => lf1 a (by omega)) (cFt (fun a ha => ?_) (sF_c sf)))
          rw [qc_pia (by omega), qc_pia (by omega), qc_pia (by omega), qc_pia (by omega)]
        · exact mFt (mF_p (by decide)) (mFt (fun a ha => kf2 a (by omega) (by omega)) (mFt (fun a ha => lf2 a (by omega)) (mFt (fun a ha => w2 a (by omega)) (sF_M sf))))
      · refine pS_no R (v := am_z (-2)) (w := am_z 0) ?_ ?_
        · simp only [am_z_lit, am_z_neg, c_why R hu, am_bt_s, if_neg q0, if_true, c_seat n4 n2 hu, ea, if_neg qa, eb, if_neg qb, (g_u u u6).2, cond_true, f4 q0, e3, c_desk n3 n1 s2, (g_d s s4).2.2, c0]
          rcases y1 with y1 | ⟨y1, y3⟩
          · rw [if_pos y1]
          · rw [if_neg y1, if_neg y3]
        · simp only [am_z_lit, am_z_neg, m_user m6 n2 hu, am_bi_s, if_neg z_10, m_wat hr u6, if_neg q0, m_u3 hr u6, e3, ea, if_neg qa, eb, if_neg qb, y2 _ m5 hr, if_true]
  · refine pS_no R (v := am_z (-1)) (w := am_z 0) ?_ ?_
    · have z : ¬ (am_z (-1) = am_z 0) := by decide
      simp only [am_z_lit, am_z_neg, c_whyn R ⟨b1, b2⟩ hv, am_bt_s, if_neg z]
    · simp only [am_z_lit, am_z_neg, m_usern m6 n2 ⟨b1, b2⟩ hv, am_bi_s, if_true]
end CH2
