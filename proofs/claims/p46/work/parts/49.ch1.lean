section CH1
variable {N nS nU : Nat} {hc hm : am_Hp}
theorem m_win {h : am_Hp} {u : Nat} {w x p sp : Int32} (hu : u < 6) : ∃ h', f_X10_watchesIn N (am_z u) w x p sp h = some ((), h') ∧ (∀ a, a ≠ 197 → h' a = h a) ∧ (∀ k, ¬ (9 + 8 * u ≤ k ∧ k < 14 + 8 * u) → h' 197 k = h 197 k) ∧ h' 197 (9 + 8 * u) = w ∧ h' 197 (10 + 8 * u) = x ∧ h' 197 (11 + 8 * u) = p ∧ h' 197 (12 + 8 * u) = (if w = am_z 3 then h 197 2 else am_z 0) ∧ h' 197 (13 + 8 * u) = sp := by
  have i2 : am_in (am_z 2) 6071 = true := by decide
  generalize hv : (if w = am_z 3 then h 197 2 else am_z 0) = v
  refine ⟨am_pi (am_pi (am_pi (am_pi (am_pi h 197 (9 + 8 * u) w) 197 (10 + 8 * u) x) 197 (11 + 8 * u) p) 197 (12 + 8 * u) v) 197 (13 + 8 * u) sp, ?_, fun a ha => by rw [qc_pia ha, qc_pia ha, qc_pia ha, qc_pia ha, qc_pia ha], fun k hk => by rw [am_pi_k (by omega), am_pi_k (by omega), am_pi_k (by omega), am_pi_k (by omega), am_pi_k (by omega)], ?_, ?_, ?_, ?_, am_pi_s _ _ _ _⟩
  · unfold f_X10_watchesIn
    simp only [am_z_lit, w_u2 hu, w_u3 hu, w_u4 hu, w_u5 hu, w_u6 hu, am_bi_s, i2, cond_true]
    have e2 : am_pi (am_pi (am_pi h 197 (9 + 8 * u) w) 197 (10 + 8 * u) x) 197 (11 + 8 * u) p 197 2 = h 197 2 := by
      rw [am_pi_k (by omega), am_pi_k (by omega), am_pi_k (by omega)]
    rw [e2]
    by_cases q : w = am_z 3
    · rw [if_pos q] at hv
      rw [if_pos q, hv]
    · rw [if_neg q] at hv
      rw [if_neg q, hv]
  · rw [am_pi_k (by omega), am_pi_k (by omega), am_pi_k (by omega), am_pi_k (by omega), am_pi_s]
  · rw [am_pi_k (by omega), am_pi_k (by omega), am_pi_k (by omega), am_pi_s]
  · rw [am_pi_k (by omega), am_pi_k (by omega), am_pi_s]
  · rw [am_pi_k (by omega), am_pi_s]
/-- who has or asks for control watches that session live -/
theorem hP_of (R : qr_R nS nU hc hm) {u : Nat} (hu : u < nU) : ∀ s, s < nS → (hm 197 (56 + 1504 * s) = am_z u ∨ hm 197 (57 + 1504 * s) = am_z u) → hm 197 (9 + 8 * u) = am_z 1 ∧ hm 197 (10 + 8 * u) = am_z s := by
  obtain ⟨n1, n2, -⟩ := qr_n R
  intro s hs hz
  obtain ⟨-, -, -, -, -, ⟨d1, d2, d3⟩, -⟩ := qr_S R hs
  have key : ∀ x, vP (hm 197) nU s x → x = am_z u → hm 197 (9 + 8 * u) = am_z 1 ∧ hm 197 (10 + 8 * u) = am_z s := by
    intro x hx z
    rcases hx with q | ⟨w, w1, w2, w3, w4⟩
    · exact absurd (q.symm.trans z) (zu (by omega))
    · rw [w2, am_z_eq (by omega) (by omega) (by omega) (by omega)] at z
      have : w = u := by omega
      subst this
      exact ⟨w3, w4⟩
  rcases hz with z | z
  · exact key _ d2 z
  · exact key _ d3 z
/-- a user's way of watching changes, on both sides -/
theorem qr_way (R : qr_R nS nU hc hm) {u : Nat} {hc' hm' : am_Hp} {w x p st sp lb : Int32} (hu : u < nU) (h1 : ∀ a, a ≠ 33 + u → hc' a = hc a) (h2 : ∀ a, a ≠ 197 → hm' a = hm a) (h3 : ∀ k, ¬ (9 + 8 * u ≤ k ∧ k < 15 + 8 * u) → hm' 197 k = hm 197 k)
    (m2 : hm' 197 (9 + 8 * u) = w) (m3 : hm' 197 (10 + 8 * u) = x) (m4 : hm' 197 (11 + 8 * u) = p) (m5 : hm' 197 (12 + 8 * u) = st) (m6 : hm' 197 (13 + 8 * u) = sp) (m7 : hm' 197 (14 + 8 * u) = lb)
    (c0 : hc' (33 + u) 0 = hc (33 + u) 0) (c1 : hc' (33 + u) 1 = hc (33 + u) 1) (c2 : hc' (33 + u) 2 = w) (c3 : w ≠ am_z 0 → hc' (33 + u) 3 = x) (c4 : w = am_z 2 ∨ w = am_z 3 → hc' (33 + u) 4 = p) (c5 : w = am_z 3 → hc' (33 + u) 5 = st ∧ hc' (33 + u) 6 = sp) (c7 : hc' (33 + u) 7 = lb)
    (v2 : vn w 0 3) (v3 : w ≠ am_z 0 → vn x 0 3 ∧ nv x < nS) (v4 : w = am_z 2 ∨ w = am_z 3 → vn p 0 (nv (hm 197 (55 + 1504 * nv x)))) (v5 : w = am_z 3 → vn sp 10 1000) (v6 : w ≠ am_z 3 → sp = am_z 0) (v7 : vn lb 0 40)
    (hP : ∀ s, s < nS → (hm 197 (56 + 1504 * s) = am_z u ∨ hm 197 (57 + 1504 * s) = am_z u) → w = am_z 1 ∧ x = am_z s) : qr_R nS nU hc' hm' := by
  obtain ⟨n1, n2, -⟩ := qr_n R
  obtain ⟨b1, b2, b3, b4, b5, b6, b7, bV⟩ := qr_U R hu
  have e33 : 24 + 9 + u = 33 + u := by omega
  refine qr_seat R hu h1 h2 (fun k hk => h3 k (by omega)) ?_ ?_ (fun s hs hz => by rw [m2, m3]; exact hP s hs hz)
  · unfold sU
    rw [e33, m2, m3, m4, m5, m6, m7, c0, c1, c7, h3 (7 + 8 * u) (by omega), h3 (8 + 8 * u) (by omega)]
    exact ⟨b1, b2, c2, c3, c4, c5, rfl⟩
  · unfold vU
    rw [m2, m3, m4, m6, m7, h3 (7 + 8 * u) (by omega), h3 (8 + 8 * u) (by omega), h3 (55 + 1504 * nv x) (by omega)]
    exact ⟨bV.1, bV.2.1, v2, v3, v4, v5, v6, v7⟩
theorem sF_c {h1 h2 h3 h4 : am_Hp} (f : sF h1 h2 h3 h4) : cF h1 h3 := fun a ha => f.1 a (by omega) (by omega)
theorem sF_M {h1 h2 h3 h4 : am_Hp} (f : sF h1 h2 h3 h4) : mF h2 h4 := fun a ha => f.2.2.1 a (by omega) (by omega) (by omega) (by omega) (by omega) (by omega)
theorem c_why (R : qr_R nS nU hc hm) {u : Nat} (hu : u < nU) : f_X9_whyNotAWatcher N (am_z u) hc = some (some (if hm 197 (9 + 8 * u) = am_z 0 then am_z (-4) else am_z 0), hc) := by
  obtain ⟨n1, n2, n3, n4, n5, n6⟩ := qr_n R
  obtain ⟨b1, b2, b3, b4, b5, b6, b7, bV⟩ := qr_U R hu
  unfold f_X9_whyNotAWatcher
  simp only [am_z_lit, am_z_neg, c_has19 n4 n2 hu, am_bi_s, if_neg z_10, c_seat n4 n2 hu, am_bt_s, (g_u u (by omega)).2, cond_true, b3]
  split <;> rfl
theorem c_whyn (R : qr_R nS nU hc hm) {v : Int} (b : -2147483648 ≤ v ∧ v < 2147483648) (hv : ¬ (0 ≤ v ∧ v < nU)) : f_X9_whyNotAWatcher N (am_z v) hc = some (some (am_z (-1)), hc) := by
  obtain ⟨n1, n2, n3, n4, n5, n6⟩ := qr_n R
  unfold f_X9_whyNotAWatcher
  simp only [am_z_lit, am_z_neg, c_has19n n4 n2 b hv, am_bi_s, if_true]
theorem z_40 : ¬ (am_z (-4) = am_z 0) := by decide
theorem q_attach (hN : 60000 ≤ N) (R : qr_R nS nU hc hm) (x y : Int32) : pS nS nU (f_X9_attach N x y hc) (f_X10_attach N x y hm) hc hm := by
  obtain ⟨n1, n2, n3, n4, n5, n6⟩ := qr_n R
  have R1 : qr_R nS nU hc (am_pi hm 193 0 (am_z 0)) := R_thr R
  obtain ⟨-, -, -, -, m5, m6⟩ := qr_n R1
  unfold f_X9_attach f_X10_attach
  rcases qi x nU with ⟨u, hu, rfl⟩ | ⟨v, rfl, b1, b2, hv⟩
  · rcases qi y nS with ⟨s, hs, rfl⟩ | ⟨v, rfl, b1, b2, hv⟩
    · have u6 : u < 6 := by omega
      have s4 : s < 4 := by omega
      obtain ⟨c2, m2, k1, k2, R2, kf1, kf2, kf3⟩ := q_keep hN R1
      obtain ⟨c3, m3, l1, l2, R3, nu, lf1, lf2, lf3⟩ := q_lose (N := N) R2 hu
      obtain ⟨-, -, -, k4, -, -⟩ := qr_n R2
      obtain ⟨m4, w1, w2, w3, w4, w5, w6, w7, w8⟩ := m_win (N := N) (h := m3) (w := am_z 1) (x := am_z s) (p := am_z 0) (sp := am_z 0) u6
      obtain ⟨-, -, -, -, -, -, -, bV⟩ := qr_U R3 hu
      have R4 : qr_R nS nU (am_pi (am_pi (am_pi c3 (33 + u) 2 (am_z 1)) (33 + u) 3 (am_z s)) (33 + u) 7 (am_z 0)) (am_pi m4 197 (14 + 8 * u) (am_z 0)) := by
        refine qr_way R3 (w := am_z 1) (x := am_z s) (p := am_z 0) (st := am_z 0) (sp := am_z 0) (lb := am_z 0) hu ?_ ?_ ?_ ?_ ?_ ?_ ?_ ?_ (am_pi_s _ _ _ _) ?_ ?_ ?_ ?_ ?_ ?_ (am_pi_s _ _ _ _) ?_ ?_ ?_ ?_ ?_ ?_ ?_
        · intro a ha; rw [qc_pia ha, qc_pia ha, qc_pia ha]
        · intro a ha; rw [qc_pia ha, w2 a ha]
        · intro k hk; rw [am_pi_k (by omega), w3 k (by omega)]
        · rw [am_pi_k (by omega), w4]
        · rw [am_pi_k (by omega), w5]
        · rw [am_pi_k (by omega), w6]
        · rw [am_pi_k (by omega), w7, if_neg (by decide)]
        · rw [am_pi_k (by omega), w8]
        · rw [am_pi_k (by decide), am_pi_k (by decide), am_pi_k (by decide)]
        · rw [am_pi_k (by decide), am_pi_k (by decide), am_pi_k (by decide)]
        · rw [am_pi_k (by decide), am_pi_k (by decide), am_pi_s]
        · intro _; rw [am_pi_k (by decide), am_pi_s]
        · intro z; rcases z with z | z <;> exact absurd z (by decide)
        · intro z; exact absurd z (by decide)
        · exact vn_z (n := 1) (by decide) (by decide) (by decide)
        · intro _; rw [nv_z (by omega)]; exact ⟨vn_z (by omega) (by omega) (by omega), hs⟩
        · intro z; rcases z with z | z <;> exact absurd z (by decide)
        · intro z; exact absurd z (by decide)
        · intro _; rfl
        · exact vn_z (n := 0) (by decide) (by decide) (by decide)
        · intro s' hs' z; exact absurd z (not_or.mpr (nu s' hs'))
      obtain ⟨c5, m5', t1, t2, R5, sf⟩ := q_settle (N := N) (by omega) R4
      obtain ⟨v, y1, y2⟩ := q_many (N := N) (by omega) R5 (s := s)
      refine ⟨v, c5, m5', ?_, ?_, R5, ?_, ?_⟩
      · simp only [am_z_lit, c_has19 n4 n2 hu, c_has15 n3 n1 hs, am_bi_s, if_neg z_10, k1, c_seat k4 n2 hu, am_bt_s, l1, (g_u u u6).2, cond_true, t1, y1]
      · simp only [am_z_lit, m_user m6 n2 hu, m_sess m5 n1 hs, am_bi_s, if_neg z_10, k2, l2, w1, w_u7 u6, t2, y2]
      · refine cFt (fun a ha => kf1 a (by omega)) (cFt (fun a ha => lf1 a (by omega)) (cFt (fun a ha => ?_) (sF_c sf)))
        rw [qc_pia (by omega), qc_pia (by omega), qc_pia (by omega)]
      · refine mFt (mF_p (by decide)) (mFt (fun a ha => kf2 a (by omega) (by omega)) (mFt (fun a ha => lf2 a (by omega)) (mFt (fun a ha => ?_) (sF_M sf))))
        rw [qc_pia (by omega), w2 a (by omega)]
    · refine pS_no R (v := am_z (-1)) (w := am_z 0) ?_ ?_
      · simp only [am_z_lit, am_z_neg, c_has19 n4 n2 hu, c_has15n n3 n1 ⟨b1, b2⟩ hv, am_bi_s, if_neg z_10, if_true]
      · simp only [am_z_lit, am_z_neg, m_user m6 n2 hu, m_sessn m5 n1 ⟨b1, b2⟩ hv, am_bi_s, if_neg z_10, if_true]
  · refine pS_no R (v := am_z (-1)) (w := am_z 0) ?_ ?_
    · simp only [am_z_lit, am_z_neg, c_has19n n4 n2 ⟨b1, b2⟩ hv, am_bi_s, if_true]
    · simp only [am_z_lit, am_z_neg, m_usern m6 n2 ⟨b1, b2⟩ hv, am_bi_s, if_true]
theorem q_detach (hN : 60000 ≤ N) (R : qr_R nS nU hc hm) (x : Int32) : pS nS nU (f_X9_detach N x hc) (f_X10_detach N x hm) hc hm := by
  obtain ⟨n1, n2, n3, n4, n5, n6⟩ := qr_n R
  have R1 : qr_R nS nU hc (am_pi hm 193 0 (am_z 0)) := R_thr R
  obtain ⟨-, -, -, -, m5, m6⟩ := qr_n R1
  have hr : am_pi hm 193 0 (am_z 0) 197 = hm 197 := thr_e (by decide)
  unfold f_X9_detach f_X10_detach
  rcases qi x nU with ⟨u, hu, rfl⟩ | ⟨v, rfl, b1, b2, hv⟩
  · have u6 : u < 6 := by omega
    by_cases q0 : hm 197 (9 + 8 * u) = am_z 0
    · refine pS_no R (v := am_z (-4)) (w := am_z 0) ?_ ?_
      · simp only [am_z_lit, am_z_neg, c_why R hu, am_bt_s, if_pos q0, if_neg z_40]
      · simp only [am_z_lit, am_z_neg, m_user m6 n2 hu, am_bi_s, if_neg z_10, m_wat hr u6, if_pos q0, if_true]
    · obtain ⟨c2, m2, k1, k2, R2, kf1, kf2, kf3⟩ := q_keep hN R1
      have hr2 : m2 197 = hm 197 := (kf2 _ (by decide) (by decide)).trans hr
      obtain ⟨c3, m3, l1, l2, R3, nu, lf1, lf2, lf3⟩ := q_lose (N := N) R2 hu
      obtain ⟨-, -, -, k4, -, -⟩ := qr_n R2
      obtain ⟨m4, w1, w2, w3, w4, w5, w6, w7, w8⟩ := m_win (N := N) (h := m3) (w := am_z 0) (x := am_z 0) (p := am_z 0) (sp := am_z 0) u6
      obtain ⟨-, -, -, -, -, -, b7, bV⟩ := qr_U R3 hu
      obtain ⟨-, -, -, f4, -, -, -, fV⟩ := qr_U R hu
      obtain ⟨s1, s2⟩ := fV.2.2.2.1 q0
      have R4 : qr_R nS nU (am_pi c3 (33 + u) 2 (am_z 0)) m4 := by
        refine qr_way R3 (w := am_z 0) (x := am_z 0) (p := am_z 0) (st := am_z 0) (sp := am_z 0) (lb := m3 197 (14 + 8 * u)) hu (fun a ha => qc_pia ha) w2 (fun k hk => w3 k (by omega)) w4 w5 w6 (by rw [w7, if_neg (by decide)]) w8 (w3 _ (by omega)) (am_pi_k (by decide)) (am_pi_k (by decide)) (am_pi_s _ _ _ _) (fun z => absurd rfl z) ?_ ?_ ?_ (vn_z (n := 0) (by decide) (by decide) (by decide)) (fun z => absurd rfl z) ?_ ?_ (fun _ => rfl) bV.2.2.2.2.2.2.2 (fun s' hs' z => absurd z (not_or.mpr (nu s' hs')))
        · intro z; rcases z with z | z <;> exact absurd z (by decide)
        · intro z; exact absurd z (by decide)
        · rw [am_pi_k (by decide)]; exact b7
        · intro z; rcases z with z | z <;> exact absurd z (by decide)
        · intro z; exact absurd z (by decide)
      obtain ⟨c5, m5', t1, t2, R5, sf⟩ := q_settle (N := N) (by omega) R4
      generalize hss : nv (hm 197 (10 + 8 * u)) = s at *
      have e3 : hm 197 (10 + 8 * u) = am_z s := by rw [s1.1, hss]
      obtain ⟨v, y1, y2⟩ := q_many (N := N) (by omega) R5 (s := s)
      have e5 : c5 (33 + u) 3 = am_z s := by
        rw [sf.1 _ (by omega) (by omega), am_pi_k (by decide), lf1 _ (by omega), kf1 _ (by omega), f4 q0, e3]
      refine ⟨v, c5, m5', ?_, ?_, R5, ?_, ?_⟩
      · simp only [am_z_lit, c_why R hu, am_bt_s, if_neg q0, if_true, c_seat n4 n2 hu, k1, am_bi_s, l1, (g_u u u6).2, cond_true, t1, e5, y1]
      · simp only [am_z_lit, m_user m6 n2 hu, am_bi_s, if_neg z_10, m_wat hr u6, if_neg q0, k2, m_u3 hr2 u6, e3, l2, w1, t2, y2]
      · exact cFt (fun a ha => kf1 a (by omega)) (cFt (fun a ha => lf1 a (by omega)) (cFt (cF_p (by omega)) (sF_c sf)))
      · exact mFt (mF_p (by decide)) (mFt (fun a ha => kf2 a (by omega) (by omega)) (mFt (fun a ha => lf2 a (by omega)) (mFt (fun a ha => w2 a (by omega)) (sF_M sf))))
  · refine pS_no R (v := am_z (-1)) (w := am_z 0) ?_ ?_
    · have z : ¬ (am_z (-1) = am_z 0) := by decide
      simp only [am_z_lit, am_z_neg, c_whyn R ⟨b1, b2⟩ hv, am_bt_s, if_neg z]
    · simp only [am_z_lit, am_z_neg, m_usern m6 n2 ⟨b1, b2⟩ hv, am_bi_s, if_true]
end CH1
