section CH4
variable {N nS nU : Nat} {hc hm : am_Hp}
/-- an account grows -/
theorem q_acc (R : qr_R nS nU hc hm) {i : Nat} (hi : i < 4) {v : Int32} : qr_R nS nU (am_pi hc 26 i (hc 26 i + v)) (am_pi hm 197 (3 + i) (hm 197 (3 + i) + v)) := by
  obtain ⟨a1, a2, a3, a4, -⟩ := R.2.2.1
  refine qr_glob R (fun a _ _ p => qc_pia p) (fun a p => qc_pia p) (fun k hk => am_pi_k (by omega)) ?_ ?_ ?_ ?_ ?_
  · rw [qc_pia (by decide), am_pi_k (by omega)]; exact a1
  · rw [qc_pia (by decide), am_pi_k (by omega)]; exact a2
  · rw [qc_pia (by decide), am_pi_k (by omega)]; exact a3
  · intro k hk
    have e26 : (26 : Nat) = 24 + 2 := rfl
    by_cases q : k = i
    · subst q
      rw [am_pi_s, am_pi_s]
      have := a4 k hk
      rw [show hc 26 k = hm 197 (3 + k) from this]
    · rw [am_pi_k q, am_pi_k (by omega)]; exact a4 k hk
  · rw [am_pi_k (by omega)]; exact R.2.2.2.1.1
theorem q_request (hN : 60000 ≤ N) (R : qr_R nS nU hc hm) (x : Int32) : pS nS nU (f_X9_request N x hc) (f_X10_request N x hm) hc hm := by
  obtain ⟨n1, n2, n3, n4, n5, n6⟩ := qr_n R
  have R1 : qr_R nS nU hc (am_pi hm 193 0 (am_z 0)) := R_thr R
  obtain ⟨-, -, -, -, m5, m6⟩ := qr_n R1
  have hr : am_pi hm 193 0 (am_z 0) 197 = hm 197 := thr_e (by decide)
  have i0 : am_in (am_z 0) 4 = true := by decide
  have i3 : am_in (am_z 3) 6071 = true := by decide
  have i2 : am_in (am_z 2) 6071 = true := by decide
  unfold f_X9_request f_X10_request
  rcases qi x nU with ⟨u, hu, rfl⟩ | ⟨v, rfl, b1, b2, hv⟩
  · have u6 : u < 6 := by omega
    obtain ⟨-, -, f2, f4, -, -, -, fV⟩ := qr_U R hu
    by_cases q1 : hm 197 (9 + 8 * u) = am_z 1
    · have q0 : hm 197 (9 + 8 * u) ≠ am_z 0 := by rw [q1]; decide
      obtain ⟨s1, s2⟩ := fV.2.2.2.1 q0
      generalize hss : nv (hm 197 (10 + 8 * u)) = s at *
      have s4 : s < 4 := by omega
      have e3 : hm 197 (10 + 8 * u) = am_z s := by rw [s1.1, hss]
      obtain ⟨c0, c1, c2, c3, -, ⟨d1, d2, d3⟩, -⟩ := qr_S R s2
      by_cases qh : hm 197 (56 + 1504 * s) = am_z u
      · refine pS_no R (v := am_z (-4)) (w := am_z 0) ?_ ?_
        · simp only [am_z_lit, am_z_neg, c_has19 n4 n2 hu, am_bi_s, if_neg z_10, c_seat n4 n2 hu, am_bt_s, (g_u u u6).2, cond_true, f2, if_pos q1, f4 q0, e3, c_desk n3 n1 s2, (g_d s s4).2.2, c1, if_pos qh]
        · simp only [am_z_lit, am_z_neg, m_user m6 n2 hu, am_bi_s, if_neg z_10, m_u3 hr u6, m_u2 hr u6, if_pos q1, e3, m_s1 hr s4, if_pos qh]
      by_cases qa : hm 197 (57 + 1504 * s) = am_z (-1)
      · obtain ⟨g2, m2, k1, k2, R2, kf1, kf2, kf3⟩ := q_keep hN R1
        have hr2 : m2 197 = hm 197 := (kf2 _ (by decide) (by decide)).trans hr
        have R3 : qr_R nS nU (am_pi g2 26 0 (g2 26 0 + am_z 1)) (am_pi m2 197 3 (m2 197 3 + am_z 1)) := q_acc R2 (i := 0) (by decide)
        obtain ⟨h0, h1, h2, h3, -, ⟨o1, o2, o3⟩, -⟩ := qr_S R3 s2
        have et : am_pi g2 26 0 (g2 26 0 + am_z 1) 24 0 = am_pi m2 197 3 (m2 197 3 + am_z 1) 197 2 := R3.2.2.1.1
        have w1 : am_pi m2 197 3 (m2 197 3 + am_z 1) 197 (9 + 8 * u) = am_z 1 := by rw [am_pi_k (by omega), hr2]; exact q1
        have w2 : am_pi m2 197 3 (m2 197 3 + am_z 1) 197 (10 + 8 * u) = am_z s := by rw [am_pi_k (by omega), hr2]; exact e3
        have w3 : am_pi m2 197 3 (m2 197 3 + am_z 1) 197 (56 + 1504 * s) = hm 197 (56 + 1504 * s) := by rw [am_pi_k (by omega), hr2]
        have pU : vP (am_pi m2 197 3 (m2 197 3 + am_z 1) 197) nU s (am_z u) := Or.inr ⟨u, hu, rfl, w1, w2⟩
        have p0 : vP (am_pi m2 197 3 (m2 197 3 + am_z 1) 197) nU s (am_z (-1)) := Or.inl rfl
        have e29 : 24 + 5 + s = 29 + s := by omega
        have ec : cF hc (am_pi g2 26 0 (g2 26 0 + am_z 1)) := cFt (fun a ha => kf1 a (by omega)) (cF_p (by decide))
        have em : mF hm (am_pi m2 197 3 (m2 197 3 + am_z 1)) := mFt (mF_p (by decide)) (mFt (fun a ha => kf2 a (by omega) (by omega)) (mF_p (by decide)))
        generalize hcc : am_pi g2 26 0 (g2 26 0 + am_z 1) = g3 at *
        generalize hmm : am_pi m2 197 3 (m2 197 3 + am_z 1) = m3 at *
        have e24 : am_pi g3 (29 + s) 2 (am_z u) 24 0 = g3 24 0 := by rw [qc_pia (by omega)]
        have l1 : am_pi (am_pi g3 (29 + s) 2 (am_z u)) (29 + s) 3 (g3 24 0) (29 + s) 1 = hm 197 (56 + 1504 * s) := by rw [am_pi_k (by decide), am_pi_k (by decide), h1, w3]
        have l2 : am_pi (am_pi g3 (29 + s) 2 (am_z u)) (29 + s) 3 (g3 24 0) (29 + s) 2 = am_z u := by rw [am_pi_k (by decide), am_pi_s]
        by_cases qn : hm 197 (56 + 1504 * s) = am_z (-1)
        · -- nobody controls: control at once
          have m56 : am_pi (am_pi (am_pi m3 197 (56 + 1504 * s) (am_z u)) 197 (57 + 1504 * s) (am_z (-1))) 197 (58 + 1504 * s) (am_z 0) 197 (56 + 1504 * s) = am_z u := by rw [am_pi_k (by omega), am_pi_k (by omega), am_pi_s]
          have m57 : am_pi (am_pi (am_pi m3 197 (56 + 1504 * s) (am_z u)) 197 (57 + 1504 * s) (am_z (-1))) 197 (58 + 1504 * s) (am_z 0) 197 (57 + 1504 * s) = am_z (-1) := by rw [am_pi_k (by omega), am_pi_s]
          have m55 : am_pi (am_pi (am_pi m3 197 (56 + 1504 * s) (am_z u)) 197 (57 + 1504 * s) (am_z (-1))) 197 (58 + 1504 * s) (am_z 0) 197 (55 + 1504 * s) = m3 197 (55 + 1504 * s) := by rw [am_pi_k (by omega), am_pi_k (by omega), am_pi_k (by omega)]
          have R4 : qr_R nS nU (am_pi (am_pi (am_pi (am_pi g3 (29 + s) 2 (am_z u)) (29 + s) 3 (g3 24 0)) (29 + s) 1 (am_z u)) (29 + s) 2 (am_z (-1))) (am_pi (am_pi (am_pi m3 197 (56 + 1504 * s) (am_z u)) 197 (57 + 1504 * s) (am_z (-1))) 197 (58 + 1504 * s) (am_z 0)) := by
            refine qr_desk R3 s2 (fun a ha => by rw [qc_pia ha, qc_pia ha, qc_pia ha, qc_pia ha]) (fun a ha => by rw [qc_pia ha, qc_pia ha, qc_pia ha]) (fun k hk => by rw [am_pi_k (by omega), am_pi_k (by omega), am_pi_k (by omega)]) ?_ (by rw [m56]; exact pU) (by rw [m57]; exact p0)
            unfold sD
            rw [e29, m55, m56, m57, am_pi_s, am_pi_k (by decide), am_pi_k (by decide), am_pi_k (by decide), am_pi_k (by decide), am_pi_k (by decide), am_pi_s]
            exact ⟨h0, rfl, rfl, fun z => absurd rfl z⟩
          obtain ⟨c5, m5', t1, t2, R5, sf⟩ := q_settle (N := N) (by omega) R4
          have eh : c5 (29 + s) 1 = am_z u := by
            rw [sf.2.1 s 1 s4 (by decide), am_pi_k (by decide), am_pi_s]
          refine ⟨am_z 1, c5, m5', ?_, ?_, R5, cFt ec (cFt (fun a ha => ?_) (sF_c sf)), mFt em (mFt (fun a ha => ?_) (sF_M sf))⟩
          · simp only [am_z_lit, am_z_neg, c_has19 n4 n2 hu, am_bi_s, if_neg z_10, c_seat n4 n2 hu, am_bt_s, (g_u u u6).2, cond_true, f2, if_pos q1, f4 q0, e3, c_desk n3 n1 s2, (g_d s s4).2.2, c1, if_neg qh, c2, if_pos qa, k1, i0, hcc, e24, l1, if_pos qn, c_hand s4, l2, t1, eh, if_true]
          · simp only [am_z_lit, am_z_neg, m_user m6 n2 hu, am_bi_s, if_neg z_10, m_u3 hr u6, m_u2 hr u6, if_pos q1, e3, m_s1 hr s4, if_neg qh, m_s2 hr s4, if_pos qa, k2, i3, cond_true, hmm, m_s1 (h := m3) rfl s4, w3, if_pos qn, m_hasC s4, t2]
          · rw [qc_pia (by omega), qc_pia (by omega), qc_pia (by omega), qc_pia (by omega)]
          · rw [qc_pia (by omega), qc_pia (by omega), qc_pia (by omega)]
        · -- another one controls: the request waits
          have m57 : am_pi (am_pi m3 197 (57 + 1504 * s) (am_z u)) 197 (58 + 1504 * s) (m3 197 2) 197 (57 + 1504 * s) = am_z u := by rw [am_pi_k (by omega), am_pi_s]
          have mo : ∀ k, k ≠ 57 + 1504 * s → k ≠ 58 + 1504 * s → am_pi (am_pi m3 197 (57 + 1504 * s) (am_z u)) 197 (58 + 1504 * s) (m3 197 2) 197 k = m3 197 k := fun k p q => by rw [am_pi_k q, am_pi_k p]
          have e2 : am_pi m3 197 (57 + 1504 * s) (am_z u) 197 2 = m3 197 2 := by rw [am_pi_k (by omega)]
          have R4 : qr_R nS nU (am_pi (am_pi g3 (29 + s) 2 (am_z u)) (29 + s) 3 (g3 24 0)) (am_pi (am_pi m3 197 (57 + 1504 * s) (am_z u)) 197 (58 + 1504 * s) (m3 197 2)) := by
            refine qr_desk R3 s2 (fun a ha => by rw [qc_pia ha, qc_pia ha]) (fun a ha => by rw [qc_pia ha, qc_pia ha]) (fun k hk => mo k (by omega) (by omega)) ?_ (by rw [mo _ (by omega) (by omega)]; exact o2) (by rw [m57]; exact pU)
            unfold sD
            rw [e29, m57, mo (55 + 1504 * s) (by omega) (by omega), mo (56 + 1504 * s) (by omega) (by omega), am_pi_s, am_pi_s, l1, l2, am_pi_k (by decide), am_pi_k (by decide)]
            exact ⟨h0, w3.symm, rfl, fun _ => et⟩
          obtain ⟨c5, m5', t1, t2, R5, sf⟩ := q_settle (N := N) (by omega) R4
          have eh : c5 (29 + s) 1 = hm 197 (56 + 1504 * s) := by
            rw [sf.2.1 s 1 s4 (by decide), l1]
          refine ⟨am_z 0, c5, m5', ?_, ?_, R5, cFt ec (cFt (fun a ha => ?_) (sF_c sf)), mFt em (mFt (fun a ha => ?_) (sF_M sf))⟩
          · simp only [am_z_lit, am_z_neg, c_has19 n4 n2 hu, am_bi_s, if_neg z_10, c_seat n4 n2 hu, am_bt_s, (g_u u u6).2, cond_true, f2, if_pos q1, f4 q0, e3, c_desk n3 n1 s2, (g_d s s4).2.2, c1, if_neg qh, c2, if_pos qa, k1, i0, hcc, e24, l1, if_neg qn, t1, eh]
          · simp only [am_z_lit, am_z_neg, m_user m6 n2 hu, am_bi_s, if_neg z_10, m_u3 hr u6, m_u2 hr u6, if_pos q1, e3, m_s1 hr s4, if_neg qh, m_s2 hr s4, if_pos qa, k2, i3, cond_true, hmm, m_s1 (h := m3) rfl s4, w3, if_neg qn, if_true, w_s2 s4, i2, e2, w_s3 s4, t2]
          · rw [qc_pia (by omega), qc_pia (by omega)]
          · rw [qc_pia (by omega), qc_pia (by omega)]
      · refine pS_no R (v := am_z (-4)) (w := am_z 0) ?_ ?_
        · simp only [am_z_lit, am_z_neg, c_has19 n4 n2 hu, am_bi_s, if_neg z_10, c_seat n4 n2 hu, am_bt_s, (g_u u u6).2, cond_true, f2, if_pos q1, f4 q0, e3, c_desk n3 n1 s2, (g_d s s4).2.2, c1, if_neg qh, c2, if_neg qa]
        · simp only [am_z_lit, am_z_neg, m_user m6 n2 hu, am_bi_s, if_neg z_10, m_u3 hr u6, m_u2 hr u6, if_pos q1, e3, m_s1 hr s4, if_neg qh, m_s2 hr s4, if_neg qa]
    · refine pS_no R (v := am_z (-4)) (w := am_z 0) ?_ ?_
      · simp only [am_z_lit, am_z_neg, c_has19 n4 n2 hu, am_bi_s, if_neg z_10, c_seat n4 n2 hu, am_bt_s, (g_u u u6).2, cond_true, f2, if_neg q1]
      · simp only [am_z_lit, am_z_neg, m_user m6 n2 hu, am_bi_s, if_neg z_10, m_u3 hr u6, m_u2 hr u6, if_neg q1]
  · refine pS_no R (v := am_z (-1)) (w := am_z 0) ?_ ?_
    · simp only [am_z_lit, am_z_neg, c_has19n n4 n2 ⟨b1, b2⟩ hv, am_bi_s, if_true]
    · simp only [am_z_lit, am_z_neg, m_usern m6 n2 ⟨b1, b2⟩ hv, am_bi_s, if_true]
/-- the session that a user controls -/
theorem m_ctl0 {u : Nat} {h : am_Hp} (n1 : nS ≤ 4) (e : h 195 0 = am_z nS) : ∀ (k i n : Nat), i + k = nS → k < n → (∀ s, i ≤ s → s < nS → h 197 (56 + 1504 * s) ≠ am_z u) → l_X10_controlled_2 N n (am_z u) (am_z i) h = some (am_z (-1), h)
  | k, i, 0, _, hx, _ => by omega
  | 0, i, n + 1, e1, _, _ => by
    have i0 : am_in (am_z 0) 20 = true := by decide
    have : i = nS := by omega
    subst this
    unfold l_X10_controlled_2
    simp only [am_z_lit, am_z_neg, i0, cond_true, e, if_pos (Int32.le_refl _)]
  | k + 1, i, n + 1, e1, hx, hh => by
    have i0 : am_in (am_z 0) 20 = true := by decide
    have e4 : (i : Int) + 1 = ((i + 1 : Nat) : Int) := by omega
    have z : ¬ (am_z nS ≤ am_z i) := by rw [am_z_le (by omega) (by omega) (by omega) (by omega)]; omega
    have z2 := hh i (Nat.le_refl _) (by omega)
    unfold l_X10_controlled_2
    simp only [am_z_lit, i0, cond_true, e, if_neg z, m_s1 (h := h) rfl (show i < 4 by omega), am_bi_s, if_neg z2, am_z_add, e4]
    exact m_ctl0 n1 e k (i + 1) n (by omega) (by omega) (fun s p q => hh s (by omega) q)
theorem m_ctl1 {u s : Nat} {h : am_Hp} (n1 : nS ≤ 4) (hs : s < nS) (e : h 195 0 = am_z nS) (es : h 197 (56 + 1504 * s) = am_z u) : ∀ (k i n : Nat), i + k = s → k < n → (∀ j, i ≤ j → j < s → h 197 (56 + 1504 * j) ≠ am_z u) → l_X10_controlled_2 N n (am_z u) (am_z i) h = some (am_z s, h)
  | k, i, 0, _, hx, _ => by omega
  | 0, i, n + 1, e1, _, _ => by
    have i0 : am_in (am_z 0) 20 = true := by decide
    have : i = s := by omega
    subst this
    have z : ¬ (am_z nS ≤ am_z i) := by rw [am_z_le (by omega) (by omega) (by omega) (by omega)]; omega
    unfold l_X10_controlled_2
    simp only [am_z_lit, i0, cond_true, e, if_neg z, m_s1 (h := h) rfl (show i < 4 by omega), am_bi_s, if_pos es]
  | k + 1, i, n + 1, e1, hx, hh => by
    have i0 : am_in (am_z 0) 20 = true := by decide
    have e4 : (i : Int) + 1 = ((i + 1 : Nat) : Int) := by omega
    have z : ¬ (am_z nS ≤ am_z i) := by rw [am_z_le (by omega) (by omega) (by omega) (by omega)]; omega
    have z2 := hh i (Nat.le_refl _) (by omega)
    unfold l_X10_controlled_2
    simp only [am_z_lit, i0, cond_true, e, if_neg z, m_s1 (h := h) rfl (show i < 4 by omega), am_bi_s, if_neg z2, am_z_add, e4]
    exact m_ctl1 n1 hs e es k (i + 1) n (by omega) (by omega) (fun s p q => hh s (by omega) q)
theorem q_ctl (hN : 1000 ≤ N) (R : qr_R nS nU hc hm) {u : Nat} (hu : u < nU) : (∃ s, s < nS ∧ hm 197 (9 + 8 * u) = am_z 1 ∧ hm 197 (10 + 8 * u) = am_z s ∧ hm 197 (56 + 1504 * s) = am_z u ∧ f_X9_controlsItsSession N (am_z u) (33 + u) hc = some (some (am_z 1), hc) ∧ ∀ h, h 195 0 = am_z nS → h 197 = hm 197 → f_X10_controlled N (am_z u) h = some (am_z s, h)) ∨ (f_X9_controlsItsSession N (am_z u) (33 + u) hc = some (some (am_z 0), hc) ∧ ∀ h, h 195 0 = am_z nS → h 197 = hm 197 → f_X10_controlled N (am_z u) h = some (am_z (-1), h)) := by
  obtain ⟨n1, n2, n3, n4, n5, n6⟩ := qr_n R
  have u6 : u < 6 := by omega
  obtain ⟨-, -, f2, f4, -, -, -, fV⟩ := qr_U R hu
  have hp := hP_of R hu
  by_cases q1 : hm 197 (9 + 8 * u) = am_z 1
  · have q0 : hm 197 (9 + 8 * u) ≠ am_z 0 := by rw [q1]; decide
    obtain ⟨s1, s2⟩ := fV.2.2.2.1 q0
    generalize hss : nv (hm 197 (10 + 8 * u)) = s at *
    have s4 : s < 4 := by omega
    have e3 : hm 197 (10 + 8 * u) = am_z s := by rw [s1.1, hss]
    obtain ⟨c0, c1, -⟩ := qr_S R s2
    have other : ∀ j, j < nS → j ≠ s → hm 197 (56 + 1504 * j) ≠ am_z u := by
      intro j hj hne z
      have := (hp j hj (Or.inl z)).2
      rw [e3, am_z_eq (by omega) (by omega) (by omega) (by omega)] at this
      omega
    by_cases qh : hm 197 (56 + 1504 * s) = am_z u
    · refine Or.inl ⟨s, s2, q1, e3, qh, ?_, fun h h1 h2 => ?_⟩
      · unfold f_X9_controlsItsSession
        simp only [am_z_lit, (g_u u u6).2, cond_true, f2, if_pos q1, f4 q0, e3, c_desk n3 n1 s2, am_bt_s, (g_d s s4).2.2, c1, if_pos qh, am_z_and1, if_true]
      · unfold f_X10_controlled
        rw [am_z_lit]
        exact m_ctl1 n1 s2 h1 (by rw [h2]; exact qh) s 0 N (by omega) (by omega) (fun j _ p => by rw [h2]; exact other j (by omega) (by omega))
    · refine Or.inr ⟨?_, fun h h1 h2 => ?_⟩
      · unfold f_X9_controlsItsSession
        simp only [am_z_lit, (g_u u u6).2, cond_true, f2, if_pos q1, f4 q0, e3, c_desk n3 n1 s2, am_bt_s, (g_d s s4).2.2, c1, if_neg qh, am_z_and0, if_true]
      · unfold f_X10_controlled
        rw [am_z_lit]
        refine m_ctl0 n1 h1 nS 0 N (by omega) (by omega) (fun j _ p => ?_)
        rw [h2]
        by_cases q : j = s
        · subst q; exact qh
        · exact other j p q
  · have nu := noU_way R hu q1
    refine Or.inr ⟨?_, fun h h1 h2 => ?_⟩
    · unfold f_X9_controlsItsSession
      simp only [am_z_lit, (g_u u u6).2, cond_true, f2, if_neg q1, am_z_and0, if_true]
    · unfold f_X10_controlled
      rw [am_z_lit]
      exact m_ctl0 n1 h1 nS 0 N (by omega) (by omega) (fun j _ p => by rw [h2]; exact (nu j p).1)
theorem zs1 {s : Nat} (hs : s < 4) : ¬ (am_z s = am_z (-1)) := by
  rw [am_z_eq (by omega) (by omega) (by omega) (by omega)]; omega
theorem q_yield (hN : 60000 ≤ N) (R : qr_R nS nU hc hm) (x : Int32) : pS nS nU (f_X9_yield N x hc) (f_X10_yield N x hm) hc hm := by
  obtain ⟨n1, n2, n3, n4, n5, n6⟩ := qr_n R
  have R1 : qr_R nS nU hc (am_pi hm 193 0 (am_z 0)) := R_thr R
  obtain ⟨-, -, -, -, m5, m6⟩ := qr_n R1
  have hr : am_pi hm 193 0 (am_z 0) 197 = hm 197 := thr_e (by decide)
  unfold f_X9_yield f_X10_yield
  rcases qi x nU with ⟨u, hu, rfl⟩ | ⟨v, rfl, b1, b2, hv⟩
  · have u6 : u < 6 := by omega
    rcases q_ctl (N := N) (by omega) R hu with ⟨s, hs, q1, e3, qh, y1, y2⟩ | ⟨y1, y2⟩
    · have s4 : s < 4 := by omega
      obtain ⟨g2, m2, k1, k2, R2, kf1, kf2, kf3⟩ := q_keep hN R1
      have hr2 : m2 197 = hm 197 := (kf2 _ (by decide) (by decide)).trans hr
      obtain ⟨-, -, k3, -, -, -⟩ := qr_n R2
      obtain ⟨-, -, -, f4, -⟩ := qr_U R2 hu
      have e4 : g2 (33 + u) 3 = am_z s := by rw [f4 (by rw [hr2, q1]; decide), hr2, e3]
      obtain ⟨g3, m3, l1, l2, R3, F, -⟩ := q_hand (N := N) R2 hs
      obtain ⟨c5, m5', t1, t2, R5, sf⟩ := q_settle (N := N) (by omega) R3
      obtain ⟨-, c1, -⟩ := qr_S R5 hs
      refine ⟨m5' 197 (56 + 1504 * s), c5, m5', ?_, ?_, R5, ?_, ?_⟩
      · simp only [am_z_lit, am_z_neg, c_has19 n4 n2 hu, am_bi_s, if_neg z_10, c_seat n4 n2 hu, am_bt_s, y1, k1, (g_u u u6).2, cond_true, e4, c_desk k3 n1 hs, (g_d s s4).2.2, l1, t1, c1]
      · simp only [am_z_lit, am_z_neg, m_user m6 n2 hu, am_bi_s, if_neg z_10, y2 _ m5 hr, if_neg (zs1 s4), k2, l2, t2, m_s1 (h := m5') rfl s4]
      · exact cFt (fun a ha => kf1 a (by omega)) (cFt (fun a ha => F.1 a (by omega)) (sF_c sf))
      · exact mFt (mF_p (by decide)) (mFt (fun a ha => kf2 a (by omega) (by omega)) (mFt (fun a ha => F.2.1 a (by omega)) (sF_M sf)))
    · refine pS_no R (v := am_z (-4)) (w := am_z 0) ?_ ?_
      · simp only [am_z_lit, am_z_neg, c_has19 n4 n2 hu, am_bi_s, if_neg z_10, c_seat n4 n2 hu, am_bt_s, y1, if_true]
      · simp only [am_z_lit, am_z_neg, m_user m6 n2 hu, am_bi_s, if_neg z_10, y2 _ m5 hr, if_true]
  · refine pS_no R (v := am_z (-2)) (w := am_z 0) ?_ ?_
    · simp only [am_z_lit, am_z_neg, c_has19n n4 n2 ⟨b1, b2⟩ hv, am_bi_s, if_true]
    · simp only [am_z_lit, am_z_neg, m_usern m6 n2 ⟨b1, b2⟩ hv, am_bi_s, if_true]
theorem q_answer (hN : 60000 ≤ N) (R : qr_R nS nU hc hm) (x y : Int32) : pS nS nU (f_X9_answer N x y hc) (f_X10_answer N x y hm) hc hm := by
  obtain ⟨n1, n2, n3, n4, n5, n6⟩ := qr_n R
  have R1 : qr_R nS nU hc (am_pi hm 193 0 (am_z 0)) := R_thr R
  obtain ⟨-, -, -, -, m5, m6⟩ := qr_n R1
  have hr : am_pi hm 193 0 (am_z 0) 197 = hm 197 := thr_e (by decide)
  have i1 : am_in (am_z 1) 4 = true := by decide
  have i3 : am_in (am_z 3) 4 = true := by decide
  have j4 : am_in (am_z (3 + 1)) 6071 = true := by decide
  have j6 : am_in (am_z (3 + 3)) 6071 = true := by decide
  have t4 : (am_z (3 + 1)).toNatClampNeg = 4 := by decide
  have t6 : (am_z (3 + 3)).toNatClampNeg = 6 := by decide
  unfold f_X9_answer f_X10_answer
  rcases qi x nU with ⟨u, hu, rfl⟩ | ⟨v, rfl, b1, b2, hv⟩
  · have u6 : u < 6 := by omega
    rcases q_ctl (N := N) (by omega) R hu with ⟨s, hs, q1, e3, qh, y1, y2⟩ | ⟨y1, y2⟩
    · have s4 : s < 4 := by omega
      obtain ⟨-, -, -, f4, -⟩ := qr_U R hu
      have e4 : hc (33 + u) 3 = am_z s := by rw [f4 (by rw [q1]; decide), e3]
      obtain ⟨-, -, c2, -⟩ := qr_S R hs
      by_cases qa : hm 197 (57 + 1504 * s) = am_z (-1)
      · refine pS_no R (v := am_z (-4)) (w := am_z 0) ?_ ?_
        · simp only [am_z_lit, am_z_neg, c_has19 n4 n2 hu, am_bi_s, if_neg z_10, c_seat n4 n2 hu, am_bt_s, y1, (g_u u u6).2, cond_true, e4, c_desk n3 n1 hs, (g_d s s4).2.2, c2, if_pos qa]
        · simp only [am_z_lit, am_z_neg, m_user m6 n2 hu, am_bi_s, if_neg z_10, y2 _ m5 hr, if_neg (zs1 s4), m_s2 hr s4, if_pos qa]
      · obtain ⟨g2, m2, k1, k2, R2, kf1, kf2, kf3⟩ := q_keep hN R1
        have hr2 : m2 197 = hm 197 := (kf2 _ (by decide) (by decide)).trans hr
        obtain ⟨-, -, c2', -⟩ := qr_S R2 hs
        have e29 : 24 + 5 + s = 29 + s := by omega
        by_cases qy : y = am_z 0
        · have R3 : qr_R nS nU (am_pi g2 26 3 (g2 26 3 + am_z 1)) (am_pi m2 197 6 (m2 197 6 + am_z 1)) := q_acc R2 (i := 3) (by decide)
          have w3 : am_pi m2 197 6 (m2 197 6 + am_z 1) 197 (56 + 1504 * s) = am_z u := by rw [am_pi_k (by omega), hr2]; exact qh
          have ec : cF hc (am_pi g2 26 3 (g2 26 3 + am_z 1)) := cFt (fun a ha => kf1 a (by omega)) (cF_p (by decide))
          have em : mF hm (am_pi m2 197 6 (m2 197 6 + am_z 1)) := mFt (mF_p (by decide)) (mFt (fun a ha => kf2 a (by omega) (by omega)) (mF_p (by decide)))
          generalize hcc : am_pi g2 26 3 (g2 26 3 + am_z 1) = g3 at *
          generalize hmm : am_pi m2 197 6 (m2 197 6 + am_z 1) = m3 at *
          obtain ⟨h0, h1, h2, h3, -, ⟨o1, o2, o3⟩, -⟩ := qr_S R3 hs
          have m56 : am_pi (am_pi (am_pi m3 197 (56 + 1504 * s) (am_z u)) 197 (57 + 1504 * s) (am_z (-1))) 197 (58 + 1504 * s) (am_z 0) 197 (56 + 1504 * s) = am_z u := by rw [am_pi_k (by omega), am_pi_k (by omega), am_pi_s]
          have m57 : am_pi (am_pi (am_pi m3 197 (56 + 1504 * s) (am_z u)) 197 (57 + 1504 * s) (am_z (-1))) 197 (58 + 1504 * s) (am_z 0) 197 (57 + 1504 * s) = am_z (-1) := by rw [am_pi_k (by omega), am_pi_s]
          have m55 : am_pi (am_pi (am_pi m3 197 (56 + 1504 * s) (am_z u)) 197 (57 + 1504 * s) (am_z (-1))) 197 (58 + 1504 * s) (am_z 0) 197 (55 + 1504 * s) = m3 197 (55 + 1504 * s) := by rw [am_pi_k (by omega), am_pi_k (by omega), am_pi_k (by omega)]
          have R4 : qr_R nS nU (am_pi g3 (29 + s) 2 (am_z (-1))) (am_pi (am_pi (am_pi m3 197 (56 + 1504 * s) (am_z u)) 197 (57 + 1504 * s) (am_z (-1))) 197 (58 + 1504 * s) (am_z 0)) := by
            refine qr_desk R3 hs (fun a ha => by rw [qc_pia ha]) (fun a ha => by rw [qc_pia ha, qc_pia ha, qc_pia ha]) (fun k hk => by rw [am_pi_k (by omega), am_pi_k (by omega), am_pi_k (by omega)]) ?_ (by rw [m56, ← w3]; exact o2) (by rw [m57]; exact Or.inl rfl)
            unfold sD
            rw [e29, m55, m56, m57, am_pi_s, am_pi_k (by decide), am_pi_k (by decide)]
            exact ⟨h0, h1.trans w3, rfl, fun z => absurd rfl z⟩
          obtain ⟨c5, m5', t1, t2, R5, sf⟩ := q_settle (N := N) (by omega) R4
          refine ⟨m2 197 (57 + 1504 * s), c5, m5', ?_, ?_, R5, cFt ec (cFt (fun a ha => ?_) (sF_c sf)), mFt em (mFt (fun a ha => ?_) (sF_M sf))⟩
          · simp only [am_z_lit, am_z_neg, c_has19 n4 n2 hu, am_bi_s, if_neg z_10, c_seat n4 n2 hu, am_bt_s, y1, (g_u u u6).2, cond_true, e4, c_desk n3 n1 hs, (g_d s s4).2.2, c2, if_neg qa, k1, if_pos qy, i3, hcc, t1, c2']
          · simp only [am_z_lit, am_z_neg, m_user m6 n2 hu, am_bi_s, if_neg z_10, y2 _ m5 hr, if_neg (zs1 s4), m_s2 hr s4, if_neg qa, k2, m_s2 (h := m2) rfl s4, if_pos qy, am_z_add, j6, cond_true, t6, hmm, m_hasC s4, t2]
          · rw [qc_pia (by omega)]
          · rw [qc_pia (by omega), qc_pia (by omega), qc_pia (by omega)]
        · have R3 : qr_R nS nU (am_pi g2 26 1 (g2 26 1 + am_z 1)) (am_pi m2 197 4 (m2 197 4 + am_z 1)) := q_acc R2 (i := 1) (by decide)
          have w4 : am_pi m2 197 4 (m2 197 4 + am_z 1) 197 (57 + 1504 * s) = m2 197 (57 + 1504 * s) := by rw [am_pi_k (by omega)]
          have ec : cF hc (am_pi g2 26 1 (g2 26 1 + am_z 1)) := cFt (fun a ha => kf1 a (by omega)) (cF_p (by decide))
          have em : mF hm (am_pi m2 197 4 (m2 197 4 + am_z 1)) := mFt (mF_p (by decide)) (mFt (fun a ha => kf2 a (by omega) (by omega)) (mF_p (by decide)))
          generalize hcc : am_pi g2 26 1 (g2 26 1 + am_z 1) = g3 at *
          generalize hmm : am_pi m2 197 4 (m2 197 4 + am_z 1) = m3 at *
          obtain ⟨g4, m4, l1, l2, R4, F, -⟩ := q_hand (N := N) R3 hs
          have l3 : f_X10_hasControl N (am_z s) (m2 197 (57 + 1504 * s)) m3 = some ((), m4) := by
            rw [m_gives s4] at l2
            rw [m_hasC s4, ← w4]
            exact l2
          obtain ⟨c5, m5', t1, t2, R5, sf⟩ := q_settle (N := N) (by omega) R4
          refine ⟨m2 197 (57 + 1504 * s), c5, m5', ?_, ?_, R5, cFt ec (cFt (fun a ha => F.1 a (by omega)) (sF_c sf)), mFt em (mFt (fun a ha => F.2.1 a (by omega)) (sF_M sf))⟩
          · simp only [am_z_lit, am_z_neg, c_has19 n4 n2 hu, am_bi_s, if_neg z_10, c_seat n4 n2 hu, am_bt_s, y1, (g_u u u6).2, cond_true, e4, c_desk n3 n1 hs, (g_d s s4).2.2, c2, if_neg qa, k1, if_neg qy, i1, hcc, l1, t1, c2']
          · simp only [am_z_lit, am_z_neg, m_user m6 n2 hu, am_bi_s, if_neg z_10, y2 _ m5 hr, if_neg (zs1 s4), m_s2 hr s4, if_neg qa, k2, m_s2 (h := m2) rfl s4, if_neg qy, am_z_add, j4, cond_true, t4, hmm, l3, t2]
    · refine pS_no R (v := am_z (-4)) (w := am_z 0) ?_ ?_
      · simp only [am_z_lit, am_z_neg, c_has19 n4 n2 hu, am_bi_s, if_neg z_10, c_seat n4 n2 hu, am_bt_s, y1, if_true]
      · simp only [am_z_lit, am_z_neg, m_user m6 n2 hu, am_bi_s, if_neg z_10, y2 _ m5 hr, if_true]
  · refine pS_no R (v := am_z (-1)) (w := am_z 0) ?_ ?_
    · simp only [am_z_lit, am_z_neg, c_has19n n4 n2 ⟨b1, b2⟩ hv, am_bi_s, if_true]
    · simp only [am_z_lit, am_z_neg, m_usern m6 n2 ⟨b1, b2⟩ hv, am_bi_s, if_true]
end CH4
