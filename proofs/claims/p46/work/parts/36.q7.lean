section Q7
variable {N nS nU : Nat} {hc hm : am_Hp}
theorem c_fr33 {h1 : am_Hp} (f : cfr hc h1) {x : Nat} (hx : x < 161) : h1 x = hc x := f x (by omega) (by omega) (by omega) (by omega)
def rTop (t : qc_T) (r : Nat → Int32) (u : Nat) : Nat := t.2.2.2.2.1 + t.2.2.1 + 1 - nv (r (14 + 8 * u)) - nv (r (8 + 8 * u))
theorem q_laysW (hN : 1000 ≤ N) (R : qr_R nS nU hc hm) {u : Nat} {h : am_Hp} (hu : u < nU) (hw : hm 197 (9 + 8 * u) ≠ am_z 0) (e1 : h 195 = hm 195) (hr : h 197 = hm 197) :
    ∃ (s q : Nat) (h1 h2 : am_Hp), s < nS ∧ f_X9_positionOf N (33 + u) hc = some (some (am_z q), hc) ∧ hc (33 + u) 3 = am_z s ∧ f_X9_draw N 161 (am_z s) (am_z q) hc = some (some (), h1) ∧ qc_R 161 162 h1 (rLay hm s q) ∧ cfr hc h1 ∧
      f_X9_uppermostLine N (33 + u) h1 = some (am_z (rTop (rLay hm s q) (hm 197) u), h1) ∧ f_X10_laysWindow N (am_z u) h = some ((), h2) ∧ qm_R h2 (rLay hm s q) ∧ mfr h h2 ∧ h2 193 0 = h 193 0 ∧ h2 193 27 = am_z (rTop (rLay hm s q) (hm 197) u) ∧ qc_OK (rLay hm s q) ∧ qc_NB (rLay hm s q) ∧ rTop (rLay hm s q) (hm 197) u ≤ (rLay hm s q).2.2.2.2.1 + (rLay hm s q).2.2.1 := by
  obtain ⟨n1, n2, n3, n4, n5, n6⟩ := qr_n R
  obtain ⟨b1, b2, b3, b4, b5, b6, b7, bV⟩ := qr_U R hu
  have u6 : u < 6 := by omega
  have p1 := c_pos (N := N) hN n3 n1 n2 R.2.2.1 R.2.2.2.1 hu hw
  have p2 := m_pos (N := N) (hm := h) hN n1 n2 hr R.2.2.2.1 hu hw
  have p3 := rPos_le bV hw
  obtain ⟨s1, s2⟩ := bV.2.2.2.1 hw
  have vwh := bV.2.1
  have vlb := bV.2.2.2.2.2.2.2
  generalize hss : nv (hm 197 (10 + 8 * u)) = s at *
  have e3 : hm 197 (10 + 8 * u) = am_z s := by rw [s1.1, hss]
  obtain ⟨h1, h2, a1, a2, a3, c1, c2, c3, ok⟩ := q_lay (N := N) hN R s2 p3 e1 hr
  have o := qc_OKw ok
  have nb := rLay_nb R s2 p3
  generalize ht : rLay hm s (rPos (hm 197) u) = t at *
  have vl2 := vlb.2.2
  have vw1 := vwh.2.1
  have vw2 := vwh.2.2
  have hT : rTop t (hm 197) u ≤ t.2.2.2.2.1 + t.2.2.1 := by unfold rTop; omega
  have eT : max ((t.2.2.2.2.1 : Int) + t.2.2.1 - nv (hm 197 (14 + 8 * u)) - nv (hm 197 (8 + 8 * u)) + 1) 0 = (rTop t (hm 197) u : Int) := by unfold rTop; omega
  have eT2 : max 0 ((t.2.2.2.2.1 : Int) + t.2.2.1 - nv (hm 197 (14 + 8 * u)) - nv (hm 197 (8 + 8 * u)) + 1) = (rTop t (hm 197) u : Int) := by unfold rTop; omega
  have hr2 : h2 197 = hm 197 := by rw [c3.1 _ (by decide) (by decide) (by decide) (by decide)]; exact hr
  refine ⟨s, rPos (hm 197) u, h1, am_pi h2 193 27 (am_z (rTop t (hm 197) u)), s2, p1, by rw [b4 hw, e3], a1, ht ▸ a2, a3, ?_, ?_, ?_, mfrt (mfrs c3) (mfrp (by omega)), ?_, by rw [ht]; exact am_pi_s _ _ _ _, ht ▸ ok, ht ▸ nb, ht ▸ hT⟩
  · unfold f_X9_uppermostLine f_X4_cursorLine
    simp only [(qc_O1 (o := 161) (p := 162) (Or.inl ⟨rfl, rfl⟩)).1, cond_true, (qc_Rw a2).2.2.1, (qc_Rw a2).2.2.2.1, am_bi_s, (g_u u u6).2, c_fr33 a3 (show 33 + u < 161 by omega), b2, b7, am_z_lit, am_z_add]
    rw [vlb.1, vwh.1]
    simp only [am_z_sub, am_z_add]
    simp (disch := omega) only [am_z_lt, am_z_max]
    rw [ht, eT]
  · unfold f_X10_laysWindow
    simp only [am_z_lit, m_u3 hr u6, e3, p2, am_bi_s, c1, m_u7 hr2 u6, m_u1 hr2 u6, (qm_Rw c2).2.2.1, (qm_Rw c2).2.2.2.1]
    rw [vlb.1, vwh.1]
    simp only [am_z_sub, am_z_add]
    simp (disch := omega) only [am_z_lt, am_z_max]
    rw [eT2]
  · rw [ht]
    obtain ⟨w, hh, row, col, up, L⟩ := t
    obtain ⟨r1, r2, r3, k1, k2, k3, k4⟩ := c2
    unfold qm_R qm_K
    simp (disch := decide) only [am_pi_k, am_pi_a]
    exact ⟨r1, r2, r3, k1, k2, k3, k4⟩
  · rw [am_pi_k (by decide), c3.2 0 (by decide) (by decide) (by decide) (by decide) (by decide)]
/-- what the window shows -/
theorem m_seen {h : am_Hp} {t : qc_T} {T y c : Nat} (hR : qm_R h t) (ok : qc_OK t) (nb : qc_NB t) (hT : h 193 27 = am_z T) (b : T < 100 ∧ y < 6 ∧ c < 16) : f_X10_seen N (am_z y) (am_z c) h = some (t.2.2.2.2.2 (T + y) c, h) := by
  have ep := fun v => m_place (N := N) (y := v) (c := c) hR ok
  obtain ⟨w, hh, row, col, up, L⟩ := t
  have nb : ∀ l c, L l c ≠ am_z (-1) := nb
  obtain ⟨r1, r2, r3, hK⟩ := hR
  obtain ⟨a1, a2, a3, a4, a5, a6, a7, a8, a9, a10⟩ := ok
  have e1 : (T : Int) + y = ((T + y : Nat) : Int) := by omega
  unfold f_X10_seen
  simp (disch := omega) only [hK.2.1, hT, am_z_lit, am_z_neg, am_z_add, am_z_le, e1, am_z_sub]
  by_cases q : up ≤ T + y
  · have e2 : ((T + y : Nat) : Int) - up = ((T + y - up : Nat) : Int) := by omega
    rw [if_pos (by omega), e2, ep _ (by omega), am_bi_s]
    simp only
    by_cases q2 : T + y - up < hh ∧ c < w
    · have hq : (0 : Int) ≤ ((T + y - up : Nat) : Int) ∧ ((T + y - up : Nat) : Int) < hh ∧ (0 : Int) ≤ c ∧ (c : Int) < w := by omega
      have e3 : up + (T + y - up) = T + y := by omega
      simp only [if_pos hq, Int.toNat_natCast, e3, if_neg (nb _ _)]
    · have hq : ¬ ((0 : Int) ≤ ((T + y - up : Nat) : Int) ∧ ((T + y - up : Nat) : Int) < hh ∧ (0 : Int) ≤ c ∧ (c : Int) < w) := by omega
      simp only [if_neg hq, if_true]
      have : L (T + y) c = am_z 27 := by
        by_cases q3 : T + y - up < hh
        · exact a9 _ _ q (by omega)
        · exact a8 _ _ (by omega)
      rw [this]
  · have kl := m_line hK (l := T + y) (c := c) (by omega) b.2.2
    have e5 : 16 * ((T + y : Nat) : Int) + c = ((16 * (T + y) + c : Nat) : Int) := by omega
    rw [if_neg (by omega)]
    simp (disch := omega) only [am_z_mul, am_z_add, e5, m_in, cond_true, am_z_cl, Int.toNat_natCast]
    rw [← kl]
    split <;> rfl
theorem pT_w {a : Option (Option Int32 × am_Hp)} {b : Option (Int32 × am_Hp)} {hc hm h1 h2 : am_Hp} {v v' : Int32} (f : cfr hc h1) (g : mfr (am_pi hm 193 0 (am_z 0)) h2) (z : h2 193 0 = am_pi hm 193 0 (am_z 0) 193 0) (e1 : a = some (some v, h1)) (e2 : b = some (v', h2)) (e : v = v') : pT a b hc hm :=
  ⟨_, _, _, _, e1, e2, f, mfrt (mfrp (by omega)) g, Or.inr ⟨by rw [e], by rw [z]; exact am_pi_s _ _ _ _⟩⟩
theorem q_shown (hN : 1000 ≤ N) (R : qr_R nS nU hc hm) (x y c : Int32) : pT (f_X9_shown N x y c hc) (f_X10_shown N x y c hm) hc hm := by
  obtain ⟨n1, n2, n3, n4, n5, n6⟩ := qr_n R
  unfold f_X9_shown f_X10_shown
  rcases qi x nU with ⟨u, hu, rfl⟩ | ⟨v, rfl, b1, b2, hv⟩
  · obtain ⟨b1, b2, b3, b4, b5, b6, b7, bV⟩ := qr_U R hu
    have u6 : u < 6 := by omega
    have hr : am_pi hm 193 0 (am_z 0) 197 = hm 197 := thr_e (by decide)
    simp only [am_z_lit, am_z_neg, c_seat n4 n2 hu, am_bt_s, m_user n6 n2 hu, am_bi_s, m_chk1, if_neg z_10, (g_u u u6).2, cond_true, b3, b1, b2, m_wat hr u6, m_u0 hr u6, m_u1 hr u6]
    by_cases q0 : hm 197 (9 + 8 * u) = am_z 0
    · simp only [if_pos q0, if_true]; exact pT_s rfl rfl rfl
    simp only [if_neg q0, if_neg z_10]
    obtain ⟨s, q, h1, h2, hs, a1, a2, a3, a4, a5, a6, a7, a8, a9, a10, a11, ok, nb, hT⟩ := q_laysW (N := N) hN R hu q0 (h := am_pi hm 193 0 (am_z 0)) (thr_e (by decide)) hr
    have o := qc_OKw ok
    have vw := bV.1
    have vh := bV.2.1
    have vw2 := vw.2.2
    have vh2 := vh.2.2
    obtain ⟨yy, rfl, y1, y2⟩ := am_z_ex y
    obtain ⟨cc, rfl, z1, z2⟩ := am_z_ex c
    have ew : (am_z yy < am_z 0) = (yy < 0) := am_z_lt y1 y2 (by omega) (by omega)
    have ew2 : (am_z cc < am_z 0) = (cc < 0) := am_z_lt z1 z2 (by omega) (by omega)
    have ew3 : (hm 197 (8 + 8 * u) ≤ am_z yy) = ((nv (hm 197 (8 + 8 * u)) : Int) ≤ yy) := by
      have h := am_z_le (x := (nv (hm 197 (8 + 8 * u)) : Int)) (y := yy) (by omega) (by omega) y1 y2
      rw [← vh.1] at h; exact h
    have ew4 : (am_z cc < hm 197 (7 + 8 * u)) = (cc < (nv (hm 197 (7 + 8 * u)) : Int)) := by
      have h := am_z_lt (y := (nv (hm 197 (7 + 8 * u)) : Int)) (x := cc) z1 z2 (by omega) (by omega)
      rw [← vw.1] at h; exact h
    simp only [ew, ew2, ew3, ew4]
    by_cases c1 : yy < 0
    · simp only [if_pos c1]; exact pT_s rfl rfl rfl
    by_cases c2 : (nv (hm 197 (8 + 8 * u)) : Int) ≤ yy
    · simp only [if_neg c1, if_pos c2]; exact pT_s rfl rfl rfl
    by_cases c3 : cc < 0
    · simp only [if_neg c1, if_neg c2, if_pos c3]; exact pT_s rfl rfl rfl
    by_cases c4 : cc < (nv (hm 197 (7 + 8 * u)) : Int)
    · simp only [if_neg c1, if_neg c2, if_neg c3, if_pos c4]
      obtain ⟨y', rfl⟩ : ∃ q : Nat, yy = q := ⟨yy.toNat, by omega⟩
      obtain ⟨c', rfl⟩ : ∃ q : Nat, cc = q := ⟨cc.toNat, by omega⟩
      simp only [a1, am_bt_s, a2, a3, a6, am_bi_s, a7, m_seen a8 ok nb a11 (show _ < 100 ∧ y' < 6 ∧ c' < 16 by omega), am_z_add]
      rw [qc_symL (Or.inl ⟨rfl, rfl⟩) a4 ok (by omega), am_bi_s, if_neg (by omega)]
      refine pT_w a5 a9 a10 rfl rfl ?_
      congr 1
    · simp only [if_neg c1, if_neg c2, if_neg c3, if_neg c4]; exact pT_s rfl rfl rfl
  · refine pT_n ?_ ?_
    · simp only [c_seatn n4 n2 ⟨b1, b2⟩ hv, am_bt_n]
    · simp only [am_z_lit, m_usern n6 n2 ⟨b1, b2⟩ hv, am_bi_s, m_chk0, if_true]
theorem q_cursorRow (hN : 1000 ≤ N) (R : qr_R nS nU hc hm) (x : Int32) : pT (f_X9_cursorRow N x hc) (f_X10_cursorRow N x hm) hc hm := by
  obtain ⟨n1, n2, n3, n4, n5, n6⟩ := qr_n R
  unfold f_X9_cursorRow f_X10_cursorRow
  rcases qi x nU with ⟨u, hu, rfl⟩ | ⟨v, rfl, b1, b2, hv⟩
  · obtain ⟨b1, b2, b3, b4, b5, b6, b7, bV⟩ := qr_U R hu
    have u6 : u < 6 := by omega
    have hr : am_pi hm 193 0 (am_z 0) 197 = hm 197 := thr_e (by decide)
    simp only [am_z_lit, am_z_neg, c_seat n4 n2 hu, am_bt_s, m_user n6 n2 hu, am_bi_s, m_chk1, if_neg z_10, (g_u u u6).2, cond_true, b3, m_wat hr u6]
    by_cases q0 : hm 197 (9 + 8 * u) = am_z 0
    · simp only [if_pos q0, if_true]; exact pT_s rfl rfl rfl
    simp only [if_neg q0, if_neg z_10]
    obtain ⟨s, q, h1, h2, hs, a1, a2, a3, a4, a5, a6, a7, a8, a9, a10, a11, ok, nb, hT⟩ := q_laysW (N := N) hN R hu q0 (h := am_pi hm 193 0 (am_z 0)) (thr_e (by decide)) hr
    have o := qc_OKw ok
    have vh := bV.2.1
    have vh2 := vh.2.2
    have hr2 : h2 197 = hm 197 := by rw [a9.1 _ (by decide) (by decide) (by decide) (by decide) (by decide)]; exact hr
    unfold f_X4_cursorLine
    simp only [a1, am_bt_s, a2, a3, (qc_O1 (o := 161) (p := 162) (Or.inl ⟨rfl, rfl⟩)).1, cond_true, (qc_Rw a4).2.2.1, (qc_Rw a4).2.2.2.1, am_bi_s, a6, c_fr33 a5 (show 33 + u < 161 by omega), b2, a7, (qm_Rw a8).2.2.1, (qm_Rw a8).2.2.2.1, a11, m_u1 hr2 u6, am_z_add, am_z_sub]
    generalize rTop (rLay hm s q) (hm 197) u = T at *
    have e1 : ((rLay hm s q).2.2.2.2.1 : Int) + (rLay hm s q).2.2.1 - T = (((rLay hm s q).2.2.2.2.1 + (rLay hm s q).2.2.1 - T : Nat) : Int) := by omega
    rw [e1]
    have e2 : ¬ (am_z (((rLay hm s q).2.2.2.2.1 + (rLay hm s q).2.2.1 - T : Nat) : Int) < am_z 0) := by rw [am_z_lt (by omega) (by omega) (by omega) (by omega)]; omega
    rw [if_neg e2]
    by_cases q5 : hm 197 (8 + 8 * u) ≤ am_z (((rLay hm s q).2.2.2.2.1 + (rLay hm s q).2.2.1 - T : Nat) : Int)
    · simp only [if_pos q5]; exact pT_w a5 a9 a10 rfl rfl rfl
    · simp only [if_neg q5]; exact pT_w a5 a9 a10 rfl rfl rfl
  · refine pT_n ?_ ?_
    · simp only [c_seatn n4 n2 ⟨b1, b2⟩ hv, am_bt_n]
    · simp only [am_z_lit, m_usern n6 n2 ⟨b1, b2⟩ hv, am_bi_s, m_chk0, if_true]
end Q7
