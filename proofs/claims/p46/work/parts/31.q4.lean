section Q4
variable {N nS nU : Nat} {hc hm : am_Hp}
theorem m_narL {y : Int32} {s : Nat} {h1 : am_Hp} (n2 : nU ≤ 6) (e1 : h1 195 1 = am_z nU) (hr : h1 197 = hm 197) : ∀ (k u n : Nat) (l f : Int32), u + k = nU → k < n → l_X10_narrowest_39 N n (am_z s) y f l (am_z u) h1 = some ((rLw (hm 197) s y k u l f).2, h1)
  | k, u, 0, l, f, _, h => by omega
  | 0, u, n + 1, l, f, h, h2 => by
    have i1 : am_in (am_z 1) 20 = true := by decide
    have e : u = nU := by omega
    subst e
    unfold l_X10_narrowest_39 rLw
    simp only [am_z_lit, i1, cond_true, e1]
    rw [if_pos (Int32.le_refl _)]
  | k + 1, u, n + 1, l, f, h, h2 => by
    have i1 : am_in (am_z 1) 20 = true := by decide
    have hu : u < nU := by omega
    have u6 : u < 6 := by omega
    have hlt : ¬ (am_z nU ≤ am_z u) := by rw [am_z_le (by omega) (by omega) (by omega) (by omega)]; omega
    have e4 : (u : Int) + 1 = ((u + 1 : Nat) : Int) := by omega
    unfold l_X10_narrowest_39
    rw [rLw]
    simp only [am_z_lit, i1, cond_true, e1, if_neg hlt, m_live hr u6, am_bi_s, m_u0 hr u6, m_u1 hr u6, am_z_add, e4]
    have key : ∀ w, (if (if hm 197 (9 + 8 * u) = am_z 1 ∧ hm 197 (10 + 8 * u) = am_z s then am_z 1 else am_z 0) = am_z 0 then l_X10_narrowest_39 N n (am_z s) y f l (am_z ((u + 1 : Nat) : Int)) h1 else if w < l then l_X10_narrowest_39 N n (am_z s) y (am_z u) w (am_z ((u + 1 : Nat) : Int)) h1 else l_X10_narrowest_39 N n (am_z s) y f l (am_z ((u + 1 : Nat) : Int)) h1) = some ((if rLive (hm 197) s u ∧ w < l then rLw (hm 197) s y k (u + 1) w (am_z u) else rLw (hm 197) s y k (u + 1) l f).2, h1) := by
      intro w
      by_cases q : rLive (hm 197) s u
      · rw [if_pos q, if_neg z_10]
        by_cases q2 : w < l
        · rw [if_pos q2, if_pos (show rLive (hm 197) s u ∧ w < l from ⟨q, q2⟩)]
          exact m_narL n2 e1 hr k (u + 1) n _ _ (by omega) (by omega)
        · rw [if_neg q2, if_neg (show ¬ (rLive (hm 197) s u ∧ w < l) from fun z => q2 z.2)]
          exact m_narL n2 e1 hr k (u + 1) n _ _ (by omega) (by omega)
      · rw [if_neg q, if_pos rfl, if_neg (show ¬ (rLive (hm 197) s u ∧ w < l) from fun z => q z.1)]
        exact m_narL n2 e1 hr k (u + 1) n _ _ (by omega) (by omega)
    unfold rWin
    by_cases qy : y = am_z 0
    · simp only [if_pos qy]
      exact key _
    · simp only [if_neg qy]
      exact key _
theorem q_narrowest (hN : 1000 ≤ N) (R : qr_R nS nU hc hm) (x y : Int32) : pT (f_X9_narrowest N x y hc) (f_X10_narrowest N x y hm) hc hm := by
  obtain ⟨n1, n2, n3, n4, n5, n6⟩ := qr_n R
  unfold f_X9_narrowest f_X10_narrowest
  rcases qi x nS with ⟨s, hs, rfl⟩ | ⟨v, rfl, b1, b2, hv⟩
  · have e3 : (12 : Int) + s = ((12 + s : Nat) : Int) := by omega
    have e4 : (16 : Int) + s = ((16 + s : Nat) : Int) := by omega
    have step := fun l => m_narL (N := N) (hm := hm) (h1 := am_pi hm 193 0 (am_z 0)) (y := y) (s := s) n2 (by rw [thr_e (by decide)]; exact n6) (thr_e (by decide)) nU 0 N l (am_z (-1)) (by omega) (by omega)
    have step' : ∀ l, l_X10_narrowest_39 N N (am_z s) y (am_z (-1)) l (am_z 0) (am_pi hm 193 0 (am_z 0)) = _ := step
    simp (disch := omega) only [am_z_lit, am_z_neg, c_desk n3 n1 hs, am_bt_s, m_sess n5 n1 hs, am_bi_s, m_chk1, if_neg z_10, c_lw hN R hs, am_z_add, e3, e4, m_in, cond_true, am_z_cl, Int.toNat_natCast, step', thr_e (show (195 : Nat) ≠ 193 by decide)]
    by_cases qy : y = am_z 0
    · simp only [if_pos qy]; exact pT_s rfl rfl rfl
    · simp only [if_neg qy]; exact pT_s rfl rfl rfl
  · refine pT_n ?_ ?_
    · simp only [c_deskn n3 n1 ⟨b1, b2⟩ hv, am_bt_n]
    · simp only [am_z_lit, m_sessn n5 n1 ⟨b1, b2⟩ hv, am_bi_s, m_chk0, if_true]
theorem q_watchersL {w : Int32} {s : Nat} (R : qr_R nS nU hc hm) (hw : w ≠ am_z 0) {h1 : am_Hp} (e1 : h1 195 1 = am_z nU) (hr : h1 197 = hm 197) : ∀ (k u n : Nat) (a : Int32), u + k = nU → k < n → ∃ v, l_X9_watchers_28 N n (am_z s) w a (am_z u) hc = some (some v, hc) ∧ l_X10_watchers_19 N n (am_z s) w a (am_z u) h1 = some (v, h1)
  | k, u, 0, a, _, h => by omega
  | 0, u, n + 1, a, h, h2 => by
    obtain ⟨n1, n2, n3, n4, n5, n6⟩ := qr_n R
    have i1 : am_in (am_z 1) 20 = true := by decide
    have e : u = nU := by omega
    subst e
    unfold l_X9_watchers_28 l_X10_watchers_19
    simp only [am_z_lit, i1, cond_true, e1, n4, if_pos (Int32.le_refl _)]
    exact ⟨_, rfl, rfl⟩
  | k + 1, u, n + 1, a, h, h2 => by
    obtain ⟨n1, n2, n3, n4, n5, n6⟩ := qr_n R
    have i1 : am_in (am_z 1) 20 = true := by decide
    have hu : u < nU := by omega
    have u6 : u < 6 := by omega
    have hlt : ¬ (am_z nU ≤ am_z u) := by rw [am_z_le (by omega) (by omega) (by omega) (by omega)]; omega
    have e4 : (u : Int) + 1 = ((u + 1 : Nat) : Int) := by omega
    have e0 : a ||| am_z 0 = a := Int32.or_zero
    unfold l_X9_watchers_28 l_X10_watchers_19
    simp only [am_z_lit, i1, cond_true, e1, n4, if_neg hlt, c_seat n4 n2 hu, am_bt_s, (g_u u u6).2, c_watches R hu hw, am_bi_s, if_neg hw, m_u2 hr u6, m_u3 hr u6, am_z_add, e4, e0]
    by_cases q : hm 197 (9 + 8 * u) = w
    · by_cases q2 : hm 197 (10 + 8 * u) = am_z s
      · simp only [if_pos q, if_pos q2, if_pos (show hm 197 (9 + 8 * u) = w ∧ hm 197 (10 + 8 * u) = am_z s from ⟨q, q2⟩), if_neg z_10]
        exact q_watchersL R hw e1 hr k (u + 1) n _ (by omega) (by omega)
      · simp only [if_pos q, if_neg q2, if_neg (show ¬ (hm 197 (9 + 8 * u) = w ∧ hm 197 (10 + 8 * u) = am_z s) from fun z => q2 z.2), if_true]
        exact q_watchersL R hw e1 hr k (u + 1) n _ (by omega) (by omega)
    · simp only [if_neg q, if_neg (show ¬ (hm 197 (9 + 8 * u) = w ∧ hm 197 (10 + 8 * u) = am_z s) from fun z => q z.1), if_true]
      exact q_watchersL R hw e1 hr k (u + 1) n _ (by omega) (by omega)
theorem m_watch0 {w : Int32} {x : Int32} (n2 : nU ≤ 6) (hw : ∀ u, u < nU → hm 197 (9 + 8 * u) ≠ w) {h1 : am_Hp} (e1 : h1 195 1 = am_z nU) (hr : h1 197 = hm 197) : ∀ (k u n : Nat), u + k = nU → k < n → l_X10_watchers_19 N n x w (am_z 0) (am_z u) h1 = some (am_z 0, h1)
  | k, u, 0, _, h => by omega
  | 0, u, n + 1, h, h2 => by
    have i1 : am_in (am_z 1) 20 = true := by decide
    have e : u = nU := by omega
    subst e
    unfold l_X10_watchers_19
    simp only [am_z_lit, i1, cond_true, e1, if_pos (Int32.le_refl _)]
  | k + 1, u, n + 1, h, h2 => by
    have i1 : am_in (am_z 1) 20 = true := by decide
    have hu : u < nU := by omega
    have u6 : u < 6 := by omega
    have hlt : ¬ (am_z nU ≤ am_z u) := by rw [am_z_le (by omega) (by omega) (by omega) (by omega)]; omega
    have e4 : (u : Int) + 1 = ((u + 1 : Nat) : Int) := by omega
    have e0 : am_z 0 ||| am_z 0 = am_z 0 := by decide
    unfold l_X10_watchers_19
    simp only [am_z_lit, i1, cond_true, e1, if_neg hlt, am_bi_s, m_u2 hr u6, am_z_add, e4, e0, if_neg (hw u hu)]
    rw [m_watch0 n2 hw e1 hr k (u + 1) n (by omega) (by omega), ite_self]
theorem q_watchers (hN : 1000 ≤ N) (R : qr_R nS nU hc hm) (x w : Int32) : pT (f_X9_watchers N x w hc) (f_X10_watchers N x w hm) hc hm := by
  obtain ⟨n1, n2, n3, n4, n5, n6⟩ := qr_n R
  unfold f_X9_watchers f_X10_watchers
  rcases qi x nS with ⟨s, hs, rfl⟩ | ⟨v, rfl, b1, b2, hv⟩
  · simp only [am_z_lit, c_desk n3 n1 hs, am_bt_s, m_sess n5 n1 hs, am_bi_s, m_chk1, if_neg z_10]
    have e1 : am_pi hm 193 0 (am_z 0) 195 1 = am_z nU := by rw [thr_e (by decide)]; exact n6
    have key : w ≠ am_z 0 → pT (l_X9_watchers_28 N N (am_z s) w (am_z 0) (am_z 0) hc) (l_X10_watchers_19 N N (am_z s) w (am_z 0) (am_z 0) (am_pi hm 193 0 (am_z 0))) hc hm := by
      intro hw
      obtain ⟨v, a1, a2⟩ := q_watchersL (N := N) (s := s) R hw (h1 := am_pi hm 193 0 (am_z 0)) e1 (thr_e (by decide)) nU 0 N (am_z 0) (by omega) (by omega)
      exact pT_s a1 a2 rfl
    by_cases q1 : w = am_z 1
    · rw [if_pos q1]; exact key (by rw [q1]; decide)
    by_cases q2 : w = am_z 2
    · rw [if_neg q1, if_pos q2]; exact key (by rw [q2]; decide)
    by_cases q3 : w = am_z 3
    · rw [if_neg q1, if_neg q2, if_pos q3]; exact key (by rw [q3]; decide)
    rw [if_neg q1, if_neg q2, if_neg q3]
    refine pT_s rfl (v' := am_z 0) ?_ rfl
    by_cases q0 : w = am_z 0
    · obtain ⟨N', rfl⟩ : ∃ N', N = N' + 1 := ⟨N - 1, by omega⟩
      have i1 : am_in (am_z 1) 20 = true := by decide
      unfold l_X10_watchers_19
      simp only [am_z_lit, i1, cond_true, if_pos q0, ite_self]
    · have step := m_watch0 (N := N) (x := am_z s) (w := w) (hm := hm) n2 (fun u hu => by
        rcases vU_way (R.2.2.2.1.2.2 u hu) with z | z | z | z <;> rw [z]
        · exact Ne.symm q0
        · exact Ne.symm q1
        · exact Ne.symm q2
        · exact Ne.symm q3) e1 (thr_e (by decide)) nU 0 N (by omega) (by omega)
      exact step
  · refine pT_n ?_ ?_
    · simp only [c_deskn n3 n1 ⟨b1, b2⟩ hv, am_bt_n]
    · simp only [am_z_lit, m_sessn n5 n1 ⟨b1, b2⟩ hv, am_bi_s, m_chk0, if_true]
-- ---- typedBy
theorem q_typedE {x : Int32} {s u : Nat} (R : qr_R nS nU hc hm) (hs : s < nS) (hu : u < 6) {h1 : am_Hp} (hr : h1 197 = hm 197) : ∀ (k e n m : Nat) (c : Int32), e + k = nv (hm 197 (55 + 1504 * s)) → k < n → k < m →
    ∃ v, l_X3_eventsTypedBy_5 N n (165 + 7 * s) (am_z u) (hm 197 (55 + 1504 * s)) c (am_z e) hc = some (v, hc) ∧ ∀ K c0, l_X10_typedBy_31 N K m (am_z u) (c0 + c) (am_z s) (am_z e) h1 = K (am_z u) (c0 + v) (am_z ((s + 1 : Nat) : Int)) h1
  | k, e, 0, m, c, _, h, _ => by omega
  | k, e, n, 0, c, _, _, h => by omega
  | 0, e, n + 1, m + 1, c, h, h2, h3 => by
    obtain ⟨n1, n2, n3, n4, n5, n6⟩ := qr_n R
    obtain ⟨c0, c1, c2, c3, cE, ⟨d1, -⟩, dE⟩ := qr_S R hs
    have s4 : s < 4 := by omega
    have hle : hm 197 (55 + 1504 * s) ≤ am_z e := by
      have := d1.2.2
      rw [d1.1, am_z_le (by omega) (by omega) (by omega) (by omega)]; omega
    have e4 : (s : Int) + 1 = ((s + 1 : Nat) : Int) := by omega
    unfold l_X3_eventsTypedBy_5
    refine ⟨c, by rw [if_pos hle], fun K c0 => ?_⟩
    unfold l_X10_typedBy_31
    simp only [m_evr hr s4, am_bi_s, if_pos hle, am_z_lit, am_z_add, e4]
  | k + 1, e, n + 1, m + 1, c, h, h2, h3 => by
    obtain ⟨n1, n2, n3, n4, n5, n6⟩ := qr_n R
    obtain ⟨c0, c1, c2, c3, cE, ⟨d1, -⟩, dE⟩ := qr_S R hs
    have s4 : s < 4 := by omega
    have d2 := d1.2.2
    have he : e < nv (hm 197 (55 + 1504 * s)) := by omega
    have hle : ¬ (hm 197 (55 + 1504 * s) ≤ am_z e) := by
      rw [d1.1, am_z_le (by omega) (by omega) (by omega) (by omega)]; omega
    have e4 : (e : Int) + 1 = ((e + 1 : Nat) : Int) := by omega
    obtain ⟨g1, g2, g3, g4, g5⟩ := rc_f s s4
    obtain ⟨g6, g7, g8⟩ := g5 4 (by decide)
    have i4 : am_in (am_z 4) 5 = true := by decide
    have i5 : am_in (am_z e) 300 = true := m_in (by omega) (by decide)
    have ec : hc (167 + 7 * s + 4) e = hm 197 (63 + 1504 * s + 5 * e) := by
      have := cE e he 4 (by decide)
      unfold rc_e at this
      rw [this]; congr 1; omega
    unfold l_X3_eventsTypedBy_5
    simp (disch := omega) only [am_z_lit, am_z_le, if_neg hle, if_neg (show ¬ ((300 : Int) ≤ e) by omega), g1, g2, g3, g4, g6, g7, g8, i4, i5, cond_true, Option.bind_some, Bool.and_true, am_z_cl, Int.toNat_natCast, ec, am_z_add, e4]
    have kz : ∀ a b : Int32, a + b + am_z 0 = a + b := fun a b => Int32.add_zero _
    have ka : ∀ a b : Int32, a + b + am_z 1 = a + (b + am_z 1) := fun a b => Int32.add_assoc _ _ _
    obtain ⟨q1, q2⟩ := dE e he
    have e3 : e < 300 := by omega
    by_cases q : hm 197 (63 + 1504 * s + 5 * e) = am_z u
    · have q0 : hm 197 (59 + 1504 * s + 5 * e) = am_z 0 := by
        rcases q1 with ⟨z, -⟩ | ⟨z, -⟩
        · have := q2 z
          rw [this, am_z_eq (by omega) (by omega) (by omega) (by omega)] at q
          omega
        · exact z
      rw [if_pos q]
      obtain ⟨v, a1, a2⟩ := q_typedE (x := x) R hs hu hr k (e + 1) n m (c + am_z 1) (by omega) (by omega) (by omega)
      refine ⟨v, a1, fun K c0 => ?_⟩
      unfold l_X10_typedBy_31
      simp only [m_evr hr s4, am_bi_s, if_neg hle, am_z_lit, m_e0 hr s4 e3, m_e4 hr s4 e3, q0, if_true, q, am_z_add, e4, ka, a2]
    · rw [if_neg q]
      obtain ⟨v, a1, a2⟩ := q_typedE (x := x) R hs hu hr k (e + 1) n m c (by omega) (by omega) (by omega)
      refine ⟨v, a1, fun K c0 => ?_⟩
      unfold l_X10_typedBy_31
      simp only [m_evr hr s4, am_bi_s, if_neg hle, am_z_lit, m_e0 hr s4 e3, m_e4 hr s4 e3, if_neg q, am_z_add, e4, kz, a2, ite_self]
theorem q_typedS {u : Nat} (hN : 1000 ≤ N) (R : qr_R nS nU hc hm) (hu : u < 6) {h1 : am_Hp} (e1 : h1 195 0 = am_z nS) (hr : h1 197 = hm 197) : ∀ (k s n m : Nat) (c : Int32), s + k = nS → k < n → k < m → ∃ v, l_X9_typedBy_10 N n (am_z u) c (am_z s) hc = some (some v, hc) ∧ l_X10_typedBy_18 N m (am_z u) c (am_z s) h1 = some (v, h1)
  | k, s, 0, m, c, _, h, _ => by omega
  | k, s, n, 0, c, _, _, h => by omega
  | 0, s, n + 1, m + 1, c, h, h2, h3 => by
    obtain ⟨n1, n2, n3, n4, n5, n6⟩ := qr_n R
    have i1 : am_in (am_z 0) 20 = true := by decide
    have e : s = nS := by omega
    subst e
    unfold l_X9_typedBy_10 l_X10_typedBy_18
    simp only [am_z_lit, i1, cond_true, e1, n3, if_pos (Int32.le_refl _)]
    exact ⟨_, rfl, rfl⟩
  | k + 1, s, n + 1, m + 1, c, h, h2, h3 => by
    obtain ⟨n1, n2, n3, n4, n5, n6⟩ := qr_n R
    have hs : s < nS := by omega
    obtain ⟨c0, c1, c2, c3, cE, ⟨d1, -⟩, dE⟩ := qr_S R hs
    have i1 : am_in (am_z 0) 20 = true := by decide
    have s4 : s < 4 := by omega
    have d2 := d1.2.2
    have hlt : ¬ (am_z nS ≤ am_z s) := by rw [am_z_le (by omega) (by omega) (by omega) (by omega)]; omega
    have e4 : (s : Int) + 1 = ((s + 1 : Nat) : Int) := by omega
    obtain ⟨v, a1, a2⟩ := q_typedE (N := N) (x := c) R hs hu hr (nv (hm 197 (55 + 1504 * s))) 0 N N (am_z 0) (by omega) (by omega) (by omega)
    have a1' : l_X3_eventsTypedBy_5 N N (165 + 7 * s) (am_z u) (hm 197 (55 + 1504 * s)) (am_z 0) (am_z 0) hc = _ := a1
    have a3 := a2 (l_X10_typedBy_18 N m) c
    have e0 : c + am_z 0 = c := Int32.add_zero c
    rw [e0] at a3
    have a3' : l_X10_typedBy_31 N (l_X10_typedBy_18 N m) N (am_z u) c (am_z s) (am_z 0) h1 = _ := a3
    unfold l_X9_typedBy_10 l_X10_typedBy_18 f_X3_eventsTypedBy
    simp only [am_z_lit, i1, cond_true, e1, n3, if_neg hlt, c_rec n3 n1 hs, c_desk n3 n1 hs, am_bt_s, (g_d s s4).2.2, (rc_f s s4).1, c0, a1', am_bi_s, a3', am_z_add, e4]
    exact q_typedS hN R hu e1 hr k (s + 1) n m _ (by omega) (by omega) (by omega)
theorem q_typedBy (hN : 1000 ≤ N) (R : qr_R nS nU hc hm) (x : Int32) : pT (f_X9_typedBy N x hc) (f_X10_typedBy N x hm) hc hm := by
  obtain ⟨n1, n2, n3, n4, n5, n6⟩ := qr_n R
  unfold f_X9_typedBy f_X10_typedBy
  rcases qi x nU with ⟨u, hu, rfl⟩ | ⟨v, rfl, b1, b2, hv⟩
  · obtain ⟨v, a1, a2⟩ := q_typedS (N := N) (u := u) hN R (by omega) (h1 := am_pi hm 193 0 (am_z 0)) (by rw [thr_e (by decide)]; exact n5) (thr_e (by decide)) nS 0 N N (am_z 0) (by omega) (by omega) (by omega)
    have a1' : l_X9_typedBy_10 N N (am_z u) (am_z 0) (am_z 0) hc = _ := a1
    have a2' : l_X10_typedBy_18 N N (am_z u) (am_z 0) (am_z 0) (am_pi hm 193 0 (am_z 0)) = _ := a2
    simp only [am_z_lit, c_seat n4 n2 hu, am_bt_s, m_user n6 n2 hu, am_bi_s, m_chk1, if_neg z_10, a1', a2']
    exact pT_s rfl rfl rfl
  · refine pT_n ?_ ?_
    · simp only [c_seatn n4 n2 ⟨b1, b2⟩ hv, am_bt_n]
    · simp only [am_z_lit, m_usern n6 n2 ⟨b1, b2⟩ hv, am_bi_s, m_chk0, if_true]
end Q4
