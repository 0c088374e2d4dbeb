section DRAW
variable {N nS nU o p : Nat} {hc hm : am_Hp}
theorem qc_play_c {e e' : Nat → Int32} {t : qc_T} (h0 : e 0 = e' 0) (h1 : e 1 = e' 1) (h2 : e 2 = e' 2) : qc_play e t = qc_play e' t := by
  unfold qc_play
  rw [h0, h1, h2]
theorem qc_EV_c {e e' : Nat → Int32} (h0 : e 0 = e' 0) (h1 : e 1 = e' 1) (h2 : e 2 = e' 2) (h : qc_EV e) : qc_EV e' := by
  unfold qc_EV at h ⊢
  rw [← h0, ← h1, ← h2]
  exact h
/-- the screen of session s at position q -/
def rEv (r : Nat → Int32) (s : Nat) : Nat → Nat → Int32 := fun e k => r (59 + 1504 * s + 5 * e + k)
def rLay (hm : am_Hp) (s q : Nat) : qc_T := qc_lay (nv (hm 195 (12 + s))) (nv (hm 195 (16 + s))) (rEv (hm 197) s) q
theorem rLay_ok (R : qr_R nS nU hc hm) {s q : Nat} (hs : s < nS) (hq : q ≤ nv (hm 197 (55 + 1504 * s))) : qc_OK (rLay hm s q) := by
  obtain ⟨-, -, -, t1, t2⟩ := R.1.2.2.2.2.2.2.2.2.2.2.1 s hs
  obtain ⟨c0, c1, c2, c3, cE, ⟨d1, -⟩, dE⟩ := qr_S R hs
  exact qc_lay_ok ⟨t1.2.1, t1.2.2, t2.2.1, t2.2.2⟩ q (fun e he => (dE e (by omega)).1)
theorem c_drawL (hN : 1000 ≤ N) (hO : qc_O o p) {s q : Nat} {r : Nat → Int32} {w hh : Nat} (hs : s < 4) (h300 : nv (r (55 + 1504 * s)) ≤ 300) (hq : q ≤ nv (r (55 + 1504 * s))) (dE : vE r s) (hb : 2 ≤ w ∧ w ≤ 16 ∧ 1 ≤ hh ∧ hh ≤ 6) : ∀ (k e n : Nat) (h : am_Hp), e + k = q → k < n → sE h s r → qc_R o p h (qc_lay w hh (rEv r s) e) →
    ∃ h', l_X9_draw_56 N n o (am_z q) (165 + 7 * s) (am_z e) h = some (some (), h') ∧ qc_R o p h' (qc_lay w hh (rEv r s) q) ∧ qc_fr o p h h'
  | k, e, 0, h, _, hx, _, _ => by omega
  | 0, e, n + 1, h, h1, h2, hE, hR => by
    have e1 : e = q := by omega
    subst e1
    refine ⟨h, ?_, hR, fun _ _ _ => rfl⟩
    unfold l_X9_draw_56
    rw [if_pos (Int32.le_refl _)]
  | k + 1, e, n + 1, h, h1, h2, hE, hR => by
    have he : e < nv (r (55 + 1504 * s)) := by omega
    have hlt : ¬ (am_z q ≤ am_z e) := by rw [am_z_le (by omega) (by omega) (by omega) (by omega)]; omega
    have e4 : (e : Int) + 1 = ((e + 1 : Nat) : Int) := by omega
    have k0 : rc_e h s e 0 = rEv r s e 0 := hE e he 0 (by decide)
    have k1 : rc_e h s e 1 = rEv r s e 1 := hE e he 1 (by decide)
    have k2 : rc_e h s e 2 = rEv r s e 2 := hE e he 2 (by decide)
    obtain ⟨h', a1, a2, a3⟩ := qc_playS (N := N) (s := s) (e := e) (by omega) hO hR (qc_lay_ok hb e (fun x hx => (dE x (by omega)).1)) hs (by omega) (qc_EV_c k0.symm k1.symm k2.symm (dE e he).1)
    rw [qc_play_c k0 k1 k2] at a2
    have hE' : sE h' s r := fun x hx k hk => (rc_fr hO a3 hs).trans (hE x hx k hk)
    obtain ⟨h2', b1, b2, b3⟩ := c_drawL hN hO hs h300 hq dE hb k (e + 1) n h' (by omega) (by omega) hE' a2
    refine ⟨h2', ?_, b2, qc_frt a3 b3⟩
    unfold l_X9_draw_56
    simp only [if_neg hlt, (qc_O1 hO).1, cond_true, a1, am_bi_s, am_z_lit, am_z_add, e4]
    exact b1
theorem c_draw (hN : 1000 ≤ N) (hO : qc_O o p) (R : qr_R nS nU hc hm) {s q : Nat} (hs : s < nS) (hq : q ≤ nv (hm 197 (55 + 1504 * s))) :
    ∃ h', f_X9_draw N o (am_z s) (am_z q) hc = some (some (), h') ∧ qc_R o p h' (rLay hm s q) ∧ qc_fr o p hc h' := by
  obtain ⟨n1, n2, n3, n4, n5, n6⟩ := qr_n R
  obtain ⟨-, -, -, t1, t2⟩ := R.1.2.2.2.2.2.2.2.2.2.2.1 s hs
  obtain ⟨c0, c1, c2, c3, cE, ⟨d1, -⟩, dE⟩ := qr_S R hs
  have d2 := d1.2.2
  have s4 : s < 4 := by omega
  obtain ⟨h1, a1, a2, a3⟩ := qc_restart (N := N) (h := hc) (w := nv (hm 195 (12 + s))) (H := nv (hm 195 (16 + s))) (by omega) hO t2.2.2
  have hE1 : sE h1 s (hm 197) := fun x hx k hk => (rc_fr hO a3 s4).trans (cE x hx k hk)
  obtain ⟨h2, b1, b2, b3⟩ := c_drawL (N := N) hN hO s4 d2 hq dE ⟨t1.2.1, t1.2.2, t2.2.1, t2.2.2⟩ q 0 N h1 (by omega) (by omega) hE1 a2
  have z0 : f_X8_sizeOf N 15 (am_z s) (am_z 0) hc = some (am_z (nv (hm 195 (12 + s))), hc) := by rw [c_sizeY R hs, if_pos rfl, ← t1.1]
  have z1 : f_X8_sizeOf N 15 (am_z s) (am_z 1) hc = some (am_z (nv (hm 195 (16 + s))), hc) := by rw [c_sizeY R hs, if_neg z_10, ← t2.1]
  have p1 : ¬ (am_z q < am_z 0) := by rw [am_z_lt (by omega) (by omega) (by omega) (by omega)]; omega
  have p2 : am_z q ≤ hm 197 (55 + 1504 * s) := by rw [d1.1, am_z_le (by omega) (by omega) (by omega) (by omega)]; omega
  have b1' : l_X9_draw_56 N N o (am_z q) (165 + 7 * s) (am_z 0) h1 = _ := b1
  refine ⟨h2, ?_, b2, qc_frt a3 b3⟩
  unfold f_X9_draw
  simp only [am_z_lit, if_neg p1, c_desk n3 n1 hs, am_bt_s, (g_d s s4).2.2, cond_true, c0, if_pos p2, c_rec n3 n1 hs, z0, z1, am_bi_s, (qc_O1 hO).1, a1, b1']
/-- a pair of a session and a position: fine, or refused on both sides -/
theorem q_posn (R : qr_R nS nU hc hm) (x y : Int32) : (∃ s q : Nat, s < nS ∧ q ≤ nv (hm 197 (55 + 1504 * s)) ∧ x = am_z s ∧ y = am_z q ∧ f_X10_isPosition N x y hm = some (am_z 1, hm)) ∨ ((∀ o, f_X9_draw N o x y hc = some (none, hc)) ∧ f_X10_isPosition N x y hm = some (am_z 0, hm)) := by
  obtain ⟨n1, n2, n3, n4, n5, n6⟩ := qr_n R
  unfold f_X9_draw f_X10_isPosition
  rcases qi x nS with ⟨s, hs, rfl⟩ | ⟨v, rfl, b1, b2, hv⟩
  · obtain ⟨c0, c1, c2, c3, cE, ⟨d1, -⟩, dE⟩ := qr_S R hs
    have s4 : s < 4 := by omega
    have d2 := d1.2.2
    obtain ⟨w, rfl, b1, b2⟩ := am_z_ex y
    have e1 : (am_z w < am_z 0) = (w < 0) := am_z_lt b1 b2 (by omega) (by omega)
    have e2 : (am_z w ≤ hm 197 (55 + 1504 * s)) = (w ≤ nv (hm 197 (55 + 1504 * s))) := by
      have h := am_z_le (y := (nv (hm 197 (55 + 1504 * s)) : Int)) b1 b2 (by omega) (by omega)
      rw [← d1.1] at h
      exact h
    have e3 : (hm 197 (55 + 1504 * s) < am_z w) = ((nv (hm 197 (55 + 1504 * s)) : Int) < w) := by
      have h := am_z_lt (x := (nv (hm 197 (55 + 1504 * s)) : Int)) (y := w) (by omega) (by omega) b1 b2
      rw [← d1.1] at h
      exact h
    simp only [am_z_lit, c_desk n3 n1 hs, am_bt_s, (g_d s s4).2.2, cond_true, c0, m_sess n5 n1 hs, am_bi_s, if_neg z_10, m_evr (r := hm 197) rfl s4, e1, e2, e3, am_z_and0, am_z_and1, if_true]
    by_cases q0 : w < 0
    · right
      simp only [if_pos q0]
      exact ⟨fun _ => trivial, trivial⟩
    by_cases q1 : w ≤ nv (hm 197 (55 + 1504 * s))
    · left
      refine ⟨s, w.toNat, hs, by omega, rfl, by congr 1; omega, ?_⟩
      rw [if_neg q0, if_neg (by omega)]
    · right
      simp only [if_neg q0, if_neg q1]
      exact ⟨fun _ => trivial, by rw [if_pos (by omega)]⟩
  · right
    refine ⟨fun o => ?_, ?_⟩
    · simp only [c_deskn n3 n1 ⟨b1, b2⟩ hv, am_bt_n, ite_self]
    · simp only [am_z_lit, m_sessn n5 n1 ⟨b1, b2⟩ hv, am_bi_s, if_true, am_z_and0]
-- ---- the model lays
theorem m_begins {h : am_Hp} (hN : 1000 ≤ N) {s : Nat} (hs : s < 4) {w hh : Nat} (e1 : h 195 (12 + s) = am_z w) (e2 : h 195 (16 + s) = am_z hh) : ∃ h', f_X10_begins N (am_z s) h = some ((), h') ∧ qm_R h' (qc_beg w hh) ∧ qm_fr h h' := by
  have e3 : (12 : Int) + s = ((12 + s : Nat) : Int) := by omega
  have e4 : (16 : Int) + s = ((16 + s : Nat) : Int) := by omega
  generalize hh1 : am_pi (am_pi (am_pi (am_pi (am_pi h 193 9 (am_z w)) 193 10 (am_z hh)) 193 11 (am_z 0)) 193 12 (am_z 0)) 193 14 (am_z 0) = h1
  have b1 := (qm_emptiesL (N := N) N 0 h1 (by omega) (by omega)).1
  have b1' : l_X10_empties_2 N N (am_z 0) h1 = _ := b1
  refine ⟨qm_map 200 0 96 (fun _ => am_z 27) h1, ?_, ?_, ?_⟩
  · unfold f_X10_begins f_X10_empties
    simp (disch := first | omega | decide) only [am_z_lit, am_z_add, e3, e4, m_in, cond_true, am_z_cl, Int.toNat_natCast, am_pi_a, e1, e2, hh1, b1', am_bi_s]
  · unfold qc_beg qm_R qm_K
    simp (disch := decide) only [qm_map_a]
    subst hh1
    simp (disch := decide) only [am_pi_s, am_pi_k]
    refine ⟨trivial, rfl, rfl, trivial, rfl, fun y c hy hc => ?_, fun l hl => absurd hl (by omega)⟩
    rw [qm_map_p (by omega)]
  · subst hh1
    exact qm_frt (qm_frt (qm_frt (qm_frt (qm_frt (qm_frp (by omega)) (qm_frp (by omega))) (qm_frp (by omega))) (qm_frp (by omega))) (qm_frp (by omega))) (qm_frm (by omega))
theorem m_comesr {h : am_Hp} {r : Nat → Int32} {t : qc_T} {s e : Nat} (hN : 1000 ≤ N) (hr : h 197 = r) (hR : qm_R h t) (hk : qc_OK t) (hs : s < 4) (he : e < 300) (hv : qc_EV (rEv r s e)) :
    ∃ h', f_X10_comes N (am_z s) (am_z e) h = some ((), h') ∧ qm_R h' (qc_play (rEv r s e) t) ∧ qm_fr h h' := by
  have key : qm_e h s e = rEv r s e := by funext k; unfold qm_e rEv; rw [hr]
  have := qm_comes (N := N) (s := s) (e := e) hN hR hk hs he (by rw [key]; exact hv)
  rw [key] at this
  exact this
theorem m_laysL (hN : 1000 ≤ N) {s q : Nat} {r : Nat → Int32} {w hh : Nat} (hs : s < 4) (h300 : nv (r (55 + 1504 * s)) ≤ 300) (hq : q ≤ nv (r (55 + 1504 * s))) (dE : vE r s) (hb : 2 ≤ w ∧ w ≤ 16 ∧ 1 ≤ hh ∧ hh ≤ 6) : ∀ (k e n : Nat) (h : am_Hp), e + k = q → k < n → h 197 = r → qm_R h (qc_lay w hh (rEv r s) e) →
    ∃ h', l_X10_lays_7 N n (am_z s) (am_z q) (am_z e) h = some ((), h') ∧ qm_R h' (qc_lay w hh (rEv r s) q) ∧ qm_fr h h'
  | k, e, 0, h, _, hx, _, _ => by omega
  | 0, e, n + 1, h, h1, h2, hr, hR => by
    have e1 : e = q := by omega
    subst e1
    refine ⟨h, ?_, hR, qm_fr0⟩
    unfold l_X10_lays_7
    rw [if_pos (Int32.le_refl _)]
  | k + 1, e, n + 1, h, h1, h2, hr, hR => by
    have he : e < nv (r (55 + 1504 * s)) := by omega
    have hlt : ¬ (am_z q ≤ am_z e) := by rw [am_z_le (by omega) (by omega) (by omega) (by omega)]; omega
    have e4 : (e : Int) + 1 = ((e + 1 : Nat) : Int) := by omega
    obtain ⟨h', a1, a2, a3⟩ := m_comesr (N := N) (s := s) (e := e) hN hr hR (qc_lay_ok hb e (fun x hx => (dE x (by omega)).1)) hs (by omega) (dE e he).1
    have hr' : h' 197 = r := by rw [a3.1 _ (by decide) (by decide) (by decide) (by decide)]; exact hr
    obtain ⟨h2', b1, b2, b3⟩ := m_laysL hN hs h300 hq dE hb k (e + 1) n h' (by omega) (by omega) hr' a2
    refine ⟨h2', ?_, b2, qm_frt a3 b3⟩
    unfold l_X10_lays_7
    simp only [if_neg hlt, a1, am_bi_s, am_z_lit, am_z_add, e4]
    exact b1
theorem m_lays {h : am_Hp} (hN : 1000 ≤ N) (R : qr_R nS nU hc hm) {s q : Nat} (hs : s < nS) (hq : q ≤ nv (hm 197 (55 + 1504 * s))) (e1 : h 195 = hm 195) (hr : h 197 = hm 197) :
    ∃ h', f_X10_lays N (am_z s) (am_z q) h = some ((), h') ∧ qm_R h' (rLay hm s q) ∧ qm_fr h h' := by
  obtain ⟨n1, n2, n3, n4, n5, n6⟩ := qr_n R
  obtain ⟨-, -, -, t1, t2⟩ := R.1.2.2.2.2.2.2.2.2.2.2.1 s hs
  obtain ⟨c0, c1, c2, c3, cE, ⟨d1, -⟩, dE⟩ := qr_S R hs
  have d2 := d1.2.2
  have s4 : s < 4 := by omega
  obtain ⟨h1, a1, a2, a3⟩ := m_begins (N := N) (h := h) hN s4 (w := nv (hm 195 (12 + s))) (hh := nv (hm 195 (16 + s))) (by rw [e1]; exact t1.1) (by rw [e1]; exact t2.1)
  have hr1 : h1 197 = hm 197 := by rw [a3.1 _ (by decide) (by decide) (by decide) (by decide)]; exact hr
  obtain ⟨h2, b1, b2, b3⟩ := m_laysL (N := N) hN s4 d2 hq dE ⟨t1.2.1, t1.2.2, t2.2.1, t2.2.2⟩ q 0 N h1 (by omega) (by omega) hr1 a2
  have b1' : l_X10_lays_7 N N (am_z s) (am_z q) (am_z 0) h1 = _ := b1
  refine ⟨h2, ?_, b2, qm_frt a3 b3⟩
  unfold f_X10_lays
  simp only [am_z_lit, a1, am_bi_s, b1']
/-- what is read of the model's screen -/
theorem m_place {h : am_Hp} {t : qc_T} {y c : Int} (hR : qm_R h t) (hk : qc_OK t) (b : -2147483648 ≤ y ∧ y < 2147483648 ∧ -2147483648 ≤ c ∧ c < 2147483648) :
    f_X10_place N (am_z y) (am_z c) h = some (if 0 ≤ y ∧ y < t.2.1 ∧ 0 ≤ c ∧ c < t.1 then t.2.2.2.2.2 (t.2.2.2.2.1 + y.toNat) c.toNat else am_z (-1), h) := by
  obtain ⟨w, hh, row, col, up, L⟩ := t
  obtain ⟨r1, r2, r3, k1, k2, k3, k4⟩ := hR
  obtain ⟨a1, a2, a3, a4, a5, a6, a7, a8, a9, a10⟩ := hk
  unfold f_X10_place
  simp only [am_z_lit, am_z_neg, r1, k1]
  simp (disch := omega) only [am_z_lt, am_z_le]
  by_cases h1 : y < 0
  · rw [if_pos h1, if_neg (by omega)]
  rw [if_neg h1]
  by_cases h2 : (hh : Int) ≤ y
  · rw [if_pos h2, if_neg (by omega)]
  rw [if_neg h2]
  by_cases h3 : c < 0
  · rw [if_pos h3, if_neg (by omega)]
  rw [if_neg h3]
  by_cases h4 : c < w
  · rw [if_pos h4, if_pos (by omega)]
    obtain ⟨y', rfl⟩ : ∃ q : Nat, y = q := ⟨y.toNat, by omega⟩
    obtain ⟨c', rfl⟩ : ∃ q : Nat, c = q := ⟨c.toNat, by omega⟩
    have e1 : 16 * (y' : Int) + c' = ((16 * y' + c' : Nat) : Int) := by omega
    simp (disch := omega) only [am_z_mul, am_z_add, e1, m_in, cond_true, am_z_cl, Int.toNat_natCast]
    rw [k3 _ _ (by omega) (by omega)]
  · rw [if_neg h4, if_neg (by omega)]
end DRAW
