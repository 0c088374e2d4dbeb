section FS
variable {N nS nU : Nat} {hc hm : am_Hp}
theorem Sm_beg {w hh n : Nat} {x : Int32} (hw : gW x n) : ¬ Sm (qc_beg w hh) x n 0 := by
  rintro ⟨i, -, -, j, -, -, h⟩
  obtain ⟨g, hg, g1, g26⟩ := hw.2.2.1 0 (by have := hw.1; omega)
  have := h 0 (Nat.le_refl _) hw.1
  rw [hg] at this
  have this : am_z 27 = am_z g := this
  rw [am_z_eq (by omega) (by omega) (by omega) (by omega)] at this
  omega
theorem q_fsL (hN : 1000 ≤ N) {s n : Nat} {x : Int32} {r : Nat → Int32} {w hh : Nat} (hw : gW x n) (hs : s < 4) (d1 : vn (r (55 + 1504 * s)) 0 300) (dE : vE r s) (hb : 2 ≤ w ∧ w ≤ 16 ∧ 1 ≤ hh ∧ hh ≤ 6) : ∀ (k e a b : Nat) (h1 h2 : am_Hp), e + k = nv (r (55 + 1504 * s)) → k < a → k + 1 < b → sE h1 s r → h1 (29 + s) 0 = r (55 + 1504 * s) → h2 197 = r → qc_R 161 162 h1 (qc_lay w hh (rEv r s) e) → qm_R h2 (qc_lay w hh (rEv r s) e) → ¬ Sm (qc_lay w hh (rEv r s) e) x n 0 →
    ∃ v h1' h2', l_X9_firstShowing_37 N a x (29 + s) (165 + 7 * s) (am_z e) h1 = some (some v, h1') ∧ l_X10_firstShowing_33 N b (am_z s) x (am_z n) (am_z e) h2 = some (v, h2') ∧ cfr h1 h1' ∧ qm_fr h2 h2'
  | k, e, 0, b, h1, h2, _, h, _, _, _, _, _, _, _ => by omega
  | k, e, a, 0, h1, h2, _, _, h, _, _, _, _, _, _ => by omega
  | k, e, a, 1, h1, h2, _, _, h, _, _, _, _, _, _ => by omega
  | 0, e, a + 1, b + 2, h1, h2, he, _, _, hE, hd, hr, hR, hM, hS => by
    have d2 := d1.2.2
    have ok : qc_OK (qc_lay w hh (rEv r s) e) := qc_lay_ok hb e (fun x hx => (dE x (by omega)).1)
    have o := qc_OKw ok
    have e1 : r (55 + 1504 * s) = am_z e := by rw [d1.1]; congr 1; omega
    have e4 : (e : Int) + 1 = ((e + 1 : Nat) : Int) := by omega
    have sh := (m_shows (N := N) hN hM ok hw (qc_lay w hh (rEv r s) e).2.1 0 N (by omega) (by omega)).2 hS
    have sh' : f_X10_shows N x (am_z n) h2 = some (am_z 0, h2) := by unfold f_X10_shows; rw [am_z_lit]; exact sh
    have z1 : ¬ (am_z e < am_z e) := Int32.lt_irrefl
    have z2 : am_z e < am_z ((e + 1 : Nat) : Int) := by rw [am_z_lt (by omega) (by omega) (by omega) (by omega)]; omega
    refine ⟨am_z (-1), h1, h2, ?_, ?_, cfr0, qm_fr0⟩
    · unfold l_X9_firstShowing_37
      simp only [(g_d s hs).2.2, cond_true, hd, e1, if_pos (Int32.le_refl _), am_z_lit, am_z_neg]
    · unfold l_X10_firstShowing_33
      simp only [m_evr hr hs, am_bi_s, e1, if_neg z1, sh', am_z_lit, if_true, if_pos (Int32.le_refl (am_z e)), am_z_add, e4]
      unfold l_X10_firstShowing_33
      simp only [m_evr hr hs, am_bi_s, e1, if_pos z2, am_z_lit, am_z_neg]
  | k + 1, e, a + 1, b + 2, h1, h2, he, ha, hbb, hE, hd, hr, hR, hM, hS => by
    have d2 := d1.2.2
    have ok : qc_OK (qc_lay w hh (rEv r s) e) := qc_lay_ok hb e (fun x hx => (dE x (by omega)).1)
    have ok' : qc_OK (qc_lay w hh (rEv r s) (e + 1)) := qc_lay_ok hb (e + 1) (fun x hx => (dE x (by omega)).1)
    have o := qc_OKw ok
    have o' := qc_OKw ok'
    have e1 := d1.1
    have e4 : (e : Int) + 1 = ((e + 1 : Nat) : Int) := by omega
    have sh := (m_shows (N := N) hN hM ok hw (qc_lay w hh (rEv r s) e).2.1 0 N (by omega) (by omega)).2 hS
    have sh' : f_X10_shows N x (am_z n) h2 = some (am_z 0, h2) := by unfold f_X10_shows; rw [am_z_lit]; exact sh
    have z1 : ¬ (r (55 + 1504 * s) < am_z e) := by rw [e1, am_z_lt (by omega) (by omega) (by omega) (by omega)]; omega
    have z2 : ¬ (r (55 + 1504 * s) ≤ am_z e) := by rw [e1, am_z_le (by omega) (by omega) (by omega) (by omega)]; omega
    have z3 : ¬ (r (55 + 1504 * s) < am_z ((e + 1 : Nat) : Int)) := by rw [e1, am_z_lt (by omega) (by omega) (by omega) (by omega)]; omega
    have he' : e < nv (r (55 + 1504 * s)) := by omega
    have k0 : rc_e h1 s e 0 = rEv r s e 0 := hE e he' 0 (by decide)
    have k1 : rc_e h1 s e 1 = rEv r s e 1 := hE e he' 1 (by decide)
    have k2 : rc_e h1 s e 2 = rEv r s e 2 := hE e he' 2 (by decide)
    obtain ⟨h1', a1, a2, a3⟩ := qc_playS (N := N) (s := s) (e := e) (by omega) (Or.inl ⟨rfl, rfl⟩) hR ok hs (by omega) (qc_EV_c k0.symm k1.symm k2.symm (dE e he').1)
    rw [qc_play_c k0 k1 k2] at a2
    have hE' : sE h1' s r := fun x hx k hk => (rc_fr (Or.inl ⟨rfl, rfl⟩) a3 hs).trans (hE x hx k hk)
    obtain ⟨h2', b1, b2, b3⟩ := m_comesr (N := N) (s := s) (e := e) hN hr hM ok hs (by omega) (dE e he').1
    have hr' : h2' 197 = r := by rw [b3.1 _ (by decide) (by decide) (by decide) (by decide)]; exact hr
    have hd' : h1' (29 + s) 0 = r (55 + 1504 * s) := by rw [a3 _ (by omega) (by omega)]; exact hd
    have cs := c_shows (N := N) (t := qc_lay w hh (rEv r s) (e + 1)) hN a2 ok' hw (qc_lay w hh (rEv r s) (e + 1)).2.1 0 N (by omega) (by omega)
    have ms := m_shows (N := N) (t := qc_lay w hh (rEv r s) (e + 1)) hN b2 ok' hw (qc_lay w hh (rEv r s) (e + 1)).2.1 0 N (by omega) (by omega)
    have mstep : l_X10_firstShowing_33 N (b + 2) (am_z s) x (am_z n) (am_z e) h2 = l_X10_firstShowing_33 N (b + 1) (am_z s) x (am_z n) (am_z ((e + 1 : Nat) : Int)) h2' := by
      conv => lhs; unfold l_X10_firstShowing_33
      simp only [m_evr hr hs, am_bi_s, if_neg z1, if_neg z2, sh', am_z_lit, if_true, am_z_add, e4, b1]
    by_cases q : Sm (qc_lay w hh (rEv r s) (e + 1)) x n 0
    · have c1 : f_X4_showsWord N 161 x h1' = some (am_z 1, h1') := by unfold f_X4_showsWord; rw [am_z_lit]; exact cs.1 q
      have c2 : f_X10_shows N x (am_z n) h2' = some (am_z 1, h2') := by unfold f_X10_shows; rw [am_z_lit]; exact ms.1 q
      refine ⟨am_z ((e + 1 : Nat) : Int), h1', h2', ?_, ?_, cfrs (Or.inl ⟨rfl, rfl⟩) a3, b3⟩
      · unfold l_X9_firstShowing_37
        simp only [(g_d s hs).2.2, cond_true, hd, if_neg z2, a1, am_bi_s, c1, am_z_lit, if_neg z_10, am_z_add, e4]
      · rw [mstep]
        unfold l_X10_firstShowing_33
        simp only [m_evr hr' hs, am_bi_s, if_neg z3, c2, am_z_lit, if_neg z_10]
    · have c1 : f_X4_showsWord N 161 x h1' = some (am_z 0, h1') := by unfold f_X4_showsWord; rw [am_z_lit]; exact cs.2 q
      obtain ⟨v, h1'', h2'', i1, i2, i3, i4⟩ := q_fsL hN hw hs d1 dE hb k (e + 1) a (b + 1) h1' h2' (by omega) (by omega) (by omega) hE' hd' hr' a2 b2 q
      refine ⟨v, h1'', h2'', ?_, ?_, cfrt (cfrs (Or.inl ⟨rfl, rfl⟩) a3) i3, qm_frt b3 i4⟩
      · unfold l_X9_firstShowing_37
        simp only [(g_d s hs).2.2, cond_true, hd, if_neg z2, a1, am_bi_s, c1, am_z_lit, if_true, am_z_add, e4]
        exact i1
      · rw [mstep]; exact i2
theorem q_firstShowing (hN : 1000 ≤ N) (R : qr_R nS nU hc hm) (x y : Int32) : pT (f_X9_firstShowing N x y hc) (f_X10_firstShowing N x y hm) hc hm := by
  obtain ⟨n1, n2, n3, n4, n5, n6⟩ := qr_n R
  unfold f_X9_firstShowing f_X10_firstShowing
  rcases qi x nS with ⟨s, hs, rfl⟩ | ⟨v, rfl, b1, b2, hv⟩
  · obtain ⟨c0, c1, c2, c3, cE, ⟨d1, -⟩, dE⟩ := qr_S R hs
    have s4 : s < 4 := by omega
    have d2 := d1.2.2
    obtain ⟨-, -, -, t1, t2⟩ := R.1.2.2.2.2.2.2.2.2.2.2.1 s hs
    obtain ⟨v, v6, hv, gc, gm⟩ := g_len (N := N) (hc := hc) (hm := am_pi hm 193 0 (am_z 0)) hN y
    simp only [am_z_lit, am_z_neg, c_desk n3 n1 hs, am_bt_s, gc, m_sess n5 n1 hs, am_bi_s, m_chk1, if_neg z_10, gm]
    by_cases q0 : v = 0
    · subst q0
      have z : am_z ((0 : Nat) : Int) = am_z 0 := rfl
      simp only [z, if_true]
      exact pT_s rfl rfl rfl
    · have z : ¬ (am_z v = am_z 0) := by rw [am_z_eq (by omega) (by omega) (by omega) (by omega)]; omega
      simp only [if_neg z]
      have hw : gW y v := ⟨by omega, v6, (hv q0).1, (hv q0).2⟩
      have hb : 2 ≤ nv (hm 195 (12 + s)) ∧ nv (hm 195 (12 + s)) ≤ 16 ∧ 1 ≤ nv (hm 195 (16 + s)) ∧ nv (hm 195 (16 + s)) ≤ 6 := ⟨t1.2.1, t1.2.2, t2.2.1, t2.2.2⟩
      obtain ⟨h1, a1, a2, a3⟩ := c_draw (N := N) (o := 161) (p := 162) (q := 0) hN (Or.inl ⟨rfl, rfl⟩) R hs (by omega)
      have a1' : f_X9_draw N 161 (am_z s) (am_z 0) hc = _ := a1
      obtain ⟨h2, b1, b2, b3⟩ := m_begins (N := N) (h := am_pi hm 193 0 (am_z 0)) hN s4 (w := nv (hm 195 (12 + s))) (hh := nv (hm 195 (16 + s))) (by rw [thr_e (by decide)]; exact t1.1) (by rw [thr_e (by decide)]; exact t2.1)
      have R1 : qr_R nS nU h1 hm := qr_fr (cfrs (Or.inl ⟨rfl, rfl⟩) a3) mfr0 R
      obtain ⟨c0', c1', c2', c3', cE', -⟩ := qr_S R1 hs
      have hr2 : h2 197 = hm 197 := by rw [b3.1 _ (by decide) (by decide) (by decide) (by decide)]; exact thr_e (by decide)
      obtain ⟨n1', n2', n3', -⟩ := qr_n R1
      obtain ⟨v', h1', h2', i1, i2, i3, i4⟩ := q_fsL (N := N) hN hw s4 d1 dE hb (nv (hm 197 (55 + 1504 * s))) 0 N N h1 h2 (by omega) (by omega) (by omega) cE' c0' hr2 a2 b2 (Sm_beg hw)
      have i1' : l_X9_firstShowing_37 N N y (29 + s) (165 + 7 * s) (am_z 0) h1 = _ := i1
      have i2' : l_X10_firstShowing_33 N N (am_z s) y (am_z v) (am_z 0) h2 = _ := i2
      simp only [a1', am_bt_s, c_rec n3' n1' hs, i1', b1, am_bi_s, i2']
      refine ⟨_, _, _, _, rfl, rfl, cfrt (cfrs (Or.inl ⟨rfl, rfl⟩) a3) i3, mfrt (mfrp (by omega)) (mfrt (mfrs b3) (mfrs i4)), Or.inr ⟨rfl, ?_⟩⟩
      rw [i4.2 0 (by decide) (by decide) (by decide) (by decide) (by decide), b3.2 0 (by decide) (by decide) (by decide) (by decide) (by decide)]; exact am_pi_s _ _ _ _
  · refine pT_n ?_ ?_
    · simp only [c_deskn n3 n1 ⟨b1, b2⟩ hv, am_bt_n]
    · simp only [am_z_lit, m_sessn n5 n1 ⟨b1, b2⟩ hv, am_bi_s, m_chk0, if_true]
end FS
