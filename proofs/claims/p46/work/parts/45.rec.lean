section RECS
variable {N nS nU : Nat} {hc hm : am_Hp}
theorem c_put {h : am_Hp} {s E : Nat} {a b c : Int32} (hs : s < 4) (hE : E < 300) : f_X3_put N (165 + 7 * s) (am_z E) a b c h = some ((), am_pi (am_pi (am_pi h (167 + 7 * s) E a) (168 + 7 * s) E b) (169 + 7 * s) E c) := by
  obtain ⟨g1, g2, g3, g4, g5⟩ := rc_f s hs
  obtain ⟨p1, p2, p3⟩ := g5 0 (by decide)
  obtain ⟨q1, q2, q3⟩ := g5 1 (by decide)
  obtain ⟨r1, r2, r3⟩ := g5 2 (by decide)
  have i0 : am_in (am_z 0) 5 = true := by decide
  have i1 : am_in (am_z 1) 5 = true := by decide
  have i2 : am_in (am_z 2) 5 = true := by decide
  have iE : am_in (am_z E) 300 = true := m_in (by omega) (by decide)
  have e1 : 167 + 7 * s + 1 = 168 + 7 * s := by omega
  have e2 : 167 + 7 * s + 2 = 169 + 7 * s := by omega
  unfold f_X3_put
  simp (disch := omega) only [am_z_lit, am_z_lt, am_z_le, g1, g2, g3, g4, cond_true, Option.bind_some, Bool.true_and, i0, i1, i2, iE, p1, p2, p3, q1, q2, q3, r1, r2, r3, e1, e2, Nat.add_zero, am_z_cl, Int.toNat_natCast]
  rw [Nat.add_zero] at p2 p3
  rw [e1] at q1 q2 q3
  rw [e2] at r1 r2 r3
  simp only [p2, p3, q2, q3, r2, r3, iE, Bool.and_true, cond_true]
  rw [if_neg (by omega), if_neg (by omega)]
theorem c_putO {h : am_Hp} {s E : Nat} {a b : Int32} (hs : s < 4) (hE : E < 300) : f_X3_putOrigin N (165 + 7 * s) (am_z E) a b h = some ((), am_pi (am_pi h (170 + 7 * s) E a) (171 + 7 * s) E b) := by
  obtain ⟨g1, g2, g3, g4, g5⟩ := rc_f s hs
  obtain ⟨p1, p2, p3⟩ := g5 3 (by decide)
  obtain ⟨q1, q2, q3⟩ := g5 4 (by decide)
  have i0 : am_in (am_z 3) 5 = true := by decide
  have i1 : am_in (am_z 4) 5 = true := by decide
  have iE : am_in (am_z E) 300 = true := m_in (by omega) (by decide)
  have e1 : 167 + 7 * s + 3 = 170 + 7 * s := by omega
  have e2 : 167 + 7 * s + 4 = 171 + 7 * s := by omega
  unfold f_X3_putOrigin
  simp (disch := omega) only [am_z_lit, am_z_lt, am_z_le, g1, g2, g3, g4, cond_true, Option.bind_some, Bool.true_and, i0, i1, iE, p1, p2, p3, q1, q2, q3, e1, e2, am_z_cl, Int.toNat_natCast]
  rw [e1] at p1 p2 p3
  rw [e2] at q1 q2 q3
  simp only [p2, p3, q2, q3, iE, Bool.and_true, cond_true]
  rw [if_neg (by omega), if_neg (by omega)]
theorem m_recs {h : am_Hp} {s E : Nat} {a b c d : Int32} (hs : s < 4) (hE : E < 300) (he : h 197 (55 + 1504 * s) = am_z E) : f_X10_records N (am_z s) a b c d h = some ((), am_pi (am_pi (am_pi (am_pi (am_pi (am_pi h 197 (59 + 1504 * s + 5 * E) a) 197 (60 + 1504 * s + 5 * E) b) 197 (61 + 1504 * s + 5 * E) c) 197 (62 + 1504 * s + 5 * E) (h 197 2)) 197 (63 + 1504 * s + 5 * E) d) 197 (55 + 1504 * s) (am_z ((E + 1 : Nat) : Int))) := by
  have i2 : am_in (am_z 2) 6071 = true := by decide
  have k0 : 4 + 5 * (E : Int) + 0 = ((4 + 5 * E : Nat) : Int) := by omega
  have k1 : 4 + 5 * (E : Int) + 1 = ((5 + 5 * E : Nat) : Int) := by omega
  have k2 : 4 + 5 * (E : Int) + 2 = ((6 + 5 * E : Nat) : Int) := by omega
  have k3 : 4 + 5 * (E : Int) + 3 = ((7 + 5 * E : Nat) : Int) := by omega
  have k4 : 4 + 5 * (E : Int) + 4 = ((8 + 5 * E : Nat) : Int) := by omega
  have w : ∀ (k k' : Nat) (v : Int32) (h : am_Hp), k < 1504 → 55 + 1504 * s + k = k' → f_X10_setS N (am_z s) (am_z k) v h = some ((), am_pi h 197 k' v) := by
    intro k k' v h hk e
    rw [← e]; exact qm_setS hs hk
  have e4 : (E : Int) + 1 = ((E + 1 : Nat) : Int) := by omega
  unfold f_X10_records
  simp only [m_ev hs, he, am_bi_s, am_z_lit, am_z_mul, am_z_add, k0, k1, k2, k3, k4]
  rw [w (4 + 5 * E) (59 + 1504 * s + 5 * E) _ _ (by omega) (by omega), am_bi_s, w (5 + 5 * E) (60 + 1504 * s + 5 * E) _ _ (by omega) (by omega), am_bi_s, w (6 + 5 * E) (61 + 1504 * s + 5 * E) _ _ (by omega) (by omega), am_bi_s, i2, cond_true, w (7 + 5 * E) (62 + 1504 * s + 5 * E) _ _ (by omega) (by omega), am_bi_s, w (8 + 5 * E) (63 + 1504 * s + 5 * E) _ _ (by omega) (by omega), am_bi_s]
  have e2 : am_pi (am_pi (am_pi h 197 (59 + 1504 * s + 5 * E) a) 197 (60 + 1504 * s + 5 * E) b) 197 (61 + 1504 * s + 5 * E) c 197 2 = h 197 2 := by
    rw [am_pi_k (by omega), am_pi_k (by omega), am_pi_k (by omega)]
  have e55 : ∀ v, am_pi (am_pi (am_pi (am_pi (am_pi h 197 (59 + 1504 * s + 5 * E) a) 197 (60 + 1504 * s + 5 * E) b) 197 (61 + 1504 * s + 5 * E) c) 197 (62 + 1504 * s + 5 * E) v) 197 (63 + 1504 * s + 5 * E) d 197 (55 + 1504 * s) = am_z E := by
    intro v
    rw [am_pi_k (by omega), am_pi_k (by omega), am_pi_k (by omega), am_pi_k (by omega), am_pi_k (by omega)]; exact he
  rw [e55, am_z_add, e4, w_s0 hs, am_bi_s, e2]
/-- an event is recorded on both sides -/
theorem q_rec (R : qr_R nS nU hc hm) {s E : Nat} {a b c d : Int32} (hs : s < nS) (hE : E < 300) (he : hm 197 (55 + 1504 * s) = am_z E)
    (hv : (a = am_z 1 ∧ ∃ w h : Nat, b = am_z w ∧ c = am_z h ∧ 2 ≤ w ∧ w ≤ 16 ∧ 1 ≤ h ∧ h ≤ 6) ∨ (a = am_z 0 ∧ ∃ v : Nat, b = am_z v ∧ 1 ≤ v ∧ v ≤ 31)) (hd : a = am_z 1 → d = am_z (-1)) :
    ∃ h0 h1 hm', f_X3_put N (165 + 7 * s) (am_z E) a b c hc = some ((), h0) ∧ f_X3_putOrigin N (165 + 7 * s) (am_z E) (hc 24 0) d h0 = some ((), h1) ∧ h1 (29 + s) 0 = am_z E ∧ f_X10_records N (am_z s) a b c d hm = some ((), hm') ∧ qr_R nS nU (am_pi h1 (29 + s) 0 (am_z ((E + 1 : Nat) : Int))) hm' ∧
      (∀ x, x ≠ 29 + s → ¬ (167 + 7 * s ≤ x ∧ x < 172 + 7 * s) → am_pi h1 (29 + s) 0 (am_z ((E + 1 : Nat) : Int)) x = hc x) ∧ (∀ k, k ≠ 0 → am_pi h1 (29 + s) 0 (am_z ((E + 1 : Nat) : Int)) (29 + s) k = hc (29 + s) k) ∧
      (∀ x, x ≠ 197 → hm' x = hm x) ∧ (∀ k, k ≠ 55 + 1504 * s → ¬ (59 + 1504 * s + 5 * E ≤ k ∧ k < 64 + 1504 * s + 5 * E) → hm' 197 k = hm 197 k) ∧ hm' 197 (55 + 1504 * s) = am_z ((E + 1 : Nat) : Int) := by
  obtain ⟨n1, n2, -⟩ := qr_n R
  obtain ⟨c0, -⟩ := qr_S R hs
  have s4 : s < 4 := by omega
  have et : hc 24 0 = hm 197 2 := R.2.2.1.1
  refine ⟨_, _, _, c_put s4 hE, c_putO s4 hE, ?_, m_recs s4 hE he, ?_, ?_⟩
  · rw [am_pi_a (by omega), am_pi_a (by omega), am_pi_a (by omega), am_pi_a (by omega), am_pi_a (by omega)]
    exact c0.trans he
  · generalize hgm : am_pi (am_pi (am_pi (am_pi (am_pi (am_pi hm 197 (59 + 1504 * s + 5 * E) a) 197 (60 + 1504 * s + 5 * E) b) 197 (61 + 1504 * s + 5 * E) c) 197 (62 + 1504 * s + 5 * E) (hm 197 2)) 197 (63 + 1504 * s + 5 * E) d) 197 (55 + 1504 * s) (am_z ((E + 1 : Nat) : Int)) = hm'
    have k0 : hm' 197 (59 + 1504 * s + 5 * E) = a := by subst hgm; rw [am_pi_k (by omega), am_pi_k (by omega), am_pi_k (by omega), am_pi_k (by omega), am_pi_k (by omega), am_pi_s]
    have k1 : hm' 197 (60 + 1504 * s + 5 * E) = b := by subst hgm; rw [am_pi_k (by omega), am_pi_k (by omega), am_pi_k (by omega), am_pi_k (by omega), am_pi_s]
    have k2 : hm' 197 (61 + 1504 * s + 5 * E) = c := by subst hgm; rw [am_pi_k (by omega), am_pi_k (by omega), am_pi_k (by omega), am_pi_s]
    have k3 : hm' 197 (62 + 1504 * s + 5 * E) = hm 197 2 := by subst hgm; rw [am_pi_k (by omega), am_pi_k (by omega), am_pi_s]
    have k4 : hm' 197 (63 + 1504 * s + 5 * E) = d := by subst hgm; rw [am_pi_k (by omega), am_pi_s]
    have k5 : hm' 197 (55 + 1504 * s) = am_z ((E + 1 : Nat) : Int) := by subst hgm; rw [am_pi_s]
    have fm : ∀ x, x ≠ 197 → hm' x = hm x := by intro x hx; subst hgm; rw [qc_pia hx, qc_pia hx, qc_pia hx, qc_pia hx, qc_pia hx, qc_pia hx]
    have fk : ∀ k, k ≠ 55 + 1504 * s → ¬ (59 + 1504 * s + 5 * E ≤ k ∧ k < 64 + 1504 * s + 5 * E) → hm' 197 k = hm 197 k := by
      intro k p q; subst hgm
      rw [am_pi_k (by omega), am_pi_k (by omega), am_pi_k (by omega), am_pi_k (by omega), am_pi_k (by omega), am_pi_k (by omega)]
    have j1 : 59 + 1504 * s + 5 * E + 1 = 60 + 1504 * s + 5 * E := by omega
    have j2 : 59 + 1504 * s + 5 * E + 2 = 61 + 1504 * s + 5 * E := by omega
    have j3 : 59 + 1504 * s + 5 * E + 3 = 62 + 1504 * s + 5 * E := by omega
    have j4 : 59 + 1504 * s + 5 * E + 4 = 63 + 1504 * s + 5 * E := by omega
    refine qr_app R hs he hE ?_ ?_ ?_ ?_ fm fk k5 ?_ ?_ ?_
    · intro x p q
      rw [qc_pia (by omega), qc_pia (by omega), qc_pia (by omega), qc_pia (by omega), qc_pia (by omega), qc_pia (by omega)]
    · intro k hk
      rw [am_pi_k hk, am_pi_a (by omega), am_pi_a (by omega), am_pi_a (by omega), am_pi_a (by omega), am_pi_a (by omega)]
    · exact am_pi_s _ _ _ _
    · intro k e hk hne
      rw [am_pi_a (by omega), am_pi_ap, if_neg (by omega), am_pi_ap, if_neg (by omega), am_pi_ap, if_neg (by omega), am_pi_ap, if_neg (by omega), am_pi_ap, if_neg (by omega)]
    · intro k hk
      match k, hk with
      | 0, _ => simp only [Nat.add_zero]; rw [k0, am_pi_a (by omega), am_pi_a (by omega), am_pi_a (by omega), am_pi_a (by omega), am_pi_a (by omega), am_pi_s]
      | 1, _ => rw [j1, k1, am_pi_a (by omega), am_pi_a (by omega), am_pi_a (by omega), am_pi_a (by omega), am_pi_ap, if_pos (by omega)]
      | 2, _ => rw [j2, k2, am_pi_a (by omega), am_pi_a (by omega), am_pi_a (by omega), am_pi_ap, if_pos (by omega)]
      | 3, _ => rw [j3, k3, am_pi_a (by omega), am_pi_a (by omega), am_pi_ap, if_pos (by omega), et]
      | 4, _ => rw [j4, k4, am_pi_a (by omega), am_pi_ap, if_pos (by omega)]
    · unfold qc_EV
      simp only [Nat.add_zero, j1, j2, k0, k1, k2]
      exact hv
    · rw [k0, k4]; exact hd
  · refine ⟨fun x p q => ?_, fun k hk => ?_, fun x hx => ?_, fun k p q => ?_, am_pi_s _ _ _ _⟩
    · rw [qc_pia (by omega), qc_pia (by omega), qc_pia (by omega), qc_pia (by omega), qc_pia (by omega), qc_pia (by omega)]
    · rw [am_pi_k hk, am_pi_a (by omega), am_pi_a (by omega), am_pi_a (by omega), am_pi_a (by omega), am_pi_a (by omega)]
    · rw [qc_pia hx, qc_pia hx, qc_pia hx, qc_pia hx, qc_pia hx, qc_pia hx]
    · rw [am_pi_k (by omega), am_pi_k (by omega), am_pi_k (by omega), am_pi_k (by omega), am_pi_k (by omega), am_pi_k (by omega)]
-- ---- last sizes
def rLast (r : Nat → Int32) (s : Nat) (y i0 : Int32) : Nat → Int32
  | 0 => i0
  | e + 1 => if r (59 + 1504 * s + 5 * e) = am_z 1 then (if y = am_z 0 then r (60 + 1504 * s + 5 * e) else r (61 + 1504 * s + 5 * e)) else rLast r s y i0 e
theorem c_lastL (R : qr_R nS nU hc hm) {s : Nat} {y : Int32} (hs : s < nS) : ∀ (e n : Nat), e ≤ nv (hm 197 (55 + 1504 * s)) → e < n → l_X9_lastSize_18 N n (am_z s) y (165 + 7 * s) (am_z ((e : Int) - 1)) hc = some (some (rLast (hm 197) s y (if y = am_z 0 then hm 195 (12 + s) else hm 195 (16 + s)) e), hc)
  | e, 0, _, h => by omega
  | 0, n + 1, _, _ => by
    have z : am_z (((0 : Nat) : Int) - 1) < am_z 0 := by decide
    unfold l_X9_lastSize_18 rLast
    simp only [am_z_lit, if_pos z, c_sizeY R hs, am_bi_s]
  | e + 1, n + 1, h, h2 => by
    obtain ⟨n1, n2, -⟩ := qr_n R
    obtain ⟨c0, c1, c2, c3, cE, ⟨d1, -⟩, dE⟩ := qr_S R hs
    have d2 := d1.2.2
    have s4 : s < 4 := by omega
    have e1 : ((e + 1 : Nat) : Int) - 1 = (e : Int) := by omega
    have e2 : (e : Int) + -1 = (e : Int) - 1 := by omega
    have z : ¬ (am_z e < am_z 0) := by rw [am_z_lt (by omega) (by omega) (by omega) (by omega)]; omega
    have k0 : f_X3_number N (165 + 7 * s) (am_z 0) (am_z e) hc = _ := c_num3 (k := 0) s4 cE d2 (show e < _ by omega) (by decide)
    have k1 : f_X3_number N (165 + 7 * s) (am_z 1) (am_z e) hc = _ := c_num3 (k := 1) s4 cE d2 (show e < _ by omega) (by decide)
    have k2 : f_X3_number N (165 + 7 * s) (am_z 2) (am_z e) hc = _ := c_num3 (k := 2) s4 cE d2 (show e < _ by omega) (by decide)
    have j1 : 59 + 1504 * s + 5 * e + 1 = 60 + 1504 * s + 5 * e := by omega
    have j2 : 59 + 1504 * s + 5 * e + 2 = 61 + 1504 * s + 5 * e := by omega
    rw [Nat.add_zero] at k0
    rw [j1] at k1
    rw [j2] at k2
    unfold l_X9_lastSize_18
    rw [rLast]
    simp only [e1, am_z_lit, am_z_neg, if_neg z, (rc_f s s4).1, cond_true, k0, k1, k2, am_bi_s, am_z_add, e2]
    by_cases q : hm 197 (59 + 1504 * s + 5 * e) = am_z 1
    · simp only [if_pos q]
      by_cases qy : y = am_z 0
      · simp only [if_pos qy]
      · simp only [if_neg qy]
    · simp only [if_neg q]
      exact c_lastL R hs e n (by omega) (by omega)
theorem c_last (hN : 1000 ≤ N) (R : qr_R nS nU hc hm) {s : Nat} {y : Int32} (hs : s < nS) : f_X9_lastSize N (am_z s) y hc = some (some (rLast (hm 197) s y (if y = am_z 0 then hm 195 (12 + s) else hm 195 (16 + s)) (nv (hm 197 (55 + 1504 * s)))), hc) := by
  obtain ⟨n1, n2, n3, n4, n5, n6⟩ := qr_n R
  obtain ⟨c0, c1, c2, c3, cE, ⟨d1, -⟩, dE⟩ := qr_S R hs
  have d2 := d1.2.2
  have s4 : s < 4 := by omega
  have step := c_lastL (N := N) (y := y) R hs (nv (hm 197 (55 + 1504 * s))) N (Nat.le_refl _) (by omega)
  unfold f_X9_lastSize
  simp only [c_rec n3 n1 hs, am_bt_s, c_desk n3 n1 hs, (g_d s s4).2.2, cond_true, c0, am_z_lit]
  have e : hm 197 (55 + 1504 * s) - am_z 1 = am_z ((nv (hm 197 (55 + 1504 * s)) : Int) - 1) := by
    conv => lhs; rw [d1.1]
    rw [am_z_sub]
  rw [e]
  exact step
theorem typ_wh {s : Int32} {t : qc_T} : (qc_typ s t).1 = t.1 ∧ (qc_typ s t).2.1 = t.2.1 := by
  obtain ⟨w, hh, row, col, up, L⟩ := t
  have dn : ∀ c L, (qc_down (w, hh, row, c, up, L)).1 = w ∧ (qc_down (w, hh, row, c, up, L)).2.1 = hh := by
    intro c L
    unfold qc_down
    simp only
    split <;> exact ⟨rfl, rfl⟩
  unfold qc_typ
  simp only
  split
  · exact dn _ _
  split
  · exact ⟨rfl, rfl⟩
  split
  · exact ⟨rfl, rfl⟩
  split
  · exact ⟨rfl, rfl⟩
  split
  · exact dn _ _
  · exact ⟨rfl, rfl⟩
/-- the size of the screen is the last one that was recorded -/
theorem lay_wh {r : Nat → Int32} {s w hh : Nat} {i0 i1 : Int32} (h0 : i0 = am_z w) (h1 : i1 = am_z hh) : ∀ e, (∀ e', e' < e → qc_EV (rEv r s e')) → am_z (qc_lay w hh (rEv r s) e).1 = rLast r s (am_z 0) i0 e ∧ am_z (qc_lay w hh (rEv r s) e).2.1 = rLast r s (am_z 1) i1 e
  | 0, _ => ⟨h0.symm, h1.symm⟩
  | e + 1, hE => by
    have ih := lay_wh h0 h1 e (fun e' h => hE e' (by omega))
    have j1 : 59 + 1504 * s + 5 * e + 1 = 60 + 1504 * s + 5 * e := by omega
    have j2 : 59 + 1504 * s + 5 * e + 2 = 61 + 1504 * s + 5 * e := by omega
    have k0 : rEv r s e 0 = r (59 + 1504 * s + 5 * e) := rfl
    have k1 : rEv r s e 1 = r (60 + 1504 * s + 5 * e) := by unfold rEv; rw [j1]
    have k2 : rEv r s e 2 = r (61 + 1504 * s + 5 * e) := by unfold rEv; rw [j2]
    unfold qc_lay qc_play rLast
    rw [k0]
    by_cases q : r (59 + 1504 * s + 5 * e) = am_z 1
    · rw [if_pos q, if_pos q, if_pos rfl, if_pos q, if_neg z_10]
      rcases hE e (by omega) with ⟨-, w', h', e1, e2, b⟩ | ⟨e0, -⟩
      · rw [k1] at e1
        rw [k2] at e2
        rw [k1, k2, e1, e2, am_z_cl (by omega) (by omega), am_z_cl (by omega) (by omega)]
        unfold qc_szs
        exact ⟨rfl, rfl⟩
      · rw [k0, q] at e0
        exact absurd e0 z_10
    · rw [if_neg q, if_neg q, if_neg q, typ_wh.1, typ_wh.2]
      exact ih
end RECS
