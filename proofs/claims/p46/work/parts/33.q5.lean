section Q5
variable {N nS nU : Nat} {hc hm : am_Hp}
def qc_NB : qc_T → Prop := fun t => ∀ l c, t.2.2.2.2.2 l c ≠ am_z (-1)
theorem z27 : am_z 27 ≠ am_z (-1) := by decide
theorem nb_up {up : Nat} {L : Nat → Nat → Int32} (h : ∀ l c, L l c ≠ am_z (-1)) : ∀ l c, qc_upL up L l c ≠ am_z (-1) := by
  intro l c
  unfold qc_upL
  split
  · exact h _ _
  · exact h _ _
theorem nb_ups : ∀ (k up : Nat) (L : Nat → Nat → Int32), (∀ l c, L l c ≠ am_z (-1)) → ∀ l c, (qc_ups k up L).2 l c ≠ am_z (-1)
  | 0, _, _, h => h
  | k + 1, _, _, h => nb_ups k _ _ (nb_up h)
theorem nb_down {w hh row col up : Nat} {L : Nat → Nat → Int32} (h : ∀ l c, L l c ≠ am_z (-1)) : qc_NB (qc_down (w, hh, row, col, up, L)) := by
  unfold qc_down
  simp only
  split
  · exact h
  · exact nb_up h
theorem nb_put {l0 c0 : Nat} {s : Int32} {L : Nat → Nat → Int32} (hs : s ≠ am_z (-1)) (h : ∀ l c, L l c ≠ am_z (-1)) : ∀ l c, qc_put l0 c0 s L l c ≠ am_z (-1) := by
  intro l c
  unfold qc_put
  split
  · exact hs
  · exact h _ _
theorem nb_cut {m : Nat} {L : Nat → Nat → Int32} (h : ∀ l c, L l c ≠ am_z (-1)) : ∀ l c, qc_cut m L l c ≠ am_z (-1) := by
  intro l c
  unfold qc_cut
  split
  · exact z27
  · exact h _ _
theorem nb_nar {up w : Nat} {L : Nat → Nat → Int32} (h : ∀ l c, L l c ≠ am_z (-1)) : ∀ l c, qc_nar up w L l c ≠ am_z (-1) := by
  intro l c
  unfold qc_nar
  split
  · exact z27
  · exact h _ _
theorem nb_play {e : Nat → Int32} {t : qc_T} (h : qc_NB t) (he : qc_EV e) : qc_NB (qc_play e t) := by
  obtain ⟨w, hh, row, col, up, L⟩ := t
  have h : ∀ l c, L l c ≠ am_z (-1) := h
  unfold qc_play
  split
  · exact nb_cut (nb_ups _ _ _ (nb_nar h))
  · rename_i h0
    have hs : e 1 ≠ am_z (-1) := by
      rcases he with ⟨z, -⟩ | ⟨-, v, e1, b⟩
      · exact absurd z h0
      · rw [e1]
        intro z
        rw [am_z_eq (by omega) (by omega) (by omega) (by omega)] at z
        omega
    unfold qc_typ
    simp only
    split
    · exact nb_down h
    split
    · exact h
    split
    · exact h
    split
    · exact nb_cut h
    split
    · exact nb_down (nb_put hs h)
    · exact nb_put hs h
theorem nb_lay {w hh : Nat} {ev : Nat → Nat → Int32} : ∀ n, (∀ e, e < n → qc_EV (ev e)) → qc_NB (qc_lay w hh ev n)
  | 0, _ => fun _ _ => z27
  | n + 1, he => nb_play (nb_lay n (fun e z => he e (by omega))) (he n (by omega))
theorem rLay_nb (R : qr_R nS nU hc hm) {s q : Nat} (hs : s < nS) (hq : q ≤ nv (hm 197 (55 + 1504 * s))) : qc_NB (rLay hm s q) := by
  obtain ⟨c0, c1, c2, c3, cE, ⟨d1, -⟩, dE⟩ := qr_S R hs
  exact nb_lay q (fun e he => (dE e (by omega)).1)
-- ---- screen, at, above
/-- both sides lay the same screen -/
theorem q_lay (hN : 1000 ≤ N) (R : qr_R nS nU hc hm) {s q : Nat} {h : am_Hp} (hs : s < nS) (hq : q ≤ nv (hm 197 (55 + 1504 * s))) (e1 : h 195 = hm 195) (hr : h 197 = hm 197) :
    ∃ h1 h2, f_X9_draw N 161 (am_z s) (am_z q) hc = some (some (), h1) ∧ qc_R 161 162 h1 (rLay hm s q) ∧ cfr hc h1 ∧ f_X10_lays N (am_z s) (am_z q) h = some ((), h2) ∧ qm_R h2 (rLay hm s q) ∧ qm_fr h h2 ∧ qc_OK (rLay hm s q) := by
  obtain ⟨h1, a1, a2, a3⟩ := c_draw (N := N) (o := 161) (p := 162) hN (Or.inl ⟨rfl, rfl⟩) R hs hq
  obtain ⟨h2, b1, b2, b3⟩ := m_lays (N := N) (h := h) hN R hs hq e1 hr
  exact ⟨h1, h2, a1, a2, cfrs (Or.inl ⟨rfl, rfl⟩) a3, b1, b2, b3, rLay_ok R hs hq⟩
theorem pT_n2 {a : Option (Option Int32 × am_Hp)} {b : Option (Int32 × am_Hp)} {hc hm h1 : am_Hp} (f : cfr hc h1) (h1 : a = some (none, h1)) (h2 : b = some (am_z 0, am_pi hm 193 0 (am_z 1))) : pT a b hc hm :=
  ⟨_, _, _, _, h1, h2, f, mfrp (by omega), Or.inl ⟨rfl, am_pi_s _ _ _ _⟩⟩
theorem pT_l {a : Option (Option Int32 × am_Hp)} {b : Option (Int32 × am_Hp)} {hc hm h1 h2 : am_Hp} {v v' : Int32} (f : cfr hc h1) (g : qm_fr (am_pi hm 193 0 (am_z 0)) h2) (e1 : a = some (some v, h1)) (e2 : b = some (v', h2)) (e : v = v') : pT a b hc hm :=
  ⟨_, _, _, _, e1, e2, f, mfrt (mfrp (by omega)) (mfrs g), Or.inr ⟨by rw [e], by rw [g.2 0 (by decide) (by decide) (by decide) (by decide) (by decide)]; exact am_pi_s _ _ _ _⟩⟩
theorem q_screen (hN : 1000 ≤ N) (R : qr_R nS nU hc hm) (x y z : Int32) : pT (f_X9_screen N x y z hc) (f_X10_screen N x y z hm) hc hm := by
  unfold f_X9_screen f_X10_screen
  rcases q_posn (N := N) R x y with ⟨s, q, hs, hq, rfl, rfl, e⟩ | ⟨e1, e2⟩
  · obtain ⟨h1, h2, a1, a2, a3, b1, b2, b3, ok⟩ := q_lay (N := N) hN R hs hq (h := am_pi hm 193 0 (am_z 0)) (thr_e (by decide)) (thr_e (by decide))
    simp only [e, a1, am_bt_s, am_bi_s, m_chk1, am_z_lit, if_neg z_10, b1]
    generalize rLay hm s q = t at *
    obtain ⟨w, hh, row, col, up, L⟩ := t
    obtain ⟨f, d0, d1, d2, d3, d4, d5, d6, d7⟩ := a2
    obtain ⟨r1, r2, r3, k1, k2, k3, k4⟩ := b2
    rw [d2, d3, d4, d5, d6, r1, r2, r3, k1, k2]
    by_cases q0 : z.toInt = 0
    · simp only [q0, if_true]; exact pT_l a3 b3 rfl rfl rfl
    simp only [if_neg q0]
    by_cases q1 : z.toInt = 1
    · simp only [q1, if_true]; exact pT_l a3 b3 rfl rfl rfl
    simp only [if_neg q1]
    by_cases q2 : z.toInt = 2
    · simp only [q2, if_true]; exact pT_l a3 b3 rfl rfl rfl
    simp only [if_neg q2]
    by_cases q3 : z.toInt = 3
    · simp only [q3, if_true]; exact pT_l a3 b3 rfl rfl rfl
    simp only [if_neg q3]
    by_cases q4 : z.toInt = 4
    · simp only [q4, if_true]; exact pT_l a3 b3 rfl rfl rfl
    simp only [if_neg q4]
    exact pT_l a3 b3 rfl rfl rfl
  · refine pT_n ?_ ?_
    · simp only [e1, am_bt_n]
    · simp only [e2, am_bi_s, m_chk0, am_z_lit, if_true]
theorem q_at (hN : 1000 ≤ N) (R : qr_R nS nU hc hm) (x y z c : Int32) : pT (f_X9_at N x y z c hc) (f_X10_at N x y z c hm) hc hm := by
  unfold f_X9_at f_X10_at
  rcases q_posn (N := N) R x y with ⟨s, q, hs, hq, rfl, rfl, e⟩ | ⟨e1, e2⟩
  · obtain ⟨h1, h2, a1, a2, a3, b1, b2, b3, ok⟩ := q_lay (N := N) hN R hs hq (h := am_pi hm 193 0 (am_z 0)) (thr_e (by decide)) (thr_e (by decide))
    obtain ⟨zz, rfl, z1, z2⟩ := am_z_ex z
    obtain ⟨cc, rfl, y1, y2⟩ := am_z_ex c
    have ep := m_place (N := N) (y := zz) (c := cc) b2 ok ⟨z1, z2, y1, y2⟩
    simp only [e, a1, am_bt_s, am_bi_s, m_chk1, am_z_lit, am_z_neg, if_neg z_10, b1, ep]
    generalize rLay hm s q = t at *
    obtain ⟨w, hh, row, col, up, L⟩ := t
    have a2' := a2
    obtain ⟨f, d0, d1, d2, d3, d4, d5, d6, d7⟩ := a2'
    have ok' := ok
    obtain ⟨o1, o2, o3, o4, o5, o6, o7, o8, o9, o10⟩ := ok'
    refine pT_l a3 b3 ?_ rfl rfl
    rw [d4, d3]
    simp (disch := omega) only [am_z_lt, am_z_le]
    by_cases c1 : zz < 0
    · rw [if_pos c1, if_neg (by omega)]
    by_cases c2 : (hh : Int) ≤ zz
    · rw [if_neg c1, if_pos c2, if_neg (by omega)]
    by_cases c3 : cc < 0
    · rw [if_neg c1, if_neg c2, if_pos c3, if_neg (by omega)]
    by_cases c4 : cc < w
    · rw [if_neg c1, if_neg c2, if_neg c3, if_pos c4, if_pos (by omega), qc_symS (Or.inl ⟨rfl, rfl⟩) a2 ok (by omega), am_bi_s]
    · rw [if_neg c1, if_neg c2, if_neg c3, if_neg c4, if_neg (by omega)]
  · refine pT_n ?_ ?_
    · simp only [e1, am_bt_n]
    · simp only [e2, am_bi_s, m_chk0, am_z_lit, if_true]
theorem m_line {h : am_Hp} {w up : Nat} {L : Nat → Nat → Int32} (hK : qm_K h w up L) {l c : Nat} (hl : l < up) (hc : c < 16) : (if h 202 l ≤ am_z c then am_z 27 else h 201 (16 * l + c)) = L l c := by
  obtain ⟨q, q1, q2, q3, q4⟩ := hK.2.2.2 l hl
  rw [q2]
  by_cases hq : c < q
  · rw [if_neg (by rw [am_z_le (by omega) (by omega) (by omega) (by omega)]; omega)]; exact q3 c hq
  · rw [if_pos (by rw [am_z_le (by omega) (by omega) (by omega) (by omega)]; omega)]; exact (q4 c (by omega)).symm
theorem q_above (hN : 1000 ≤ N) (R : qr_R nS nU hc hm) (x y z c : Int32) : pT (f_X9_above N x y z c hc) (f_X10_above N x y z c hm) hc hm := by
  unfold f_X9_above f_X10_above
  rcases q_posn (N := N) R x y with ⟨s, q, hs, hq, rfl, rfl, e⟩ | ⟨e1, e2⟩
  · obtain ⟨h1, h2, a1, a2, a3, b1, b2, b3, ok⟩ := q_lay (N := N) hN R hs hq (h := am_pi hm 193 0 (am_z 0)) (thr_e (by decide)) (thr_e (by decide))
    obtain ⟨zz, rfl, z1, z2⟩ := am_z_ex z
    obtain ⟨cc, rfl, y1, y2⟩ := am_z_ex c
    simp only [e, a1, am_bt_s, am_bi_s, m_chk1, am_z_lit, am_z_neg, if_neg z_10, b1]
    generalize rLay hm s q = t at *
    obtain ⟨w, hh, row, col, up, L⟩ := t
    have a2' := a2
    obtain ⟨f, d0, d1, d2, d3, d4, d5, d6, d7⟩ := a2'
    have ok' := ok
    obtain ⟨o1, o2, o3, o4, o5, o6, o7, o8, o9, o10⟩ := ok'
    obtain ⟨r1, r2, r3, hK⟩ := b2
    rw [d2, hK.2.1]
    simp (disch := omega) only [am_z_lt, am_z_le]
    by_cases c1 : zz < 0
    · simp only [if_pos c1]; exact pT_l a3 b3 rfl rfl rfl
    by_cases c2 : (up : Int) ≤ zz
    · simp only [if_neg c1, if_pos c2]; exact pT_l a3 b3 rfl rfl rfl
    by_cases c3 : cc < 0
    · simp only [if_neg c1, if_neg c2, if_pos c3]; exact pT_l a3 b3 rfl rfl rfl
    by_cases c4 : cc < 16
    · simp only [if_neg c1, if_neg c2, if_neg c3, if_pos c4]
      rw [qc_symL (Or.inl ⟨rfl, rfl⟩) a2 ok (by omega), am_bi_s, if_neg (by omega)]
      obtain ⟨l', rfl⟩ : ∃ q : Nat, zz = q := ⟨zz.toNat, by omega⟩
      obtain ⟨c', rfl⟩ : ∃ q : Nat, cc = q := ⟨cc.toNat, by omega⟩
      have e5 : 16 * (l' : Int) + c' = ((16 * l' + c' : Nat) : Int) := by omega
      simp (disch := omega) only [am_z_mul, am_z_add, e5, m_in, cond_true, am_z_cl, Int.toNat_natCast]
      have kl := m_line hK (l := l') (c := c') (by omega) (by omega)
      refine pT_l a3 b3 rfl (v' := L l' c') ?_ rfl
      rw [← kl]
      split <;> rfl
    · simp only [if_neg c1, if_neg c2, if_neg c3, if_neg c4]; exact pT_l a3 b3 rfl rfl rfl
  · refine pT_n ?_ ?_
    · simp only [e1, am_bt_n]
    · simp only [e2, am_bi_s, m_chk0, am_z_lit, if_true]
end Q5
