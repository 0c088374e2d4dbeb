section SETTLE
variable {N nS nU : Nat} {hc hm : am_Hp}
theorem rMin_ok {r : Nat → Int32} {s : Nat} {y : Int32} {lo hi : Nat} (hw : ∀ u, u < nU → vn (rWin r u y) lo hi) : ∀ (k u : Nat) (a : Int32), u + k = nU → vn a lo hi → vn (rMin r s y k u a) lo hi
  | 0, _, _, _, h => h
  | k + 1, u, a, hk, h => by
    unfold rMin
    refine rMin_ok hw k (u + 1) _ (by omega) ?_
    split
    · split
      · exact hw u (by omega)
      · exact h
    · exact h
theorem rRight_ok (R : qr_R nS nU hc hm) {s : Nat} (hs : s < nS) : vn (rRight hm nU s (am_z 0)) 2 16 ∧ vn (rRight hm nU s (am_z 1)) 1 6 := by
  obtain ⟨-, -, -, t1, t2⟩ := R.1.2.2.2.2.2.2.2.2.2.2.1 s hs
  have w0 : ∀ u, u < nU → vn (rWin (hm 197) u (am_z 0)) 2 16 := fun u hu => by
    unfold rWin; rw [if_pos rfl]; exact (R.2.2.2.1.2.2 u hu).1
  have w1 : ∀ u, u < nU → vn (rWin (hm 197) u (am_z 1)) 1 6 := fun u hu => by
    unfold rWin; rw [if_neg z_10]; exact (R.2.2.2.1.2.2 u hu).2.1
  unfold rRight
  rw [if_pos rfl, if_neg z_10]
  constructor
  · split
    · exact rMin_ok w0 nU 0 _ (by omega) t1
    · exact t1
  · split
    · exact rMin_ok w1 nU 0 _ (by omega) t2
    · exact t2
/-- what settling leaves as it was -/
def sF (hc hm hc' hm' : am_Hp) : Prop := (∀ a, ¬ (29 ≤ a ∧ a < 33) → ¬ (165 ≤ a ∧ a < 193) → hc' a = hc a) ∧ (∀ s k, s < 4 → k ≠ 0 → hc' (29 + s) k = hc (29 + s) k) ∧ (∀ a, a ≠ 193 → a ≠ 197 → a ≠ 200 → a ≠ 201 → a ≠ 202 → a ≠ 203 → hm' a = hm a) ∧ (∀ k, k ≠ 9 → k ≠ 10 → k ≠ 11 → k ≠ 12 → k ≠ 14 → hm' 193 k = hm 193 k) ∧ (∀ k, k < 55 → hm' 197 k = hm 197 k) ∧ ∀ s k, s < 4 → 1 ≤ k → k < 4 → hm' 197 (55 + 1504 * s + k) = hm 197 (55 + 1504 * s + k)
theorem sF0 : sF hc hm hc hm := ⟨fun _ _ _ => rfl, fun _ _ _ _ => rfl, fun _ _ _ _ _ _ _ => rfl, fun _ _ _ _ _ _ => rfl, fun _ _ => rfl, fun _ _ _ _ _ => rfl⟩
theorem sFt {h1 h2 h3 h4 : am_Hp} (a : sF hc hm h1 h2) (b : sF h1 h2 h3 h4) : sF hc hm h3 h4 :=
  ⟨fun x p q => (b.1 x p q).trans (a.1 x p q), fun x y p q => (b.2.1 x y p q).trans (a.2.1 x y p q), fun x p q r s t u => (b.2.2.1 x p q r s t u).trans (a.2.2.1 x p q r s t u), fun x p q r s t => (b.2.2.2.1 x p q r s t).trans (a.2.2.2.1 x p q r s t), fun x p => (b.2.2.2.2.1 x p).trans (a.2.2.2.2.1 x p), fun x y p q r => (b.2.2.2.2.2 x y p q r).trans (a.2.2.2.2.2 x y p q r)⟩
theorem sF_m {h2 : am_Hp} (a : qm_fr hm h2) : sF hc hm hc h2 :=
  ⟨fun _ _ _ => rfl, fun _ _ _ _ => rfl, fun x p q r s t u => a.1 x p r s t, fun x p q r s t => a.2 x p q r s t, fun x p => by rw [a.1 197 (by decide) (by decide) (by decide) (by decide)], fun x y p q r => by rw [a.1 197 (by decide) (by decide) (by decide) (by decide)]⟩
theorem q_setL (hN : 1000 ≤ N) : ∀ (k s a b : Nat) (hc hm : am_Hp), s + k = nS → k < a → k < b → qr_R nS nU hc hm → ∃ hc' hm', l_X9_recordRightSizes_2 N a (am_z s) hc = some (some (), hc') ∧ l_X10_settles_2 N b (am_z s) hm = some ((), hm') ∧ qr_R nS nU hc' hm' ∧ sF hc hm hc' hm'
  | k, s, 0, b, hc, hm, _, h, _, _ => by omega
  | k, s, a, 0, hc, hm, _, _, h, _ => by omega
  | 0, s, a + 1, b + 1, hc, hm, e, _, _, R => by
    obtain ⟨n1, n2, n3, n4, n5, n6⟩ := qr_n R
    have i0 : am_in (am_z 0) 20 = true := by decide
    have es : s = nS := by omega
    subst es
    refine ⟨hc, hm, ?_, ?_, R, sF0⟩
    · unfold l_X9_recordRightSizes_2
      rw [n3, if_pos (Int32.le_refl _)]
    · unfold l_X10_settles_2
      simp only [am_z_lit, i0, cond_true, n5, if_pos (Int32.le_refl _)]
  | k + 1, s, a + 1, b + 1, hc, hm, e, ha, hb, R => by
    obtain ⟨n1, n2, n3, n4, n5, n6⟩ := qr_n R
    have i0 : am_in (am_z 0) 20 = true := by decide
    have hs : s < nS := by omega
    have s4 : s < 4 := by omega
    obtain ⟨c0, c1, c2, c3, cE, ⟨d1, -⟩, dE⟩ := qr_S R hs
    have d2 := d1.2.2
    obtain ⟨-, -, -, t1, t2⟩ := R.1.2.2.2.2.2.2.2.2.2.2.1 s hs
    generalize hE : nv (hm 197 (55 + 1504 * s)) = E at *
    have eE : hm 197 (55 + 1504 * s) = am_z E := by rw [d1.1, hE]
    have e4 : (s : Int) + 1 = ((s + 1 : Nat) : Int) := by omega
    have hlt : ¬ (am_z nS ≤ am_z s) := by rw [am_z_le (by omega) (by omega) (by omega) (by omega)]; omega
    obtain ⟨h2, l1, l2, l3⟩ := m_lays (N := N) (h := hm) (q := E) hN R hs (by omega) rfl rfl
    have x195 : h2 195 = hm 195 := l3.1 _ (by decide) (by decide) (by decide) (by decide)
    have x197 : h2 197 = hm 197 := l3.1 _ (by decide) (by decide) (by decide) (by decide)
    have R2 : qr_R nS nU hc h2 := qr_fr cfr0 (mfrs l3) R
    have F2 : sF hc hm hc h2 := sF_m l3
    have rw0 := m_right (N := N) (y := am_z 0) (h1 := h2) hN n1 n2 n6 hs x195 x197
    have rw1 := m_right (N := N) (y := am_z 1) (h1 := h2) hN n1 n2 n6 hs x195 x197
    have ok := rRight_ok R hs
    have lw := lay_wh (r := hm 197) (s := s) t1.1 t2.1 E (fun e' he' => (dE e' (by omega)).1)
    have cw := c_last (N := N) (y := am_z 0) hN R hs
    have ch := c_last (N := N) (y := am_z 1) hN R hs
    rw [if_pos rfl, hE, ← lw.1] at cw
    rw [if_neg z_10, hE, ← lw.2] at ch
    have mw : h2 193 9 = am_z (qc_lay (nv (hm 195 (12 + s))) (nv (hm 195 (16 + s))) (rEv (hm 197) s) E).1 := (qm_Rw l2).1
    have mh : h2 193 10 = am_z (qc_lay (nv (hm 195 (12 + s))) (nv (hm 195 (16 + s))) (rEv (hm 197) s) E).2.1 := (qm_Rw l2).2.1
    generalize am_z (qc_lay (nv (hm 195 (12 + s))) (nv (hm 195 (16 + s))) (rEv (hm 197) s) E).1 = LW at *
    generalize am_z (qc_lay (nv (hm 195 (12 + s))) (nv (hm 195 (16 + s))) (rEv (hm 197) s) E).2.1 = LH at *
    generalize hRW : rRight hm nU s (am_z 0) = RW at *
    generalize hRH : rRight hm nU s (am_z 1) = RH at *
    have crw := c_right (N := N) (y := am_z 0) hN R hs
    have crh := c_right (N := N) (y := am_z 1) hN R hs
    rw [hRW] at crw
    rw [hRH] at crh
    -- the two ways on
    have skip : ∃ hc' hm', l_X9_recordRightSizes_2 N a (am_z ((s + 1 : Nat) : Int)) hc = some (some (), hc') ∧ l_X10_settles_2 N b (am_z ((s + 1 : Nat) : Int)) h2 = some ((), hm') ∧ qr_R nS nU hc' hm' ∧ sF hc hm hc' hm' := by
      obtain ⟨h3, h4, p1, p2, p3, p4⟩ := q_setL hN k (s + 1) a b hc h2 (by omega) (by omega) (by omega) R2
      exact ⟨h3, h4, p1, p2, p3, sFt F2 p4⟩
    unfold l_X9_recordRightSizes_2 l_X10_settles_2
    simp only [am_z_lit, am_z_neg, i0, cond_true, n3, n5, if_neg hlt, c_desk n3 n1 hs, am_bt_s, crw, crh, cw, ch, m_ev s4, eE, am_bi_s, l1, rw0, rw1, x197, mw, mh, (g_d s s4).2.2, c0, c_rec n3 n1 hs, (rc_f s s4).1, am_z_add, e4]
    by_cases q3 : E < 300
    · have z3 : ¬ (am_z 300 ≤ am_z E) := by rw [am_z_le (by omega) (by omega) (by omega) (by omega)]; omega
      simp only [if_neg z3]
      have e2 : h2 197 (55 + 1504 * s) = am_z E := by rw [x197]; exact eE
      obtain ⟨g0, g1, g2, p1, p2, p3, p4, p5, p6, p7, p8, p9, p10⟩ := q_rec (N := N) (a := am_z 1) (b := RW) (c := RH) (d := am_z (-1)) R2 hs q3 e2 (Or.inl ⟨rfl, nv RW, nv RH, ok.1.1, ok.2.1, ok.1.2.1, ok.1.2.2, ok.2.2.1, ok.2.2.2⟩) (fun _ => rfl)
      have ps : f_X3_putSized N (165 + 7 * s) (am_z E) RW RH (hc 24 0) hc = some ((), g1) := by
        unfold f_X3_putSized
        simp only [(rc_f s s4).1, cond_true, am_z_lit, am_z_neg, p1, am_bi_s, p2]
      have e5 : (E : Int) + 1 = ((E + 1 : Nat) : Int) := by omega
      have rcd : ∃ hc' hm', l_X9_recordRightSizes_2 N a (am_z ((s + 1 : Nat) : Int)) (am_pi g1 (29 + s) 0 (am_z ((E + 1 : Nat) : Int))) = some (some (), hc') ∧ l_X10_settles_2 N b (am_z ((s + 1 : Nat) : Int)) g2 = some ((), hm') ∧ qr_R nS nU hc' hm' ∧ sF hc hm hc' hm' := by
        obtain ⟨h3, h4, x1, x2, x3, x4⟩ := q_setL hN k (s + 1) a b _ g2 (by omega) (by omega) (by omega) p5
        refine ⟨h3, h4, x1, x2, x3, sFt F2 (sFt ?_ x4)⟩
        refine ⟨fun x p q => p6 x (by omega) (by omega), fun s' k' p q => ?_, fun x p q _ _ _ _ => p8 x q, fun x _ _ _ _ _ => by rw [p8 _ (by decide)], fun x p => p9 x (by omega) (by omega), fun s' k' p q r => p9 _ (by rcases Nat.lt_trichotomy s s' with z | z | z <;> omega) (by rcases Nat.lt_trichotomy s s' with z | z | z <;> omega)⟩
        by_cases qs : s' = s
        · subst qs; exact p7 k' q
        · rw [p6 _ (by omega) (by omega)]
      by_cases q1 : LW = RW
      · by_cases q2 : LH = RH
        · simp only [if_pos q1, if_pos q2, if_neg z_10]
          exact skip
        · simp only [if_pos q1, if_neg q2, if_true, ps, am_bi_s, p3, p4, am_z_add, e5]
          exact rcd
      · simp only [if_neg q1, if_true, ps, am_bi_s, p3, p4, am_z_add, e5]
        exact rcd
    · have z3 : am_z 300 ≤ am_z E := by rw [am_z_le (by omega) (by omega) (by omega) (by omega)]; omega
      simp only [if_pos z3, ite_self]
      exact skip
/-- sessions whose screens have not their right sizes get them -/
theorem q_settle (hN : 1000 ≤ N) (R : qr_R nS nU hc hm) : ∃ hc' hm', f_X9_recordRightSizes N hc = some (some (), hc') ∧ f_X10_settles N hm = some ((), hm') ∧ qr_R nS nU hc' hm' ∧ sF hc hm hc' hm' := by
  obtain ⟨h1, h2, a1, a2, a3, a4⟩ := q_setL (N := N) hN nS 0 N N hc hm (by omega) (by have := (qr_n R).1; omega) (by have := (qr_n R).1; omega) R
  refine ⟨h1, h2, ?_, ?_, a3, a4⟩
  · unfold f_X9_recordRightSizes
    rw [am_z_lit]; exact a1
  · unfold f_X10_settles
    rw [am_z_lit]; exact a2
/-- how many watch a session -/
theorem q_many (hN : 1000 ≤ N) (R : qr_R nS nU hc hm) {s : Nat} : ∃ v, f_X9_usersWhoWatchSession N (am_z s) hc = some (some v, hc) ∧ f_X10_watcherMany N (am_z s) hm = some (v, hm) := by
  obtain ⟨n1, n2, n3, n4, n5, n6⟩ := qr_n R
  have key : ∀ (k u a b : Nat) (c : Int32), u + k = nU → k < a → k < b → ∃ v, l_X9_usersWhoWatchSession_4 N a (am_z s) c (am_z u) hc = some (some v, hc) ∧ l_X10_watcherMany_4 N b (am_z s) c (am_z u) hm = some (v, hm) := by
    intro k
    induction k with
    | zero =>
      intro u a b c e ha hb
      obtain ⟨a, rfl⟩ : ∃ q, a = q + 1 := ⟨a - 1, by omega⟩
      obtain ⟨b, rfl⟩ : ∃ q, b = q + 1 := ⟨b - 1, by omega⟩
      have i1 : am_in (am_z 1) 20 = true := by decide
      have eu : u = nU := by omega
      subst eu
      unfold l_X9_usersWhoWatchSession_4 l_X10_watcherMany_4
      simp only [am_z_lit, i1, cond_true, n4, n6, if_pos (Int32.le_refl _)]
      exact ⟨_, rfl, rfl⟩
    | succ k ih =>
      intro u a b c e ha hb
      obtain ⟨a, rfl⟩ : ∃ q, a = q + 1 := ⟨a - 1, by omega⟩
      obtain ⟨b, rfl⟩ : ∃ q, b = q + 1 := ⟨b - 1, by omega⟩
      have i1 : am_in (am_z 1) 20 = true := by decide
      have hu : u < nU := by omega
      have u6 : u < 6 := by omega
      have hlt : ¬ (am_z nU ≤ am_z u) := by rw [am_z_le (by omega) (by omega) (by omega) (by omega)]; omega
      have e4 : (u : Int) + 1 = ((u + 1 : Nat) : Int) := by omega
      have e0 : c + am_z 0 = c := Int32.add_zero c
      obtain ⟨b1, b2, b3, b4, -⟩ := qr_U R hu
      unfold l_X9_usersWhoWatchSession_4 l_X10_watcherMany_4
      simp only [am_z_lit, i1, cond_true, n4, n6, if_neg hlt, c_seat n4 n2 hu, am_bt_s, (g_u u u6).2, b3, m_wat (r := hm 197) rfl u6, am_bi_s, m_u3 (r := hm 197) rfl u6, am_z_add, e4, e0]
      by_cases q0 : hm 197 (9 + 8 * u) = am_z 0
      · simp only [if_pos q0, if_true]
        exact ih (u + 1) a b c (by omega) (by omega) (by omega)
      · simp only [if_neg q0, if_neg z_10, b4 q0]
        by_cases q1 : hm 197 (10 + 8 * u) = am_z s
        · simp only [if_pos q1]
          exact ih (u + 1) a b _ (by omega) (by omega) (by omega)
        · simp only [if_neg q1]
          exact ih (u + 1) a b c (by omega) (by omega) (by omega)
  obtain ⟨v, a1, a2⟩ := key nU 0 N N (am_z 0) (by omega) (by omega) (by omega)
  refine ⟨v, ?_, ?_⟩
  · unfold f_X9_usersWhoWatchSession
    rw [am_z_lit]; exact a1
  · unfold f_X10_watcherMany
    rw [am_z_lit]; exact a2
end SETTLE
