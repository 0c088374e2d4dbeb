section LOSE
variable {N nS nU : Nat} {hc hm : am_Hp}
theorem c_hand {h : am_Hp} {s : Nat} (hs : s < 4) : f_X0_handOver N (29 + s) h = some ((), am_pi (am_pi h (29 + s) 1 (h (29 + s) 2)) (29 + s) 2 (am_z (-1))) := by
  unfold f_X0_handOver
  simp only [(g_d s hs).2.2, cond_true, am_z_lit, am_z_neg]
theorem m_hasC {h : am_Hp} {s : Nat} {v : Int32} (hs : s < 4) : f_X10_hasControl N (am_z s) v h = some ((), am_pi (am_pi (am_pi h 197 (56 + 1504 * s) v) 197 (57 + 1504 * s) (am_z (-1))) 197 (58 + 1504 * s) (am_z 0)) := by
  unfold f_X10_hasControl
  simp only [am_z_lit, am_z_neg, w_s1 hs, w_s2 hs, w_s3 hs, am_bi_s]
theorem m_gives {h : am_Hp} {s : Nat} (hs : s < 4) : f_X10_givesUp N (am_z s) h = some ((), am_pi (am_pi (am_pi h 197 (56 + 1504 * s) (h 197 (57 + 1504 * s))) 197 (57 + 1504 * s) (am_z (-1))) 197 (58 + 1504 * s) (am_z 0)) := by
  unfold f_X10_givesUp
  simp only [am_z_lit, m_s2 rfl hs, am_bi_s, m_hasC hs]
/-- desk s alone has changed -/
def dF (s : Nat) (hc hm hc' hm' : am_Hp) : Prop := (∀ a, a ≠ 29 + s → hc' a = hc a) ∧ (∀ a, a ≠ 197 → hm' a = hm a) ∧ ∀ k, ¬ (56 + 1504 * s ≤ k ∧ k < 59 + 1504 * s) → hm' 197 k = hm 197 k
theorem dFt {s : Nat} {hc hm h1 h2 h3 h4 : am_Hp} (a : dF s hc hm h1 h2) (b : dF s h1 h2 h3 h4) : dF s hc hm h3 h4 :=
  ⟨fun x p => (b.1 x p).trans (a.1 x p), fun x p => (b.2.1 x p).trans (a.2.1 x p), fun x p => (b.2.2 x p).trans (a.2.2 x p)⟩
/-- whoever asks has control -/
theorem q_hand (R : qr_R nS nU hc hm) {s : Nat} (hs : s < nS) : ∃ hc' hm', f_X0_handOver N (29 + s) hc = some ((), hc') ∧ f_X10_givesUp N (am_z s) hm = some ((), hm') ∧ qr_R nS nU hc' hm' ∧ dF s hc hm hc' hm' ∧ hm' 197 (56 + 1504 * s) = hm 197 (57 + 1504 * s) ∧ hm' 197 (57 + 1504 * s) = am_z (-1) ∧ hc' (29 + s) 1 = hm 197 (57 + 1504 * s) ∧ hc' (29 + s) 2 = am_z (-1) ∧ hc' (29 + s) 0 = hc (29 + s) 0 := by
  obtain ⟨n1, n2, -⟩ := qr_n R
  obtain ⟨c0, c1, c2, c3, cE, ⟨d1, d2, d3⟩, dE⟩ := qr_S R hs
  have s4 : s < 4 := by omega
  have e29 : 24 + 5 + s = 29 + s := by omega
  have m56 : am_pi (am_pi (am_pi hm 197 (56 + 1504 * s) (hm 197 (57 + 1504 * s))) 197 (57 + 1504 * s) (am_z (-1))) 197 (58 + 1504 * s) (am_z 0) 197 (56 + 1504 * s) = hm 197 (57 + 1504 * s) := by
    rw [am_pi_k (by omega), am_pi_k (by omega), am_pi_s]
  have m57 : am_pi (am_pi (am_pi hm 197 (56 + 1504 * s) (hm 197 (57 + 1504 * s))) 197 (57 + 1504 * s) (am_z (-1))) 197 (58 + 1504 * s) (am_z 0) 197 (57 + 1504 * s) = am_z (-1) := by
    rw [am_pi_k (by omega), am_pi_s]
  have m55 : am_pi (am_pi (am_pi hm 197 (56 + 1504 * s) (hm 197 (57 + 1504 * s))) 197 (57 + 1504 * s) (am_z (-1))) 197 (58 + 1504 * s) (am_z 0) 197 (55 + 1504 * s) = hm 197 (55 + 1504 * s) := by
    rw [am_pi_k (by omega), am_pi_k (by omega), am_pi_k (by omega)]
  have k1 : am_pi (am_pi hc (29 + s) 1 (hc (29 + s) 2)) (29 + s) 2 (am_z (-1)) (29 + s) 1 = hm 197 (57 + 1504 * s) := by rw [am_pi_k (by decide), am_pi_s, c2]
  have k0 : am_pi (am_pi hc (29 + s) 1 (hc (29 + s) 2)) (29 + s) 2 (am_z (-1)) (29 + s) 0 = hc (29 + s) 0 := by rw [am_pi_k (by decide), am_pi_k (by decide)]
  have F : dF s hc hm (am_pi (am_pi hc (29 + s) 1 (hc (29 + s) 2)) (29 + s) 2 (am_z (-1))) (am_pi (am_pi (am_pi hm 197 (56 + 1504 * s) (hm 197 (57 + 1504 * s))) 197 (57 + 1504 * s) (am_z (-1))) 197 (58 + 1504 * s) (am_z 0)) := by
    refine ⟨fun a ha => by rw [qc_pia ha, qc_pia ha], fun a ha => by rw [qc_pia ha, qc_pia ha, qc_pia ha], fun k hk => by rw [am_pi_k (by omega), am_pi_k (by omega), am_pi_k (by omega)]⟩
  refine ⟨_, _, c_hand s4, m_gives s4, ?_, F, m56, m57, k1, am_pi_s _ _ _ _, k0⟩
  refine qr_desk R hs F.1 F.2.1 F.2.2 ?_ ?_ ?_
  · unfold sD
    rw [e29, m55, m56, m57, k0, k1, am_pi_s]
    exact ⟨c0, rfl, rfl, fun z => absurd rfl z⟩
  · rw [m56]; exact d3
  · rw [m57]; exact Or.inl rfl
/-- nobody asks any more -/
theorem q_noask (R : qr_R nS nU hc hm) {s : Nat} {v : Int32} (hs : s < nS) : qr_R nS nU (am_pi hc (29 + s) 2 (am_z (-1))) (am_pi (am_pi hm 197 (57 + 1504 * s) (am_z (-1))) 197 (58 + 1504 * s) v) ∧ dF s hc hm (am_pi hc (29 + s) 2 (am_z (-1))) (am_pi (am_pi hm 197 (57 + 1504 * s) (am_z (-1))) 197 (58 + 1504 * s) v) ∧ am_pi (am_pi hm 197 (57 + 1504 * s) (am_z (-1))) 197 (58 + 1504 * s) v 197 (56 + 1504 * s) = hm 197 (56 + 1504 * s) ∧ am_pi (am_pi hm 197 (57 + 1504 * s) (am_z (-1))) 197 (58 + 1504 * s) v 197 (57 + 1504 * s) = am_z (-1) := by
  obtain ⟨n1, n2, -⟩ := qr_n R
  obtain ⟨c0, c1, c2, c3, cE, ⟨d1, d2, d3⟩, dE⟩ := qr_S R hs
  have e29 : 24 + 5 + s = 29 + s := by omega
  have m56 : am_pi (am_pi hm 197 (57 + 1504 * s) (am_z (-1))) 197 (58 + 1504 * s) v 197 (56 + 1504 * s) = hm 197 (56 + 1504 * s) := by
    rw [am_pi_k (by omega), am_pi_k (by omega)]
  have m57 : am_pi (am_pi hm 197 (57 + 1504 * s) (am_z (-1))) 197 (58 + 1504 * s) v 197 (57 + 1504 * s) = am_z (-1) := by
    rw [am_pi_k (by omega), am_pi_s]
  have m55 : am_pi (am_pi hm 197 (57 + 1504 * s) (am_z (-1))) 197 (58 + 1504 * s) v 197 (55 + 1504 * s) = hm 197 (55 + 1504 * s) := by
    rw [am_pi_k (by omega), am_pi_k (by omega)]
  have F : dF s hc hm (am_pi hc (29 + s) 2 (am_z (-1))) (am_pi (am_pi hm 197 (57 + 1504 * s) (am_z (-1))) 197 (58 + 1504 * s) v) :=
    ⟨fun a ha => qc_pia ha, fun a ha => by rw [qc_pia ha, qc_pia ha], fun k hk => by rw [am_pi_k (by omega), am_pi_k (by omega)]⟩
  refine ⟨qr_desk R hs F.1 F.2.1 F.2.2 ?_ (by rw [m56]; exact d2) (by rw [m57]; exact Or.inl rfl), F, m56, m57⟩
  unfold sD
  rw [e29, m55, m56, m57, am_pi_k (by decide), am_pi_k (by decide), am_pi_s]
  exact ⟨c0, c1, rfl, fun z => absurd rfl z⟩
def noU (nS u : Nat) (hm : am_Hp) : Prop := ∀ s, s < nS → hm 197 (56 + 1504 * s) ≠ am_z u ∧ hm 197 (57 + 1504 * s) ≠ am_z u
theorem zu {u : Nat} (hu : u < 6) : am_z (-1) ≠ am_z u := by
  intro z
  rw [am_z_eq (by omega) (by omega) (by omega) (by omega)] at z
  omega
/-- a user who is not live has nothing, and asks for nothing -/
theorem noU_way (R : qr_R nS nU hc hm) {u : Nat} (hu : u < nU) (hw : hm 197 (9 + 8 * u) ≠ am_z 1) : noU nS u hm := by
  obtain ⟨n1, n2, -⟩ := qr_n R
  intro s hs
  obtain ⟨-, -, -, -, -, ⟨d1, d2, d3⟩, -⟩ := qr_S R hs
  have key : ∀ x, vP (hm 197) nU s x → x ≠ am_z u := by
    intro x hx z
    rcases hx with q | ⟨w, w1, w2, w3, w4⟩
    · exact zu (by omega) (q.symm.trans z)
    · rw [w2, am_z_eq (by omega) (by omega) (by omega) (by omega)] at z
      have : w = u := by omega
      subst this
      exact hw w3
  exact ⟨key _ d2, key _ d3⟩
/-- a live user has and asks for its own session's control alone -/
theorem noU_oth (R : qr_R nS nU hc hm) {u s s' : Nat} (hu : u < nU) (hs : s < nS) (he : hm 197 (10 + 8 * u) = am_z s) (hs' : s' < nS) (hne : s' ≠ s) : hm 197 (56 + 1504 * s') ≠ am_z u ∧ hm 197 (57 + 1504 * s') ≠ am_z u := by
  obtain ⟨n1, n2, -⟩ := qr_n R
  obtain ⟨-, -, -, -, -, ⟨d1, d2, d3⟩, -⟩ := qr_S R hs'
  have key : ∀ x, vP (hm 197) nU s' x → x ≠ am_z u := by
    intro x hx z
    rcases hx with q | ⟨w, w1, w2, w3, w4⟩
    · exact zu (by omega) (q.symm.trans z)
    · rw [w2, am_z_eq (by omega) (by omega) (by omega) (by omega)] at z
      have : w = u := by omega
      subst this
      rw [he, am_z_eq (by omega) (by omega) (by omega) (by omega)] at w4
      omega
  exact ⟨key _ d2, key _ d3⟩
theorem q_lose (R : qr_R nS nU hc hm) {u : Nat} (hu : u < nU) : ∃ hc' hm', f_X9_loseControl N (am_z u) (33 + u) hc = some (some (), hc') ∧ f_X10_loses N (am_z u) hm = some ((), hm') ∧ qr_R nS nU hc' hm' ∧ noU nS u hm' ∧ (∀ a, ¬ (29 ≤ a ∧ a < 33) → hc' a = hc a) ∧ (∀ a, a ≠ 197 → hm' a = hm a) ∧ ∀ k, (k < 56 ∨ ∃ s, k = 55 + 1504 * s) → hm' 197 k = hm 197 k := by
  obtain ⟨n1, n2, n3, n4, n5, n6⟩ := qr_n R
  obtain ⟨b1, b2, b3, b4, b5, b6, b7, bV⟩ := qr_U R hu
  have u6 : u < 6 := by omega
  unfold f_X9_loseControl f_X10_loses
  simp only [am_z_lit, am_z_neg, (g_u u u6).2, cond_true, b3, m_u3 (r := hm 197) rfl u6, m_wat (r := hm 197) rfl u6, am_bi_s]
  by_cases q1 : hm 197 (9 + 8 * u) = am_z 1
  · have q0 : hm 197 (9 + 8 * u) ≠ am_z 0 := by rw [q1]; decide
    obtain ⟨s1, s2⟩ := bV.2.2.2.1 q0
    generalize hss : nv (hm 197 (10 + 8 * u)) = s at *
    have s4 : s < 4 := by omega
    have e3 : hm 197 (10 + 8 * u) = am_z s := by rw [s1.1, hss]
    obtain ⟨c0, c1, c2, c3, cE, ⟨d1, d2, d3⟩, dE⟩ := qr_S R s2
    simp only [if_pos q1, if_neg q0, if_neg z_10, b4 q0, e3, c_desk n3 n1 s2, am_bt_s, (g_d s s4).2.2, cond_true, c1, c2, m_s2 (r := hm 197) rfl s4, m_s1 (r := hm 197) rfl s4, am_bi_s]
    have fin : ∀ hc' hm', dF s hc hm hc' hm' → hm' 197 (56 + 1504 * s) ≠ am_z u → hm' 197 (57 + 1504 * s) ≠ am_z u → noU nS u hm' ∧ (∀ a, ¬ (29 ≤ a ∧ a < 33) → hc' a = hc a) ∧ (∀ a, a ≠ 197 → hm' a = hm a) ∧ ∀ k, (k < 56 ∨ ∃ s, k = 55 + 1504 * s) → hm' 197 k = hm 197 k := by
      intro hc' hm' F z1 z2
      refine ⟨fun s' hs' => ?_, fun a ha => F.1 a (by omega), F.2.1, fun k hk => F.2.2 k (by rcases hk with hk | ⟨s', rfl⟩ <;> omega)⟩
      by_cases q : s' = s
      · subst q; exact ⟨z1, z2⟩
      · rw [F.2.2 _ (by rcases Nat.lt_trichotomy s s' with z | z | z <;> omega), F.2.2 _ (by rcases Nat.lt_trichotomy s s' with z | z | z <;> omega)]
        exact noU_oth R hu s2 e3 hs' q
    by_cases qa : hm 197 (57 + 1504 * s) = am_z u
    · obtain ⟨R1, F1, m56, m57⟩ := q_noask (v := am_z 0) R s2
      simp only [if_pos qa, w_s2 s4, w_s3 s4, am_bi_s]
      generalize hg1 : am_pi hc (29 + s) 2 (am_z (-1)) = h1 at *
      generalize hg2 : am_pi (am_pi hm 197 (57 + 1504 * s) (am_z (-1))) 197 (58 + 1504 * s) (am_z 0) = h2 at *
      obtain ⟨-, c1', -⟩ := qr_S R1 s2
      simp only [m_s1 (r := h2 197) rfl s4, am_bi_s, c1', m56]
      by_cases qh : hm 197 (56 + 1504 * s) = am_z u
      · obtain ⟨h3, h4, x1, x2, R2, F2, y1, y2, -⟩ := q_hand (N := N) R1 s2
        simp only [if_pos qh, x1, x2, am_bi_s]
        refine ⟨h3, h4, rfl, rfl, R2, fin h3 h4 (dFt F1 F2) ?_ ?_⟩
        · rw [y1, m57]; exact zu u6
        · rw [y2]; exact zu u6
      · simp only [if_neg qh]
        refine ⟨h1, h2, rfl, rfl, R1, fin h1 h2 F1 ?_ ?_⟩
        · rw [m56]; exact qh
        · rw [m57]; exact zu u6
    · simp only [if_neg qa]
      by_cases qh : hm 197 (56 + 1504 * s) = am_z u
      · obtain ⟨h3, h4, x1, x2, R2, F2, y1, y2, -⟩ := q_hand (N := N) R s2
        simp only [if_pos qh, x1, x2, am_bi_s]
        refine ⟨h3, h4, rfl, rfl, R2, fin h3 h4 F2 ?_ ?_⟩
        · rw [y1]; exact qa
        · rw [y2]; exact zu u6
      · simp only [if_neg qh]
        exact ⟨hc, hm, rfl, rfl, R, fin hc hm ⟨fun _ _ => rfl, fun _ _ => rfl, fun _ _ => rfl⟩ qh qa⟩
  · have nu := noU_way R hu q1
    simp only [if_neg q1]
    by_cases q0 : hm 197 (9 + 8 * u) = am_z 0
    · simp only [if_pos q0, if_true]
      exact ⟨hc, hm, rfl, rfl, R, nu, fun _ _ => rfl, fun _ _ => rfl, fun _ _ => rfl⟩
    · obtain ⟨s1, s2⟩ := bV.2.2.2.1 q0
      generalize hss : nv (hm 197 (10 + 8 * u)) = s at *
      have s4 : s < 4 := by omega
      have e3 : hm 197 (10 + 8 * u) = am_z s := by rw [s1.1, hss]
      obtain ⟨z1, z2⟩ := nu s s2
      simp only [if_neg q0, if_neg z_10, e3, m_s2 (r := hm 197) rfl s4, m_s1 (r := hm 197) rfl s4, am_bi_s, if_neg z1, if_neg z2]
      exact ⟨hc, hm, rfl, rfl, R, nu, fun _ _ => rfl, fun _ _ => rfl, fun _ _ => rfl⟩
end LOSE
