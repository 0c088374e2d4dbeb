/-! ===== what a change may touch, so that the relation holds on ===== -/
section NOW
variable {N nS nU : Nat} {hc hm hc' hm' : am_Hp}
theorem qr_now (R : qr_R nS nU hc hm) (f : ∀ a, ¬ (24 ≤ a ∧ a < 39) → ¬ (161 ≤ a ∧ a < 193) → hc' a = hc a) (fr : ∀ s e k, s < nS → e < nv (hm 197 (55 + 1504 * s)) → k < 5 → rc_e hc' s e k = rc_e hc s e k)
    (g : ∀ a, a ≠ 193 → a ≠ 197 → a ≠ 200 → a ≠ 201 → a ≠ 202 → a ≠ 203 → hm' a = hm a) (g2 : ∀ k, k ≠ 0 → k ≠ 9 → k ≠ 10 → k ≠ 11 → k ≠ 12 → k ≠ 14 → k ≠ 27 → hm' 193 k = hm 193 k)
    (mono : ∀ s, s < nS → nv (hm 197 (55 + 1504 * s)) ≤ nv (hm' 197 (55 + 1504 * s))) (hs : sS nS nU hc' 24 (hm' 197)) (hv : vV nS nU (hm' 197)) : qr_R nS nU hc' hm' := by
  obtain ⟨t, b, s, v, y⟩ := R
  have e : ∀ x, x < 24 ∨ (39 ≤ x ∧ x < 161) → hc' x = hc x := fun x hx => f x (by omega) (by omega)
  have m1 : hm' 195 = hm 195 := g _ (by decide) (by decide) (by decide) (by decide) (by decide) (by decide)
  have m3 : hm' 194 = hm 194 := g _ (by decide) (by decide) (by decide) (by decide) (by decide) (by decide)
  have m4 : hm' 199 = hm 199 := g _ (by decide) (by decide) (by decide) (by decide) (by decide) (by decide)
  have m5 : hm' 204 = hm 204 := g _ (by decide) (by decide) (by decide) (by decide) (by decide) (by decide)
  have n1 : hm' 193 2 = hm 193 2 := g2 _ (by decide) (by decide) (by decide) (by decide) (by decide) (by decide) (by decide)
  have n2 : hm' 193 8 = hm 193 8 := g2 _ (by decide) (by decide) (by decide) (by decide) (by decide) (by decide) (by decide)
  have n3 : hm' 193 24 = hm 193 24 := g2 _ (by decide) (by decide) (by decide) (by decide) (by decide) (by decide) (by decide)
  have n4 : hm' 193 30 = hm 193 30 := g2 _ (by decide) (by decide) (by decide) (by decide) (by decide) (by decide) (by decide)
  have ep : tp hm' = tp hm := by funext j k; unfold tp; rw [m4]
  refine ⟨?_, ?_, hs, hv, ?_⟩
  · unfold tT at t ⊢
    simp (disch := decide) only [e, m1]
    exact t
  · unfold tB at b ⊢
    simp (disch := decide) only [e, m3, m5, n1, n3, n4]
    exact b
  · unfold tH at y ⊢
    simp (disch := decide) only [e, n2, ep]
    obtain ⟨y1, y2, y3, y4, y5, y6⟩ := y
    refine ⟨y1, y2, y3, fun j hj => ⟨?_, (y4 j hj).2⟩, fun j s hj hs => Nat.le_trans (y5 j s hj hs) (mono s hs), y6⟩
    have hS := t.1
    have hU := t.2.1
    obtain ⟨a1, a2, a3, a4, a5, a6⟩ := (y4 j hj).1
    refine ⟨by rw [e _ (by omega)]; exact a1, by rw [e _ (by omega)]; exact a2, by rw [e _ (by omega)]; exact a3, fun k hk => by rw [e _ (by omega)]; exact a4 k hk, fun s hs => ?_, fun u hu => ?_⟩
    · obtain ⟨b1, b2⟩ := a5 s hs
      refine ⟨?_, fun x hx k hk => ?_⟩
      · unfold sD
        rw [e _ (by omega)]; exact b1
      · have := y5 j s hj hs
        rw [fr s x k hs (by omega) hk]
        exact b2 x hx k hk
    · unfold sU
      rw [e _ (by omega)]; exact a6 u hu
/-- a user's seat changes -/
theorem qr_seat (R : qr_R nS nU hc hm) {u : Nat} (hu : u < nU) (h1 : ∀ a, a ≠ 33 + u → hc' a = hc a) (h2 : ∀ a, a ≠ 197 → hm' a = hm a) (h3 : ∀ k, ¬ (7 + 8 * u ≤ k ∧ k < 15 + 8 * u) → hm' 197 k = hm 197 k)
    (hsu : sU hc' 24 u (hm' 197)) (hv : vU (hm' 197) nS u) (hP : ∀ s, s < nS → (hm 197 (56 + 1504 * s) = am_z u ∨ hm 197 (57 + 1504 * s) = am_z u) → hm' 197 (9 + 8 * u) = am_z 1 ∧ hm' 197 (10 + 8 * u) = am_z s) : qr_R nS nU hc' hm' := by
  obtain ⟨n1, n2, -⟩ := qr_n R
  have eS : ∀ s k, s < nS → hm' 197 (55 + 1504 * s + k) = hm 197 (55 + 1504 * s + k) := fun s k hs => h3 _ (by omega)
  have e55 : ∀ s, s < nS → hm' 197 (55 + 1504 * s) = hm 197 (55 + 1504 * s) := fun s hs => h3 _ (by omega)
  have e56 : ∀ s, s < nS → hm' 197 (56 + 1504 * s) = hm 197 (56 + 1504 * s) := fun s hs => h3 _ (by omega)
  have e57 : ∀ s, s < nS → hm' 197 (57 + 1504 * s) = hm 197 (57 + 1504 * s) := fun s hs => h3 _ (by omega)
  have e58 : ∀ s, s < nS → hm' 197 (58 + 1504 * s) = hm 197 (58 + 1504 * s) := fun s hs => h3 _ (by omega)
  have R' := R
  obtain ⟨t, b, ⟨a1, a2, a3, a4, a5, a6⟩, ⟨v1, v2, v3⟩, y⟩ := R'
  have eU : ∀ u' k, u' < nU → u' ≠ u → k < 8 → hm' 197 (7 + 8 * u' + k) = hm 197 (7 + 8 * u' + k) := fun u' k _ _ _ => h3 _ (by omega)
  have key : ∀ s, s < nS → ∀ x, (x = hm 197 (56 + 1504 * s) ∨ x = hm 197 (57 + 1504 * s)) → vP (hm 197) nU s x → vP (hm' 197) nU s x := by
    intro s hs x hx hp
    rcases hp with z | ⟨w, w1, w2, w3, w4⟩
    · exact Or.inl z
    · refine Or.inr ⟨w, w1, w2, ?_⟩
      by_cases q : w = u
      · subst q
        refine hP s hs ?_
        rcases hx with z | z
        · exact Or.inl (z ▸ w2)
        · exact Or.inr (z ▸ w2)
      · have := eU w 2 w1 q (by decide)
        have := eU w 3 w1 q (by decide)
        refine ⟨by rw [h3 _ (by omega)]; exact w3, by rw [h3 _ (by omega)]; exact w4⟩
  refine qr_now R (fun a x _ => h1 a (by omega)) (fun s e k _ _ _ => by unfold rc_e; rw [h1 _ (by omega)]) (fun a _ x _ _ _ _ => h2 a x) (fun k _ _ _ _ _ _ _ => by rw [h2 _ (by decide)]) (fun s hs => by rw [e55 s hs]; exact Nat.le_refl _) ?_ ?_
  · refine ⟨by rw [h1 _ (by omega), h3 _ (by omega)]; exact a1, by rw [h1 _ (by omega), h3 _ (by omega)]; exact a2, by rw [h1 _ (by omega), h3 _ (by omega)]; exact a3, fun k hk => by rw [h1 _ (by omega), h3 _ (by omega)]; exact a4 k hk, fun s hs => ?_, fun u' hu' => ?_⟩
    · obtain ⟨b1, b2⟩ := a5 s hs
      refine ⟨?_, fun x hx k hk => ?_⟩
      · unfold sD
        rw [h1 _ (by omega), e55 s hs, e56 s hs, e57 s hs, e58 s hs]; exact b1
      · rw [e55 s hs] at hx
        unfold rc_e
        rw [h1 _ (by omega), h3 _ (by omega)]
        exact b2 x hx k hk
    · by_cases q : u' = u
      · subst q; exact hsu
      · unfold sU
        rw [h1 _ (by omega), h3 (7 + 8 * u') (by omega), h3 (8 + 8 * u') (by omega), h3 (9 + 8 * u') (by omega), h3 (10 + 8 * u') (by omega), h3 (11 + 8 * u') (by omega), h3 (12 + 8 * u') (by omega), h3 (13 + 8 * u') (by omega), h3 (14 + 8 * u') (by omega)]
        exact a6 u' hu'
  · refine ⟨by rw [h3 _ (by omega)]; exact v1, fun s hs => ⟨?_, ?_⟩, fun u' hu' => ?_⟩
    · obtain ⟨⟨d1, d2, d3⟩, -⟩ := v2 s hs
      unfold vD
      rw [e55 s hs, e56 s hs, e57 s hs]
      exact ⟨d1, key s hs _ (Or.inl rfl) d2, key s hs _ (Or.inr rfl) d3⟩
    · obtain ⟨-, dE⟩ := v2 s hs
      intro e he
      rw [e55 s hs] at he
      have := dE e he
      refine ⟨qc_EV_c ?_ ?_ ?_ this.1, ?_⟩
      · exact (h3 _ (by omega)).symm
      · exact (h3 _ (by omega)).symm
      · exact (h3 _ (by omega)).symm
      · rw [h3 _ (by omega), h3 _ (by omega)]; exact this.2
    · by_cases q : u' = u
      · subst q; exact hv
      · have := v3 u' hu'
        obtain ⟨w1, w2, w3, w4, w5, w6, w7, w8⟩ := this
        unfold vU
        rw [h3 (7 + 8 * u') (by omega), h3 (8 + 8 * u') (by omega), h3 (9 + 8 * u') (by omega), h3 (10 + 8 * u') (by omega), h3 (11 + 8 * u') (by omega), h3 (13 + 8 * u') (by omega), h3 (14 + 8 * u') (by omega), h3 (55 + 1504 * nv (hm 197 (10 + 8 * u'))) (by omega)]
        exact ⟨w1, w2, w3, w4, w5, w6, w7, w8⟩
/-- a session's desk changes: who has control, who asks -/
theorem qr_desk (R : qr_R nS nU hc hm) {s : Nat} (hs : s < nS) (h1 : ∀ a, a ≠ 29 + s → hc' a = hc a) (h2 : ∀ a, a ≠ 197 → hm' a = hm a) (h3 : ∀ k, ¬ (56 + 1504 * s ≤ k ∧ k < 59 + 1504 * s) → hm' 197 k = hm 197 k)
    (hd : sD hc' 24 s (hm' 197)) (p1 : vP (hm 197) nU s (hm' 197 (56 + 1504 * s))) (p2 : vP (hm 197) nU s (hm' 197 (57 + 1504 * s))) : qr_R nS nU hc' hm' := by
  obtain ⟨n1, n2, -⟩ := qr_n R
  have e55 : ∀ s', s' < nS → hm' 197 (55 + 1504 * s') = hm 197 (55 + 1504 * s') := fun s' hs' => h3 _ (by omega)
  have R' := R
  obtain ⟨t, b, ⟨a1, a2, a3, a4, a5, a6⟩, ⟨v1, v2, v3⟩, y⟩ := R'
  have key : ∀ s' x, vP (hm 197) nU s' x → vP (hm' 197) nU s' x := by
    intro s' x hp
    rcases hp with z | ⟨w, w1, w2, w3, w4⟩
    · exact Or.inl z
    · exact Or.inr ⟨w, w1, w2, by rw [h3 _ (by omega)]; exact w3, by rw [h3 _ (by omega)]; exact w4⟩
  refine qr_now R (fun a x _ => h1 a (by omega)) (fun s e k _ _ _ => by unfold rc_e; rw [h1 _ (by omega)]) (fun a _ x _ _ _ _ => h2 a x) (fun k _ _ _ _ _ _ _ => by rw [h2 _ (by decide)]) (fun s hs => by rw [e55 s hs]; exact Nat.le_refl _) ?_ ?_
  · refine ⟨by rw [h1 _ (by omega), h3 _ (by omega)]; exact a1, by rw [h1 _ (by omega), h3 _ (by omega)]; exact a2, by rw [h1 _ (by omega), h3 _ (by omega)]; exact a3, fun k hk => by rw [h1 _ (by omega), h3 _ (by omega)]; exact a4 k hk, fun s' hs' => ?_, fun u' hu' => ?_⟩
    · obtain ⟨b1, b2⟩ := a5 s' hs'
      refine ⟨?_, fun x hx k hk => ?_⟩
      · by_cases q : s' = s
        · subst q; exact hd
        · unfold sD
          rw [h1 _ (by omega), h3 (55 + 1504 * s') (by omega), h3 (56 + 1504 * s') (by omega), h3 (57 + 1504 * s') (by omega), h3 (58 + 1504 * s') (by omega)]; exact b1
      · rw [e55 s' hs'] at hx
        have h300 := (v2 s' hs').1.1.2.2
        unfold rc_e
        rw [h1 _ (by omega), h3 _ (by rcases Nat.lt_trichotomy s s' with z | z | z <;> omega)]
        exact b2 x hx k hk
    · unfold sU
      rw [h1 _ (by omega), h3 (7 + 8 * u') (by omega), h3 (8 + 8 * u') (by omega), h3 (9 + 8 * u') (by omega), h3 (10 + 8 * u') (by omega), h3 (11 + 8 * u') (by omega), h3 (12 + 8 * u') (by omega), h3 (13 + 8 * u') (by omega), h3 (14 + 8 * u') (by omega)]
      exact a6 u' hu'
  · refine ⟨by rw [h3 _ (by omega)]; exact v1, fun s' hs' => ⟨?_, ?_⟩, fun u' hu' => ?_⟩
    · obtain ⟨⟨d1, d2, d3⟩, -⟩ := v2 s' hs'
      unfold vD
      rw [e55 s' hs']
      by_cases q : s' = s
      · subst q
        exact ⟨d1, key _ _ p1, key _ _ p2⟩
      · rw [h3 (56 + 1504 * s') (by omega), h3 (57 + 1504 * s') (by omega)]
        exact ⟨d1, key _ _ d2, key _ _ d3⟩
    · obtain ⟨⟨d1, -⟩, dE⟩ := v2 s' hs'
      have h300 := d1.2.2
      intro e he
      rw [e55 s' hs'] at he
      have := dE e he
      refine ⟨qc_EV_c ?_ ?_ ?_ this.1, ?_⟩
      · exact (h3 _ (by rcases Nat.lt_trichotomy s s' with z | z | z <;> omega)).symm
      · exact (h3 _ (by rcases Nat.lt_trichotomy s s' with z | z | z <;> omega)).symm
      · exact (h3 _ (by rcases Nat.lt_trichotomy s s' with z | z | z <;> omega)).symm
      · rw [h3 _ (by rcases Nat.lt_trichotomy s s' with z | z | z <;> omega), h3 _ (by rcases Nat.lt_trichotomy s s' with z | z | z <;> omega)]; exact this.2
    · have := v3 u' hu'
      obtain ⟨w1, w2, w3, w4, w5, w6, w7, w8⟩ := this
      unfold vU
      rw [h3 (7 + 8 * u') (by omega), h3 (8 + 8 * u') (by omega), h3 (9 + 8 * u') (by omega), h3 (10 + 8 * u') (by omega), h3 (11 + 8 * u') (by omega), h3 (13 + 8 * u') (by omega), h3 (14 + 8 * u') (by omega), h3 (55 + 1504 * nv (hm 197 (10 + 8 * u'))) (by omega)]
      exact ⟨w1, w2, w3, w4, w5, w6, w7, w8⟩
/-- time, settings, accounts change -/
theorem qr_glob (R : qr_R nS nU hc hm) (h1 : ∀ a, a ≠ 24 → a ≠ 25 → a ≠ 26 → hc' a = hc a) (h2 : ∀ a, a ≠ 197 → hm' a = hm a) (h3 : ∀ k, 7 ≤ k → hm' 197 k = hm 197 k)
    (g1 : hc' 24 0 = hm' 197 2) (g2 : hc' 25 0 = hm' 197 0) (g3 : hc' 25 1 = hm' 197 1) (g4 : ∀ k, k < 4 → hc' 26 k = hm' 197 (3 + k)) (g5 : vn (hm' 197 1) 0 1) : qr_R nS nU hc' hm' := by
  obtain ⟨n1, n2, -⟩ := qr_n R
  have R' := R
  obtain ⟨t, b, ⟨a1, a2, a3, a4, a5, a6⟩, ⟨v1, v2, v3⟩, y⟩ := R'
  have key : ∀ s' x, vP (hm 197) nU s' x → vP (hm' 197) nU s' x := by
    intro s' x hp
    rcases hp with z | ⟨w, w1, w2, w3, w4⟩
    · exact Or.inl z
    · exact Or.inr ⟨w, w1, w2, by rw [h3 _ (by omega)]; exact w3, by rw [h3 _ (by omega)]; exact w4⟩
  refine qr_now R (fun a x _ => h1 a (by omega) (by omega) (by omega)) (fun s e k _ _ _ => by unfold rc_e; rw [h1 _ (by omega) (by omega) (by omega)]) (fun a _ x _ _ _ _ => h2 a x) (fun k _ _ _ _ _ _ _ => by rw [h2 _ (by decide)]) (fun s hs => by rw [h3 _ (by omega)]; exact Nat.le_refl _) ?_ ?_
  · refine ⟨g1, g2, g3, g4, fun s' hs' => ?_, fun u' hu' => ?_⟩
    · obtain ⟨b1, b2⟩ := a5 s' hs'
      refine ⟨?_, fun x hx k hk => ?_⟩
      · unfold sD
        rw [h1 _ (by omega) (by omega) (by omega), h3 (55 + 1504 * s') (by omega), h3 (56 + 1504 * s') (by omega), h3 (57 + 1504 * s') (by omega), h3 (58 + 1504 * s') (by omega)]; exact b1
      · rw [h3 _ (by omega)] at hx
        unfold rc_e
        rw [h1 _ (by omega) (by omega) (by omega), h3 _ (by omega)]
        exact b2 x hx k hk
    · unfold sU
      rw [h1 _ (by omega) (by omega) (by omega), h3 (7 + 8 * u') (by omega), h3 (8 + 8 * u') (by omega), h3 (9 + 8 * u') (by omega), h3 (10 + 8 * u') (by omega), h3 (11 + 8 * u') (by omega), h3 (12 + 8 * u') (by omega), h3 (13 + 8 * u') (by omega), h3 (14 + 8 * u') (by omega)]
      exact a6 u' hu'
  · refine ⟨g5, fun s' hs' => ⟨?_, ?_⟩, fun u' hu' => ?_⟩
    · obtain ⟨⟨d1, d2, d3⟩, -⟩ := v2 s' hs'
      unfold vD
      rw [h3 (55 + 1504 * s') (by omega), h3 (56 + 1504 * s') (by omega), h3 (57 + 1504 * s') (by omega)]
      exact ⟨d1, key _ _ d2, key _ _ d3⟩
    · obtain ⟨-, dE⟩ := v2 s' hs'
      intro e he
      rw [h3 _ (by omega)] at he
      have := dE e he
      refine ⟨qc_EV_c ?_ ?_ ?_ this.1, ?_⟩
      · exact (h3 _ (by omega)).symm
      · exact (h3 _ (by omega)).symm
      · exact (h3 _ (by omega)).symm
      · rw [h3 _ (by omega), h3 _ (by omega)]; exact this.2
    · have := v3 u' hu'
      obtain ⟨w1, w2, w3, w4, w5, w6, w7, w8⟩ := this
      unfold vU
      rw [h3 (7 + 8 * u') (by omega), h3 (8 + 8 * u') (by omega), h3 (9 + 8 * u') (by omega), h3 (10 + 8 * u') (by omega), h3 (11 + 8 * u') (by omega), h3 (13 + 8 * u') (by omega), h3 (14 + 8 * u') (by omega), h3 (55 + 1504 * nv (hm 197 (10 + 8 * u'))) (by omega)]
      exact ⟨w1, w2, w3, w4, w5, w6, w7, w8⟩
/-- an event comes behind the last one -/
theorem qr_app (R : qr_R nS nU hc hm) {s E : Nat} (hs : s < nS) (hE : hm 197 (55 + 1504 * s) = am_z E) (hE3 : E < 300) (h1 : ∀ a, a ≠ 29 + s → ¬ (167 + 7 * s ≤ a ∧ a < 172 + 7 * s) → hc' a = hc a) (h1d : ∀ k, k ≠ 0 → hc' (29 + s) k = hc (29 + s) k) (h1n : hc' (29 + s) 0 = am_z ((E + 1 : Nat) : Int))
    (h1e : ∀ k e, k < 5 → e ≠ E → hc' (167 + 7 * s + k) e = hc (167 + 7 * s + k) e) (h2 : ∀ a, a ≠ 197 → hm' a = hm a) (h3 : ∀ k, k ≠ 55 + 1504 * s → ¬ (59 + 1504 * s + 5 * E ≤ k ∧ k < 64 + 1504 * s + 5 * E) → hm' 197 k = hm 197 k)
    (h3n : hm' 197 (55 + 1504 * s) = am_z ((E + 1 : Nat) : Int)) (hev : ∀ k, k < 5 → hc' (167 + 7 * s + k) E = hm' 197 (59 + 1504 * s + 5 * E + k)) (v1e : qc_EV (fun k => hm' 197 (59 + 1504 * s + 5 * E + k))) (v2e : hm' 197 (59 + 1504 * s + 5 * E) = am_z 1 → hm' 197 (63 + 1504 * s + 5 * E) = am_z (-1)) : qr_R nS nU hc' hm' := by
  obtain ⟨n1, n2, -⟩ := qr_n R
  have R' := R
  obtain ⟨t, b, ⟨a1, a2, a3, a4, a5, a6⟩, ⟨v1, v2, v3⟩, y⟩ := R'
  have eE : nv (hm 197 (55 + 1504 * s)) = E := by rw [hE]; exact nv_z (by omega)
  have eE' : nv (hm' 197 (55 + 1504 * s)) = E + 1 := by rw [h3n]; exact nv_z (by omega)
  have key : ∀ s' x, vP (hm 197) nU s' x → vP (hm' 197) nU s' x := by
    intro s' x hp
    rcases hp with z | ⟨w, w1, w2, w3, w4⟩
    · exact Or.inl z
    · exact Or.inr ⟨w, w1, w2, by rw [h3 _ (by omega) (by omega)]; exact w3, by rw [h3 _ (by omega) (by omega)]; exact w4⟩
  have hle : ∀ s', s' < nS → nv (hm 197 (55 + 1504 * s')) ≤ nv (hm' 197 (55 + 1504 * s')) := by
    intro s' hs'
    by_cases q : s' = s
    · subst q; omega
    · rw [h3 _ (by omega) (by omega)]; exact Nat.le_refl _
  refine qr_now R (fun a x z => h1 a (by omega) (by omega)) (fun s' e k hs' he hk => ?_) (fun a _ x _ _ _ _ => h2 a x) (fun k _ _ _ _ _ _ _ => by rw [h2 _ (by decide)]) hle ?_ ?_
  · unfold rc_e
    by_cases q : s' = s
    · subst q; exact h1e k e hk (by omega)
    · rw [h1 _ (by omega) (by omega)]
  · refine ⟨by rw [h1 _ (by omega) (by omega), h3 _ (by omega) (by omega)]; exact a1, by rw [h1 _ (by omega) (by omega), h3 _ (by omega) (by omega)]; exact a2, by rw [h1 _ (by omega) (by omega), h3 _ (by omega) (by omega)]; exact a3, fun k hk => by rw [h1 _ (by omega) (by omega), h3 _ (by omega) (by omega)]; exact a4 k hk, fun s' hs' => ?_, fun u' hu' => ?_⟩
    · obtain ⟨b1, b2⟩ := a5 s' hs'
      by_cases q : s' = s
      · subst q
        refine ⟨?_, fun x hx k hk => ?_⟩
        · obtain ⟨c0, c1, c2, c3⟩ := b1
          have e29 : 24 + 5 + s' = 29 + s' := by omega
          rw [e29] at c0 c1 c2 c3
          unfold sD
          rw [e29, h1d 1 (by decide), h1d 2 (by decide), h1d 3 (by decide), h3 (56 + 1504 * s') (by omega) (by omega), h3 (57 + 1504 * s') (by omega) (by omega), h3 (58 + 1504 * s') (by omega) (by omega)]
          exact ⟨h1n.trans h3n.symm, c1, c2, c3⟩
        · unfold rc_e
          by_cases qx : x = E
          · subst qx; exact hev k hk
          · rw [h1e k x hk qx, h3 _ (by omega) (by omega)]
            exact b2 x (by omega) k hk
      · refine ⟨?_, fun x hx k hk => ?_⟩
        · unfold sD
          rw [h1 _ (by omega) (by omega), h3 (55 + 1504 * s') (by omega) (by omega), h3 (56 + 1504 * s') (by omega) (by omega), h3 (57 + 1504 * s') (by omega) (by omega), h3 (58 + 1504 * s') (by omega) (by omega)]; exact b1
        · rw [h3 _ (by omega) (by omega)] at hx
          have h300 := (v2 s' hs').1.1.2.2
          unfold rc_e
          rw [h1 _ (by omega) (by omega), h3 _ (by rcases Nat.lt_trichotomy s s' with z | z | z <;> omega) (by rcases Nat.lt_trichotomy s s' with z | z | z <;> omega)]
          exact b2 x hx k hk
    · unfold sU
      rw [h1 _ (by omega) (by omega), h3 (7 + 8 * u') (by omega) (by omega), h3 (8 + 8 * u') (by omega) (by omega), h3 (9 + 8 * u') (by omega) (by omega), h3 (10 + 8 * u') (by omega) (by omega), h3 (11 + 8 * u') (by omega) (by omega), h3 (12 + 8 * u') (by omega) (by omega), h3 (13 + 8 * u') (by omega) (by omega), h3 (14 + 8 * u') (by omega) (by omega)]
      exact a6 u' hu'
  · refine ⟨by rw [h3 _ (by omega) (by omega)]; exact v1, fun s' hs' => ⟨?_, ?_⟩, fun u' hu' => ?_⟩
    · obtain ⟨⟨d1, d2, d3⟩, -⟩ := v2 s' hs'
      unfold vD
      rw [h3 (56 + 1504 * s') (by rcases Nat.lt_trichotomy s s' with z | z | z <;> omega) (by rcases Nat.lt_trichotomy s s' with z | z | z <;> omega), h3 (57 + 1504 * s') (by rcases Nat.lt_trichotomy s s' with z | z | z <;> omega) (by rcases Nat.lt_trichotomy s s' with z | z | z <;> omega)]
      refine ⟨?_, key _ _ d2, key _ _ d3⟩
      by_cases q : s' = s
      · subst q; rw [h3n]; exact vn_z (by omega) (by omega) (by omega)
      · rw [h3 _ (by omega) (by omega)]; exact d1
    · obtain ⟨⟨d1, -⟩, dE⟩ := v2 s' hs'
      have h300 := d1.2.2
      intro e he
      by_cases q : s' = s
      · subst q
        by_cases qe : e = E
        · subst qe; exact ⟨v1e, v2e⟩
        · have := dE e (by omega)
          refine ⟨qc_EV_c ?_ ?_ ?_ this.1, ?_⟩
          · exact (h3 _ (by omega) (by omega)).symm
          · exact (h3 _ (by omega) (by omega)).symm
          · exact (h3 _ (by omega) (by omega)).symm
          · rw [h3 _ (by omega) (by omega), h3 _ (by omega) (by omega)]; exact this.2
      · rw [h3 _ (by omega) (by omega)] at he
        have := dE e he
        refine ⟨qc_EV_c ?_ ?_ ?_ this.1, ?_⟩
        · exact (h3 _ (by rcases Nat.lt_trichotomy s s' with z | z | z <;> omega) (by rcases Nat.lt_trichotomy s s' with z | z | z <;> omega)).symm
        · exact (h3 _ (by rcases Nat.lt_trichotomy s s' with z | z | z <;> omega) (by rcases Nat.lt_trichotomy s s' with z | z | z <;> omega)).symm
        · exact (h3 _ (by rcases Nat.lt_trichotomy s s' with z | z | z <;> omega) (by rcases Nat.lt_trichotomy s s' with z | z | z <;> omega)).symm
        · rw [h3 _ (by rcases Nat.lt_trichotomy s s' with z | z | z <;> omega) (by rcases Nat.lt_trichotomy s s' with z | z | z <;> omega), h3 _ (by rcases Nat.lt_trichotomy s s' with z | z | z <;> omega) (by rcases Nat.lt_trichotomy s s' with z | z | z <;> omega)]; exact this.2
    · have := v3 u' hu'
      obtain ⟨w1, w2, w3, w4, w5, w6, w7, w8⟩ := this
      unfold vU
      rw [h3 (7 + 8 * u') (by omega) (by omega), h3 (8 + 8 * u') (by omega) (by omega), h3 (9 + 8 * u') (by omega) (by omega), h3 (10 + 8 * u') (by omega) (by omega), h3 (11 + 8 * u') (by omega) (by omega), h3 (13 + 8 * u') (by omega) (by omega), h3 (14 + 8 * u') (by omega) (by omega)]
      refine ⟨w1, w2, w3, w4, fun z => ?_, w6, w7, w8⟩
      have hw0 : hm 197 (9 + 8 * u') ≠ am_z 0 := by rcases z with z | z <;> rw [z] <;> decide
      obtain ⟨q1, q2, q3⟩ := w5 z
      exact ⟨q1, q2, Nat.le_trans q3 (hle _ (w4 hw0).2)⟩
end NOW
