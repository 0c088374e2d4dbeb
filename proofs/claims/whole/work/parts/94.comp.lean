section LAWD
variable {nS nU : Nat} {hc hc' hm hm' : am_Hp}
theorem qr_cong (f : ∀ a, a < 193 → hc' a = hc a) (g : ∀ a, 193 ≤ a → hm' a = hm a) (R : qr_R nS nU hc hm) : qr_R nS nU hc' hm' := by
  obtain ⟨T, B, S, V, Hh⟩ := R
  have n1 : nS ≤ 4 := T.1
  have n2 : nU ≤ 6 := T.2.1
  refine ⟨?_, ?_, ?_, ?_, ?_⟩
  · unfold tT at T ⊢
    rw [f 15 (by decide), f 19 (by decide), f 4 (by decide), f 8 (by decide), f 16 (by decide), f 17 (by decide), f 18 (by decide), f 20 (by decide), g 195 (by decide)]
    exact T
  · unfold tB at B ⊢
    rw [f 1 (by decide), f 2 (by decide), f 0 (by decide), f 14 (by decide), g 193 (by decide), g 194 (by decide), g 204 (by decide)]
    exact B
  · rw [g 197 (by decide)]
    exact sS_same n1 n2 (fun a h1 h2 => f a (by omega)) (fun a h1 h2 => f a (by omega)) S
  · rw [g 197 (by decide)]
    exact V
  · have etp : tp hm' = tp hm := by
      funext j k
      unfold tp
      rw [g 199 (by decide)]
    unfold tH at Hh ⊢
    rw [f 39 (by decide), g 193 (by decide), g 197 (by decide), etp]
    obtain ⟨h1, h2, h3, h4, h5, h6⟩ := Hh
    exact ⟨h1, h2, h3, fun j hj => ⟨sS_same n1 n2 (fun a a1 a2 => f a (by omega)) (fun a a1 a2 => f a (by omega)) (h4 j hj).1, (h4 j hj).2⟩, h5, h6⟩
/-- the class answers over a heap, then the model over what the class left -/
theorem lw_comp {α : Type} {h : am_Hp} {fX : Option (α × am_Hp)} {fM : am_Hp → Option (Int32 × am_Hp)} {Rel : α → Int32 → am_Hp → Prop} (R : qr_R nS nU h h)
    (P : ∀ hm, qr_R nS nU h hm → ∃ nS' nU' o v h1 h2, fX = some (o, h1) ∧ fM hm = some (v, h2) ∧ qr_R nS' nU' h1 h2 ∧ cF h h1 ∧ mF hm h2 ∧ Rel o v h2) :
    ∃ nS' nU' o v h1 h2, fX = some (o, h1) ∧ fM h1 = some (v, h2) ∧ qr_R nS' nU' h2 h2 ∧ Rel o v h2 := by
  obtain ⟨-, -, o, -, h1, -, e1, -, -, c1, -, -⟩ := P h R
  obtain ⟨nS', nU', o2, v, h1', h2, e2, e3, R2, c2, m2, q2⟩ := P h1 (qr_cong (fun _ _ => rfl) c1 R)
  rw [e1] at e2
  cases e2
  exact ⟨nS', nU', o, v, h1, h2, e1, e3, qr_cong (fun a ha => m2 a ha) (fun _ _ => rfl) R2, q2⟩
theorem lw_N {h : am_Hp} {fX : Option (Int32 × am_Hp)} {fM : am_Hp → Option (Int32 × am_Hp)} (R : qr_R nS nU h h) (P : ∀ hm, qr_R nS nU h hm → pN fX (fM hm) h hm) : ∃ nS' nU' v h1 h2, fX = some (v, h1) ∧ fM h1 = some (v, h2) ∧ qr_R nS' nU' h2 h2 := by
  obtain ⟨a, b, o, v, h1, h2, e1, e2, e3, e4⟩ := lw_comp (Rel := fun o v _ => o = v) R (fun hm Rm => by
    obtain ⟨v, h1, h2, e1, e2, c, d⟩ := P hm Rm
    exact ⟨nS, nU, v, v, h1, h2, e1, e2, qr_fr c d Rm, cF_c c, mF_m d, rfl⟩)
  subst e4
  exact ⟨a, b, o, h1, h2, e1, e2, e3⟩
theorem lw_O {h : am_Hp} {fX : Option (Option Int32 × am_Hp)} {fM : am_Hp → Option (Int32 × am_Hp)} (R : qr_R nS nU h h) (P : ∀ hm, qr_R nS nU h hm → pO fX (fM hm) h hm) : ∃ nS' nU' v h1 h2, fX = some (some v, h1) ∧ fM h1 = some (v, h2) ∧ qr_R nS' nU' h2 h2 := by
  obtain ⟨a, b, o, v, h1, h2, e1, e2, e3, e4⟩ := lw_comp (Rel := fun o v _ => o = some v) R (fun hm Rm => by
    obtain ⟨v, h1, h2, e1, e2, c, d⟩ := P hm Rm
    exact ⟨nS, nU, some v, v, h1, h2, e1, e2, qr_fr c d Rm, cF_c c, mF_m d, rfl⟩)
  subst e4
  exact ⟨a, b, v, h1, h2, e1, e2, e3⟩
theorem lw_S {h : am_Hp} {fX : Option (Option Int32 × am_Hp)} {fM : am_Hp → Option (Int32 × am_Hp)} (R : qr_R nS nU h h) (P : ∀ hm, qr_R nS nU h hm → pS nS nU fX (fM hm) h hm) : ∃ nS' nU' v h1 h2, fX = some (some v, h1) ∧ fM h1 = some (v, h2) ∧ qr_R nS' nU' h2 h2 := by
  obtain ⟨a, b, o, v, h1, h2, e1, e2, e3, e4⟩ := lw_comp (Rel := fun o v _ => o = some v) R (fun hm Rm => by
    obtain ⟨v, h1, h2, e1, e2, R2, c, d⟩ := P hm Rm
    exact ⟨nS, nU, some v, v, h1, h2, e1, e2, R2, c, d, rfl⟩)
  subst e4
  exact ⟨a, b, v, h1, h2, e1, e2, e3⟩
theorem lw_Dd {h : am_Hp} {fX : Option (Int32 × am_Hp)} {fM : am_Hp → Option (Int32 × am_Hp)} (R : qr_R nS nU h h) (P : ∀ hm, qr_R nS nU h hm → ∃ nS' nU', pD nS' nU' fX (fM hm) h hm) : ∃ nS' nU' v h1 h2, fX = some (v, h1) ∧ fM h1 = some (v, h2) ∧ qr_R nS' nU' h2 h2 := by
  obtain ⟨a, b, o, v, h1, h2, e1, e2, e3, e4⟩ := lw_comp (Rel := fun o v _ => o = v) R (fun hm Rm => by
    obtain ⟨a, b, v, h1, h2, e1, e2, R2, c, d⟩ := P hm Rm
    exact ⟨a, b, v, v, h1, h2, e1, e2, R2, c, d, rfl⟩)
  subst e4
  exact ⟨a, b, o, h1, h2, e1, e2, e3⟩
theorem lw_T {h : am_Hp} {fX : Option (Option Int32 × am_Hp)} {fM : am_Hp → Option (Int32 × am_Hp)} (R : qr_R nS nU h h) (P : ∀ hm, qr_R nS nU h hm → pT fX (fM hm) h hm) : ∃ nS' nU' o v h1 h2, fX = some (o, h1) ∧ fM h1 = some (v, h2) ∧ qr_R nS' nU' h2 h2 ∧ ((o = none ∧ h2 193 0 = am_z 1) ∨ (o = some v ∧ h2 193 0 = am_z 0)) :=
  lw_comp (Rel := fun o v h2 => (o = none ∧ h2 193 0 = am_z 1) ∨ (o = some v ∧ h2 193 0 = am_z 0)) R (fun hm Rm => by
    obtain ⟨o, v, h1, h2, e1, e2, c, d, r⟩ := P hm Rm
    exact ⟨nS, nU, o, v, h1, h2, e1, e2, qr_fr c d Rm, cF_c c, mF_m d, r⟩)
theorem lw_Cc {h : am_Hp} {fX : Option (Option Int32 × am_Hp)} {fM : am_Hp → Option (Int32 × am_Hp)} (R : qr_R nS nU h h) (P : ∀ hm, qr_R nS nU h hm → pC nS nU fX (fM hm) h hm) : ∃ nS' nU' o v h1 h2, fX = some (o, h1) ∧ fM h1 = some (v, h2) ∧ qr_R nS' nU' h2 h2 ∧ ((o = none ∧ h2 193 0 = am_z 1) ∨ (o = some v ∧ h2 193 0 = am_z 0)) :=
  lw_comp (Rel := fun o v h2 => (o = none ∧ h2 193 0 = am_z 1) ∨ (o = some v ∧ h2 193 0 = am_z 0)) R (fun hm Rm => by
    obtain ⟨o, v, h1, h2, e1, e2, R2, c, d, r⟩ := P hm Rm
    exact ⟨nS, nU, o, v, h1, h2, e1, e2, R2, c, d, r⟩)
end LAWD
