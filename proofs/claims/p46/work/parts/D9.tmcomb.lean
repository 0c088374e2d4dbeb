section TM9
variable {γ : Type} {g : γ}
variable {l : Launch} {al : Nat → Nat} {dC : Nat → ClassId} {dI : Nat → Nat → Nat} {aC : Nat → ClassId} {aV : Nat → Nat} {x0 x1 : Nat} {X : tm_X}
def tm_CS (l : Launch) (al : Nat → Nat) (dC : Nat → ClassId) (dI : Nat → Nat → Nat) (aC : Nat → ClassId) (aV : Nat → Nat) (x0 x1 : Nat) (X : tm_X) (m0 : Nat) (cl : dm_Cl) : Prop :=
  ∀ (γ : Type) (as : List Value) (S : dm_S) (k : Option Value → dm_S → Option γ) (g : γ), cl γ as S k = some g → ∃ v S', tm_Met l al dC dI aC aV x0 x1 X m0 as S v S' ∧ k v S' = some g
theorem tm_os0 : tm_OS l al dC dI aC aV x0 x1 X dm_o0 := fun _ _ _ _ _ _ h => by cases h
theorem tm_os1 {m0 : Nat} {cl : dm_Cl} {rest : dm_Orc} (h1 : tm_CS l al dC dI aC aV x0 x1 X m0 cl) (h2 : tm_OS l al dC dI aC aV x0 x1 X rest) : tm_OS l al dC dI aC aV x0 x1 X (dm_oc m0 cl rest) := by
  intro γ mid as S k g e
  have e : (bif Nat.beq mid m0 then cl γ as S k else rest γ mid as S k) = some g := e
  cases hb : Nat.beq mid m0 with
  | true =>
    rw [hb] at e
    cases Nat.eq_of_beq_eq_true hb
    exact h1 γ as S k g e
  | false =>
    rw [hb] at e
    exact h2 γ mid as S k g e
theorem tm_nl_some {st : List Value} {k : List Value → Option γ} (h : tm_nl st k = some g) : ∃ r, st = .null :: r ∧ k r = some g := by
  unfold tm_nl at h
  split at h
  · exact ⟨_, rfl, h⟩
  · cases h
end TM9
