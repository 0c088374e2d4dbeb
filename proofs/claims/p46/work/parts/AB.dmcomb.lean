/-! ===== small pieces that the printed functions of the law's screens and their links are made of ===== -/
section DMB
variable {γ : Type} {g : γ}
def dm_bi {α : Type} (x : Option (α × dm_S)) (k : α → dm_S → Option γ) : Option γ := match x with
  | none => none
  | some q => k q.1 q.2
theorem dm_bi_some {α : Type} {x : Option (α × dm_S)} {k : α → dm_S → Option γ} (h : dm_bi x k = some g) : ∃ q, x = some q ∧ k q.1 q.2 = some g := by
  cases x with
  | none => cases h
  | some q => exact ⟨q, rfl, h⟩
def dm_ri : Option Value → dm_S → Option (Int32 × dm_S) := fun o S => match o with
  | some (.int x) => some (x, S)
  | _ => none
def dm_rv' : Option Value → dm_S → Option (Unit × dm_S) := fun o S => match o with
  | none => some ((), S)
  | _ => none
def dm_rr : Option Value → dm_S → Option (Nat × dm_S) := fun o S => match o with
  | some (.ref x) => some (x, S)
  | _ => none
theorem dm_ri_inv {r : Int32 × dm_S} (o : Option Value) (S : dm_S) (e : dm_ri o S = some r) : o = some (.int r.1) ∧ S = r.2 := by
  unfold dm_ri at e
  split at e
  · cases e; exact ⟨rfl, rfl⟩
  · cases e
theorem dm_rv'_inv {r : Unit × dm_S} (o : Option Value) (S : dm_S) (e : dm_rv' o S = some r) : o = none ∧ S = r.2 := by
  unfold dm_rv' at e
  split at e
  · cases e; exact ⟨rfl, rfl⟩
  · cases e
theorem dm_rr_inv {r : Nat × dm_S} (o : Option Value) (S : dm_S) (e : dm_rr o S = some r) : o = some (.ref r.1) ∧ S = r.2 := by
  unfold dm_rr at e
  split at e
  · cases e; exact ⟨rfl, rfl⟩
  · cases e
abbrev dm_Cl : Type 1 := (γ : Type) → List Value → dm_S → (Option Value → dm_S → Option γ) → Option γ
def dm_oc (m0 : Nat) (cl : dm_Cl) (rest : dm_Orc) : dm_Orc := fun γ mid as S k => bif Nat.beq mid m0 then cl γ as S k else rest γ mid as S k
def dm_o0 : dm_Orc := fun _ _ _ _ _ => none
variable {l : Launch} {al : Nat → Nat} {dC : Nat → ClassId} {dI : Nat → Nat → Nat} {aC : Nat → ClassId} {aV : Nat → Nat} {x0 x1 : Nat}
def dm_CS (l : Launch) (al : Nat → Nat) (dC : Nat → ClassId) (dI : Nat → Nat → Nat) (aC : Nat → ClassId) (aV : Nat → Nat) (x0 x1 m0 : Nat) (cl : dm_Cl) : Prop :=
  ∀ (γ : Type) (as : List Value) (S : dm_S) (k : Option Value → dm_S → Option γ) (g : γ), cl γ as S k = some g → ∃ v S', dm_Met l al dC dI aC aV x0 x1 m0 as S v S' ∧ k v S' = some g
theorem dm_os0 : dm_OS l al dC dI aC aV x0 x1 dm_o0 := fun _ _ _ _ _ _ h => by cases h
theorem dm_os1 {m0 : Nat} {cl : dm_Cl} {rest : dm_Orc} (h1 : dm_CS l al dC dI aC aV x0 x1 m0 cl) (h2 : dm_OS l al dC dI aC aV x0 x1 rest) : dm_OS l al dC dI aC aV x0 x1 (dm_oc m0 cl rest) := by
  intro γ mid as S k g e
  have e : (bif Nat.beq mid m0 then cl γ as S k else rest γ mid as S k) = some g := e
  cases hb : Nat.beq mid m0 with
  | true =>
    rw [hb] at e
    cases Nat.eq_of_beq_eq_true hb
    exact h1 γ as S k g e
  | false =>
    rw [hb] at e
    exact h2 γ mid as S k g e
def dm_C0 : dm_Cut γ := fun _ => none
def dm_C1 (pc0 : Nat) (cc : am_Lc → List Value → dm_S → Option γ) (rest : dm_Cut γ) : dm_Cut γ := fun pc => bif Nat.beq pc pc0 then some cc else rest pc
theorem dm_u0 {At : Nat → am_Lc → List Value → dm_S → Prop} : ∀ (pc : Nat) (cc : am_Lc → List Value → dm_S → Option γ), (dm_C0 : dm_Cut γ) pc = some cc → ∀ ρ st h, cc ρ st h = some g → At pc ρ st h := fun _ _ h => by cases h
theorem dm_u1 {At : Nat → am_Lc → List Value → dm_S → Prop} {pc0 : Nat} {c0 : am_Lc → List Value → dm_S → Option γ} {rest : dm_Cut γ} (h1 : ∀ ρ st h, c0 ρ st h = some g → At pc0 ρ st h)
    (h2 : ∀ (pc : Nat) (cc : am_Lc → List Value → dm_S → Option γ), rest pc = some cc → ∀ ρ st h, cc ρ st h = some g → At pc ρ st h) :
    ∀ (pc : Nat) (cc : am_Lc → List Value → dm_S → Option γ), dm_C1 pc0 c0 rest pc = some cc → ∀ ρ st h, cc ρ st h = some g → At pc ρ st h := by
  intro pc cc e
  have e : (bif Nat.beq pc pc0 then some c0 else rest pc) = some cc := e
  cases hb : Nat.beq pc pc0 with
  | true =>
    rw [hb] at e
    cases Nat.eq_of_beq_eq_true hb
    cases e
    exact h1
  | false =>
    rw [hb] at e
    exact h2 pc cc e
end DMB
