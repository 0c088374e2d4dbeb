/-! ===== small pieces that the printed functions and their links are made of ===== -/
section AMC
variable {γ : Type} {g : γ}
def am_bi {α : Type} (x : Option (α × am_Hp)) (k : α → am_Hp → Option γ) : Option γ := match x with
  | none => none
  | some q => k q.1 q.2
def am_bt {α : Type} (x : Option (Option α × am_Hp)) (kx : am_Hp → Option γ) (k : α → am_Hp → Option γ) : Option γ := match x with
  | none => none
  | some (none, h) => kx h
  | some (some v, h) => k v h
def am_st0 (st : List Value) (k : Option γ) : Option γ := match st with
  | [] => k
  | _ => none
def am_fu : Nat := 100000
theorem am_bi_some {α : Type} {x : Option (α × am_Hp)} {k : α → am_Hp → Option γ} (h : am_bi x k = some g) : ∃ q, x = some q ∧ k q.1 q.2 = some g := by
  cases x with
  | none => cases h
  | some q => exact ⟨q, rfl, h⟩
theorem am_bt_some {α : Type} {x : Option (Option α × am_Hp)} {kx : am_Hp → Option γ} {k : α → am_Hp → Option γ} (h : am_bt x kx k = some g) : (∃ h', x = some (none, h') ∧ kx h' = some g) ∨ ∃ v h', x = some (some v, h') ∧ k v h' = some g := by
  cases x with
  | none => cases h
  | some q =>
    obtain ⟨o, h'⟩ := q
    cases o with
    | none => exact Or.inl ⟨h', rfl, h⟩
    | some v => exact Or.inr ⟨v, h', rfl, h⟩
theorem am_st0_some {st : List Value} {k : Option γ} (h : am_st0 st k = some g) : st = [] ∧ k = some g := by
  cases st with
  | nil => exact ⟨rfl, h⟩
  | cons a r => cases h
def am_ri : am_Out → am_Hp → Option (Int32 × am_Hp) := fun o h => match o with
  | some (some (.int x)) => some (x, h)
  | _ => none
def am_rv : am_Out → am_Hp → Option (Unit × am_Hp) := fun o h => match o with
  | some none => some ((), h)
  | _ => none
def am_rr : am_Out → am_Hp → Option (Nat × am_Hp) := fun o h => match o with
  | some (some (.ref x)) => some (x, h)
  | _ => none
def am_rf : am_Out → am_Hp → Option (UInt32 × am_Hp) := fun o h => match o with
  | some (some (.float x)) => some (x, h)
  | _ => none
def am_ti : am_Out → am_Hp → Option (Option Int32 × am_Hp) := fun o h => match o with
  | some (some (.int x)) => some (some x, h)
  | none => some (none, h)
  | _ => none
def am_tv : am_Out → am_Hp → Option (Option Unit × am_Hp) := fun o h => match o with
  | some none => some (some (), h)
  | none => some (none, h)
  | _ => none
def am_tr : am_Out → am_Hp → Option (Option Nat × am_Hp) := fun o h => match o with
  | some (some (.ref x)) => some (some x, h)
  | none => some (none, h)
  | _ => none
def am_tf : am_Out → am_Hp → Option (Option UInt32 × am_Hp) := fun o h => match o with
  | some (some (.float x)) => some (some x, h)
  | none => some (none, h)
  | _ => none
def am_oi (x : Int32) : am_Out := some (some (.int x))
def am_ov (_ : Unit) : am_Out := some none
def am_or (x : Nat) : am_Out := some (some (.ref x))
def am_of (x : UInt32) : am_Out := some (some (.float x))
def am_ot {α : Type} (f : α → am_Out) (x : Option α) : am_Out := match x with
  | none => none
  | some v => f v
theorem am_ri_inv {r : Int32 × am_Hp} (o : am_Out) (h : am_Hp) (e : am_ri o h = some r) : o = am_oi r.1 ∧ h = r.2 := by
  unfold am_ri at e
  split at e
  · cases e; exact ⟨rfl, rfl⟩
  · cases e
theorem am_rv_inv {r : Unit × am_Hp} (o : am_Out) (h : am_Hp) (e : am_rv o h = some r) : o = am_ov r.1 ∧ h = r.2 := by
  unfold am_rv at e
  split at e
  · cases e; exact ⟨rfl, rfl⟩
  · cases e
theorem am_rr_inv {r : Nat × am_Hp} (o : am_Out) (h : am_Hp) (e : am_rr o h = some r) : o = am_or r.1 ∧ h = r.2 := by
  unfold am_rr at e
  split at e
  · cases e; exact ⟨rfl, rfl⟩
  · cases e
theorem am_rf_inv {r : UInt32 × am_Hp} (o : am_Out) (h : am_Hp) (e : am_rf o h = some r) : o = am_of r.1 ∧ h = r.2 := by
  unfold am_rf at e
  split at e
  · cases e; exact ⟨rfl, rfl⟩
  · cases e
theorem am_ti_inv {r : Option Int32 × am_Hp} (o : am_Out) (h : am_Hp) (e : am_ti o h = some r) : o = am_ot am_oi r.1 ∧ h = r.2 := by
  unfold am_ti at e
  split at e
  · cases e; exact ⟨rfl, rfl⟩
  · cases e; exact ⟨rfl, rfl⟩
  · cases e
theorem am_tv_inv {r : Option Unit × am_Hp} (o : am_Out) (h : am_Hp) (e : am_tv o h = some r) : o = am_ot am_ov r.1 ∧ h = r.2 := by
  unfold am_tv at e
  split at e
  · cases e; exact ⟨rfl, rfl⟩
  · cases e; exact ⟨rfl, rfl⟩
  · cases e
theorem am_tr_inv {r : Option Nat × am_Hp} (o : am_Out) (h : am_Hp) (e : am_tr o h = some r) : o = am_ot am_or r.1 ∧ h = r.2 := by
  unfold am_tr at e
  split at e
  · cases e; exact ⟨rfl, rfl⟩
  · cases e; exact ⟨rfl, rfl⟩
  · cases e
theorem am_tf_inv {r : Option UInt32 × am_Hp} (o : am_Out) (h : am_Hp) (e : am_tf o h = some r) : o = am_ot am_of r.1 ∧ h = r.2 := by
  unfold am_tf at e
  split at e
  · cases e; exact ⟨rfl, rfl⟩
  · cases e; exact ⟨rfl, rfl⟩
  · cases e
abbrev am_Cl : Type 1 := (γ : Type) → List Value → am_Hp → (am_Out → am_Hp → Option γ) → Option γ
def am_oc (m0 : Nat) (cl : am_Cl) (rest : am_Orc) : am_Orc := fun γ mid as h k => bif Nat.beq mid m0 then cl γ as h k else rest γ mid as h k
def am_o0 : am_Orc := fun _ _ _ _ _ => none
def am_Hy (l : Launch) (al : Nat → Nat) : Prop := l.stackTraces = false ∧ am_Inj al
def am_CS (l : Launch) (al : Nat → Nat) (dC : Nat → ClassId) (dI : Nat → Nat → Nat) (aC : Nat → ClassId) (aV : Nat → Nat) (m0 : Nat) (cl : am_Cl) : Prop :=
  ∀ (γ : Type) (as : List Value) (h : am_Hp) (k : am_Out → am_Hp → Option γ) (g : γ), cl γ as h k = some g → ∃ o h', am_Met l al dC dI aC aV m0 as h o h' ∧ k o h' = some g
theorem am_os0 {l : Launch} {al : Nat → Nat} {dC : Nat → ClassId} {dI : Nat → Nat → Nat} {aC : Nat → ClassId} {aV : Nat → Nat} : am_OS l al dC dI aC aV am_o0 := fun _ _ _ _ _ _ h => by cases h
theorem am_os1 {l : Launch} {al : Nat → Nat} {dC : Nat → ClassId} {dI : Nat → Nat → Nat} {aC : Nat → ClassId} {aV : Nat → Nat} {m0 : Nat} {cl : am_Cl} {rest : am_Orc} (h1 : am_CS l al dC dI aC aV m0 cl) (h2 : am_OS l al dC dI aC aV rest) : am_OS l al dC dI aC aV (am_oc m0 cl rest) := by
  intro γ mid as h k g e
  have e : (bif Nat.beq mid m0 then cl γ as h k else rest γ mid as h k) = some g := e
  cases hb : Nat.beq mid m0 with
  | true =>
    rw [hb] at e
    cases Nat.eq_of_beq_eq_true hb
    exact h1 γ as h k g e
  | false =>
    rw [hb] at e
    exact h2 γ mid as h k g e
def am_C0 : am_Cut γ := fun _ => none
def am_C1 (pc0 : Nat) (cc : am_Lc → List Value → am_Hp → Option γ) (rest : am_Cut γ) : am_Cut γ := fun pc => bif Nat.beq pc pc0 then some cc else rest pc
theorem am_c0 {At : Nat → am_Lc → List Value → am_Hp → Prop} : ∀ (pc : Nat) (cc : am_Lc → List Value → am_Hp → Option γ), (am_C0 : am_Cut γ) pc = some cc → ∀ ρ st h, cc ρ st h = some g → At pc ρ st h := fun _ _ h => by cases h
theorem am_c1 {At : Nat → am_Lc → List Value → am_Hp → Prop} {pc0 : Nat} {c0 : am_Lc → List Value → am_Hp → Option γ} {rest : am_Cut γ} (h1 : ∀ ρ st h, c0 ρ st h = some g → At pc0 ρ st h)
    (h2 : ∀ (pc : Nat) (cc : am_Lc → List Value → am_Hp → Option γ), rest pc = some cc → ∀ ρ st h, cc ρ st h = some g → At pc ρ st h) :
    ∀ (pc : Nat) (cc : am_Lc → List Value → am_Hp → Option γ), am_C1 pc0 c0 rest pc = some cc → ∀ ρ st h, cc ρ st h = some g → At pc ρ st h := by
  intro pc cc e
  have e : (bif Nat.beq pc pc0 then some c0 else rest pc) = some cc := e
  cases hb : Nat.beq pc pc0 with
  | true =>
    rw [hb] at e
    cases Nat.eq_of_beq_eq_true hb
    cases e
    exact h1
  | false =>
    rw [hb] at e
    exact h2 pc cc e
theorem am_m0 {ρ : am_Lc} : ∀ q ∈ ([] : am_Lc), q ∈ ρ := fun _ h => absurd h List.not_mem_nil
theorem am_m1 {ρ ρ' : am_Lc} {q : Nat × Value} (h : q ∈ ρ) (h2 : ∀ q ∈ ρ', q ∈ ρ) : ∀ z ∈ q :: ρ', z ∈ ρ := List.forall_mem_cons.mpr ⟨h, h2⟩
theorem am_ldf_some {ρ : am_Lc} {i : Nat} {k : UInt32 → Option γ} (h : am_ldf ρ i k = some g) : ∃ x, (i, .float x) ∈ ρ ∧ k x = some g := by
  unfold am_ldf at h
  split at h
  · rename_i x hx
    exact ⟨x, am_ld_mem hx, h⟩
  · cases h
def am_SL (a : Nat) : Nat := (am_stL.getD (a - am_s0) "").length
end AMC
