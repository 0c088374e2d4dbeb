section LHELP
variable {p : Program} {l : Launch} {e : Env} {R : Room} {s : State} {m : MethodId} {args : Array Value} {below : List Frame} {meth : Method} {c : Code}
variable {al : Nat → Nat} {dC : Nat → ClassId} {dI : Nat → Nat → Nat} {aC : Nat → ClassId} {aV : Nat → Nat} {x0 : Nat}
def lw_io : String := "java/lang/IndexOutOfBoundsException"
def lw_L : String := "SharedConsoleLaw"
def lh_A (al : Nat → Nat) (sz out : Nat) : Nat → Prop := fun q => am_A al sz q ∨ q = out
theorem lw_D {h : am_Hp} {out sz : Nat} {y : va_E} (hal : ∀ k, k < 205 → al k = x0 + k) (ho : x0 + 205 ≤ out) : va_D (lh_A al sz out) (am_W al aC h ++ [(out, y)]) := by
  have key : ∀ (k : Nat) (q : Nat × va_E), (am_W al aC h ++ [(out, y)])[k]? = some q → (k < 205 ∧ q.1 = x0 + k) ∨ (k = 205 ∧ q.1 = out) := by
    intro k q hk
    by_cases hl : k < 205
    · rw [List.getElem?_append_left (by rw [am_W_len]; exact hl), am_W_get hl] at hk
      cases hk
      exact Or.inl ⟨hl, hal k hl⟩
    · rw [List.getElem?_append_right (by rw [am_W_len]; show 205 ≤ k; omega), am_W_len] at hk
      have h0 : k - 205 < 1 := (List.getElem?_eq_some_iff.mp hk).1
      have e0 : k - am_n0 = 0 := by show k - 205 = 0; omega
      rw [e0] at hk
      cases hk
      exact Or.inr ⟨by omega, rfl⟩
  refine ⟨fun i j p q hi hj hpq => ?_, fun k q hk => ?_⟩
  · rcases key i p hi with ⟨a1, a2⟩ | ⟨a1, a2⟩ <;> rcases key j q hj with ⟨b1, b2⟩ | ⟨b1, b2⟩ <;> omega
  · rcases key k q hk with ⟨a1, a2⟩ | ⟨a1, a2⟩
    · exact Or.inl (Or.inl ⟨k, a1, by rw [a2, hal k a1]⟩)
    · exact Or.inr a2
theorem lw_W1 {h : am_Hp} {out : Nat} {y : va_E} {D : va_G} {cl : List vw_C} {H : Heap} (h1 : va_P D cl (am_W al aC h) H) (h2 : va_P D cl [(out, y)] H) : va_P D cl (am_W al aC h ++ [(out, y)]) H := h1.app h2
theorem lw_W2 {h : am_Hp} {out : Nat} {y : va_E} {D : va_G} {cl : List vw_C} {H : Heap} (h1 : va_P D cl (am_W al aC h ++ [(out, y)]) H) : va_P D cl (am_W al aC h) H ∧ va_P D cl [(out, y)] H := by
  refine ⟨fun k q hk => h1 k q ?_, fun k q hk => h1 (am_n0 + k) q ?_⟩
  · rw [List.getElem?_append_left (List.getElem?_eq_some_iff.mp hk).1]
    exact hk
  · rw [List.getElem?_append_right (by rw [am_W_len]; exact Nat.le_add_right _ _), am_W_len, Nat.add_sub_cancel_left]
    exact hk
theorem lw_Wg {h : am_Hp} {out : Nat} {y : va_E} : (am_W al aC h ++ [(out, y)])[205]? = some (out, y) := by
  rw [List.getElem?_append_right (by rw [am_W_len]; exact Nat.le_refl _), am_W_len]
  rfl
theorem lw_Ws {h : am_Hp} {out : Nat} {y z : va_E} : (am_W al aC h ++ [(out, y)]).set 205 (out, z) = am_W al aC h ++ [(out, z)] := by
  rw [List.set_append, if_neg (by rw [am_W_len]; show ¬ 205 < 205; omega), am_W_len]
  rfl
/-- what the array for the answer holds behind an answer -/
def lh_v (v : Value) (f : (Nat → Int32) ⊕ (Nat → Int64) ⊕ (Nat → UInt32) ⊕ (Nat → UInt64) ⊕ (Nat → Option Nat)) : Prop := match v, f with
  | .int x, .inr (.inl g) => g 0 = x.toInt64
  | .float x, .inr (.inr (.inr (.inl g))) => g 0 = FP.f2d x
  | _, _ => False
def lh_P (sz : Nat) (al : Nat → Nat) (dC : Nat → ClassId) (dI : Nat → Nat → Nat) (aC : Nat → ClassId) (aV : Nat → Nat) (x0 out : Nat) (cO : ClassId) (tO : FieldType) (fO : (Nat → Int32) ⊕ (Nat → Int64) ⊕ (Nat → UInt32) ⊕ (Nat → UInt64) ⊕ (Nat → Option Nat)) (h : am_Hp) (U : State) : Prop :=
  U.heap.size = sz ∧ va_P (dC, dI) vwCl (am_W al aC h) U.heap ∧ va_P (dC, dI) vwCl [(out, .inl (cO, (1, fO)))] U.heap ∧ va_K (dC, dI) vwCl (am_tys aC) U ∧ va_K (dC, dI) vwCl [(cO, tO)] U ∧ am_Fx al aV (fun q => x0 ≤ q) U U.heap ∧ va_Nw (.castable lw_io lw_io) U
def lh_Q (sz : Nat) (al : Nat → Nat) (dC : Nat → ClassId) (dI : Nat → Nat → Nat) (aC : Nat → ClassId) (x0 out : Nat) (cO : ClassId) (fO : (Nat → Int32) ⊕ (Nat → Int64) ⊕ (Nat → UInt32) ⊕ (Nat → UInt64) ⊕ (Nat → Option Nat)) (o : am_Out) (h' : am_Hp) : Array Value → State → Outcome → State → Prop := fun _ st oc t =>
  ∃ (r : Int32) (f : (Nat → Int32) ⊕ (Nat → Int64) ⊕ (Nat → UInt32) ⊕ (Nat → UInt64) ⊕ (Nat → Option Nat)), oc = .returned (some (.int r)) ∧ va_F (lh_A al sz out) st t ∧ va_P (dC, dI) vwCl (am_W al aC h') t.heap ∧ va_P (dC, dI) vwCl [(out, .inl (cO, (1, f)))] t.heap ∧ ((o = none ∧ r = 1 ∧ f = fO) ∨ ∃ v, o = some (some v) ∧ r = 0 ∧ lh_v v f)
theorem lh_blind {as : List Value} {out sz : Nat} {cO : ClassId} {tO : FieldType} {fO : (Nat → Int32) ⊕ (Nat → Int64) ⊕ (Nat → UInt32) ⊕ (Nat → UInt64) ⊕ (Nat → Option Nat)} {h : am_Hp} : FrameBlind (va_Pc as (lh_P sz al dC dI aC aV x0 out cO tO fO h)) := by
  intro b U g mk q
  obtain ⟨q0, qz, q1, q2, q3, q4, q5, q6⟩ := q
  exact ⟨q0, qz, q1, q2, va_K.moved (u := U) (U := U.calling g mk b) (Vm.Alike.refl U.vm) q3, va_K.moved (u := U) (U := U.calling g mk b) (Vm.Alike.refl U.vm) q4, am_fx_kept (U1 := U.calling g mk b) q5 (State.WarmedH.refl U) (Nat.le_refl _) (fun _ _ _ => rfl) (fun _ _ h => h) (fun _ h => h), q6⟩
theorem lh_P_at {out : Nat} {cO : ClassId} {fO : (Nat → Int32) ⊕ (Nat → Int64) ⊕ (Nat → UInt32) ⊕ (Nat → UInt64) ⊕ (Nat → Option Nat)} {H H1 : Heap} (hal : ∀ k, k < 205 → al k = x0 + k) (ho : x0 + 205 ≤ out) (hO : va_P (dC, dI) vwCl [(out, .inl (cO, (1, fO)))] H) (hq : ∀ q : Nat, q < H.size → ¬ am_A al H.size q → H1[q]? = H[q]?) : va_P (dC, dI) vwCl [(out, .inl (cO, (1, fO)))] H1 := by
  refine hO.kept (fun k q hk => ?_)
  have h0 : k < 1 := (List.getElem?_eq_some_iff.mp hk).1
  rw [show k = 0 by omega] at hk
  cases hk
  have hlt : out < H.size := (hO 0 _ rfl).lt
  refine hq out hlt (fun z => ?_)
  rcases z with ⟨k, h1, h2⟩ | z
  · rw [hal k h1] at h2
    have h1 : k < 205 := h1
    omega
  · omega
end LHELP
