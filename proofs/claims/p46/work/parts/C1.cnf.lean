section CNF
def cn_NB : List Cond := [.methodLinkNest (am_R 9) 11 (cn_y 7) "SharedConsole", .methodLinkNest (am_R 9) 18 (cn_y 1) "SharedConsole", .methodLinkNest (am_R 9) 68 (cn_y 4) "SharedConsole", .methodLinkNest (am_R 9) 76 (cn_y 3) "SharedConsole", .methodLinkNest (am_R 6) 37 (cn_y 0) "SharedConsole", .methodLinkNest (am_R 6) 38 (cn_y 5) "SharedConsole",
  .arrayOver (.array .int), .arrayOver (.object (am_R 0)), .arrayOver (.object (am_R 3)), .arrayOver (.object (am_R 5)), .arrayOver (.object (am_R 6))]
def cn_inT (w : Cond) : Bool := lw_tbl.any (fun q => decide (q = w)) && goodWord w
theorem cn_inT_spec {w : Cond} (h : cn_inT w = true) : w ∈ am_AT := by
  unfold cn_inT at h
  rw [Bool.and_eq_true] at h
  obtain ⟨q, hq, e⟩ := List.any_eq_true.mp h.1
  rw [of_decide_eq_true e] at hq
  exact List.mem_filter.mpr ⟨hq, h.2⟩
def cn_cal (x y : Nat) : Bool := Nat.blt x 10 && Nat.beq y (bif Nat.beq x 8 then 1 else 0) && cn_inT (.instanceMethod (cn_y x)) && cn_inT (.initialized (cn_y x).cls) && cn_inT (.code (cn_y x) (cn_cc x) (cn_ml x) none)
def cn_rok (q : Nat × Nat × Nat × Nat × Nat) : Bool := match q with
  | (o, ix, 0, _, _) => cn_inT (.methodLink (am_R o) ix objectInit)
  | (o, ix, 1, x, y) => decide (Cond.methodLinkNest (am_R o) ix (cn_y x) "SharedConsole" ∈ cn_NB) && cn_cal x y
  | (o, ix, 2, x, y) => cn_inT (.methodLink (am_R o) ix (cn_y x)) && cn_cal x y
  | (o, ix, 3, x, y) => Nat.beq x o && Nat.blt x 11 && Nat.blt y (am_N x) && cn_inT (.fieldLink (am_R o) ix (am_T x y).1 (am_T x y).2.1 (am_T x y).2.2.1) && decide ((am_T x y).1 = am_R o)
  | (o, ix, 4, x, _) => Nat.blt x 11 && cn_inT (.classLink (am_R o) ix (am_R x)) && cn_inT (.instantiable (am_R x) (am_N x)) && cn_inT (.initialized (am_R x))
  | (o, ix, 5, x, _) => Nat.blt x 7 && decide (am_tyL.getD x .int = .object (am_R (cn_to x))) && cn_inT (.classLink (am_R o) ix (am_R (cn_to x))) && decide (Cond.arrayOver (.object (am_R (cn_to x))) ∈ cn_NB)
  | (o, ix, 6, _, _) => cn_inT (.classLink (am_R o) ix "[[I")
  | _ => false
set_option maxRecDepth 100000 in
theorem cn_tb_ok : cn_tb.all cn_rok = true := by decide +kernel
theorem cn_tk_spec {o ix kd : Nat} {q : Nat × Nat} (h : cn_tk o ix kd = some q) : cn_rok (o, ix, kd, q) = true := by
  unfold cn_tk at h
  cases hf : cn_tb.find? (fun q => Nat.beq q.1 o && Nat.beq q.2.1 ix && Nat.beq q.2.2.1 kd) with
  | none => rw [hf] at h; cases h
  | some z =>
    rw [hf] at h
    cases h
    have h2 := List.find?_some hf
    simp only [Bool.and_eq_true] at h2
    have e1 : z.1 = o := Nat.eq_of_beq_eq_true h2.1.1
    have e2 : z.2.1 = ix := Nat.eq_of_beq_eq_true h2.1.2
    have e3 : z.2.2.1 = kd := Nat.eq_of_beq_eq_true h2.2
    have h3 := List.all_eq_true.mp cn_tb_ok z (List.mem_of_find?_eq_some hf)
    rw [← e1, ← e2, ← e3]
    exact h3
set_option maxRecDepth 100000 in
theorem cn_Ts : (cn_inT (.arrayClass .int) && cn_inT (.arrayClass .boolean) && cn_inT (.instanceMethod objectInit) && cn_inT (.code objectInit ⟨#[0xb1]⟩ 1 none)) = true := by decide +kernel
set_option maxRecDepth 100000 in
theorem cn_pok : (List.range 11).all (fun o => (cn_p o).all (fun q => decide (decode (cn_cc o) q.1 = .ok q.2))) = true := by decide +kernel
theorem cn_at_spec {o pc : Nat} {q : Instr × Nat} (ho : o < 11) (h : am_at (cn_p o) pc = some q) : decode (cn_cc o) pc = .ok q := by
  have h1 := List.all_eq_true.mp (List.all_eq_true.mp cn_pok o (List.mem_range.mpr ho)) _ (am_at_mem h)
  exact of_decide_eq_true h1
/-- what a field takes -/
def cn_isR (t : FieldType) : Bool := match t with
  | .object _ => true
  | .array _ => true
  | _ => false
set_option maxRecDepth 100000 in
theorem cn_fty : (List.range 11).all (fun ci => (List.range (am_N ci)).all (fun j => match parseFieldDescriptor (am_T ci j).2.2.1 with
    | some t => bif am_fi ci j then decide (t = .int) else cn_isR t
    | none => false)) = true := by decide +kernel
theorem cn_fty_spec {ci j : Nat} (hc : ci < 11) (hj : j < am_N ci) : ∃ t, parseFieldDescriptor (am_T ci j).2.2.1 = some t ∧ (am_fi ci j = true → t = .int) ∧ (am_fi ci j = false → cn_isR t = true) := by
  have h1 := List.all_eq_true.mp (List.all_eq_true.mp cn_fty ci (List.mem_range.mpr hc)) j (List.mem_range.mpr hj)
  cases hp : parseFieldDescriptor (am_T ci j).2.2.1 with
  | none => rw [hp] at h1; cases h1
  | some t =>
    rw [hp] at h1
    have h1 : (bif am_fi ci j then decide (t = .int) else cn_isR t) = true := h1
    cases hf : am_fi ci j with
    | true => rw [hf] at h1; exact ⟨t, rfl, fun _ => of_decide_eq_true h1, fun z => by cases z⟩
    | false => rw [hf] at h1; exact ⟨t, rfl, fun z => (by cases z), fun _ => h1⟩
theorem cn_okv_spec {al : Nat → Nat} {ci j : Nat} {v : Value} {t : FieldType} (h : cn_okv ci j v = true) (h1 : am_fi ci j = true → t = .int) (h2 : am_fi ci j = false → cn_isR t = true) : narrow t (am_rl al v) = am_rl al v ∧ fits t (am_rl al v) = true := by
  unfold cn_okv at h
  cases v with
  | int x =>
    cases h1 h
    exact ⟨rfl, rfl⟩
  | ref k =>
    have h3 := h2 (by simpa using h)
    cases t <;> first | exact ⟨rfl, rfl⟩ | cases h3
  | _ => cases h
section
variable {al : Nat → Nat} {aC : Nat → ClassId} {a : Nat} {L : List cn_E}
theorem cn_len : (cn_ws a al aC L).length = L.length := by simp [cn_ws]
theorem cn_get {k : Nat} {e : cn_E} (h : L[k]? = some e) : (cn_ws a al aC L)[k]? = some (a + k, cn_e al aC e) := by
  have hl : k < L.length := (List.getElem?_eq_some_iff.mp h).1
  unfold cn_ws
  rw [List.getElem?_map, List.getElem?_range hl]
  show some (a + k, cn_e al aC (L.getD k (0, 0, 0, []))) = _
  rw [List.getD_eq_getElem?_getD, h]
  rfl
theorem cn_get' {k : Nat} {q : Nat × va_E} (h : (cn_ws a al aC L)[k]? = some q) : ∃ e, L[k]? = some e ∧ q = (a + k, cn_e al aC e) := by
  have hl : k < L.length := by
    have := (List.getElem?_eq_some_iff.mp h).1
    rwa [cn_len] at this
  refine ⟨L[k], List.getElem?_eq_getElem hl, ?_⟩
  rw [cn_get (List.getElem?_eq_getElem hl)] at h
  exact (Option.some.inj h).symm
theorem cn_ext {w : va_W} (hl : w.length = L.length) (h : ∀ k e, L[k]? = some e → w[k]? = some (a + k, cn_e al aC e)) : w = cn_ws a al aC L := by
  apply List.ext_getElem?
  intro k
  by_cases hk : k < L.length
  · rw [h k L[k] (List.getElem?_eq_getElem hk), cn_get (List.getElem?_eq_getElem hk)]
  · rw [List.getElem?_eq_none (by omega), List.getElem?_eq_none (by rw [cn_len]; omega)]
theorem cn_set {k : Nat} {e : cn_E} : (cn_ws a al aC L).set k (a + k, cn_e al aC e) = cn_ws a al aC (L.set k e) := by
  refine cn_ext (by simp [cn_len]) fun j f hj => ?_
  rw [List.getElem?_set] at hj ⊢
  by_cases hkj : k = j
  · subst hkj
    rw [if_pos rfl] at hj ⊢
    by_cases hl : k < L.length
    · rw [if_pos hl] at hj
      rw [if_pos (by rw [cn_len]; exact hl), Option.some.inj hj]
    · rw [if_neg hl] at hj; cases hj
  · rw [if_neg hkj] at hj ⊢
    exact cn_get hj
theorem cn_app {e : cn_E} : cn_ws a al aC L ++ [(a + L.length, cn_e al aC e)] = cn_ws a al aC (L ++ [e]) := by
  refine cn_ext (by simp [cn_len]) fun j f hj => ?_
  by_cases hl : j < L.length
  · rw [List.getElem?_append_left hl] at hj
    rw [List.getElem?_append_left (by rw [cn_len]; exact hl)]
    exact cn_get hj
  · rw [List.getElem?_append_right (by omega)] at hj
    have h0 : j - L.length < 1 := (List.getElem?_eq_some_iff.mp hj).1
    have e0 : j = L.length := by omega
    subst e0
    rw [Nat.sub_self] at hj
    rw [List.getElem?_append_right (by rw [cn_len]; exact Nat.le_refl _), cn_len, Nat.sub_self]
    cases hj
    rfl
theorem cn_D : va_D (fun q => a ≤ q) (cn_ws a al aC L) := by
  refine ⟨fun i j p q hi hj hpq => ?_, fun k q hk => ?_⟩
  · obtain ⟨e, -, rfl⟩ := cn_get' hi
    obtain ⟨f, -, rfl⟩ := cn_get' hj
    have hpq : a + i = a + j := hpq
    omega
  · obtain ⟨e, -, rfl⟩ := cn_get' hk
    exact Nat.le_add_right _ _
theorem cn_P_of {D : va_G} {cl : List vw_C} {H : Heap} (h : ∀ k e, L[k]? = some e → va_at D cl (a + k, cn_e al aC e) H) : va_P D cl (cn_ws a al aC L) H := fun k q hk => by
  obtain ⟨e, he, rfl⟩ := cn_get' hk
  exact h k e he
theorem cn_al_lt {al0 : Nat → Nat} {k : Nat} (h : k < 900) : cn_al a al0 k = a + k := by
  unfold cn_al
  rw [Nat.blt_eq.mpr h]
  rfl
theorem cn_al_ge {al0 : Nat → Nat} {k : Nat} : cn_al a al0 (900 + k) = al0 k := by
  unfold cn_al
  have : Nat.blt (900 + k) 900 = false := by
    cases h : Nat.blt (900 + k) 900 with
    | false => rfl
    | true => have := Nat.blt_eq.mp h; omega
  rw [this, Nat.add_sub_cancel_left]
  rfl
end
theorem cn_RA_name {U : State} {c : ClassId} {ty : FieldType} (h : va_RA U c ty) : U.vm.findClass ("[" ++ ty.toString) = some c := by
  cases ty with
  | object C => obtain ⟨_, _, -, -, -, h4⟩ := h; exact h4
  | _ => exact h
theorem cn_ty {aC : Nat → ClassId} {t : Nat} (ht : t < 7) : (am_tys aC)[t]? = some (aC t, am_tyL.getD t .int) := by
  unfold am_tys
  rw [List.getElem?_map, List.getElem?_range ht]
  rfl
theorem cn_aC {D : va_G} {cl : List vw_C} {aC : Nat → ClassId} {s : State} {cA : ClassId} {ty : FieldType} {t : Nat} (hK : va_K D cl (am_tys aC) s) (hK2 : va_K D cl (am_tys aC ++ [(cA, ty)]) s) (ht : t < 7) (he : am_tyL.getD t .int = ty) : cA = aC t := by
  have h1 := cn_RA_name (hK.2 t _ (cn_ty ht)).2
  have h2 := cn_RA_name (hK2.2 (am_tys aC).length (cA, ty) (by rw [List.getElem?_append_right (Nat.le_refl _), Nat.sub_self]; rfl)).2
  rw [← he] at h2
  exact Option.some.inj (h2.symm.trans h1)
end CNF
