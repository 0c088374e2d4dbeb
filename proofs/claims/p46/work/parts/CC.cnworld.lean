section CNW
variable {al al' : Nat → Nat} {aC : Nat → ClassId}
set_option maxRecDepth 100000 in
theorem cn_facts_s : (cn_orc 4 9 []).isSome = true ∧ cn_DX.length = 193 ∧ (∀ k, k < 193 → ∃ e, cn_DT[k]? = some e ∧ cn_same k e = true) := by
  have h := cn_facts
  simp only [Bool.and_eq_true] at h
  obtain ⟨⟨h1, h2⟩, h5⟩ := h
  refine ⟨h1, Nat.eq_of_beq_eq_true h2, fun k hk => ?_⟩
  have h7 := List.all_eq_true.mp h5 k (List.mem_range.mpr hk)
  cases hg : cn_DT[k]? with
  | none => rw [hg] at h7; cases h7
  | some e => rw [hg] at h7; exact ⟨e, rfl, h7⟩
theorem cn_lt_spec {r : Nat} (h : cn_lt (.ref r) = true) : r < 193 := Nat.blt_eq.mp h
theorem cn_cell (hal : ∀ r, r < 193 → al' r = al r) {k : Nat} {e : cn_E} (hg : cn_DT[k]? = some e) (h : cn_same k e = true) : cn_e al' aC e = am_cell al aC cn_hp k := by
  have hhp : ∀ j, cn_hp k j = cn_iv (e.2.2.2.getD j (.int 0)) := fun j => by unfold cn_hp; rw [hg]
  unfold cn_same at h
  unfold am_cell
  cases h1 : Nat.beq (am_kd k).1 1 with
  | true =>
    rw [h1] at h
    have h : (Nat.beq e.1 1 && Nat.beq e.2.1 (am_kd k).2.1 && Nat.beq e.2.2.2.length (am_nF e.2.1) && (List.range (am_nF e.2.1)).all (fun j => bif am_fi e.2.1 j then cn_int (e.2.2.2.getD j .null) else !cn_int (e.2.2.2.getD j .null) && decide (e.2.2.2.getD j .null = va_rf (am_G k j)) && cn_lt (e.2.2.2.getD j .null))) = true := h
    simp only [Bool.and_eq_true] at h
    obtain ⟨⟨⟨b1, b2⟩, b3⟩, b4⟩ := h
    have b2 : e.2.1 = (am_kd k).2.1 := Nat.eq_of_beq_eq_true b2
    have b3 : e.2.2.2.length = am_nF e.2.1 := Nat.eq_of_beq_eq_true b3
    rw [cn_e_o b1]
    show (Sum.inr (e.2.1, e.2.2.2.map (am_rl al')) : va_E) = Sum.inr ((am_kd k).2.1, (List.range (am_nF (am_kd k).2.1)).map (am_fv al cn_hp k))
    rw [← b2]
    refine congrArg Sum.inr (congrArg (Prod.mk e.2.1) ?_)
    apply List.ext_getElem?
    intro j
    by_cases hj : j < am_nF e.2.1
    · have hj2 : j < e.2.2.2.length := by omega
      have b5 := List.all_eq_true.mp b4 j (List.mem_range.mpr hj)
      have eg : e.2.2.2.getD j .null = e.2.2.2[j] := by rw [List.getD_eq_getElem?_getD, List.getElem?_eq_getElem hj2]; rfl
      have eg2 : e.2.2.2.getD j (.int 0) = e.2.2.2[j] := by rw [List.getD_eq_getElem?_getD, List.getElem?_eq_getElem hj2]; rfl
      rw [List.getElem?_map, List.getElem?_eq_getElem hj2, List.getElem?_map, List.getElem?_range hj]
      show some (am_rl al' e.2.2.2[j]) = some (am_fv al cn_hp k j)
      refine congrArg some ?_
      unfold am_fv
      rw [← b2, hhp j, eg2]
      rw [eg] at b5
      cases hf : am_fi e.2.1 j with
      | true =>
        rw [hf] at b5
        have b5 : cn_int e.2.2.2[j] = true := b5
        cases hv : e.2.2.2[j] with
        | int x => rfl
        | _ => rw [hv] at b5; cases b5
      | false =>
        rw [hf] at b5
        have b5 : (!cn_int e.2.2.2[j] && decide (e.2.2.2[j] = va_rf (am_G k j)) && cn_lt e.2.2.2[j]) = true := b5
        simp only [Bool.and_eq_true] at b5
        have b6 := of_decide_eq_true b5.1.2
        have b7 := b5.2
        show am_rl al' e.2.2.2[j] = va_rf ((am_G k j).map al)
        rw [b6] at b7 ⊢
        cases hG : am_G k j with
        | none => rfl
        | some r =>
          rw [hG] at b7
          show Value.ref (al' r) = Value.ref (al r)
          rw [hal r (cn_lt_spec b7)]
    · rw [List.getElem?_eq_none (by rw [List.length_map]; omega), List.getElem?_eq_none (by rw [List.length_map, List.length_range]; omega)]
  | false =>
    rw [h1] at h
    have h : (bif Nat.beq (am_kd k).1 3 then Nat.beq e.1 3 && Nat.beq e.2.1 (am_kd k).2.1 && Nat.beq e.2.2.1 (am_kd k).2.2 && decide (am_grL.getD k [] = e.2.2.2.map cn_rv) && e.2.2.2.all cn_lt
      else Nat.beq e.1 2 && Nat.beq e.2.1 (am_kd k).2.1 && Nat.beq e.2.2.1 (am_kd k).2.2) = true := h
    cases h2 : Nat.beq (am_kd k).1 3 with
    | true =>
      rw [h2] at h
      have h : (Nat.beq e.1 3 && Nat.beq e.2.1 (am_kd k).2.1 && Nat.beq e.2.2.1 (am_kd k).2.2 && decide (am_grL.getD k [] = e.2.2.2.map cn_rv) && e.2.2.2.all cn_lt) = true := h
      simp only [Bool.and_eq_true] at h
      obtain ⟨⟨⟨⟨b1, b2⟩, b3⟩, b4⟩, b5⟩ := h
      have b2 : e.2.1 = (am_kd k).2.1 := Nat.eq_of_beq_eq_true b2
      have b3 : e.2.2.1 = (am_kd k).2.2 := Nat.eq_of_beq_eq_true b3
      have b4 := of_decide_eq_true b4
      rw [cn_e_r b1, b2, b3]
      have e8 : (fun j => (cn_rv (e.2.2.2.getD j .null)).map al') = (fun j => (am_G k j).map al) := by
        funext j
        have e7 : am_G k j = cn_rv (e.2.2.2.getD j .null) := by
          unfold am_G
          rw [b4]
          exact cn_getD_map (f := cn_rv) (d := .null) rfl
        rw [e7]
        have b6 : cn_lt (e.2.2.2.getD j .null) = true := by
          rw [List.getD_eq_getElem?_getD]
          cases hj : e.2.2.2[j]? with
          | none => rfl
          | some v => exact List.all_eq_true.mp b5 v (List.mem_of_getElem? hj)
        cases hv : e.2.2.2.getD j .null with
        | ref r =>
          rw [hv] at b6
          show some (al' r) = some (al r)
          rw [hal r (cn_lt_spec b6)]
        | _ => rfl
      rw [e8]
      rfl
    | false =>
      rw [h2] at h
      have h : (Nat.beq e.1 2 && Nat.beq e.2.1 (am_kd k).2.1 && Nat.beq e.2.2.1 (am_kd k).2.2) = true := h
      simp only [Bool.and_eq_true] at h
      obtain ⟨⟨b1, b2⟩, b3⟩ := h
      have b2 : e.2.1 = (am_kd k).2.1 := Nat.eq_of_beq_eq_true b2
      have b3 : e.2.2.1 = (am_kd k).2.2 := Nat.eq_of_beq_eq_true b3
      rw [cn_e_i b1, b2, b3]
      have e8 : (fun j => cn_iv (e.2.2.2.getD j (.int 0))) = cn_hp k := funext fun j => (hhp j).symm
      rw [e8]
      rfl
/-- the world of the class, when its constructor has made its cells -/
theorem cn_world {D : va_G} {cl : List vw_C} {x0 : Nat} {H : Heap} (hal : ∀ r, r < 193 → al r = x0 + r) (hX : va_P D cl (cn_ws x0 (cn_al x0 al) aC cn_DX) H) : va_P D cl (am_W al aC cn_hp) H := by
  obtain ⟨-, f2, f5⟩ := cn_facts_s
  have hal2 : ∀ r, r < 193 → cn_al x0 al r = al r := fun r hr => by rw [cn_al_lt (by omega), hal r hr]
  intro k q hk
  have hk2 : k < am_n0 := by
    have := (List.getElem?_eq_some_iff.mp hk).1
    rwa [am_W_len] at this
  have hk2 : k < 193 := hk2
  rw [am_W_get hk2] at hk
  cases hk
  obtain ⟨e, he, hs⟩ := f5 k hk2
  rw [← cn_cell (aC := aC) hal2 he hs, hal k hk2]
  exact hX _ _ (cn_get he)
end CNW
