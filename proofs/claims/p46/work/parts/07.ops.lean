section AMO
variable {γ : Type} {g : γ}
theorem am_ld_mem {ρ : am_Lc} {i : Nat} {v : Value} (h : am_ld ρ i = some v) : (i, v) ∈ ρ := by
  unfold am_ld at h
  cases hf : ρ.find? (fun q => Nat.beq q.1 i) with
  | none => rw [hf] at h; cases h
  | some q =>
    rw [hf] at h
    cases h
    have h1 := List.find?_some hf
    have h2 : q.1 = i := Nat.eq_of_beq_eq_true h1
    have h3 := List.mem_of_find?_eq_some hf
    rw [← h2]
    exact h3
theorem am_ldi_some {ρ : am_Lc} {i : Nat} {k : Int32 → Option γ} (h : am_ldi ρ i k = some g) : ∃ x, (i, .int x) ∈ ρ ∧ k x = some g := by
  unfold am_ldi at h
  split at h
  · rename_i x hx
    exact ⟨x, am_ld_mem hx, h⟩
  · cases h
theorem am_lda_some {ρ : am_Lc} {i : Nat} {k : Nat → Option γ} (h : am_lda ρ i k = some g) : ∃ x, (i, .ref x) ∈ ρ ∧ k x = some g := by
  unfold am_lda at h
  split at h
  · rename_i x hx
    exact ⟨x, am_ld_mem hx, h⟩
  · cases h
theorem am_s1_some {st : List Value} {k : Int32 → List Value → Option γ} (h : am_s1 st k = some g) : ∃ x r, st = .int x :: r ∧ k x r = some g := by
  unfold am_s1 at h
  split at h
  · exact ⟨_, _, rfl, h⟩
  · cases h
theorem am_s2_some {st : List Value} {k : Int32 → Int32 → List Value → Option γ} (h : am_s2 st k = some g) : ∃ x y r, st = .int y :: .int x :: r ∧ k x y r = some g := by
  unfold am_s2 at h
  split at h
  · exact ⟨_, _, _, rfl, h⟩
  · cases h
theorem am_sa_some {st : List Value} {k : Nat → List Value → Option γ} (h : am_sa st k = some g) : ∃ x r, st = .ref x :: r ∧ k x r = some g := by
  unfold am_sa at h
  split at h
  · exact ⟨_, _, rfl, h⟩
  · cases h
theorem am_sia_some {st : List Value} {k : Nat → Int32 → List Value → Option γ} (h : am_sia st k = some g) : ∃ a x r, st = .int x :: .ref a :: r ∧ k a x r = some g := by
  unfold am_sia at h
  split at h
  · exact ⟨_, _, _, rfl, h⟩
  · cases h
theorem am_siia_some {st : List Value} {k : Nat → Int32 → Int32 → List Value → Option γ} (h : am_siia st k = some g) : ∃ a i x r, st = .int x :: .int i :: .ref a :: r ∧ k a i x r = some g := by
  unfold am_siia at h
  split at h
  · exact ⟨_, _, _, _, rfl, h⟩
  · cases h
theorem am_sf_some {st : List Value} {k : UInt32 → List Value → Option γ} (h : am_sf st k = some g) : ∃ x r, st = .float x :: r ∧ k x r = some g := by
  unfold am_sf at h
  split at h
  · exact ⟨_, _, rfl, h⟩
  · cases h
theorem am_sff_some {st : List Value} {k : UInt32 → UInt32 → List Value → Option γ} (h : am_sff st k = some g) : ∃ x y r, st = .float y :: .float x :: r ∧ k x y r = some g := by
  unfold am_sff at h
  split at h
  · exact ⟨_, _, _, rfl, h⟩
  · cases h
theorem am_d1_some {st : List Value} {k : Value → List Value → Option γ} (h : am_d1 st k = some g) : ∃ v r, st = v :: r ∧ v.category = 1 ∧ k v r = some g := by
  unfold am_d1 at h
  split at h
  · exact ⟨_, _, rfl, rfl, h⟩
  · exact ⟨_, _, rfl, rfl, h⟩
  · cases h
theorem am_d2_some {st : List Value} {k : Value → Value → List Value → Option γ} (h : am_d2 st k = some g) : ∃ v w r, st = v :: w :: r ∧ v.category = 1 ∧ w.category = 1 ∧ k v w r = some g := by
  unfold am_d2 at h
  split at h
  · exact ⟨_, _, _, rfl, rfl, rfl, h⟩
  · exact ⟨_, _, _, rfl, rfl, rfl, h⟩
  · cases h
theorem am_to_some {pc : Nat} {off : Int} {k : Nat → Option γ} (h : am_to pc off k = some g) : ∃ t : Nat, (pc : Int) + off = (t : Int) ∧ k t = some g := by
  unfold am_to at h
  split at h
  · rename_i t ht
    exact ⟨t, ht, h⟩
  · cases h
theorem am_bif {c : Bool} {a : Option γ} (h : (bif c then a else none) = some g) : c = true ∧ a = some g := by
  cases c with
  | true => exact ⟨rfl, h⟩
  | false => cases h
theorem am_sw_some {pc : Nat} {x : Int32} {d : Option γ} {k : Nat → Option γ} : ∀ (os : List Int) (lo : Int), am_sw pc x d k lo os = some g →
    (∃ (off : Int) (t : Nat), lo ≤ x.toInt ∧ os[(x.toInt - lo).toNat]? = some off ∧ (pc : Int) + off = (t : Int) ∧ k t = some g) ∨ ((x.toInt < lo ∨ lo + os.length ≤ x.toInt) ∧ d = some g)
  | [], lo, h => Or.inr ⟨by simp; omega, h⟩
  | o :: os, lo, h => by
    unfold am_sw at h
    by_cases e : x.toInt = lo
    · rw [if_pos e] at h
      obtain ⟨t, ht, h2⟩ := am_to_some h
      exact Or.inl ⟨o, t, by omega, by rw [e, Int.sub_self]; rfl, ht, h2⟩
    · rw [if_neg e] at h
      rcases am_sw_some os (lo + 1) h with ⟨off, t, h1, h2, h3, h4⟩ | ⟨h1, h2⟩
      · refine Or.inl ⟨off, t, by omega, ?_, h3, h4⟩
        have : (x.toInt - lo).toNat = (x.toInt - (lo + 1)).toNat + 1 := by omega
        rw [this, List.getElem?_cons_succ]
        exact h2
      · refine Or.inr ⟨?_, h2⟩
        simp only [List.length_cons]
        omega
theorem am_rls_stl {al : Nat → Nat} {ρ : am_Lc} {i : Nat} {v : Value} : (i, am_rl al v) :: (am_rls al ρ).filter (fun q => !(q.1 == i) && !(q.1 + 1 == i && q.2.category == 2)) = am_rls al (am_stl ρ i v) := by
  unfold am_rls am_stl
  rw [List.filter_map, List.map_cons]
  congr 3
  funext q
  simp [Function.comp, am_rl_cat]
theorem am_rls_sti {al : Nat → Nat} {ρ : am_Lc} {i : Nat} {x : Int32} : (i, Value.int x) :: (am_rls al ρ).filter (fun q => !(q.1 == i) && !(q.1 + 1 == i && q.2.category == 2)) = am_rls al (am_stl ρ i (.int x)) := am_rls_stl (v := .int x)
theorem am_rls_sta {al : Nat → Nat} {ρ : am_Lc} {i : Nat} {x : Nat} : (i, Value.ref (al x)) :: (am_rls al ρ).filter (fun q => !(q.1 == i) && !(q.1 + 1 == i && q.2.category == 2)) = am_rls al (am_stl ρ i (.ref x)) := am_rls_stl (v := .ref x)
theorem am_rls_mem {al : Nat → Nat} {ρ : am_Lc} {i : Nat} {v : Value} (h : (i, v) ∈ ρ) : (i, am_rl al v) ∈ am_rls al ρ := List.mem_map.mpr ⟨(i, v), h, rfl⟩
theorem am_in_spec {x : Int32} {n : Nat} (h : am_in x n = true) : vp_in x n := by
  unfold am_in at h
  have h2 : ¬ (x < 0 ∨ n ≤ x.toNatClampNeg) := of_decide_eq_true h
  exact h2
theorem am_fx_kept {al aV : Nat → Nat} {A B : Nat → Prop} {U U1 : State} {H H1 : Heap} (h : am_Fx al aV A U H) (hW : U.WarmedH U1.vm) (hz : H.size ≤ H1.size) (hq : ∀ a : Nat, a < H.size → ¬ A a → H1[a]? = H[a]?) (hAB : ∀ q, q < H.size → B q → A q) (hAB2 : ∀ q, B q → A q) : am_Fx al aV B U1 H1 := by
  have hvm := hW.alike
  obtain ⟨h1, h2, h3, h4, h5, h6, h7, h8, h9, h10, h11, h12, h13⟩ := h
  refine ⟨fun q hm => ?_, ((h2.kept hq).narrow hAB2).moved hvm, ((h3.kept hq).narrow hAB2).moved hvm, ((h4.kept hq).narrow hAB2).moved hvm, fun o q i hm e => vk_R.warm hW (h5 o q i hm e), fun w hw => ?_, va_Nw.warmM hW h7, fun o q z hm hz e => ?_, fun o q v hm e => ?_, ?_, ?_, ((h12.kept hq).narrow hAB2).moved hvm, ((h13.kept hq).narrow hAB2).moved hvm⟩
  · obtain ⟨a1, a2, a3, a4⟩ := h1 q hm
    exact ⟨(a1.kept (hq _ a3 a2)).moved hvm, fun z => a2 (hAB2 _ z), Nat.lt_of_lt_of_le a3 hz, ((a4.kept hq).narrow hAB2).moved hvm⟩
  · have h0 := h6 w hw
    simp only [am_TB, List.mem_cons, List.not_mem_nil, or_false] at hw
    rcases hw with rfl | rfl | rfl | rfl
    · exact va_tabs (u := U.setVm U1.vm) rfl rfl ((Cond.declares_setVm hvm _).trans h0)
    · exact va_tabs (u := U.setVm U1.vm) rfl rfl ((Cond.declares_setVm hvm _).trans h0)
    · exact va_tabs (u := U.setVm U1.vm) rfl rfl ((Cond.declares_setVm hvm _).trans h0)
    · exact va_tabs (u := U.setVm U1.vm) rfl rfl ((Cond.castable_setVm hvm _ _).trans h0)
  · rcases h8 o q z hm hz e with ⟨e1, e2⟩ | ⟨e1, e2⟩
    · exact Or.inl ⟨e1, word_at hW (Or.inl rfl) e2⟩
    · exact Or.inr ⟨e1, va_Nw.warmF hW e2⟩
  · exact word_at hW (Or.inl rfl) (h9 o q v hm e)
  · exact word_at hW (Or.inl rfl) h10
  · exact word_at hW (Or.inl rfl) h11
end AMO
