section LWG2
variable {s : State} {args : Array Value}
theorem lg_t_spec (hts : ∀ w ∈ lw_tbl, w.before args s = true) {w : Cond} (h : lg_t w = true) : w.before args s = true := by
  obtain ⟨q, hq, e⟩ := List.any_eq_true.mp h
  rw [← of_decide_eq_true e]
  exact hts q hq
theorem lg_n_spec (hns : ∀ w ∈ lg_F, w.before args s = true) {w : Cond} (h : lg_n w = true) : w.before args s = true := by
  obtain ⟨q, hq, e⟩ := List.any_eq_true.mp h
  rw [← of_decide_eq_true e]
  exact hns q hq
/-- the classes of both sides -/
theorem lg_dC (hts : ∀ w ∈ lw_tbl, w.before args s = true) : ∃ (dC : Nat → ClassId) (dI : Nat → Nat → Nat), ∀ (c : Nat) (q : vw_C), vwCl[c]? = some q → u_Kn s q.1 q.2.1 q.2.2 (dC c) (dI c) := by
  have hat : ∀ w ∈ am_AT, w.before args s = true := fun w hw => hts w (List.mem_filter.mp hw).1
  have he := lg_etc
  simp only [Bool.and_eq_true] at he
  have h0 : ∀ ci : Nat, ∃ q : ClassId × (Nat → Nat), ci < 11 → u_Kn s (am_R ci) (am_T ci) (am_N ci) q.1 q.2 := by
    intro ci
    by_cases hc : ci < 11
    · obtain ⟨cC, iS, h⟩ := u_known hat (am_uw_spec hc) (hat _ (cn_inT_spec (List.all_eq_true.mp he.2 ci (List.mem_range.mpr hc))))
      exact ⟨(cC, iS), fun _ => h⟩
    · exact ⟨(0, fun _ => 0), fun h => absurd h hc⟩
  obtain ⟨f, hf⟩ := Classical.axiomOfChoice h0
  refine ⟨fun c => (f c).1, fun c => (f c).2, fun c q hq => ?_⟩
  have hc := cn_vwlt hq
  rw [(am_cl_spec hc).2] at hq
  cases hq
  exact hf c hc
/-- the classes of the arrays -/
theorem lg_aC (hts : ∀ w ∈ lw_tbl, w.before args s = true) : ∃ aC : Nat → ClassId, ∀ t, t < 7 → ArrOfT s (aC t) (am_tyL.getD t .int) ∧ va_RA s (aC t) (am_tyL.getD t .int) := by
  have hat : ∀ w ∈ am_AT, w.before args s = true := fun w hw => hts w (List.mem_filter.mp hw).1
  have hT := cn_Ts
  simp only [Bool.and_eq_true] at hT
  have he := lg_etc
  simp only [Bool.and_eq_true] at he
  have hNB : ∀ w ∈ cn_NB, w.before args s = true := fun w hw => lg_t_spec hts (List.all_eq_true.mp he.1.1.1.1.1.1.1.1.1.1.1.1.2 w hw)
  have ho : ∀ ci, Cond.arrayOver (.object (am_R ci)) ∈ cn_NB → ∃ c : ClassId, ArrOfT s c (.object (am_R ci)) ∧ va_RA s c (.object (am_R ci)) := by
    intro ci h
    obtain ⟨comp, c, k, h1, -, h3, h4, h5⟩ := Cond.arrayOver_spec (hNB _ h)
    exact ⟨c, fun n z => ⟨fun x h => (by cases h), k, h3, comp, h4⟩, k, comp, h3, h4, h1, h5⟩
  have h0 : ∀ t : Nat, ∃ c : ClassId, t < 7 → ArrOfT s c (am_tyL.getD t .int) ∧ va_RA s c (am_tyL.getD t .int) := by
    intro t
    by_cases ht : t < 7
    · rcases (show t = 0 ∨ t = 1 ∨ t = 2 ∨ t = 3 ∨ t = 4 ∨ t = 5 ∨ t = 6 by omega) with rfl | rfl | rfl | rfl | rfl | rfl | rfl
      · obtain ⟨c, k, comp, h1, h2, h3⟩ := Cond.arrayClass_spec (hat _ (cn_inT_spec hT.1.1.1))
        exact ⟨c, fun _ => ⟨fun n z => ⟨fun x h => (by cases h), k, h2, comp, h3⟩, h1⟩⟩
      · obtain ⟨c, k, comp, h1, h2, h3⟩ := Cond.arrayClass_spec (hat _ (cn_inT_spec hT.1.1.2))
        exact ⟨c, fun _ => ⟨fun n z => ⟨fun x h => (by cases h), k, h2, comp, h3⟩, h1⟩⟩
      · obtain ⟨c, h⟩ := ho 3 (by simp [cn_NB])
        exact ⟨c, fun _ => h⟩
      · obtain ⟨c, h⟩ := ho 0 (by simp [cn_NB])
        exact ⟨c, fun _ => h⟩
      · obtain ⟨c, h⟩ := ho 5 (by simp [cn_NB])
        exact ⟨c, fun _ => h⟩
      · obtain ⟨c, h⟩ := ho 6 (by simp [cn_NB])
        exact ⟨c, fun _ => h⟩
      · obtain ⟨comp, c, k, h1, -, h3, h4, h5⟩ := arrayOverA_spec (t := .int) (hNB (.arrayOver (.array .int)) (by simp [cn_NB]))
        exact ⟨c, fun _ => ⟨fun n z => ⟨fun x h => (by cases h), k, h3, comp, h4⟩, h5⟩⟩
    · exact ⟨0, fun h => absurd h ht⟩
  obtain ⟨f, hf⟩ := Classical.axiomOfChoice h0
  exact ⟨f, fun t ht => hf t ht⟩
/-- a static array of whole numbers -/
theorem lg_X {tm : Term} {xs : Nat → Int32} (harr : (Cond.arrayOf tm .int).before args s = true) (hlen : (Cond.eq (.length tm) (.int 2)).before args s = true) (h0 : (Cond.eq (.elem tm (.int 0)) (.int (xs 0))).before args s = true) (h1 : (Cond.eq (.elem tm (.int 1)) (.int (xs 1))).before args s = true) :
    ∃ t, tm.eval args s none [] s = some (.ref t) ∧ va_X t 2 xs s s.heap ∧ t < s.heap.size := by
  have hl := va_eqt hlen
  obtain ⟨t, cell, ht, hat, hv⟩ := Term.length_spec hl
  have hsz : cell.slots.size < 2 ^ 31 := by
    have hl2 := hl
    simp only [Term.eval, ht, hat, Option.bind_eq_bind, Option.bind_some] at hl2
    by_cases hlt : cell.slots.size < 2147483648
    · exact hlt
    · simp [hlt] at hl2
  have hs2 : cell.slots.size = 2 := by
    have h9 : (2 : Int32) = cell.slots.size.toInt32 := Value.int.inj hv
    have h8 : (Int32.ofNat cell.slots.size).toInt = (cell.slots.size : Int) := Int32.toInt_ofNat_of_lt hsz
    have h7 : (2 : Int32).toInt = 2 := by decide
    have h6 : cell.slots.size.toInt32 = Int32.ofNat cell.slots.size := rfl
    rw [h9, h6, h8] at h7
    omega
  obtain ⟨t2, ht2, cell2, q1, q2, q3, q4, q5, q6, -⟩ := va_Tof (N := 2) (f := fun j => .int (xs j)) (A := fun q => s.heap.size ≤ q) (by decide) harr hl (fun j hj => by
    rcases (show j = 0 ∨ j = 1 by omega) with rfl | rfl
    · exact va_eqt h0
    · exact va_eqt h1) (fun a ha z => by omega)
  cases ht.symm.trans ht2
  obtain ⟨hcell, hkn, -, -⟩ := State.arrayAt?_spec hat
  cases q1.symm.trans hcell
  exact ⟨t, ht, ⟨_, q1, q2, q3, hs2, q6⟩, (Array.getElem?_eq_some_iff.mp q1).1⟩
end LWG2
