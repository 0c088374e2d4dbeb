section LGA2
variable {s : State} {args : Array Value}
theorem lg_t_spec (hts : ∀ w ∈ lw_tbl, w.before args s = true) {w : Cond} (h : lg_t w = true) : w.before args s = true := by
  obtain ⟨q, hq, e⟩ := List.any_eq_true.mp h
  rw [← of_decide_eq_true e]
  exact hts q hq
theorem lg_n_spec (hns : ∀ w ∈ lg_F, w.before args s = true) {w : Cond} (h : lg_n w = true) : w.before args s = true := by
  obtain ⟨q, hq, e⟩ := List.any_eq_true.mp h
  rw [← of_decide_eq_true e]
  exact hns q hq
theorem lg_i_spec (hns : ∀ w ∈ lg_F, w.before args s = true) {w : Cond} {i : Nat} (h : decide (lg_F[i]? = some w) = true) : w.before args s = true := hns w (List.mem_of_getElem? (of_decide_eq_true h))
theorem lg_nw {w : Cond} (h : w.before args s = true) (ho : w.onTables = true) : va_Nw w s := va_tabs ho rfl h
/-- the classes of both sides -/
theorem lg_dC (hts : ∀ w ∈ lw_tbl, w.before args s = true) : ∃ (dC : Nat → ClassId) (dI : Nat → Nat → Nat), ∀ (c : Nat) (q : vw_C), vwCl[c]? = some q → u_Kn s q.1 q.2.1 q.2.2 (dC c) (dI c) := by
  have hat : ∀ w ∈ am_AT, w.before args s = true := fun w hw => hts w (List.mem_filter.mp hw).1
  have he := lg_etc
  simp only [Bool.and_eq_true] at he
  have he2 := lg_et2
  simp only [Bool.and_eq_true] at he2
  obtain ⟨⟨⟨⟨⟨⟨⟨⟨⟨⟨⟨⟨⟨⟨-, -⟩, -⟩, -⟩, -⟩, -⟩, i0⟩, i4⟩, -⟩, -⟩, -⟩, -⟩, -⟩, -⟩, -⟩ := he2
  have h0 : ∀ ci : Nat, ∃ q : ClassId × (Nat → Nat), ∀ r : vw_C, vwCl[ci]? = some r → u_Kn s r.1 r.2.1 r.2.2 q.1 q.2 := by
    intro ci
    by_cases hc : ci < 11
    · obtain ⟨cC, iS, h⟩ := u_known hat (am_uw_spec hc) (hat _ (cn_inT_spec (List.all_eq_true.mp he.2 ci (List.mem_range.mpr hc))))
      refine ⟨(cC, iS), fun r hr => ?_⟩
      rw [(am_cl_spec hc).2] at hr
      cases hr
      exact h
    · by_cases hd : ci < 13
      · rcases (show ci = 11 ∨ ci = 12 by omega) with rfl | rfl
        · obtain ⟨cC, iS, h⟩ := u_known hat (tm_uw (Or.inl rfl)) (hat (.instantiable RJ0 4) (cn_inT_spec i0))
          refine ⟨(cC, iS), fun r hr => ?_⟩
          rw [tm_cl (Or.inl rfl)] at hr
          cases hr
          exact h
        · obtain ⟨cC, iS, h⟩ := u_known hat (tm_uw (Or.inr rfl)) (hat (.instantiable RJ4 4) (cn_inT_spec i4))
          refine ⟨(cC, iS), fun r hr => ?_⟩
          rw [tm_cl (Or.inr rfl)] at hr
          cases hr
          exact h
      · exact ⟨(0, fun _ => 0), fun r hr => absurd (cn_vwlt hr) hd⟩
  obtain ⟨f, hf⟩ := Classical.axiomOfChoice h0
  exact ⟨fun c => (f c).1, fun c => (f c).2, fun c q hq => hf c q hq⟩
/-- the classes of the arrays -/
theorem lg_aC0 (hts : ∀ w ∈ lw_tbl, w.before args s = true) : ∃ aC : Nat → ClassId, ∀ t, t < 7 → ArrOfT s (aC t) (am_tyL.getD t .int) ∧ va_RA s (aC t) (am_tyL.getD t .int) := by
  have hat : ∀ w ∈ am_AT, w.before args s = true := fun w hw => hts w (List.mem_filter.mp hw).1
  have hT := cn_Ts
  simp only [Bool.and_eq_true] at hT
  have he := lg_etc
  simp only [Bool.and_eq_true] at he
  have hNB : ∀ w ∈ cn_NB, w.before args s = true := fun w hw => lg_t_spec hts (List.all_eq_true.mp he.1.1.1.1.1.1.1.1.1.1.1.1.2 w hw)
  have ho : ∀ ci, Cond.arrayOver (.object (am_R ci)) ∈ cn_NB → ∃ c : ClassId, ArrOfT s c (.object (am_R ci)) ∧ va_RA s c (.object (am_R ci)) := by
    intro ci h
    obtain ⟨comp, c, k, h1, -, h3, h4, h5⟩ := Cond.arrayOver_spec (hNB _ h)
    exact ⟨c, fun n z => ⟨fun x h => (by cases h), k, h3, comp, h4⟩, k, comp, h3, h4, h1, h5⟩
  have h0 : ∀ t : Nat, ∃ c : ClassId, t < 7 → ArrOfT s c (am_tyL.getD t .int) ∧ va_RA s c (am_tyL.getD t .int) := by
    intro t
    by_cases ht : t < 7
    · rcases (show t = 0 ∨ t = 1 ∨ t = 2 ∨ t = 3 ∨ t = 4 ∨ t = 5 ∨ t = 6 by omega) with rfl | rfl | rfl | rfl | rfl | rfl | rfl
      · obtain ⟨c, k, comp, h1, h2, h3⟩ := Cond.arrayClass_spec (hat _ (cn_inT_spec hT.1.1.1))
        exact ⟨c, fun _ => ⟨fun n z => ⟨fun x h => (by cases h), k, h2, comp, h3⟩, h1⟩⟩
      · obtain ⟨c, k, comp, h1, h2, h3⟩ := Cond.arrayClass_spec (hat _ (cn_inT_spec hT.1.1.2))
        exact ⟨c, fun _ => ⟨fun n z => ⟨fun x h => (by cases h), k, h2, comp, h3⟩, h1⟩⟩
      · obtain ⟨c, h⟩ := ho 3 (by simp [cn_NB])
        exact ⟨c, fun _ => h⟩
      · obtain ⟨c, h⟩ := ho 0 (by simp [cn_NB])
        exact ⟨c, fun _ => h⟩
      · obtain ⟨c, h⟩ := ho 5 (by simp [cn_NB])
        exact ⟨c, fun _ => h⟩
      · obtain ⟨c, h⟩ := ho 6 (by simp [cn_NB])
        exact ⟨c, fun _ => h⟩
      · obtain ⟨comp, c, k, h1, -, h3, h4, h5⟩ := arrayOverA_spec (t := .int) (hNB (.arrayOver (.array .int)) (by simp [cn_NB]))
        exact ⟨c, fun _ => ⟨fun n z => ⟨fun x h => (by cases h), k, h3, comp, h4⟩, h5⟩⟩
    · exact ⟨0, fun h => absurd h ht⟩
  obtain ⟨f, hf⟩ := Classical.axiomOfChoice h0
  exact ⟨f, fun t ht => hf t ht⟩
theorem lg_aC (hts : ∀ w ∈ lw_tbl, w.before args s = true) : ∃ aC : Nat → ClassId, (∀ t, t < 7 → ArrOfT s (aC t) (am_tyL.getD t .int) ∧ va_RA s (aC t) (am_tyL.getD t .int)) ∧ ArrOfT s (aC 7) .byte ∧ va_RA s (aC 7) .byte := by
  have hat : ∀ w ∈ am_AT, w.before args s = true := fun w hw => hts w (List.mem_filter.mp hw).1
  have he2 := lg_et2
  simp only [Bool.and_eq_true] at he2
  obtain ⟨⟨⟨⟨⟨⟨⟨⟨⟨⟨⟨⟨⟨⟨-, -⟩, -⟩, -⟩, -⟩, ib⟩, -⟩, -⟩, -⟩, -⟩, -⟩, -⟩, -⟩, -⟩, -⟩ := he2
  obtain ⟨a0, h0⟩ := lg_aC0 hts
  obtain ⟨c, k, comp, h1, h2, h3⟩ := Cond.arrayClass_spec (hat _ (cn_inT_spec ib))
  refine ⟨fun t => if t = 7 then c else a0 t, fun t ht => ?_, ?_⟩
  · have e : (if t = 7 then c else a0 t) = a0 t := if_neg (by omega)
    show ArrOfT s (if t = 7 then c else a0 t) _ ∧ va_RA s (if t = 7 then c else a0 t) _
    rw [e]
    exact h0 t ht
  · show ArrOfT s (if 7 = 7 then c else a0 7) .byte ∧ va_RA s (if 7 = 7 then c else a0 7) .byte
    rw [if_pos rfl]
    exact ⟨fun n z => ⟨fun x h => (by cases h), k, h2, comp, h3⟩, h1⟩
/-- a static array of whole numbers -/
theorem lg_X {tm : Term} {xs : Nat → Int32} (harr : (Cond.arrayOf tm .int).before args s = true) (hlen : (Cond.eq (.length tm) (.int 2)).before args s = true) (h0 : (Cond.eq (.elem tm (.int 0)) (.int (xs 0))).before args s = true) (h1 : (Cond.eq (.elem tm (.int 1)) (.int (xs 1))).before args s = true) :
    ∃ t, tm.eval args s none [] s = some (.ref t) ∧ va_X t 2 xs s s.heap ∧ t < s.heap.size := by
  have hl := va_eqt hlen
  obtain ⟨t, cell, ht, hat, hv⟩ := Term.length_spec hl
  have hsz : cell.slots.size < 2 ^ 31 := by
    have hl2 := hl
    simp only [Term.eval, ht, hat, Option.bind_eq_bind, Option.bind_some] at hl2
    by_cases hlt : cell.slots.size < 2147483648
    · exact hlt
    · simp [hlt] at hl2
  have hs2 : cell.slots.size = 2 := by
    have h9 : (2 : Int32) = cell.slots.size.toInt32 := Value.int.inj hv
    have h8 : (Int32.ofNat cell.slots.size).toInt = (cell.slots.size : Int) := Int32.toInt_ofNat_of_lt hsz
    have h7 : (2 : Int32).toInt = 2 := by decide
    have h6 : cell.slots.size.toInt32 = Int32.ofNat cell.slots.size := rfl
    rw [h9, h6, h8] at h7
    omega
  obtain ⟨t2, ht2, cell2, q1, q2, q3, q4, q5, q6, -⟩ := va_Tof (N := 2) (f := fun j => .int (xs j)) (A := fun q => s.heap.size ≤ q) (by decide) harr hl (fun j hj => by
    rcases (show j = 0 ∨ j = 1 by omega) with rfl | rfl
    · exact va_eqt h0
    · exact va_eqt h1) (fun a ha z => by omega)
  cases ht.symm.trans ht2
  obtain ⟨hcell, hkn, -, -⟩ := State.arrayAt?_spec hat
  cases q1.symm.trans hcell
  exact ⟨t, ht, ⟨_, q1, q2, q3, hs2, q6⟩, (Array.getElem?_eq_some_iff.mp q1).1⟩
/-- the addresses, put together -/
theorem lg_al (x0 t0 t1 t2 e0 e1 b : Nat) (ad ae af : Nat → Nat) : ∃ al : Nat → Nat, (∀ k, k < 205 → al k = x0 + k) ∧ (al 205 = t0 ∧ al 206 = t1 ∧ al 207 = t2) ∧ (∀ i, i < 5 → al (208 + i) = ad i) ∧ (∀ i, i < 8 → al (900 + i) = ae i) ∧ (∀ i, i < 8 → al (920 + i) = af i) ∧ al 940 = e0 ∧ al 941 = e1 ∧ al 950 = b := by
  refine ⟨fun k => if k < 205 then x0 + k else if k < 208 then [t0, t1, t2].getD (k - 205) 0 else if k < 213 then ad (k - 208) else if k < 908 then ae (k - 900) else if k < 928 then af (k - 920) else [e0, e1].getD (k - 940) b, fun k hk => if_pos hk, ⟨rfl, rfl, rfl⟩, fun i hi => ?_, fun i hi => ?_, fun i hi => ?_, rfl, rfl, rfl⟩
  · show (if 208 + i < 205 then _ else if 208 + i < 208 then _ else if 208 + i < 213 then ad (208 + i - 208) else _) = _
    rw [if_neg (by omega), if_neg (by omega), if_pos (by omega), Nat.add_sub_cancel_left]
  · show (if 900 + i < 205 then _ else if 900 + i < 208 then _ else if 900 + i < 213 then _ else if 900 + i < 908 then ae (900 + i - 900) else _) = _
    rw [if_neg (by omega), if_neg (by omega), if_neg (by omega), if_pos (by omega), Nat.add_sub_cancel_left]
  · show (if 920 + i < 205 then _ else if 920 + i < 208 then _ else if 920 + i < 213 then _ else if 920 + i < 908 then _ else if 920 + i < 928 then af (920 + i - 920) else _) = _
    rw [if_neg (by omega), if_neg (by omega), if_neg (by omega), if_neg (by omega), if_pos (by omega), Nat.add_sub_cancel_left]
theorem lg_vkc {N : Nat} {len len' : List Nat} {byt byt' : List (List Int32)} {f g f' g' : Nat → Nat} {A : Nat → Prop} {U : State} {H : Heap} (h : vk_S N len byt f g A U H) (h1 : ∀ i, i < N → f' i = f i) (h2 : ∀ i, i < N → g' i = g i) (h3 : ∀ i, i < N → len'.getD i 0 = len.getD i 0) (h4 : ∀ i, i < N → byt'.getD i [] = byt.getD i []) : vk_S N len' byt' f' g' A U H :=
  ⟨fun i hi => by rw [h1 i hi, h2 i hi, h3 i hi, h4 i hi]; exact h.1 i hi, fun i j hi hj e => h.2 i j hi hj (by rw [← h1 i hi, ← h1 j hj]; exact e)⟩
/-- what a string's words say -/
def lg_sp (s : State) (args : Array Value) (i : Nat) : Prop := (Cond.exactly (lg_s i) "java/lang/String").before args s = true ∧ (Cond.eq (.field (lg_s i) "java/lang/String" "coder" "B") (.int 0)).before args s = true ∧ (Cond.arrayOf (lg_v i) .byte).before args s = true ∧ (Cond.eq (.length (lg_v i)) (.int (Int32.ofNat (lg_lenL.getD i 0)))).before args s = true ∧
      (∀ j, j < lg_lenL.getD i 0 → (Cond.eq (.elem (lg_v i) (.int (Int32.ofNat j))) (.int ((lg_bytL.getD i []).getD j 0))).before args s = true) ∧ (∀ j, j < 13 → i ≠ j → (Cond.not (Cond.eq (lg_s i) (lg_s j))).before args s = true ∨ (Cond.not (Cond.eq (lg_s j) (lg_s i))).before args s = true) ∧ (Cond.stringRef (lg_so i).1 (lg_so i).2 (lg_tx i)).before args s = true ∧ lg_lenL.getD i 0 < 100
theorem lg_sp_of (hts : ∀ w ∈ lw_tbl, w.before args s = true) (hns : ∀ w ∈ lg_F, w.before args s = true) {i : Nat} (hi : i < 13) : lg_sp s args i := by
  have h := List.all_eq_true.mp lg_str i (List.mem_range.mpr hi)
  simp only [Bool.and_eq_true] at h
  obtain ⟨⟨⟨⟨h1, h2⟩, h3⟩, h4⟩, h5⟩ := h
  refine ⟨lg_i_spec hns h1, lg_i_spec hns h2, lg_i_spec hns h3, lg_i_spec hns h4, fun j hj => lg_i_spec hns (List.all_eq_true.mp (List.all_eq_true.mp lg_chr i (List.mem_range.mpr hi)) j (List.mem_range.mpr hj)), fun j hj hij => ?_, lg_t_spec hts (List.all_eq_true.mp lg_ref i (List.mem_range.mpr hi)), Nat.blt_eq.mp h5⟩
  have h9 := List.all_eq_true.mp (List.all_eq_true.mp lg_dif i (List.mem_range.mpr hi)) j (List.mem_range.mpr hj)
  rw [Bool.or_eq_true] at h9
  rcases h9 with h9 | h9
  · exact absurd (Nat.eq_of_beq_eq_true h9) hij
  · cases hb : Nat.beq (lg_d i j % 2) 0 with
    | true => rw [hb] at h9; exact Or.inl (lg_i_spec hns h9)
    | false => rw [hb] at h9; exact Or.inr (lg_i_spec hns h9)
end LGA2
