section LWG3
variable {s : State} {args : Array Value}
theorem lg_al5 {x0 t0 t1 t2 : Nat} {ad : Nat → Nat} {i : Nat} : (if 208 + i < 205 then x0 + (208 + i) else if 208 + i = 205 then t0 else if 208 + i = 206 then t1 else if 208 + i = 207 then t2 else ad (208 + i - 208)) = ad i := by
  rw [if_neg (by omega), if_neg (by omega), if_neg (by omega), if_neg (by omega), Nat.add_sub_cancel_left]
theorem lg_nw {w : Cond} (h : w.before args s = true) (ho : w.onTables = true) : va_Nw w s := va_tabs ho rfl h
set_option maxHeartbeats 2000000 in
/-- what the start gives, in the words of this text -/
theorem lg_given (hts : ∀ w ∈ lw_tbl, w.before args s = true) (hns : ∀ w ∈ lg_F, w.before args s = true) : ∃ (al aV : Nat → Nat) (dC : Nat → ClassId) (dI : Nat → Nat → Nat) (aC : Nat → ClassId),
    (∀ k, k < 205 → al k = s.heap.size + k) ∧ va_K (dC, dI) vwCl (am_tys aC) s ∧ am_Fx al aV (fun q => s.heap.size ≤ q) s s.heap ∧ ∀ w ∈ cn_NB, va_Nw w s := by
  have he := lg_etc
  simp only [Bool.and_eq_true] at he
  obtain ⟨⟨⟨⟨⟨⟨⟨⟨⟨⟨⟨⟨⟨⟨⟨⟨e1, e2⟩, e3⟩, e4⟩, e5⟩, e6⟩, e7⟩, e8⟩, e9⟩, e10⟩, e11⟩, e12⟩, e13⟩, e14⟩, e15⟩, e16⟩, e17⟩ := he
  obtain ⟨dC, dI, hdC⟩ := lg_dC hts
  obtain ⟨aC, haC⟩ := lg_aC hts
  have hA : ∀ a : Nat, a < s.heap.size → ¬ (s.heap.size ≤ a) := fun a h => by omega
  have hK : va_K (dC, dI) vwCl (am_tys aC) s := ⟨hdC, fun t q hq => by
    have ht : t < 7 := by
      have := (List.getElem?_eq_some_iff.mp hq).1
      simpa [am_tys] using this
    rw [cn_ty ht] at hq
    cases hq
    exact haC t ht⟩
  have hsf : ∀ q ∈ am_sfL, ∃ t, am_len q.1 = 2 ∧ (Term.static q.2.1 q.2.2.1 q.2.2.2).eval args s none [] s = some (.ref t) ∧ va_X t 2 (am_sx q.1) s s.heap ∧ t < s.heap.size ∧ va_Z q.2.1 q.2.2.1 q.2.2.2 (.ref t) (fun q => s.heap.size ≤ q) s s.heap := by
    intro q hq
    have h := List.all_eq_true.mp lg_sf q hq
    simp only [Bool.and_eq_true] at h
    obtain ⟨⟨⟨⟨⟨⟨h1, h2⟩, h3⟩, h4⟩, h5⟩, h6⟩, h7⟩ := h
    obtain ⟨t, ht, hX, hlt⟩ := lg_X (xs := am_sx q.1) (lg_n_spec hns h3) (lg_n_spec hns h5) (lg_n_spec hns h6) (lg_n_spec hns h7)
    exact ⟨t, Nat.eq_of_beq_eq_true h4, ht, hX, hlt, va_Zref (lg_t_spec hts h1) (lg_t_spec hts h2) ht hA⟩
  obtain ⟨t0, a0, -, b0, c0, d0⟩ := hsf (205, "SharedConsole", "INITIAL_SETTING", "[I") (by simp [am_sfL])
  obtain ⟨t1, a1, -, b1, c1, d1⟩ := hsf (206, "SharedConsole", "LEAST_SETTING", "[I") (by simp [am_sfL])
  obtain ⟨t2, a2, -, b2, c2, d2⟩ := hsf (207, "SharedConsole", "MOST_SETTING", "[I") (by simp [am_sfL])
  have hstr : ∀ i, i < 7 → (Cond.exactly (lg_s i) "java/lang/String").before args s = true ∧ (Cond.eq (.field (lg_s i) "java/lang/String" "coder" "B") (.int 0)).before args s = true ∧ (Cond.arrayOf (lg_v i) .byte).before args s = true ∧ (Cond.eq (.length (lg_v i)) (.int (Int32.ofNat (lg_len i)))).before args s = true ∧
      (∀ j, j < lg_len i → (Cond.eq (.elem (lg_v i) (.int (Int32.ofNat j))) (.int (lg_byt i j))).before args s = true) ∧ (∀ j, j < 7 → i ≠ j → (Cond.not (Cond.eq (lg_s i) (lg_s j))).before args s = true ∨ (Cond.not (Cond.eq (lg_s j) (lg_s i))).before args s = true) ∧ (Cond.stringRef (lg_so i).1 (lg_so i).2 (am_stL.getD i "")).before args s = true ∧ lg_len i < 100 := by
    intro i hi
    have h := List.all_eq_true.mp lg_str i (List.mem_range.mpr hi)
    simp only [Bool.and_eq_true] at h
    obtain ⟨⟨⟨⟨⟨⟨⟨h1, h2⟩, h3⟩, h4⟩, h5⟩, h6⟩, h7⟩, h8⟩ := h
    refine ⟨lg_n_spec hns h1, lg_n_spec hns h2, lg_n_spec hns h3, lg_n_spec hns h4, fun j hj => lg_n_spec hns (List.all_eq_true.mp h5 j (List.mem_range.mpr hj)), fun j hj hij => ?_, lg_t_spec hts h7, Nat.blt_eq.mp h8⟩
    have h9 := List.all_eq_true.mp h6 j (List.mem_range.mpr hj)
    rw [Bool.or_eq_true, Bool.or_eq_true] at h9
    rcases h9 with (h9 | h9) | h9
    · exact absurd (Nat.eq_of_beq_eq_true h9) hij
    · exact Or.inl (lg_n_spec hns h9)
    · exact Or.inr (lg_n_spec hns h9)
  obtain ⟨ad, aV, hS, hSe⟩ := vk_Sof (args := args) (s := s) (N := 7) (tm := lg_s) (len := am_stL.map (fun t : String => t.length)) (byt := am_sbyt) (A := fun q => s.heap.size ≤ q) (fun i hi => Nat.lt_trans (hstr i hi).2.2.2.2.2.2.2 (by decide)) (fun i hi => (hstr i hi).1) (fun i hi => (hstr i hi).2.1) (fun i hi => (hstr i hi).2.2.1) (fun i hi => (hstr i hi).2.2.2.1) (fun i hi j hj => (hstr i hi).2.2.2.2.1 j hj) (fun i j hi hj hij => (hstr i hi).2.2.2.2.2.1 j hj hij) hA
  refine ⟨fun k => if k < 205 then s.heap.size + k else if k = 205 then t0 else if k = 206 then t1 else if k = 207 then t2 else ad (k - 208), aV, dC, dI, aC, fun k hk => if_pos hk, hK, ⟨?_, ?_, ?_, ?_, ?_, ?_, ?_, ?_, ?_, ?_, ?_, ?_, ?_⟩, fun w hw => ?_⟩
  · intro q hq
    simp only [am_sfL, List.mem_cons, List.not_mem_nil, or_false] at hq
    rcases hq with rfl | rfl | rfl
    · exact ⟨by rw [a0]; exact b0, hA _ c0, c0, d0⟩
    · exact ⟨by rw [a1]; exact b1, hA _ c1, c1, d1⟩
    · exact ⟨by rw [a2]; exact b2, hA _ c2, c2, d2⟩
  · exact vx_Zqof (lg_t_spec hts e12) (lg_t_spec hts e14) (lg_n_spec hns e15) hA
  · exact vx_Zqof (lg_t_spec hts e13) (lg_t_spec hts e14) (lg_n_spec hns e16) hA
  · have e : (fun i => (fun k => if k < 205 then s.heap.size + k else if k = 205 then t0 else if k = 206 then t1 else if k = 207 then t2 else ad (k - 208)) (am_s0 + i)) = ad := funext fun i => lg_al5
    rw [e]
    exact hS
  · intro o q i hq hi
    have ho : o < 13 := by
      by_cases h : o < 13
      · exact h
      · have : am_ckL.getD o [] = [] := by
          rw [List.getD_eq_getElem?_getD, List.getElem?_eq_none (by have : am_ckL.length = 13 := by decide
                                                                    omega)]; rfl
        rw [this] at hq
        cases hq
    have h := List.all_eq_true.mp (List.all_eq_true.mp lg_ck o (List.mem_range.mpr ho)) q hq
    rw [hi] at h
    have h : (Nat.ble 208 i && Nat.blt i 215 && decide (lg_so (i - 208) = (am_R o, q.1))) = true := h
    simp only [Bool.and_eq_true] at h
    have h1 := Nat.le_of_ble_eq_true h.1.1
    have h2 := Nat.blt_eq.mp h.1.2
    have h3 := of_decide_eq_true h.2
    obtain ⟨j, rfl⟩ : ∃ j, i = 208 + j := ⟨i - 208, by omega⟩
    rw [Nat.add_sub_cancel_left] at h3
    have hj : j < 7 := by omega
    have k1 := (hstr j hj).2.2.2.2.2.2.1
    have k2 := hSe j hj
    unfold lg_s at k2
    rw [h3] at k1 k2
    have e : 208 + j - am_s0 = j := Nat.add_sub_cancel_left 208 j
    rw [e]
    show vk_R (am_R o) q.1 (am_stL.getD j "") (if 208 + j < 205 then s.heap.size + (208 + j) else if 208 + j = 205 then t0 else if 208 + j = 206 then t1 else if 208 + j = 207 then t2 else ad (208 + j - 208)) s
    rw [lg_al5]
    exact vk_R.of k1 k2
  · intro w hw
    exact lg_nw (lg_t_spec hts (List.all_eq_true.mp e1 w hw)) (am_TB_ot w hw)
  · exact lg_nw (lg_t_spec hts e2) rfl
  · intro o q z hq hz hzq
    have ho : o < 13 := by
      by_cases h : o < 13
      · exact h
      · have : am_skL.getD o [] = [] := by
          rw [List.getD_eq_getElem?_getD, List.getElem?_eq_none (by have : am_skL.length = 13 := by decide
                                                                    omega)]; rfl
        rw [this] at hq
        cases hq
    have h := List.all_eq_true.mp (List.all_eq_true.mp (List.all_eq_true.mp lg_sk o (List.mem_range.mpr ho)) q hq) z hz
    rw [Bool.or_eq_true, Bool.or_eq_true, Bool.and_eq_true, Bool.and_eq_true] at h
    rcases h with (h | h) | h
    · rw [hzq, Nat.beq_refl] at h; cases h
    · exact Or.inl ⟨Nat.eq_of_beq_eq_true h.1, lg_nw (lg_t_spec hts h.2) rfl⟩
    · exact Or.inr ⟨Nat.eq_of_beq_eq_true h.1, lg_nw (lg_t_spec hts h.2) rfl⟩
  · intro o q v hq hv
    have ho : o < 13 := by
      by_cases h : o < 13
      · exact h
      · have : am_ckL.getD o [] = [] := by
          rw [List.getD_eq_getElem?_getD, List.getElem?_eq_none (by have : am_ckL.length = 13 := by decide
                                                                    omega)]; rfl
        rw [this] at hq
        cases hq
    have h := List.all_eq_true.mp (List.all_eq_true.mp lg_ck o (List.mem_range.mpr ho)) q hq
    rw [hv] at h
    exact lg_nw (lg_t_spec hts h) rfl
  · exact lg_nw (lg_t_spec hts e3) rfl
  · exact lg_nw (lg_t_spec hts e4) rfl
  · exact va_Zof (lg_t_spec hts e6) (lg_t_spec hts e7) (va_eqi (lg_n_spec hns e8)) hA
  · exact va_Zqof (lg_t_spec hts e9) (lg_t_spec hts e10) (lg_n_spec hns e11) hA
  · have h := lg_t_spec hts (List.all_eq_true.mp e5 w hw)
    simp only [cn_NB, List.mem_cons, List.not_mem_nil, or_false] at hw
    rcases hw with rfl | rfl | rfl | rfl | rfl | rfl | rfl | rfl | rfl | rfl | rfl
    all_goals first | exact lg_nw h rfl | exact h
end LWG3
