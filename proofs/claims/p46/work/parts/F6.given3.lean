section LGA3
variable {s : State} {args : Array Value}
theorem lg_14 {α : Type} {L : List (List α)} {o : Nat} {q : α} (hL : L.length = 14) (hq : q ∈ L.getD o []) : o < 14 := by
  by_cases h : o < 14
  · exact h
  · rw [List.getD_eq_getElem?_getD, List.getElem?_eq_none (by omega)] at hq
    cases hq
theorem lg_dig (hns : ∀ w ∈ lg_F, w.before args s = true) (hA : ∀ a : Nat, a < s.heap.size → ¬ (s.heap.size ≤ a)) {tm : Term} {k i : Nat} (harr : lg_n (.arrayOf tm .byte) = true) (hlen : lg_n (.eq (.length tm) (.int (Int32.ofNat 100))) = true) (hd : (List.range 100).all (fun j => decide (lg_F[k + j]? = some (Cond.eq (.elem tm (.int (Int32.ofNat j))) (.int (tm_dg i j))))) = true) :
    ∃ t : Nat, tm.eval args s none [] s = some (.ref t) ∧ va_T .byte t 100 (fun j => .int (tm_dg i j)) (fun q => s.heap.size ≤ q) s s.heap :=
  va_Tof (by decide) (lg_n_spec hns harr) (va_eqt (lg_n_spec hns hlen)) (fun j hj => va_eqt (lg_i_spec hns (List.all_eq_true.mp hd j (List.mem_range.mpr hj)))) hA
set_option maxHeartbeats 4000000 in
/-- what the start gives, in the words of this text -/
theorem lg_given {b : Nat} {X : tm_X} (hX : va_X b X.1 X.2 s s.heap) (hb : b < s.heap.size) (hts : ∀ w ∈ lw_tbl, w.before args s = true) (hns : ∀ w ∈ lg_F, w.before args s = true) : ∃ (al aV : Nat → Nat) (dC : Nat → ClassId) (dI : Nat → Nat → Nat) (aC : Nat → ClassId),
    (∀ k, k < 205 → al k = s.heap.size + k) ∧ al 950 = b ∧ va_K (dC, dI) vwCl (tm_tys aC) s ∧ am_Fx al aV (fun q => s.heap.size ≤ q) s s.heap ∧ tm_Fx al X (fun q => s.heap.size ≤ q) s s.heap ∧ (∀ w ∈ dm_NB, va_Nw w s) ∧ ∀ w ∈ cn_NB, va_Nw w s := by
  have he := lg_etc
  simp only [Bool.and_eq_true] at he
  obtain ⟨⟨⟨⟨⟨⟨⟨⟨⟨⟨⟨⟨⟨⟨⟨⟨e1, e2⟩, e3⟩, e4⟩, e5⟩, e6⟩, e7⟩, e8⟩, e9⟩, e10⟩, e11⟩, e12⟩, e13⟩, e14⟩, e15⟩, e16⟩, e17⟩ := he
  have he2 := lg_et2
  simp only [Bool.and_eq_true] at he2
  obtain ⟨⟨⟨⟨⟨⟨⟨⟨⟨⟨⟨⟨⟨⟨g1, g2⟩, g3⟩, g4⟩, g5⟩, g6⟩, g7⟩, g8⟩, g9⟩, g10⟩, g11⟩, g12⟩, g13⟩, g14⟩, g15⟩ := he2
  obtain ⟨dC, dI, hdC⟩ := lg_dC hts
  obtain ⟨aC, haC, haB⟩ := lg_aC hts
  have hA : ∀ a : Nat, a < s.heap.size → ¬ (s.heap.size ≤ a) := fun a h => by omega
  have hK : va_K (dC, dI) vwCl (tm_tys aC) s := ⟨hdC, fun t q hq => by
    have hl : (tm_tys aC).length = 8 := by simp [tm_tys, am_tys]
    have ht : t < 8 := by
      have := (List.getElem?_eq_some_iff.mp hq).1
      omega
    by_cases h7 : t < 7
    · have e : (tm_tys aC)[t]? = (am_tys aC)[t]? := List.getElem?_append_left (by simp [am_tys]; omega)
      rw [e, cn_ty h7] at hq
      cases hq
      exact haC t h7
    · rw [show t = 7 by omega, tm_tys7] at hq
      cases hq
      exact haB⟩
  have hsf : ∀ q ∈ am_sfL, ∃ t, am_len q.1 = 2 ∧ (Term.static q.2.1 q.2.2.1 q.2.2.2).eval args s none [] s = some (.ref t) ∧ va_X t 2 (am_sx q.1) s s.heap ∧ t < s.heap.size ∧ va_Z q.2.1 q.2.2.1 q.2.2.2 (.ref t) (fun q => s.heap.size ≤ q) s s.heap := by
    intro q hq
    have h := List.all_eq_true.mp lg_sf q hq
    simp only [Bool.and_eq_true] at h
    obtain ⟨⟨⟨⟨⟨⟨h1, h2⟩, h3⟩, h4⟩, h5⟩, h6⟩, h7⟩ := h
    obtain ⟨t, ht, hX, hlt⟩ := lg_X (xs := am_sx q.1) (lg_n_spec hns h3) (lg_n_spec hns h5) (lg_n_spec hns h6) (lg_n_spec hns h7)
    exact ⟨t, Nat.eq_of_beq_eq_true h4, ht, hX, hlt, va_Zref (lg_t_spec hts h1) (lg_t_spec hts h2) ht hA⟩
  obtain ⟨t0, a0, -, b0, c0, d0⟩ := hsf (205, "SharedConsole", "INITIAL_SETTING", "[I") (by simp [am_sfL])
  obtain ⟨t1, a1, -, b1, c1, d1⟩ := hsf (206, "SharedConsole", "LEAST_SETTING", "[I") (by simp [am_sfL])
  obtain ⟨t2, a2, -, b2, c2, d2⟩ := hsf (207, "SharedConsole", "MOST_SETTING", "[I") (by simp [am_sfL])
  have hstr : ∀ i, i < 13 → lg_sp s args i := fun i hi => lg_sp_of hts hns hi
  obtain ⟨hq5, hq8⟩ := lg_eql
  obtain ⟨ad, aV, hS, hSe⟩ := vk_Sof (args := args) (s := s) (N := 5) (tm := lg_s) (len := lg_lenL) (byt := lg_bytL) (A := fun q => s.heap.size ≤ q) (fun i hi => Nat.lt_trans (hstr i (by omega)).2.2.2.2.2.2.2 (by decide)) (fun i hi => (hstr i (by omega)).1) (fun i hi => (hstr i (by omega)).2.1) (fun i hi => (hstr i (by omega)).2.2.1) (fun i hi => (hstr i (by omega)).2.2.2.1) (fun i hi j hj => (hstr i (by omega)).2.2.2.2.1 j hj) (fun i j hi hj hij => (hstr i (by omega)).2.2.2.2.2.1 j (by omega) hij) hA
  have hl8 : ∀ i, i < 8 → tm_slL.getD i 0 = lg_lenL.getD (5 + i) 0 := fun i hi => (hq8 i hi).1.symm
  have hb8 : ∀ i, i < 8 → tm_sbL.getD i [] = lg_bytL.getD (5 + i) [] := fun i hi => (hq8 i hi).2.1.symm
  obtain ⟨ae, af, hT, hTe⟩ := vk_Sof (args := args) (s := s) (N := 8) (tm := fun i => lg_s (5 + i)) (len := tm_slL) (byt := tm_sbL) (A := fun q => s.heap.size ≤ q) (fun i hi => by rw [hl8 i hi]; exact Nat.lt_trans (hstr (5 + i) (by omega)).2.2.2.2.2.2.2 (by decide)) (fun i hi => (hstr (5 + i) (by omega)).1) (fun i hi => (hstr (5 + i) (by omega)).2.1) (fun i hi => (hstr (5 + i) (by omega)).2.2.1) (fun i hi => by rw [hl8 i hi]; exact (hstr (5 + i) (by omega)).2.2.2.1) (fun i hi j hj => by rw [hl8 i hi] at hj; rw [hb8 i hi]; exact (hstr (5 + i) (by omega)).2.2.2.2.1 j hj) (fun i j hi hj hij => (hstr (5 + i) (by omega)).2.2.2.2.2.1 (5 + j) (by omega) (by omega)) hA
  obtain ⟨w0, hw0, hW0⟩ := lg_dig hns hA g12 g14 lg_dig0
  obtain ⟨w1, hw1, hW1⟩ := lg_dig hns hA g13 g15 lg_dig1
  obtain ⟨al, hal, ⟨p0, p1, p2⟩, hal5, hal8, halb, q0, q1, q2⟩ := lg_al s.heap.size t0 t1 t2 w0 w1 b ad ae af
  refine ⟨al, aV, dC, dI, aC, hal, q2, hK, ⟨?_, ?_, ?_, ?_, ?_, ?_, ?_, ?_, ?_, ?_, ?_, ?_, ?_⟩, ⟨?_, ?_, ?_, ⟨?_, ?_⟩, ⟨?_, ?_⟩, ?_, ?_, ?_, ?_, ?_⟩, fun w hw => ?_, fun w hw => ?_⟩
  · intro q hq
    simp only [am_sfL, List.mem_cons, List.not_mem_nil, or_false] at hq
    rcases hq with rfl | rfl | rfl
    · show va_X (al 205) _ _ _ _ ∧ _ ∧ al 205 < _ ∧ va_Z _ _ _ (.ref (al 205)) _ _ _
      rw [p0]
      exact ⟨by rw [a0]; exact b0, hA _ c0, c0, d0⟩
    · show va_X (al 206) _ _ _ _ ∧ _ ∧ al 206 < _ ∧ va_Z _ _ _ (.ref (al 206)) _ _ _
      rw [p1]
      exact ⟨by rw [a1]; exact b1, hA _ c1, c1, d1⟩
    · show va_X (al 207) _ _ _ _ ∧ _ ∧ al 207 < _ ∧ va_Z _ _ _ (.ref (al 207)) _ _ _
      rw [p2]
      exact ⟨by rw [a2]; exact b2, hA _ c2, c2, d2⟩
  · exact vx_Zqof (lg_t_spec hts e12) (lg_t_spec hts e14) (lg_n_spec hns e15) hA
  · exact vx_Zqof (lg_t_spec hts e13) (lg_t_spec hts e14) (lg_n_spec hns e16) hA
  · exact lg_vkc hS (fun i hi => hal5 i hi) (fun i hi => rfl) (fun i hi => (hq5 i hi).1.symm) (fun i hi => (hq5 i hi).2.1.symm)
  · intro o q i hq hi
    have ho : o < 14 := lg_14 (by decide) hq
    have h := List.all_eq_true.mp (List.all_eq_true.mp lg_ck o (List.mem_range.mpr ho)) q hq
    rw [hi] at h
    have h : (Nat.ble 208 i && Nat.blt i 213 && decide (lg_so (i - 208) = (am_R o, q.1))) = true := h
    simp only [Bool.and_eq_true] at h
    have h1 := Nat.le_of_ble_eq_true h.1.1
    have h2 := Nat.blt_eq.mp h.1.2
    have h3 := of_decide_eq_true h.2
    obtain ⟨j, rfl⟩ : ∃ j, i = 208 + j := ⟨i - 208, by omega⟩
    rw [Nat.add_sub_cancel_left] at h3
    have hj : j < 5 := by omega
    have k1 := (hstr j (by omega)).2.2.2.2.2.2.1
    have k2 := hSe j hj
    unfold lg_s at k2
    rw [h3] at k1 k2
    rw [(hq5 j hj).2.2] at k1
    have e : 208 + j - am_s0 = j := Nat.add_sub_cancel_left 208 j
    rw [e, hal5 j hj]
    exact vk_R.of k1 k2
  · intro w hw
    exact lg_nw (lg_t_spec hts (List.all_eq_true.mp e1 w hw)) (am_TB_ot w hw)
  · exact lg_nw (lg_t_spec hts e2) rfl
  · intro o q z hq hz hzq
    have ho : o < 14 := lg_14 (by decide) hq
    have h := List.all_eq_true.mp (List.all_eq_true.mp (List.all_eq_true.mp lg_sk o (List.mem_range.mpr ho)) q hq) z hz
    rw [Bool.or_eq_true, Bool.or_eq_true, Bool.and_eq_true, Bool.and_eq_true] at h
    rcases h with (h | h) | h
    · rw [hzq, Nat.beq_refl] at h; cases h
    · exact Or.inl ⟨Nat.eq_of_beq_eq_true h.1, lg_nw (lg_t_spec hts h.2) rfl⟩
    · exact Or.inr ⟨Nat.eq_of_beq_eq_true h.1, lg_nw (lg_t_spec hts h.2) rfl⟩
  · intro o q v hq hv
    have ho : o < 14 := lg_14 (by decide) hq
    have h := List.all_eq_true.mp (List.all_eq_true.mp lg_ck o (List.mem_range.mpr ho)) q hq
    rw [hv] at h
    exact lg_nw (lg_t_spec hts h) rfl
  · exact lg_nw (lg_t_spec hts e3) rfl
  · exact lg_nw (lg_t_spec hts e4) rfl
  · exact va_Zof (lg_t_spec hts e6) (lg_t_spec hts e7) (va_eqi (lg_n_spec hns e8)) hA
  · exact va_Zqof (lg_t_spec hts e9) (lg_t_spec hts e10) (lg_n_spec hns e11) hA
  · exact lg_vkc hT (fun i hi => hal8 i hi) (fun i hi => halb i hi) (fun i hi => rfl) (fun i hi => rfl)
  · intro q hq
    have hr : q.2 < 8 ∧ lg_so (5 + q.2) = (RL, q.1) := by
      simp only [tm_rs, List.mem_cons, List.not_mem_nil, or_false] at hq
      rcases hq with rfl | rfl | rfl | rfl | rfl | rfl | rfl | rfl <;> exact ⟨by decide, rfl⟩
    have k1 := (hstr (5 + q.2) (by omega)).2.2.2.2.2.2.1
    have k2 := hTe q.2 hr.1
    have k2 : (Term.string (lg_so (5 + q.2)).1 (lg_so (5 + q.2)).2).eval args s none [] s = some (.ref (ae q.2)) := k2
    rw [hr.2] at k1 k2
    rw [(hq8 q.2 hr.1).2.2] at k1
    rw [hal8 q.2 hr.1]
    exact vk_R.of k1 k2
  · intro q hq
    exact lg_nw (lg_t_spec hts (List.all_eq_true.mp g2 q hq)) rfl
  · rw [q0]; exact hW0
  · rw [q0]; exact va_Zref (lg_t_spec hts g9) (lg_t_spec hts g11) hw0 hA
  · rw [q1]; exact hW1
  · rw [q1]; exact va_Zref (lg_t_spec hts g10) (lg_t_spec hts g11) hw1 hA
  · rw [q2]; exact hX
  · rw [q2]; exact hA _ hb
  · rw [q2]; exact hb
  · intro y hy
    have h := List.all_eq_true.mp g4 y hy
    simp only [Bool.and_eq_true, decide_eq_true_eq] at h
    obtain ⟨⟨⟨⟨h1, h2⟩, h3⟩, h4⟩, h5⟩ := h
    exact lg_nw (tm_sel_priv ⟨h3, h4⟩ (lg_t_spec hts g3) h5 (lg_t_spec hts h1) (lg_t_spec hts h2)) rfl
  · have h : (Cond.castable "[B" "java/lang/Cloneable").before args s = true := lg_t_spec hts g5
    exact lg_nw h rfl
  · have h := lg_t_spec hts (List.all_eq_true.mp g1 w hw)
    simp only [dm_NB, List.mem_cons, List.not_mem_nil, or_false] at hw
    rcases hw with rfl | rfl | rfl | rfl | rfl | rfl | rfl | rfl | rfl | rfl | rfl | rfl | rfl | rfl | rfl | rfl
    all_goals first | exact lg_nw h rfl | exact h
  · have h := lg_t_spec hts (List.all_eq_true.mp e5 w hw)
    simp only [cn_NB, List.mem_cons, List.not_mem_nil, or_false] at hw
    rcases hw with rfl | rfl | rfl | rfl | rfl | rfl | rfl | rfl | rfl | rfl | rfl
    all_goals first | exact lg_nw h rfl | exact h
end LGA3
