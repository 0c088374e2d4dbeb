section DM8
def dm_lA : List (Nat × Nat × Nat) := [(36, (1, 1)), (26, (1, 2)), (39, (1, 3)), (42, (1, 0))]
def dm_lB : List (Nat × Nat × Nat) := [(162, (2, 0)), (169, (2, 4)), (172, (2, 5)), (176, (3, 6)), (218, (4, 0))]
def dm_dsc (m n : Nat) : Bool := decide ((parseMethodDescriptor (dm_y m).desc).map (fun d => d.parameters.length) = some n)
def dm_lok (q : Nat × Nat × Nat) : Bool :=
  bif Nat.beq q.2.1 1 then Nat.blt q.2.2 6 && dm_inT (.methodLink RX10 q.1 (dm_y q.2.2)) && dm_inT (.instanceMethod (dm_y q.2.2)) && dm_inT (.selects RX10 (dm_y q.2.2) (dm_y q.2.2)) && dm_inT (.initialized RX10) && dm_dsc q.2.2 (dm_na q.2.2 - 1) && Nat.ble 1 (dm_na q.2.2)
  else bif Nat.beq q.2.1 2 then Nat.blt q.2.2 6 && decide (Cond.methodLinkNest RL q.1 (dm_y q.2.2) RL ∈ dm_NB) && dm_inT (.instanceMethod (dm_y q.2.2)) && dm_inT (.selects RX10 (dm_y q.2.2) (dm_y q.2.2)) && dm_inT (.initialized RX10) && dm_dsc q.2.2 (dm_na q.2.2 - 1) && Nat.ble 1 (dm_na q.2.2)
  else bif Nat.beq q.2.1 3 then Nat.beq q.2.2 6 && dm_inT (.methodLink RL q.1 (dm_y q.2.2)) && dm_inT (.static (dm_y q.2.2)) && dm_inT (.initialized RL) && dm_dsc q.2.2 (dm_na q.2.2)
  else Nat.beq q.1 218 && decide (am_mk 108 218 = some (1, 0))
set_option maxRecDepth 100000 in
theorem dm_lA_ok : dm_lA.all (fun q => dm_lok q && Nat.beq q.2.1 1) = true := by decide +kernel
set_option maxRecDepth 100000 in
theorem dm_lB_ok : dm_lB.all (fun q => dm_lok q && (Nat.beq q.2.1 2 || Nat.beq q.2.1 3 || Nat.beq q.2.1 4)) = true := by decide +kernel
set_option maxRecDepth 100000 in
theorem dm_cw0 : (Cond.code (dm_y 0) (dm_cc 0) (dm_ml 0) (dm_re 0)) ∈ am_AT := List.mem_filter.mpr ⟨List.mem_of_getElem? (i := 1089) (by rfl), by rfl⟩
set_option maxRecDepth 100000 in
theorem dm_cw1 : (Cond.code (dm_y 1) (dm_cc 1) (dm_ml 1) (dm_re 1)) ∈ am_AT := List.mem_filter.mpr ⟨List.mem_of_getElem? (i := 1106) (by rfl), by rfl⟩
set_option maxRecDepth 100000 in
theorem dm_cw2 : (Cond.code (dm_y 2) (dm_cc 2) (dm_ml 2) (dm_re 2)) ∈ am_AT := List.mem_filter.mpr ⟨List.mem_of_getElem? (i := 1110) (by rfl), by rfl⟩
set_option maxRecDepth 100000 in
theorem dm_cw3 : (Cond.code (dm_y 3) (dm_cc 3) (dm_ml 3) (dm_re 3)) ∈ am_AT := List.mem_filter.mpr ⟨List.mem_of_getElem? (i := 1102) (by rfl), by rfl⟩
set_option maxRecDepth 100000 in
theorem dm_cw4 : (Cond.code (dm_y 4) (dm_cc 4) (dm_ml 4) (dm_re 4)) ∈ am_AT := List.mem_filter.mpr ⟨List.mem_of_getElem? (i := 1098) (by rfl), by rfl⟩
set_option maxRecDepth 100000 in
theorem dm_cw5 : (Cond.code (dm_y 5) (dm_cc 5) (dm_ml 5) (dm_re 5)) ∈ am_AT := List.mem_filter.mpr ⟨List.mem_of_getElem? (i := 1115) (by rfl), by rfl⟩
set_option maxRecDepth 100000 in
theorem dm_cw6 : (Cond.code (dm_y 6) (dm_cc 6) (dm_ml 6) (dm_re 6)) ∈ am_AT := List.mem_filter.mpr ⟨List.mem_of_getElem? (i := 1053) (by rfl), by rfl⟩
set_option maxRecDepth 100000 in
theorem dm_cw7 : (Cond.code (dm_y 7) (dm_cc 7) (dm_ml 7) (dm_re 7)) ∈ am_AT := List.mem_filter.mpr ⟨List.mem_of_getElem? (i := 1050) (by rfl), by rfl⟩
set_option maxRecDepth 100000 in
theorem dm_cw8 : (Cond.code (dm_y 8) (dm_cc 8) (dm_ml 8) (dm_re 8)) ∈ am_AT := List.mem_filter.mpr ⟨List.mem_of_getElem? (i := 1200) (by rfl), by rfl⟩
set_option maxRecDepth 100000 in
theorem dm_cw9 : (Cond.code (dm_y 9) (dm_cc 9) (dm_ml 9) (dm_re 9)) ∈ am_AT := List.mem_filter.mpr ⟨List.mem_of_getElem? (i := 1233) (by rfl), by rfl⟩
set_option maxRecDepth 100000 in
theorem dm_md : (List.range 10).all (fun m => decide ((dm_y m).cls = dm_own m) && plainName (dm_y m).cls && decide ((dm_y m).cls ≠ "java/lang/invoke/MethodHandle") && decide ((dm_y m).cls ≠ "java/lang/invoke/VarHandle")) = true := by decide +kernel
theorem dm_md_spec {m : Nat} (hm : m < 10) : (Cond.code (dm_y m) (dm_cc m) (dm_ml m) (dm_re m)) ∈ am_AT ∧ (dm_y m).cls = dm_own m ∧ plainName (dm_y m).cls = true ∧ (dm_y m).cls ≠ "java/lang/invoke/MethodHandle" ∧ (dm_y m).cls ≠ "java/lang/invoke/VarHandle" := by
  have h := List.all_eq_true.mp dm_md m (List.mem_range.mpr hm)
  simp only [Bool.and_eq_true, decide_eq_true_eq] at h
  obtain ⟨⟨⟨h2, h3⟩, h4⟩, h5⟩ := h
  refine ⟨?_, h2, h3, h4, h5⟩
  match m, hm with
  | 0, _ => exact dm_cw0
  | 1, _ => exact dm_cw1
  | 2, _ => exact dm_cw2
  | 3, _ => exact dm_cw3
  | 4, _ => exact dm_cw4
  | 5, _ => exact dm_cw5
  | 6, _ => exact dm_cw6
  | 7, _ => exact dm_cw7
  | 8, _ => exact dm_cw8
  | 9, _ => exact dm_cw9
  | n + 10, h => exact absurd h (by omega)
theorem dm_mk_spec {me ix kd mid : Nat} (h : dm_mk me ix = some (kd, mid)) :
    (kd = 0 ∧ 6 ≤ me ∧ am_mk 108 ix = some (0, mid)) ∨
    (kd = 4 ∧ 6 ≤ me ∧ am_mk 108 ix = some (1, 0)) ∨
    ((kd = 1 ∨ kd = 2) ∧ mid < 6 ∧ ((kd = 1 ∧ me < 6 ∧ (Cond.methodLink RX10 ix (dm_y mid)) ∈ am_AT) ∨ (kd = 2 ∧ 6 ≤ me ∧ Cond.methodLinkNest RL ix (dm_y mid) RL ∈ dm_NB)) ∧ (Cond.instanceMethod (dm_y mid)) ∈ am_AT ∧ (Cond.selects RX10 (dm_y mid) (dm_y mid)) ∈ am_AT ∧ (Cond.initialized RX10) ∈ am_AT ∧ (parseMethodDescriptor (dm_y mid).desc).map (fun d => d.parameters.length) = some (dm_na mid - 1) ∧ 1 ≤ dm_na mid) ∨
    (kd = 3 ∧ mid = 6 ∧ 6 ≤ me ∧ (Cond.methodLink RL ix (dm_y mid)) ∈ am_AT ∧ (Cond.static (dm_y mid)) ∈ am_AT ∧ (Cond.initialized RL) ∈ am_AT ∧ (parseMethodDescriptor (dm_y mid).desc).map (fun d => d.parameters.length) = some (dm_na mid)) := by
  unfold dm_mk at h
  cases hm : Nat.blt me 6 with
  | true =>
    rw [hm] at h
    have h1 := List.all_eq_true.mp dm_lA_ok _ (am_lk_mem _ _ _ h)
    rw [Bool.and_eq_true] at h1
    obtain ⟨h1, h2⟩ := h1
    have h2 : kd = 1 := Nat.eq_of_beq_eq_true h2
    subst h2
    simp only [dm_lok, Nat.beq, cond_true, Bool.and_eq_true] at h1
    obtain ⟨⟨⟨⟨⟨⟨a1, a2⟩, a3⟩, a4⟩, a5⟩, a6⟩, a7⟩ := h1
    exact Or.inr (Or.inr (Or.inl ⟨Or.inl rfl, Nat.blt_eq.mp a1, Or.inl ⟨rfl, Nat.blt_eq.mp hm, dm_inT_spec a2⟩, dm_inT_spec a3, dm_inT_spec a4, dm_inT_spec a5, of_decide_eq_true a6, Nat.le_of_ble_eq_true a7⟩))
  | false =>
    have hm6 : 6 ≤ me := by
      refine Nat.not_lt.mp (fun z => ?_)
      rw [Nat.blt_eq.mpr z] at hm
      cases hm
    rw [hm] at h
    have h : (match am_lk dm_lB ix with
      | some q => some q
      | none => (am_mk 108 ix).bind (fun q => bif Nat.beq q.1 0 then some (0, q.2) else none)) = some (kd, mid) := h
    cases hl : am_lk dm_lB ix with
    | none =>
      rw [hl] at h
      have h : (am_mk 108 ix).bind (fun q => bif Nat.beq q.1 0 then some (0, q.2) else none) = some (kd, mid) := h
      cases ha : am_mk 108 ix with
      | none => rw [ha] at h; cases h
      | some q =>
        rw [ha] at h
        obtain ⟨k0, m0⟩ := q
        have h : (bif Nat.beq k0 0 then some (0, m0) else none) = some (kd, mid) := h
        cases hk : Nat.beq k0 0 with
        | false => rw [hk] at h; cases h
        | true =>
          rw [hk] at h
          cases h
          cases Nat.eq_of_beq_eq_true hk
          exact Or.inl ⟨rfl, hm6, rfl⟩
    | some q =>
      rw [hl] at h
      have h : some q = some (kd, mid) := h
      cases h
      have h1 := List.all_eq_true.mp dm_lB_ok _ (am_lk_mem _ _ _ hl)
      rw [Bool.and_eq_true, Bool.or_eq_true, Bool.or_eq_true] at h1
      obtain ⟨h1, h2⟩ := h1
      rcases h2 with (h2 | h2) | h2
      · have h2 : kd = 2 := Nat.eq_of_beq_eq_true h2
        subst h2
        simp only [dm_lok, Nat.beq, cond_true, cond_false, Bool.and_eq_true] at h1
        obtain ⟨⟨⟨⟨⟨⟨a1, a2⟩, a3⟩, a4⟩, a5⟩, a6⟩, a7⟩ := h1
        exact Or.inr (Or.inr (Or.inl ⟨Or.inr rfl, Nat.blt_eq.mp a1, Or.inr ⟨rfl, hm6, of_decide_eq_true a2⟩, dm_inT_spec a3, dm_inT_spec a4, dm_inT_spec a5, of_decide_eq_true a6, Nat.le_of_ble_eq_true a7⟩))
      · have h2 : kd = 3 := Nat.eq_of_beq_eq_true h2
        subst h2
        simp only [dm_lok, Nat.beq, cond_true, cond_false, Bool.and_eq_true] at h1
        obtain ⟨⟨⟨⟨a1, a2⟩, a3⟩, a4⟩, a5⟩ := h1
        exact Or.inr (Or.inr (Or.inr ⟨rfl, Nat.eq_of_beq_eq_true a1, hm6, dm_inT_spec a2, dm_inT_spec a3, dm_inT_spec a4, of_decide_eq_true a5⟩))
      · have h2 : kd = 4 := Nat.eq_of_beq_eq_true h2
        subst h2
        simp only [dm_lok, Nat.beq, cond_false, Bool.and_eq_true] at h1
        have e1 : ix = 218 := Nat.eq_of_beq_eq_true h1.1
        rw [e1]
        exact Or.inr (Or.inl ⟨rfl, hm6, of_decide_eq_true h1.2⟩)
variable {p : Program} {l : Launch} {e : Env} {R : Room} {s : State} {m : MethodId} {args : Array Value} {below : List Frame} {meth : Method} {c : Code} {Q : State → Prop}
variable {al : Nat → Nat} {dC : Nat → ClassId} {dI : Nat → Nat → Nat} {aC : Nat → ClassId} {aV : Nat → Nat} {x0 x1 : Nat}
/-- behind a call of one of the law's own methods -/
theorem dm_end {H : Heap} {locs : List Loc} {ls : Array Slot} {cells slots mc ms pc : Nat} {st0 rest : List Value} {v : Option Value} {S' : dm_S} {fa : Array Value} (hS : va_S (fun q => x0 ≤ q) s.heap H locs)
    (hr : va_Run p l e R s m args below meth c H locs cells slots mc ms (F0 m pc ls st0) rest (dm_Q al dC dI aC x0 x1 v S' fa) (fun q => x0 ≤ q))
    (kk : ∀ (H1 : Heap) (locs1 : List Loc), va_P (dC, dI) vwCl (dm_W al aC x1 S') H1 → va_S (fun q => x0 ≤ q) s.heap H1 locs1 → W p l e R s m args below meth c H1 locs1 (cells + mc) (slots + ms) Q (F0 m (pc + 3) ls ((v.map (am_rl (dm_al al x1))).toList ++ rest))) : W p l e R s m args below meth c H locs cells slots Q (F0 m pc ls st0) := by
  intro T hT X
  obtain ⟨v2, st₀, t, T', L, h00, X', hL, e1, e2, ⟨q1, q2, q3, q4⟩, stp⟩ := hr T hT X
  obtain ⟨k1, k2, k3⟩ := vx_keep (A0 := fun q => x0 ≤ q) h00 e1 hS (fun q _ z => z) (fun q z => z) hL q4
  cases Outcome.returned.inj q1
  obtain ⟨t2, a1, b1⟩ := kk T'.heap (locs ++ L) (by rw [e1]; exact q3) k3 T' rfl X'
  exact ⟨t2, stp t2 a1, b1⟩
theorem dm_PC {S : dm_S} {D : va_G} {cl : List vw_C} {H : Heap} (hP : va_P D cl (dm_W al aC x1 S) H) : va_P D cl (am_W al aC (dm_h S)) H := by
  intro k q hk
  refine hP k q ?_
  unfold dm_W
  rw [List.getElem?_append_left (List.getElem?_eq_some_iff.mp hk).1]
  exact hk
theorem dm_PJ {S : dm_S} {h' : am_Hp} {D : va_G} {cl : List vw_C} {H H1 : Heap} (hA : dm_Al al x0 x1) (hP : va_P D cl (dm_W al aC x1 S) H) (hP1 : va_P D cl (am_W al aC h') H1) (hq : ∀ q : Nat, q < H.size → ¬ am_A al H.size q → H1[q]? = H[q]?) : va_P D cl (dm_W al aC x1 (dm_sh S h')) H1 := by
  intro i q hi
  rcases dm_at2 hi with ⟨j1, j2⟩ | ⟨j, j2, j3⟩
  · rw [j2]
    exact hP1 i _ (am_W_get (show i < am_n0 from j1))
  · rw [j3]
    have j2 : j < dm_n S - 1000 := j2
    have h9 := hP _ _ (dm_get (al := al) (aC := aC) (x1 := x1) (S := S) (a := 1000 + j) (by omega) (by omega))
    have hlt := h9.lt
    rw [dm_al_hi (by omega), show 1000 + j - 1000 = j by omega] at h9 hlt
    have hlt : x1 + j < H.size := hlt
    refine h9.kept (hq _ hlt (fun z => ?_))
    rcases z with ⟨k, z1, z2⟩ | z
    · have z1 : k < 193 := z1
      have z2 : x1 + j = al k := z2
      rw [hA.1 k z1] at z2
      have := hA.2
      omega
    · have z : H.size ≤ x1 + j := z
      omega
theorem dm_As (hA : dm_Al al x0 x1) {H : Heap} (hx : x0 ≤ H.size) : ∀ q, am_A al H.size q → x0 ≤ q := by
  intro q z
  rcases z with ⟨k, h1, rfl⟩ | z
  · have h1 : k < 193 := h1
    rw [hA.1 k h1]
    omega
  · omega
end DM8
