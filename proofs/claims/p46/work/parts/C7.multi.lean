section MULTI
variable {p : Program} {l : Launch} {e : Env} {R : Room} {s : State} {m : MethodId} {args : Array Value} {below : List Frame} {meth : Method} {c : Code} {Q : State → Prop}
variable {locs : List Loc} {cells slots : Nat}
/-- after i of the inner arrays -/
def mn_I (p : Program) (l : Launch) (e : Env) (R : Room) (s : State) (m : MethodId) (args : Array Value) (below : List Frame) (meth : Method) (c : Code) (locs : List Loc) (cells slots : Nat) (T0 : State) (cA cI : ClassId) (i : Nat) (U : State) : Prop :=
  Stand p l e R s m args below meth c U (locs ++ (List.range i).map (fun j => (⟨T0.heap.size, j⟩ : Loc))) (cells + 1 + i) (slots + 5 + i * 300) ∧ U.heap.size = T0.heap.size + 1 + i ∧ (∀ q : Nat, q < T0.heap.size → U.heap[q]? = T0.heap[q]?) ∧
  U.heap[T0.heap.size]? = some (arrV cA 5 (fun j => if j < i then .ref (T0.heap.size + 1 + j) else .null)) ∧ (∀ j : Nat, j < i → U.heap[T0.heap.size + 1 + j]? = some (arrV cI 300 (fun _ => .int 0))) ∧ U.vm = T0.vm ∧ U.slotsUsed = T0.slotsUsed + 5 + i * 300
theorem mn_0 {T0 : State} {cA cI : ClassId} (X : Stand p l e R s m args below meth c T0 locs cells slots) : mn_I p l e R s m args below meth c locs cells slots T0 cA cI 0 (T0.pushCell { cls := cA, slots := Array.replicate 5 .null }) := by
  have hX := X.pushed { cls := cA, slots := Array.replicate 5 .null }
  refine ⟨?_, ?_, ?_, ?_, ?_, rfl, ?_⟩
  · simpa using hX
  · show (T0.heap.push _).size = _
    rw [Array.size_push]
  · intro q hq
    show (T0.heap.push _)[q]? = _
    rw [Array.getElem?_push, if_neg (Nat.ne_of_lt hq)]
  · show (T0.heap.push _)[T0.heap.size]? = _
    rw [Array.getElem?_push_size]
    exact congrArg some (arrV_new cA 5 .null)
  · intro j hj
    omega
  · show T0.slotsUsed + (Array.replicate 5 Value.null).size = _
    rw [Array.size_replicate]
theorem mn_1 {T0 U : State} {cA cI : ClassId} {i : Nat} (hi : i < 5) (h : mn_I p l e R s m args below meth c locs cells slots T0 cA cI i U) :
    mn_I p l e R s m args below meth c locs cells slots T0 cA cI (i + 1) ((U.pushCell { cls := cI, slots := Array.replicate 300 (.int 0) }).setCell T0.heap.size ((arrV cA 5 (fun j => if j < i then .ref (T0.heap.size + 1 + j) else .null)).setSlot i (.ref U.heap.size))) := by
  obtain ⟨hX, h1, h2, h3, h4, h5, h6⟩ := h
  have hX1 := hX.pushed { cls := cI, slots := Array.replicate 300 (.int 0) }
  have hg : (U.pushCell { cls := cI, slots := Array.replicate 300 (.int 0) }).heap[T0.heap.size]? = some (arrV cA 5 (fun j => if j < i then .ref (T0.heap.size + 1 + j) else .null)) := by
    show (U.heap.push _)[T0.heap.size]? = _
    rw [Array.getElem?_push, if_neg (by omega)]
    exact h3
  have hX2 := hX1.stored hg i (.ref U.heap.size)
  refine ⟨?_, ?_, ?_, ?_, ?_, h5, ?_⟩
  · have e2 : (locs ++ (List.range (i + 1)).map (fun j => (⟨T0.heap.size, j⟩ : Loc))) = (locs ++ (List.range i).map (fun j => (⟨T0.heap.size, j⟩ : Loc))) ++ [⟨T0.heap.size, i⟩] := by simp [List.range_succ, List.append_assoc]
    rw [e2]
    have e3 : slots + 5 + (i + 1) * 300 = slots + 5 + i * 300 + (Array.replicate 300 (Value.int 0)).size := by rw [Array.size_replicate]; omega
    rw [e3]
    exact hX2
  · show ((U.heap.push _).setIfInBounds _ _).size = _
    rw [Array.size_setIfInBounds, Array.size_push, h1]
    omega
  · intro q hq
    show ((U.heap.push _).setIfInBounds _ _)[q]? = _
    rw [Array.getElem?_setIfInBounds, if_neg (by omega), Array.getElem?_push, if_neg (by omega)]
    exact h2 q hq
  · show ((U.heap.push _).setIfInBounds _ _)[T0.heap.size]? = _
    rw [Array.getElem?_setIfInBounds, if_pos rfl, if_pos (by rw [Array.size_push]; omega), arrV_store]
    congr 2
    funext j
    unfold updV
    by_cases hj : j = i
    · subst hj
      rw [if_pos rfl, if_pos (by omega), h1]
    · rw [if_neg hj]
      show (if j < i then Value.ref (T0.heap.size + 1 + j) else Value.null) = _
      by_cases hj2 : j < i
      · rw [if_pos hj2, if_pos (by omega)]
      · rw [if_neg hj2, if_neg (by omega)]
  · intro j hj
    show ((U.heap.push _).setIfInBounds _ _)[T0.heap.size + 1 + j]? = _
    rw [Array.getElem?_setIfInBounds, if_neg (by omega), Array.getElem?_push]
    by_cases hj2 : j = i
    · subst hj2
      rw [if_pos (by omega)]
      exact congrArg some (arrV_new cI 300 (.int 0))
    · rw [if_neg (by omega)]
      exact h4 j (by omega)
  · show U.slotsUsed + (Array.replicate 300 (Value.int 0)).size = _
    rw [Array.size_replicate, h6]
    omega
def mn_U (T0 : State) (cA cI : ClassId) : Nat → State
  | 0 => T0.pushCell { cls := cA, slots := Array.replicate 5 .null }
  | i + 1 => ((mn_U T0 cA cI i).pushCell { cls := cI, slots := Array.replicate 300 (.int 0) }).setCell T0.heap.size ((arrV cA 5 (fun j => if j < i then .ref (T0.heap.size + 1 + j) else .null)).setSlot i (.ref (mn_U T0 cA cI i).heap.size))
theorem mn_all {T0 : State} {cA cI : ClassId} (X : Stand p l e R s m args below meth c T0 locs cells slots) : ∀ i, i ≤ 5 → mn_I p l e R s m args below meth c locs cells slots T0 cA cI i (mn_U T0 cA cI i)
  | 0, _ => mn_0 X
  | i + 1, h => mn_1 (by omega) (mn_all X i (by omega))
theorem mn_ref (t : FieldType) (ht : t = .array .int) (v : Value) (hv : v = .null ∨ ∃ a, v = .ref a) : fits t v = true := by
  subst ht
  rcases hv with rfl | ⟨a, rfl⟩ <;> rfl
theorem mn_wp {E : CtlPost} {d : Bool} {acts : List Action} {T0 : State} {g1 : JFrame} {cA cI x : ClassId} {kA kI : Class} (X : Stand p l e R s m args below meth c T0 locs cells slots) (hkA : T0.vm.classes[cA]? = some kA) (hkindA : kA.kind = .array cI (.array .int)) (hkI : T0.vm.classes[cI]? = some kI) (hkindI : kI.kind = .array x .int)
    (hl1 : ¬ 5 > e.platform.arrayLengthLimit) (hh1 : ¬ 5 * componentBytes (.array .int) > e.platform.maxHeapBytes) (hl2 : ¬ 300 > e.platform.arrayLengthLimit) (hh2 : ¬ 300 * componentBytes .int > e.platform.maxHeapBytes) (hc : T0.heap.size + 6 ≤ e.platform.maxCells) (hs : T0.slotsUsed + 1505 ≤ e.platform.maxSlots)
    {Qp : Addr → Pre} (hq : ∀ d' acts', Qp T0.heap.size d' acts' ((mn_U T0 cA cI 5).setTop g1)) : wp (multianewarray.make cA [5, 300]) Qp E e d acts (T0.setTop g1) := by
  have hn : ¬ (5 : Int32) < 0 := by decide
  have hk : ¬ (300 : Int32) < 0 := by decide
  have e5 : (5 : Int32).toNatClampNeg = 5 := by decide
  have e300 : (300 : Int32).toNatClampNeg = 300 := by decide
  have hfind : ([300].find? (fun (z : Int32) => decide (z < 0))) = none := by decide
  rw [multianewarray.make]
  simp only [wp_bind', W.ite, hn, if_false, wp_pure', W.theClass, State.vm_setTop, hkA, hkindA, Option.some.injEq, exists_eq_left']
  refine W.newArray_of hkA hkindA (by rw [e5]; exact hl1) (by rw [e5]; exact hh1) (by show T0.heap.size < _; omega) (by rw [e5]; show T0.slotsUsed + 5 ≤ _; omega) (mn_ref _ rfl _ (Or.inl rfl)) (fun acts' => ?_)
  simp only [hfind]
  rw [ite_self, wp_bind', Std.Legacy.Range.forIn_eq_forIn_range']
  have hsz : ([:(5 : Int32).toNatClampNeg] : Std.Legacy.Range).size = 5 := by rw [e5]; rfl
  rw [hsz]
  show wp (forIn (List.range' 0 5 1) PUnit.unit _) _ E e d acts' _
  refine wp_forIn_inv (fun rest s' => ∃ i, i ≤ 5 ∧ rest = List.range' i (5 - i) ∧ s' = (mn_U T0 cA cI i).setTop g1) _ _ ⟨0, Nat.zero_le _, rfl, by rw [e5]; rfl⟩ ?_ ?_
  · rintro y rest s' d' acts' Q' ⟨i, hi, hl, rfl⟩ hnext
    have hlt : i < 5 := by
      rcases Nat.lt_or_ge i 5 with h | h
      · exact h
      · rw [show 5 - i = 0 by omega] at hl; cases hl
    obtain ⟨rfl, hrest⟩ : y = i ∧ rest = List.range' (i + 1) (5 - (i + 1)) := by
      rw [show 5 - i = (5 - (i + 1)) + 1 by omega, List.range'_succ] at hl
      exact ⟨(List.cons.inj hl).1, (List.cons.inj hl).2⟩
    obtain ⟨-, f1, f2, f3, f4, f5, f6⟩ := mn_all (cA := cA) (cI := cI) X y hi
    simp only [wp_bind']
    rw [multianewarray.make]
    simp only [wp_bind', W.ite, hk, if_false, wp_pure', W.theClass, State.vm_setTop, f5, hkI, hkindI, Option.some.injEq, exists_eq_left']
    refine W.newArray_of (k := kI) (by show (mn_U T0 cA cI y).vm.classes[cI]? = _; rw [f5]; exact hkI) hkindI (by rw [e300]; exact hl2) (by rw [e300]; exact hh2) (by show (mn_U T0 cA cI y).heap.size < _; rw [f1]; omega) (by rw [e300]; show (mn_U T0 cA cI y).slotsUsed + 300 ≤ _; rw [f6]; omega) rfl (fun acts'' => ?_)
    simp only [wp_bind', W.writeLoc, wp_pure']
    refine ⟨arrV cA 5 (fun j => if j < y then .ref (T0.heap.size + 1 + j) else .null), ?_, (fun z => by cases z), (by rw [arrV_size]; exact hlt), ?_, hnext _ _ _ ⟨y + 1, hlt, hrest, ?_⟩⟩
    · show ((mn_U T0 cA cI y).heap.push _)[T0.heap.size]? = _
      rw [Array.getElem?_push, if_neg (by omega)]
      exact f3
    · show State.fitsSlot _ cA .none y (.ref (mn_U T0 cA cI y).heap.size) = true
      have hkA2 : (mn_U T0 cA cI y).vm.classes[cA]? = some kA := by rw [f5]; exact hkA
      simp [State.fitsSlot, State.slotType?, hkA2, hkindA, mn_ref _ rfl _ (Or.inr ⟨_, rfl⟩)]
    · rw [e300]
      rfl
  · rintro s' d' acts' ⟨i, hi, hl, rfl⟩
    have hi5 : i = 5 := by
      rcases Nat.lt_or_ge i 5 with h | h
      · rw [show 5 - i = (5 - (i + 1)) + 1 by omega, List.range'_succ] at hl; cases hl
      · omega
    subst hi5
    simp only [wp_pure']
    exact hq _ _
end MULTI
