section DNULTI
variable {p : Program} {l : Launch} {e : Env} {R : Room} {s : State} {m : MethodId} {args : Array Value} {below : List Frame} {meth : Method} {c : Code} {Q : State → Prop}
variable {locs : List Loc} {cells slots : Nat}
/-- after i of the inner arrays -/
def dn_I (nh nw : Nat) (p : Program) (l : Launch) (e : Env) (R : Room) (s : State) (m : MethodId) (args : Array Value) (below : List Frame) (meth : Method) (c : Code) (locs : List Loc) (cells slots : Nat) (T0 : State) (cA cI : ClassId) (i : Nat) (U : State) : Prop :=
  Stand p l e R s m args below meth c U (locs ++ (List.range i).map (fun j => (⟨T0.heap.size, j⟩ : Loc))) (cells + 1 + i) (slots + nh + i * nw) ∧ U.heap.size = T0.heap.size + 1 + i ∧ (∀ q : Nat, q < T0.heap.size → U.heap[q]? = T0.heap[q]?) ∧
  U.heap[T0.heap.size]? = some (arrV cA nh (fun j => if j < i then .ref (T0.heap.size + 1 + j) else .null)) ∧ (∀ j : Nat, j < i → U.heap[T0.heap.size + 1 + j]? = some (arrV cI nw (fun _ => .int 0))) ∧ U.vm = T0.vm ∧ U.slotsUsed = T0.slotsUsed + nh + i * nw
theorem dn_0 {nh nw : Nat} {T0 : State} {cA cI : ClassId} (X : Stand p l e R s m args below meth c T0 locs cells slots) : dn_I nh nw p l e R s m args below meth c locs cells slots T0 cA cI 0 (T0.pushCell { cls := cA, slots := Array.replicate nh .null }) := by
  have hX := X.pushed { cls := cA, slots := Array.replicate nh .null }
  refine ⟨?_, ?_, ?_, ?_, ?_, rfl, ?_⟩
  · simpa using hX
  · show (T0.heap.push _).size = _
    rw [Array.size_push]
  · intro q hq
    show (T0.heap.push _)[q]? = _
    rw [Array.getElem?_push, if_neg (Nat.ne_of_lt hq)]
  · show (T0.heap.push _)[T0.heap.size]? = _
    rw [Array.getElem?_push_size]
    exact congrArg some (arrV_new cA nh .null)
  · intro j hj
    omega
  · show T0.slotsUsed + (Array.replicate nh Value.null).size = _
    rw [Array.size_replicate, Nat.zero_mul]
    rfl
theorem dn_1 {nh nw : Nat} {T0 U : State} {cA cI : ClassId} {i : Nat} (hi : i < nh) (h : dn_I nh nw p l e R s m args below meth c locs cells slots T0 cA cI i U) :
    dn_I nh nw p l e R s m args below meth c locs cells slots T0 cA cI (i + 1) ((U.pushCell { cls := cI, slots := Array.replicate nw (.int 0) }).setCell T0.heap.size ((arrV cA nh (fun j => if j < i then .ref (T0.heap.size + 1 + j) else .null)).setSlot i (.ref U.heap.size))) := by
  obtain ⟨hX, h1, h2, h3, h4, h5, h6⟩ := h
  have hX1 := hX.pushed { cls := cI, slots := Array.replicate nw (.int 0) }
  have hg : (U.pushCell { cls := cI, slots := Array.replicate nw (.int 0) }).heap[T0.heap.size]? = some (arrV cA nh (fun j => if j < i then .ref (T0.heap.size + 1 + j) else .null)) := by
    show (U.heap.push _)[T0.heap.size]? = _
    rw [Array.getElem?_push, if_neg (by omega)]
    exact h3
  have hX2 := hX1.stored hg i (.ref U.heap.size)
  refine ⟨?_, ?_, ?_, ?_, ?_, h5, ?_⟩
  · have e2 : (locs ++ (List.range (i + 1)).map (fun j => (⟨T0.heap.size, j⟩ : Loc))) = (locs ++ (List.range i).map (fun j => (⟨T0.heap.size, j⟩ : Loc))) ++ [⟨T0.heap.size, i⟩] := by simp [List.range_succ, List.append_assoc]
    rw [e2]
    have e3 : slots + nh + (i + 1) * nw = slots + nh + i * nw + (Array.replicate nw (Value.int 0)).size := by rw [Array.size_replicate, Nat.add_mul, Nat.one_mul]; omega
    rw [e3]
    exact hX2
  · show ((U.heap.push _).setIfInBounds _ _).size = _
    rw [Array.size_setIfInBounds, Array.size_push, h1]
    omega
  · intro q hq
    show ((U.heap.push _).setIfInBounds _ _)[q]? = _
    rw [Array.getElem?_setIfInBounds, if_neg (by omega), Array.getElem?_push, if_neg (by omega)]
    exact h2 q hq
  · show ((U.heap.push _).setIfInBounds _ _)[T0.heap.size]? = _
    rw [Array.getElem?_setIfInBounds, if_pos rfl, if_pos (by rw [Array.size_push]; omega), arrV_store]
    congr 2
    funext j
    unfold updV
    by_cases hj : j = i
    · subst hj
      rw [if_pos rfl, if_pos (by omega), h1]
    · rw [if_neg hj]
      show (if j < i then Value.ref (T0.heap.size + 1 + j) else Value.null) = _
      by_cases hj2 : j < i
      · rw [if_pos hj2, if_pos (by omega)]
      · rw [if_neg hj2, if_neg (by omega)]
  · intro j hj
    show ((U.heap.push _).setIfInBounds _ _)[T0.heap.size + 1 + j]? = _
    rw [Array.getElem?_setIfInBounds, if_neg (by omega), Array.getElem?_push]
    by_cases hj2 : j = i
    · subst hj2
      rw [if_pos (by omega)]
      exact congrArg some (arrV_new cI nw (.int 0))
    · rw [if_neg (by omega)]
      exact h4 j (by omega)
  · show U.slotsUsed + (Array.replicate nw (Value.int 0)).size = _
    rw [Array.size_replicate, h6, Nat.add_mul, Nat.one_mul]
    omega
def dn_U (nh nw : Nat) (T0 : State) (cA cI : ClassId) : Nat → State
  | 0 => T0.pushCell { cls := cA, slots := Array.replicate nh .null }
  | i + 1 => ((dn_U nh nw T0 cA cI i).pushCell { cls := cI, slots := Array.replicate nw (.int 0) }).setCell T0.heap.size ((arrV cA nh (fun j => if j < i then .ref (T0.heap.size + 1 + j) else .null)).setSlot i (.ref (dn_U nh nw T0 cA cI i).heap.size))
theorem dn_all {nh nw : Nat} {T0 : State} {cA cI : ClassId} (X : Stand p l e R s m args below meth c T0 locs cells slots) : ∀ i, i ≤ nh → dn_I nh nw p l e R s m args below meth c locs cells slots T0 cA cI i (dn_U nh nw T0 cA cI i)
  | 0, _ => dn_0 X
  | i + 1, h => dn_1 (by omega) (dn_all X i (by omega))
theorem dn_ref (t : FieldType) (ht : t = .array .int) (v : Value) (hv : v = .null ∨ ∃ a, v = .ref a) : fits t v = true := by
  subst ht
  rcases hv with rfl | ⟨a, rfl⟩ <;> rfl
theorem dn_wp {nh nw : Nat} {xh yw : Int32} (hn : ¬ xh < 0) (hk : ¬ yw < 0) (e5 : xh.toNatClampNeg = nh) (e300 : yw.toNatClampNeg = nw) {E : CtlPost} {d : Bool} {acts : List Action} {T0 : State} {g1 : JFrame} {cA cI x : ClassId} {kA kI : Class} (X : Stand p l e R s m args below meth c T0 locs cells slots) (hkA : T0.vm.classes[cA]? = some kA) (hkindA : kA.kind = .array cI (.array .int)) (hkI : T0.vm.classes[cI]? = some kI) (hkindI : kI.kind = .array x .int)
    (hl1 : ¬ nh > e.platform.arrayLengthLimit) (hh1 : ¬ nh * componentBytes (.array .int) > e.platform.maxHeapBytes) (hl2 : ¬ nw > e.platform.arrayLengthLimit) (hh2 : ¬ nw * componentBytes .int > e.platform.maxHeapBytes) (hc : T0.heap.size + (nh + 1) ≤ e.platform.maxCells) (hs : T0.slotsUsed + (nh + nh * nw) ≤ e.platform.maxSlots)
    {Qp : Addr → Pre} (hq : ∀ d' acts', Qp T0.heap.size d' acts' ((dn_U nh nw T0 cA cI nh).setTop g1)) : wp (multianewarray.make cA [xh, yw]) Qp E e d acts (T0.setTop g1) := by
  have hfind : ([yw].find? (fun (z : Int32) => decide (z < 0))) = none := by simp [hk]
  rw [multianewarray.make]
  simp only [wp_bind', W.ite, hn, if_false, wp_pure', W.theClass, State.vm_setTop, hkA, hkindA, Option.some.injEq, exists_eq_left']
  refine W.newArray_of hkA hkindA (by rw [e5]; exact hl1) (by rw [e5]; exact hh1) (by show T0.heap.size < _; omega) (by rw [e5]; show T0.slotsUsed + nh ≤ _; omega) (dn_ref _ rfl _ (Or.inl rfl)) (fun acts' => ?_)
  simp only [hfind]
  rw [ite_self, wp_bind', Std.Legacy.Range.forIn_eq_forIn_range']
  have hsz : ([:xh.toNatClampNeg] : Std.Legacy.Range).size = nh := by rw [e5]; simp [Std.Legacy.Range.size]
  rw [hsz]
  show wp (forIn (List.range' 0 nh 1) PUnit.unit _) _ E e d acts' _
  refine wp_forIn_inv (fun rest s' => ∃ i, i ≤ nh ∧ rest = List.range' i (nh - i) ∧ s' = (dn_U nh nw T0 cA cI i).setTop g1) _ _ ⟨0, Nat.zero_le _, rfl, by rw [e5]; rfl⟩ ?_ ?_
  · rintro y rest s' d' acts' Q' ⟨i, hi, hl, rfl⟩ hnext
    have hlt : i < nh := by
      rcases Nat.lt_or_ge i nh with h | h
      · exact h
      · rw [show nh - i = 0 by omega] at hl; cases hl
    obtain ⟨rfl, hrest⟩ : y = i ∧ rest = List.range' (i + 1) (nh - (i + 1)) := by
      rw [show nh - i = (nh - (i + 1)) + 1 by omega, List.range'_succ] at hl
      exact ⟨(List.cons.inj hl).1, (List.cons.inj hl).2⟩
    obtain ⟨-, f1, f2, f3, f4, f5, f6⟩ := dn_all (nh := nh) (nw := nw) (cA := cA) (cI := cI) X y hi
    have hyw : y * nw + nw ≤ nh * nw := by
      have q := Nat.mul_le_mul_right nw (show y + 1 ≤ nh from hlt)
      rw [Nat.add_mul, Nat.one_mul] at q
      exact q
    simp only [wp_bind']
    rw [multianewarray.make]
    simp only [wp_bind', W.ite, hk, if_false, wp_pure', W.theClass, State.vm_setTop, f5, hkI, hkindI, Option.some.injEq, exists_eq_left']
    refine W.newArray_of (k := kI) (by show (dn_U nh nw T0 cA cI y).vm.classes[cI]? = _; rw [f5]; exact hkI) hkindI (by rw [e300]; exact hl2) (by rw [e300]; exact hh2) (by show (dn_U nh nw T0 cA cI y).heap.size < _; rw [f1]; omega) (by rw [e300]; show (dn_U nh nw T0 cA cI y).slotsUsed + nw ≤ _; rw [f6]; omega) rfl (fun acts'' => ?_)
    simp only [wp_bind', W.writeLoc, wp_pure']
    refine ⟨arrV cA nh (fun j => if j < y then .ref (T0.heap.size + 1 + j) else .null), ?_, (fun z => by cases z), (by rw [arrV_size]; exact hlt), ?_, hnext _ _ _ ⟨y + 1, hlt, hrest, ?_⟩⟩
    · show ((dn_U nh nw T0 cA cI y).heap.push _)[T0.heap.size]? = _
      rw [Array.getElem?_push, if_neg (by omega)]
      exact f3
    · show State.fitsSlot _ cA .none y (.ref (dn_U nh nw T0 cA cI y).heap.size) = true
      have hkA2 : (dn_U nh nw T0 cA cI y).vm.classes[cA]? = some kA := by rw [f5]; exact hkA
      simp [State.fitsSlot, State.slotType?, hkA2, hkindA, dn_ref _ rfl _ (Or.inr ⟨_, rfl⟩)]
    · rw [e300]
      rfl
  · rintro s' d' acts' ⟨i, hi, hl, rfl⟩
    have hi5 : i = nh := by
      rcases Nat.lt_or_ge i nh with h | h
      · rw [show nh - i = (nh - (i + 1)) + 1 by omega, List.range'_succ] at hl; cases hl
      · omega
    subst hi5
    simp only [wp_pure']
    exact hq _ _
end DNULTI
section DNULTI2
variable {p : Program} {l : Launch} {e : Env} {R : Room} {s : State} {m : MethodId} {args : Array Value} {below : List Frame} {meth : Method} {c : Code} {Q : State → Prop}
variable {H : Heap} {locs : List Loc} {cells slots : Nat} {cc : ByteArray} {pc : Nat} {ls : Array Slot} {rest : List Value}
theorem dn_W {nh nw : Nat} {xh yw : Int32} (hn : ¬ xh < 0) (hk : ¬ yw < 0) (e5 : xh.toNatClampNeg = nh) (e300 : yw.toNatClampNeg = nw) (hb1 : nh ≤ 1000) (hb2 : nw ≤ 1000) (hexec : p.tables.exec = Jvm.exec) (hb : c.code = cc) {own : String} {index : Nat} (hown : s.vm.findClass own = some m.cls) (hclink : (Cond.classLink own index "[[I").before args s = true) (hover : (Cond.arrayOver (.array .int)).before args s = true) (harr : (Cond.arrayClass .int).before args s = true)
    (hdg : decode cc pc = .ok (.multianewarray index 2, 4)) (hcells : cells + (nh + 1) ≤ R.cells) (hslots : slots + (nh + nh * nw) ≤ R.slots)
    (kk : ∀ (cA cI : ClassId) (H1 : Heap), s.vm.findClass ("[" ++ (FieldType.array .int).toString) = some cA → s.vm.findClass ("[" ++ FieldType.int.toString) = some cI → H1.size = H.size + (nh + 1) → (∀ q : Nat, q < H.size → H1[q]? = H[q]?) → H1[H.size]? = some (arrV cA nh (fun j => if j < nh then .ref (H.size + 1 + j) else .null)) → (∀ j : Nat, j < nh → H1[H.size + 1 + j]? = some (arrV cI nw (fun _ => .int 0))) →
      W p l e R s m args below meth c H1 (locs ++ (List.range nh).map (fun j => (⟨H.size, j⟩ : Loc))) (cells + 1 + nh) (slots + nh + nh * nw) Q (F0 m (pc + 4) ls (.ref H.size :: rest))) :
    W p l e R s m args below meth c H locs cells slots Q (F0 m pc ls (.int yw :: .int xh :: rest)) := by
  intro T hT X
  have hpl : e.platform.magicAccessors = ({} : Platform).magicAccessors := by rw [X.admits.platform]
  obtain ⟨comp, cA, kA, hcomp, hidx, hkA, hkindA, hnameA⟩ := arrayOverA_spec hover
  obtain ⟨cI, kI, x, hcI, hkI, hkindI⟩ := Cond.arrayClass_spec harr
  have ecomp : comp = cI := Option.some.inj (hcomp.symm.trans hcI)
  subst ecomp
  obtain ⟨c0, hfc0, hcl⟩ := Cond.classLink_spec hown hclink e.platform hpl
  have en : ("[" ++ (FieldType.array FieldType.int).toString) = "[[I" := by decide
  have hc0 : c0 = cA := by
    rw [en] at hnameA
    exact Option.some.inj (hfc0.symm.trans hnameA)
  subst hc0
  obtain ⟨hg₁, hwarm₁, hready₁⟩ := State.classEntry (e := e) X.warmed hcl
  generalize T.vm.noted m.cls index (.cls c0) = vm₁ at hg₁ hwarm₁ hready₁
  have hal : s.vm.Alike vm₁ := hwarm₁.alike
  obtain ⟨kA₁, hkA₁, heA⟩ := hal.2.2 _ _ hkA
  obtain ⟨kI₁, hkI₁, heI⟩ := hal.2.2 _ _ hkI
  have hkindA₁ : kA₁.kind = .array comp (.array .int) := by rw [heA]; exact hkindA
  have hkindI₁ : kI₁.kind = .array x .int := by rw [heI]; exact hkindI
  have X₁ := X.noted hwarm₁
  obtain ⟨hr1, hr2⟩ := X.roomAbove hcells hslots
  obtain ⟨hU, f1, f2, f3, f4, f5, f6⟩ := dn_all (nh := nh) (nw := nw) (cA := c0) (cI := comp) X₁ nh (Nat.le_refl _)
  have hTh : (T.setVm vm₁).heap = H := hT
  rw [hTh] at f1 f2 f3 f4 hU
  obtain ⟨t, a1, b1⟩ := kk c0 comp _ hnameA hcI (by omega) f2 f3 f4 (dn_U nh nw (T.setVm vm₁) c0 comp nh) rfl hU
  refine ⟨t, ?_, b1⟩
  have hl1 : ¬ nh > e.platform.arrayLengthLimit := by rw [Launch.admits_arrayLengthLimit X.admits]; omega
  have hh1 : ¬ nh * componentBytes (.array .int) > e.platform.maxHeapBytes := by
    rw [Launch.admits_maxHeapBytes X.admits]; show ¬ nh * 4 > 536870912; omega
  have hl2 : ¬ nw > e.platform.arrayLengthLimit := by rw [Launch.admits_arrayLengthLimit X.admits]; omega
  have hh2 : ¬ nw * componentBytes .int > e.platform.maxHeapBytes := by
    rw [Launch.admits_maxHeapBytes X.admits]; show ¬ nw * 4 > 536870912; omega
  have hdg' : decode c.code (F0 m pc ls (.int yw :: .int xh :: rest)).pc = .ok (.multianewarray index 2, 4) := by rw [hb]; exact hdg
  jvm_step X.here [hexec, hdg']
  simp only [multianewarray.sem, wp_bind', W.resolveClassAt_links (State.method?_setTop (F0 m pc ls (.int yw :: .int xh :: rest)) X.here.top) hg₁]
  rw [W.popN, if_neg (by decide)]
  refine ⟨F0 m pc ls (.int yw :: .int xh :: rest), State.topJava?_setTop' (s := T.setVm vm₁) _ X.here.top, [.int xh, .int yw], rest, rfl, rfl, ?_⟩
  simp only [List.mapM_cons, List.mapM_nil, wp_bind', wp_pure']
  have eS : ((T.setTop (F0 m pc ls (.int yw :: .int xh :: rest))).setVm vm₁).setTop { F0 m pc ls (.int yw :: .int xh :: rest) with stack := rest } = (T.setVm vm₁).setTop { F0 m pc ls (.int yw :: .int xh :: rest) with stack := rest } := by
    show ((T.setVm vm₁).setTop _).setTop _ = _
    rw [State.setTop_setTop]
  rw [eS]
  refine dn_wp hn hk e5 e300 (kA := kA₁) (kI := kI₁) X₁ hkA₁ hkindA₁ hkI₁ hkindI₁ hl1 hh1 hl2 hh2 hr1 hr2 (fun d' acts' => ?_)
  simp only [wp_bind', W.mark, W.pushRef, State.topJava?_setTop' _ hU.here.top, Option.some.injEq, exists_eq_left', State.setTop_setTop, State.heap_setTop]
  intro acts
  simp [jvm, hU.here.top]
  rw [hT]
  exact a1
end DNULTI2
