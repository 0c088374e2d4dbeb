section AMP
def am_il (ins : Instr) (len : Nat) : Bool := match ins with
  | .tableswitch .. => true
  | .iload _ => Nat.beq len 2
  | .aload _ => Nat.beq len 2
  | .istore _ => Nat.beq len 2
  | .astore _ => Nat.beq len 2
  | .bipush _ => Nat.beq len 2
  | .ldc _ => Nat.beq len 2
  | .iinc _ _ => Nat.beq len 3
  | .sipush _ => Nat.beq len 3
  | .goto _ => Nat.beq len 3
  | .if_icmp _ _ => Nat.beq len 3
  | .ifCond _ _ => Nat.beq len 3
  | .getfield _ => Nat.beq len 3
  | .putfield _ => Nat.beq len 3
  | .getstatic _ => Nat.beq len 3
  | .invokevirtual _ => Nat.beq len 3
  | .invokestatic _ => Nat.beq len 3
  | .new _ => Nat.beq len 3
  | _ => Nat.beq len 1
variable {p : Program} {l : Launch} {e : Env} {R : Room} {s : State} {m : MethodId} {args : Array Value} {below : List Frame} {meth : Method} {c : Code}
/-- what a walk stands on -/
def am_Cx (p : Program) (l : Launch) (R : Room) (s : State) (m : MethodId) (args : Array Value) (meth : Method) (c : Code) (al : Nat → Nat) (dC : Nat → ClassId) (dI : Nat → Nat → Nat) (aC : Nat → ClassId) (aV : Nat → Nat) (me : Nat) (o0 : am_Out) : Prop :=
  p.tables.exec = Jvm.exec ∧ c.code = am_cc me ∧ c.maxLocals = am_ml me ∧ s.vm.findClass (am_own me) = some m.cls ∧ (∀ w ∈ am_AT, w.before args s = true) ∧ meth.locks = false ∧ (∀ x ∈ c.exceptionTable.toList, False) ∧ meth.sig.returnType = am_re me ∧ l.stackTraces = false ∧
  va_K (dC, dI) vwCl (am_tys aC) s ∧ am_Fx al aV (am_A al s.heap.size) s s.heap ∧ R = am_rm me o0 ∧ am_Inj al
/-- the machine from here on ends as o0 and h0 say -/
def am_At (p : Program) (l : Launch) (e : Env) (R : Room) (s : State) (m : MethodId) (args : Array Value) (below : List Frame) (meth : Method) (c : Code) (al : Nat → Nat) (dC : Nat → ClassId) (dI : Nat → Nat → Nat) (aC : Nat → ClassId) (me : Nat) (o0 : am_Out) (h0 : am_Hp) (pc : Nat) (ρ : am_Lc) (st : List Value) (h : am_Hp) : Prop :=
  ∀ (H : Heap) (locs : List Loc) (ls : Array Slot), lv_has ls (am_ml me) (am_rls al ρ) → va_P (dC, dI) vwCl (am_W al aC h) H → va_S (am_A al s.heap.size) s.heap H locs →
    W p l e R s m args below meth c H locs 0 0 (vx_MQ below (am_Q al dC dI aC o0 h0 (am_A al s.heap.size)) (am_X al dC dI aC o0 h0 (am_A al s.heap.size)) args s (am_mc o0) (am_ms o0) (am_A al s.heap.size)) (F0 m pc ls (st.map (am_rl al)))
theorem am_thr_ok : am_thL.all (fun q => decide (decode (am_cc q.1) q.2.1 = .ok (.new 317, 3)) && decide (decode (am_cc q.1) (q.2.1 + 3) = .ok (.dup, 1)) && decide (decode (am_cc q.1) (q.2.1 + 4) = .ok (.invokespecial 319, 3)) && decide (decode (am_cc q.1) (q.2.1 + 7) = .ok (.athrow, 1)) && decide (am_own q.1 = RX9)) = true := by decide +kernel
theorem am_tw_bad : am_tw.filter (fun w => !goodWord w) = am_TB := by decide +kernel
theorem am_tw_ot : ∀ w ∈ Cond.classLink RX9 317 "java/lang/IndexOutOfBoundsException" :: Cond.initialized "java/lang/IndexOutOfBoundsException" :: am_tw, vx_ot w = true := by decide +kernel
theorem am_tw_in {w : Cond} (h : w ∈ am_tw.filter goodWord) : w ∈ am_AT := by
  have h1 := List.all_eq_true.mp am_tw_good w h
  exact List.mem_filter.mpr ⟨of_decide_eq_true h1, (List.mem_filter.mp h).2⟩
theorem am_TB_ot : ∀ w ∈ am_TB, w.onTables = true := by decide +kernel
theorem am_leaf {v : Option Value} {H : Heap} {locs : List Loc} {al : Nat → Nat} {dC : Nat → ClassId} {dI : Nat → Nat → Nat} {aC : Nat → ClassId} {h : am_Hp} {A : Nat → Prop} (hK : va_K (dC, dI) vwCl (am_tys aC) s) (hP : va_P (dC, dI) vwCl (am_W al aC h) H) (hS : va_S A s.heap H locs) :
    ∀ t : State, t.heap = H → s.WarmedH t.vm → am_Q al dC dI aC (some v) h A args s (.returned (v.map (am_rl al))) t :=
  fun t ht hW => ⟨v, rfl, rfl, ⟨by rw [ht]; exact hP, va_K.moved hW.alike hK⟩, hS.F ht⟩
theorem am_fkL_len : am_fkL.length ≤ 14 := by decide
theorem am_uw_spec {ci : Nat} (h : ci < 11) : ∀ w ∈ u_ws (am_R ci) (am_T ci) (am_N ci), w ∈ am_AT := by
  intro w hw
  have h1 := List.all_eq_true.mp (List.all_eq_true.mp am_uw_all ci (List.mem_range.mpr h)) w hw
  simp only [Bool.and_eq_true, decide_eq_true_eq] at h1
  exact List.mem_filter.mpr h1
theorem am_cl_spec {ci : Nat} (h : ci < 11) : am_nF ci = am_N ci ∧ vwCl[ci]? = some (am_R ci, am_T ci, am_N ci) := by
  have h1 := List.all_eq_true.mp am_nF_all ci (List.mem_range.mpr h)
  simp only [Bool.and_eq_true, decide_eq_true_eq] at h1
  refine ⟨Nat.eq_of_beq_eq_true h1.1, ?_⟩
  have h2 := h1.2
  unfold am_T am_N
  cases hq : vwCl[ci]? with
  | none => rw [hq] at h2; cases h2
  | some q =>
    rw [hq] at h2
    obtain ⟨a, b, c⟩ := q
    have : a = am_R ci := Option.some.inj h2
    subst this
    rfl
theorem am_fk_spec {me ix ci j : Nat} (h : am_fk me ix = some (ci, j)) : ci < 11 ∧ j < am_nF ci ∧ (Cond.fieldLink (am_own me) ix (am_T ci j).1 (am_T ci j).2.1 (am_T ci j).2.2.1) ∈ am_AT ∧ j < am_N ci ∧ vwCl[ci]? = some (am_R ci, am_T ci, am_N ci) ∧ (∀ w ∈ u_ws (am_R ci) (am_T ci) (am_N ci), w ∈ am_AT) ∧
    (am_fw ci j = true → am_fi ci j = true ∧ (am_T ci j).2.2.2 = false ∧ parseFieldDescriptor (am_T ci j).2.2.1 = some .int) := by
  unfold am_fk at h
  cases hl : am_lk (am_fkL.getD (am_ow me) []) ix with
  | none => rw [hl] at h; cases h
  | some q =>
    rw [hl] at h
    obtain ⟨ci', j', w⟩ := q
    cases h
    have hb := am_rngD am_fkL_len am_fk_all (am_ow me) (am_lk_mem _ _ _ hl)
    simp only [am_fkb, Bool.and_eq_true] at hb
    obtain ⟨⟨b1, b2⟩, b3⟩ := hb
    have b2 := Nat.blt_eq.mp b2
    have b3 := Nat.blt_eq.mp b3
    obtain ⟨c1, c2⟩ := am_cl_spec b2
    refine ⟨b2, by rw [c1]; exact b3, am_hs_in b1, b3, c2, am_uw_spec b2, fun hw => ?_⟩
    have d1 := List.all_eq_true.mp (List.all_eq_true.mp am_fi_all _ (List.mem_range.mpr b2)) _ (List.mem_range.mpr b3)
    simp only [Bool.and_eq_true, beq_iff_eq] at d1
    rw [hw] at d1
    have d2 := d1.2.symm
    rw [Bool.and_eq_true, Bool.not_eq_true'] at d2
    refine ⟨d2.1, d2.2, ?_⟩
    have d3 := d1.1.symm.trans d2.1
    rw [of_decide_eq_true d3]
    rfl
theorem am_tyn {ci : Nat} (h : ci < 11) : ∃ ty0 : Nat → FieldType, (∀ k, k < am_N ci → parseFieldDescriptor (am_T ci k).2.2.1 = some (ty0 k)) ∧ (∀ a, a < am_N ci → ∀ b, b < am_N ci → a ≠ b → (am_T ci a).2.1 ≠ (am_T ci b).2.1) := by
  match ci, h with
  | 0, _ => exact ⟨tyX0, tyX0_ok, nmX0⟩
  | 1, _ => exact ⟨tyX1, tyX1_ok, nmX1⟩
  | 2, _ => exact ⟨tyX2, tyX2_ok, nmX2⟩
  | 3, _ => exact ⟨tyX3, tyX3_ok, nmX3⟩
  | 4, _ => exact ⟨tyX4, tyX4_ok, nmX4⟩
  | 5, _ => exact ⟨tyX5, tyX5_ok, nmX5⟩
  | 6, _ => exact ⟨tyX6, tyX6_ok, nmX6⟩
  | 7, _ => exact ⟨tyX7, tyX7_ok, nmX7⟩
  | 8, _ => exact ⟨tyX8, tyX8_ok, nmX8⟩
  | 9, _ => exact ⟨tyX9, tyX9_ok, nmX9⟩
  | 10, _ => exact ⟨tyX10, tyX10_ok, nmX10⟩
  | n + 11, h => exact absurd h (by omega)
theorem am_skL_all : (List.range 14).all (fun o => (am_skL.getD o []).all (fun q => am_sfL.any (fun z => Nat.beq z.1 q.2.1))) = true := by decide +kernel
theorem am_sk_spec {o : Nat} {q : Nat × Nat × Nat × Nat} (h : q ∈ am_skL.getD o []) : ∃ z ∈ am_sfL, z.1 = q.2.1 := by
  have h1 := am_rngD (n := 14) (P := fun _ q => am_sfL.any (fun z => Nat.beq z.1 q.2.1)) (by decide) am_skL_all o h
  obtain ⟨z, hz, e⟩ := List.any_eq_true.mp h1
  exact ⟨z, hz, Nat.eq_of_beq_eq_true e⟩
theorem am_f_spec {a : Nat} (h : am_isF a = true) : ∃ z ∈ am_sfL, z.1 = a := by
  have key : (List.range am_kdL.length).all (fun a => !am_isF a || am_sfL.any (fun z => Nat.beq z.1 a)) = true := by decide +kernel
  by_cases ha : a < am_kdL.length
  · have h1 := List.all_eq_true.mp key a (List.mem_range.mpr ha)
    rw [h] at h1
    obtain ⟨z, hz, e⟩ := List.any_eq_true.mp (by simpa using h1 : am_sfL.any (fun z => Nat.beq z.1 a) = true)
    exact ⟨z, hz, Nat.eq_of_beq_eq_true e⟩
  · exfalso
    unfold am_isF am_kd at h
    rw [List.getD_eq_getElem?_getD, List.getElem?_eq_none (by omega)] at h
    exact absurd h (by decide)
theorem am_rk1 {me : Nat} (h : Nat.beq (am_rk me) 1 = true) : am_re me = some .int := by
  unfold am_rk at h
  split at h <;> first | assumption | exact absurd h (by decide)
theorem am_rk2 {me : Nat} (h : Nat.beq (am_rk me) 2 = true) : am_re me = some .boolean := by
  unfold am_rk at h
  split at h <;> first | assumption | exact absurd h (by decide)
theorem am_rk3 {me : Nat} (h : Nat.beq (am_rk me) 3 = true) : am_re me = some .float := by
  unfold am_rk at h
  split at h <;> first | assumption | exact absurd h (by decide)
theorem am_rk4 {me : Nat} (h : Nat.beq (am_rk me) 4 = true) : ∃ nm, am_re me = some (.object nm) := by
  unfold am_rk at h
  split at h <;> first | exact ⟨_, by assumption⟩ | exact absurd h (by decide)
theorem am_rk5 {me : Nat} (h : Nat.beq (am_rk me) 5 = true) : am_re me = none := by
  unfold am_rk at h
  split at h <;> first | assumption | exact absurd h (by decide)
theorem am_thr_spec {me pc ix : Nat} (h : am_thr me pc ix = true) : decode (am_cc me) pc = .ok (.new 317, 3) ∧ decode (am_cc me) (pc + 3) = .ok (.dup, 1) ∧ decode (am_cc me) (pc + 4) = .ok (.invokespecial 319, 3) ∧ decode (am_cc me) (pc + 7) = .ok (.athrow, 1) ∧ am_own me = RX9 := by
  obtain ⟨q, hq, e⟩ := List.any_eq_true.mp h
  simp only [Bool.and_eq_true] at e
  have e1 : q.1 = me := Nat.eq_of_beq_eq_true e.1.1
  have e2 : q.2.1 = pc := Nat.eq_of_beq_eq_true e.1.2
  have h1 := List.all_eq_true.mp am_thr_ok q hq
  simp only [Bool.and_eq_true, decide_eq_true_eq] at h1
  rw [e1, e2] at h1
  exact ⟨h1.1.1.1.1, h1.1.1.1.2, h1.1.1.2, h1.1.2, h1.2⟩
set_option maxHeartbeats 4000000 in
theorem am_op_sound {γ : Type} {al : Nat → Nat} {dC : Nat → ClassId} {dI : Nat → Nat → Nat} {aC : Nat → ClassId} {aV : Nat → Nat} {me : Nat} {o0 : am_Out} {h0 : am_Hp} {pc len : Nat} {ins : Instr} {ρ : am_Lc} {st : List Value} {h : am_Hp} {orc : am_Orc} {ret : am_Out → am_Hp → Option γ} {k : Nat → am_Lc → List Value → am_Hp → Option γ} {g : γ}
    (C : am_Cx p l R s m args meth c al dC dI aC aV me o0) (hd : decode (am_cc me) pc = .ok (ins, len)) (hlen : am_il ins len = true) (horc : am_OS l al dC dI aC aV orc) (hret : ∀ o h', ret o h' = some g → o = o0 ∧ h' = h0)
    (hk : ∀ pc' ρ' st' h', k pc' ρ' st' h' = some g → am_At p l e R s m args below meth c al dC dI aC me o0 h0 pc' ρ' st' h')
    (hcall : ∀ kd ix, (ins = .invokevirtual ix ∧ kd = 0 ∨ ins = .invokestatic ix ∧ kd = 1) → am_inv me kd pc ix ρ st h orc ret k = some g → am_At p l e R s m args below meth c al dC dI aC me o0 h0 pc ρ st h)
    (hr : am_op me pc ins len ρ st h orc ret k = some g) : am_At p l e R s m args below meth c al dC dI aC me o0 h0 pc ρ st h := by
  obtain ⟨hx, hb, hml, hown, hts, hlocks, hexc, hrt, htr, hK, hF, hR, hinj⟩ := C
  intro H locs ls hl hP hS
  have hD : ∀ h', va_D (am_A al s.heap.size) (am_W al aC h') := fun h' => am_Winj hinj _
  have hA : ∀ q, s.heap.size ≤ q → am_A al s.heap.size q := fun q h => Or.inr h
  cases ins
  case iload_n i =>
    cases Nat.eq_of_beq_eq_true hlen
    obtain ⟨x, hm, h1⟩ := am_ldi_some hr
    exact lv_iload_n hx hb hd rfl (hl.2.2 _ (am_rls_mem hm)) (hk _ _ _ _ h1 H locs ls hl hP hS)
  case iload i =>
    cases Nat.eq_of_beq_eq_true hlen
    obtain ⟨x, hm, h1⟩ := am_ldi_some hr
    exact lv_iload hx hb hd (hl.2.2 _ (am_rls_mem hm)) (hk _ _ _ _ h1 H locs ls hl hP hS)
  case aload_n i =>
    cases Nat.eq_of_beq_eq_true hlen
    obtain ⟨x, hm, h1⟩ := am_lda_some hr
    exact lv_aload_n hx hb hd rfl (hl.2.2 _ (am_rls_mem hm)) (hk _ _ _ _ h1 H locs ls hl hP hS)
  case aload i =>
    cases Nat.eq_of_beq_eq_true hlen
    obtain ⟨x, hm, h1⟩ := am_lda_some hr
    exact lv_aload hx hb hd (hl.2.2 _ (am_rls_mem hm)) (hk _ _ _ _ h1 H locs ls hl hP hS)
  case istore_n i =>
    cases Nat.eq_of_beq_eq_true hlen
    obtain ⟨x, r, rfl, h1⟩ := am_s1_some hr
    obtain ⟨h2, h3⟩ := am_bif h1
    exact lv_istore_n hx hb hd rfl hl (Nat.blt_eq.mp h2) am_rls_sti (fun ls hl => hk _ _ _ _ h3 H locs ls hl hP hS)
  case istore i =>
    cases Nat.eq_of_beq_eq_true hlen
    obtain ⟨x, r, rfl, h1⟩ := am_s1_some hr
    obtain ⟨h2, h3⟩ := am_bif h1
    exact lv_istore hx hb hd hl (Nat.blt_eq.mp h2) am_rls_sti (fun ls hl => hk _ _ _ _ h3 H locs ls hl hP hS)
  case astore_n i =>
    cases Nat.eq_of_beq_eq_true hlen
    obtain ⟨x, r, rfl, h1⟩ := am_sa_some hr
    obtain ⟨h2, h3⟩ := am_bif h1
    exact lv_astore_n hx hb hd rfl hl (Nat.blt_eq.mp h2) am_rls_sta (fun ls hl => hk _ _ _ _ h3 H locs ls hl hP hS)
  case astore i =>
    cases Nat.eq_of_beq_eq_true hlen
    obtain ⟨x, r, rfl, h1⟩ := am_sa_some hr
    obtain ⟨h2, h3⟩ := am_bif h1
    exact lv_astore hx hb hd hl (Nat.blt_eq.mp h2) am_rls_sta (fun ls hl => hk _ _ _ _ h3 H locs ls hl hP hS)
  case iinc i n =>
    cases Nat.eq_of_beq_eq_true hlen
    obtain ⟨x, hm, h1⟩ := am_ldi_some hr
    obtain ⟨h2, h3⟩ := am_bif h1
    obtain ⟨kk, hkk⟩ := List.getElem?_of_mem (am_rls_mem (al := al) hm)
    exact lv_iinc hx hb hd hl hkk rfl (Nat.blt_eq.mp h2) am_rls_sti (fun ls hl => hk _ _ _ _ h3 H locs ls hl hP hS)
  case iconst n =>
    cases Nat.eq_of_beq_eq_true hlen
    exact lv_iconst hx hb hd rfl (hk _ _ _ _ hr H locs ls hl hP hS)
  case bipush n =>
    cases Nat.eq_of_beq_eq_true hlen
    exact lv_bipush hx hb hd rfl (hk _ _ _ _ hr H locs ls hl hP hS)
  case sipush n =>
    cases Nat.eq_of_beq_eq_true hlen
    exact lv_sipush hx hb hd rfl (hk _ _ _ _ hr H locs ls hl hP hS)
  case ldc ix =>
    cases Nat.eq_of_beq_eq_true hlen
    have hr : (match am_cst me ix with
      | some (.inl v) => k (pc + 2) ρ (.int v :: st) h
      | some (.inr i) => k (pc + 2) ρ (.ref i :: st) h
      | none => none) = some g := hr
    unfold am_cst at hr
    cases hz : am_lk (am_ckL.getD (am_ow me) []) ix with
    | none => rw [hz] at hr; cases hr
    | some q =>
      rw [hz] at hr
      obtain ⟨z, w⟩ := q
      have hmem := am_lk_mem _ _ _ hz
      cases z with
      | inl v => exact lv_ldc hx hb hown (va_Nw.use rfl (hF.2.2.2.2.2.2.2.2.1 (am_ow me) _ v hmem rfl)) hd (hk _ _ _ _ hr H locs ls hl hP hS)
      | inr i => exact va_ldcS hx hb hown (hF.2.2.2.2.1 (am_ow me) _ i hmem rfl) hd (hk _ _ _ _ hr H locs ls hl hP hS)
  case iadd =>
    cases Nat.eq_of_beq_eq_true hlen
    obtain ⟨x, y, r, rfl, h1⟩ := am_s2_some hr
    exact lv_iadd hx hb hd (hk _ _ _ _ h1 H locs ls hl hP hS)
  case isub =>
    cases Nat.eq_of_beq_eq_true hlen
    obtain ⟨x, y, r, rfl, h1⟩ := am_s2_some hr
    exact lv_isub hx hb hd (hk _ _ _ _ h1 H locs ls hl hP hS)
  case imul =>
    cases Nat.eq_of_beq_eq_true hlen
    obtain ⟨x, y, r, rfl, h1⟩ := am_s2_some hr
    exact lv_imul hx hb hd (hk _ _ _ _ h1 H locs ls hl hP hS)
  case idiv =>
    cases Nat.eq_of_beq_eq_true hlen
    obtain ⟨x, y, r, rfl, h1⟩ := am_s2_some hr
    by_cases hy : y = 0
    · rw [if_pos hy] at h1; cases h1
    · rw [if_neg hy] at h1
      exact lv_idiv hx hb hd hy (hk _ _ _ _ h1 H locs ls hl hP hS)
  case irem =>
    cases Nat.eq_of_beq_eq_true hlen
    obtain ⟨x, y, r, rfl, h1⟩ := am_s2_some hr
    by_cases hy : y = 0
    · rw [if_pos hy] at h1; cases h1
    · rw [if_neg hy] at h1
      exact lv_irem hx hb hd hy (hk _ _ _ _ h1 H locs ls hl hP hS)
  case ishl =>
    cases Nat.eq_of_beq_eq_true hlen
    obtain ⟨x, y, r, rfl, h1⟩ := am_s2_some hr
    exact lv_ishl hx hb hd (hk _ _ _ _ h1 H locs ls hl hP hS)
  case ishr =>
    cases Nat.eq_of_beq_eq_true hlen
    obtain ⟨x, y, r, rfl, h1⟩ := am_s2_some hr
    exact lv_ishr hx hb hd (hk _ _ _ _ h1 H locs ls hl hP hS)
  case iand =>
    cases Nat.eq_of_beq_eq_true hlen
    obtain ⟨x, y, r, rfl, h1⟩ := am_s2_some hr
    exact lv_iand hx hb hd (hk _ _ _ _ h1 H locs ls hl hP hS)
  case ior =>
    cases Nat.eq_of_beq_eq_true hlen
    obtain ⟨x, y, r, rfl, h1⟩ := am_s2_some hr
    exact lv_ior hx hb hd (hk _ _ _ _ h1 H locs ls hl hP hS)
  case ixor =>
    cases Nat.eq_of_beq_eq_true hlen
    obtain ⟨x, y, r, rfl, h1⟩ := am_s2_some hr
    exact lv_ixor hx hb hd (hk _ _ _ _ h1 H locs ls hl hP hS)
  case dup =>
    cases Nat.eq_of_beq_eq_true hlen
    have hr : am_d1 st (fun v r => k (pc + 1) ρ (v :: v :: r) h) = some g := hr
    obtain ⟨v, r, rfl, hv, h1⟩ := am_d1_some hr
    exact lv_dup hx hb hd (by rw [am_rl_cat]; exact hv) (hk _ _ _ _ h1 H locs ls hl hP hS)
  case dup2 =>
    cases Nat.eq_of_beq_eq_true hlen
    have hr : am_d2 st (fun v w r => k (pc + 1) ρ (v :: w :: v :: w :: r) h) = some g := hr
    obtain ⟨v, w, r, rfl, hv, hw, h1⟩ := am_d2_some hr
    exact lv_dup2_11 hx hb hd (by rw [am_rl_cat]; exact hv) (by rw [am_rl_cat]; exact hw) (hk _ _ _ _ h1 H locs ls hl hP hS)
  case pop =>
    cases Nat.eq_of_beq_eq_true hlen
    have hr : am_d1 st (fun _ r => k (pc + 1) ρ r h) = some g := hr
    obtain ⟨v, r, rfl, hv, h1⟩ := am_d1_some hr
    exact lv_pop hx hb hd (by rw [am_rl_cat]; exact hv) (hk _ _ _ _ h1 H locs ls hl hP hS)
  case i2f =>
    cases Nat.eq_of_beq_eq_true hlen
    obtain ⟨x, r, rfl, h1⟩ := am_s1_some hr
    exact lv_i2f hx hb hd (hk _ _ _ _ h1 H locs ls hl hP hS)
  case fdiv =>
    cases Nat.eq_of_beq_eq_true hlen
    obtain ⟨x, y, r, rfl, h1⟩ := am_sff_some hr
    by_cases hy : FP.fdiv x y &&& 0x7fffffff ≤ 0x7f800000
    · rw [if_pos hy] at h1
      exact lv_fdiv hx hb hd hy (hk _ _ _ _ h1 H locs ls hl hP hS)
    · rw [if_neg hy] at h1; cases h1
  case goto off =>
    cases Nat.eq_of_beq_eq_true hlen
    obtain ⟨t, ht, h1⟩ := am_to_some hr
    exact lv_goto hx hb hd ht (hk _ _ _ _ h1 H locs ls hl hP hS)
  case fconst n =>
    cases Nat.eq_of_beq_eq_true hlen
    have hr : (bif Nat.beq n 0 then k (pc + 1) ρ (.float 0 :: st) h else none) = some g := hr
    obtain ⟨h2, h3⟩ := am_bif hr
    have e0 : n = 0 := Fin.ext (Nat.eq_of_beq_eq_true h2)
    subst e0
    exact lv_fconst0 hx hb hd (hk _ _ _ _ h3 H locs ls hl hP hS)
  case if_icmp cd off =>
    cases Nat.eq_of_beq_eq_true hlen
    obtain ⟨x, y, r, rfl, h1⟩ := am_s2_some hr
    obtain ⟨t, ht, h2⟩ := am_to_some h1
    have ka : ∀ {P : Prop} {a b : Option γ} [Decidable P], (if P then a else b) = some g → P → a = some g := fun q z => by rw [if_pos z] at q; exact q
    have kb : ∀ {P : Prop} {a b : Option γ} [Decidable P], (if P then a else b) = some g → ¬ P → b = some g := fun q z => by rw [if_neg z] at q; exact q
    cases cd with
    | eq => exact lv_icmp_eq hx hb hd ht (fun z => hk _ _ _ _ (ka h2 z) H locs ls hl hP hS) (fun z => hk _ _ _ _ (kb h2 z) H locs ls hl hP hS)
    | ne => exact lv_icmp_ne hx hb hd ht (fun z => hk _ _ _ _ (kb h2 z) H locs ls hl hP hS) (fun z => hk _ _ _ _ (ka h2 z) H locs ls hl hP hS)
    | lt => exact lv_icmp_lt hx hb hd ht (fun z => hk _ _ _ _ (ka h2 z) H locs ls hl hP hS) (fun z => hk _ _ _ _ (kb h2 z) H locs ls hl hP hS)
    | ge => exact lv_icmp_ge hx hb hd ht (fun z => hk _ _ _ _ (ka h2 z) H locs ls hl hP hS) (fun z => hk _ _ _ _ (kb h2 z) H locs ls hl hP hS)
    | gt => exact lv_icmp_gt hx hb hd ht (fun z => hk _ _ _ _ (ka h2 z) H locs ls hl hP hS) (fun z => hk _ _ _ _ (kb h2 z) H locs ls hl hP hS)
    | le => exact lv_icmp_le hx hb hd ht (fun z => hk _ _ _ _ (ka h2 z) H locs ls hl hP hS) (fun z => hk _ _ _ _ (kb h2 z) H locs ls hl hP hS)
  case ifCond cd off =>
    cases Nat.eq_of_beq_eq_true hlen
    obtain ⟨x, r, rfl, h1⟩ := am_s1_some hr
    obtain ⟨t, ht, h2⟩ := am_to_some h1
    have ka : ∀ {P : Prop} {a b : Option γ} [Decidable P], (if P then a else b) = some g → P → a = some g := fun q z => by rw [if_pos z] at q; exact q
    have kb : ∀ {P : Prop} {a b : Option γ} [Decidable P], (if P then a else b) = some g → ¬ P → b = some g := fun q z => by rw [if_neg z] at q; exact q
    cases cd with
    | eq => exact lv_if_eq hx hb hd ht (fun z => hk _ _ _ _ (ka h2 z) H locs ls hl hP hS) (fun z => hk _ _ _ _ (kb h2 z) H locs ls hl hP hS)
    | ne => exact lv_if_ne hx hb hd ht (fun z => hk _ _ _ _ (kb h2 z) H locs ls hl hP hS) (fun z => hk _ _ _ _ (ka h2 z) H locs ls hl hP hS)
    | lt => exact lv_if_lt hx hb hd ht (fun z => hk _ _ _ _ (ka h2 z) H locs ls hl hP hS) (fun z => hk _ _ _ _ (kb h2 z) H locs ls hl hP hS)
    | ge => exact lv_if_ge hx hb hd ht (fun z => hk _ _ _ _ (ka h2 z) H locs ls hl hP hS) (fun z => hk _ _ _ _ (kb h2 z) H locs ls hl hP hS)
    | gt => exact lv_if_gt hx hb hd ht (fun z => hk _ _ _ _ (ka h2 z) H locs ls hl hP hS) (fun z => hk _ _ _ _ (kb h2 z) H locs ls hl hP hS)
    | le => exact lv_if_le hx hb hd ht (fun z => hk _ _ _ _ (ka h2 z) H locs ls hl hP hS) (fun z => hk _ _ _ _ (kb h2 z) H locs ls hl hP hS)
  case tableswitch d lo hi offs =>
    obtain ⟨x, r, rfl, h1⟩ := am_s1_some hr
    obtain ⟨h2, h3⟩ := am_bif h1
    have h2 := of_decide_eq_true h2
    rcases am_sw_some _ _ h3 with ⟨off, t, a1, a2, a3, a4⟩ | ⟨a1, a2⟩
    · have hlt : (x.toInt - lo).toNat < offs.toList.length := (List.getElem?_eq_some_iff.mp a2).1
      refine lv_tableIn hx hb hd (by omega) (by omega) (by rw [← Array.getElem?_toList]; exact a2) a3 (hk _ _ _ _ a4 H locs ls hl hP hS)
    · obtain ⟨t, ht, h5⟩ := am_to_some a2
      exact lv_tableOut hx hb hd (by omega) ht (hk _ _ _ _ h5 H locs ls hl hP hS)
  case getfield ix =>
    cases Nat.eq_of_beq_eq_true hlen
    have hr : (match am_fk me ix with
      | none => none
      | some (ci, j) => am_sa st (fun a r => bif am_isO a ci then (bif am_fi ci j then k (pc + 3) ρ (.int (h a j) :: r) h else (am_G a j).bind (fun b => k (pc + 3) ρ (.ref b :: r) h)) else none)) = some g := hr
    cases hz : am_fk me ix with
    | none => rw [hz] at hr; cases hr
    | some q =>
      obtain ⟨ci, j⟩ := q
      rw [hz] at hr
      obtain ⟨a, r, rfl, h1⟩ := am_sa_some hr
      obtain ⟨h2, h3⟩ := am_bif h1
      obtain ⟨f1, f2, f3, f4, f5, f6, f7⟩ := am_fk_spec hz
      obtain ⟨g1, g2, g3, g4⟩ := am_cell_o (al := al) (aC := aC) (h := h) h2
      have he := am_W_get (al := al) (aC := aC) (h := h) g2
      rw [g1] at he
      have hv := am_fv_get (al := al) (h := h) g4 f2
      cases hfi : am_fi ci j with
      | true =>
        rw [hfi] at h3 hv
        exact va_get (D := (dC, dI)) (T := am_T ci) (N := am_N ci) hx hb hts f6 hown hK hP a he f5 j f4 (hts _ f3) (fun _ h9 => h9) hv hd (hk _ _ _ _ h3 H locs ls hl hP hS)
      | false =>
        rw [hfi] at h3 hv
        have h3 : (am_G a j).bind (fun b => k (pc + 3) ρ (.ref b :: r) h) = some g := h3
        cases hG : am_G a j with
        | none => rw [hG] at h3; cases h3
        | some b =>
          rw [hG] at h3 hv
          exact va_get (D := (dC, dI)) (T := am_T ci) (N := am_N ci) hx hb hts f6 hown hK hP a he f5 j f4 (hts _ f3) (fun _ h9 => h9) hv hd (hk _ _ _ _ h3 H locs ls hl hP hS)
  case putfield ix =>
    cases Nat.eq_of_beq_eq_true hlen
    have hr : (match am_fk me ix with
      | none => none
      | some (ci, j) => am_s1 st (fun x r => am_sa r (fun a r => bif am_fw ci j && am_isO a ci then k (pc + 3) ρ r (am_pi h a j x) else none))) = some g := hr
    cases hz : am_fk me ix with
    | none => rw [hz] at hr; cases hr
    | some q =>
      obtain ⟨ci, j⟩ := q
      rw [hz] at hr
      obtain ⟨x, r0, rfl, h00⟩ := am_s1_some hr
      obtain ⟨a, r, rfl, h1⟩ := am_sa_some h00
      obtain ⟨h2, h3⟩ := am_bif h1
      rw [Bool.and_eq_true] at h2
      obtain ⟨f1, f2, f3, f4, f5, f6, f7⟩ := am_fk_spec hz
      obtain ⟨w1, w2, w3⟩ := f7 h2.1
      obtain ⟨g1, g2, g3, g4⟩ := am_cell_o (al := al) (aC := aC) (h := h) h2.2
      have he := am_W_get (al := al) (aC := aC) (h := h) g2
      rw [g1] at he
      obtain ⟨ty0, hty, hnm⟩ := am_tyn g3
      refine va_put (D := (dC, dI)) (T := am_T ci) (N := am_N ci) hx hb hts f6 ty0 hty hnm hown hK hP (hD _) hS a he f5 j f4 (hts _ f3) (fun _ h9 => h9) w2 (ty := .int) w3 rfl rfl (by simpa using f2) hd (fun H1 locs1 hP1 hD1 hS1 => ?_)
      have hP1 : va_P (dC, dI) vwCl ((am_W al aC h).set a (al a, .inr (ci, ((List.range (am_nF ci)).map (am_fv al h a)).set j (.int x)))) H1 := hP1
      rw [← am_set_o h2.2 w1 f2, am_W_set g2 rfl] at hP1
      exact hk _ _ _ _ h3 H1 locs1 ls hl hP1 hS1
  case getstatic ix =>
    cases Nat.eq_of_beq_eq_true hlen
    have hr : (match am_sk me ix with
      | none => none
      | some i => k (pc + 3) ρ (.ref i :: st) h) = some g := hr
    unfold am_sk at hr
    cases hz : am_lk (am_skL.getD (am_ow me) []) ix with
    | none => rw [hz] at hr; cases hr
    | some q =>
      rw [hz] at hr
      have hmem := am_lk_mem _ _ _ hz
      obtain ⟨z, hz1, hz2⟩ := am_sk_spec hmem
      obtain ⟨-, -, -, hZ⟩ := hF.1 z hz1
      rw [hz2] at hZ
      rcases hF.2.2.2.2.2.2.2.1 (am_ow me) _ z hmem hz1 hz2 with ⟨-, q2⟩ | ⟨-, q2⟩
      · exact va_gets hx hb hZ hS hown (va_Nw.use rfl q2) (fun _ h9 => h9) hd (hk _ _ _ _ hr H locs ls hl hP hS)
      · exact va_getsN hx hb hZ hS hown (va_Nw.use rfl q2) (fun _ h9 => h9) hd (hk _ _ _ _ hr H locs ls hl hP hS)
  case iaload =>
    cases Nat.eq_of_beq_eq_true hlen
    have hr : am_sia st (fun a x r => bif am_in x (am_len a) then (bif am_isI a then k (pc + 1) ρ (.int (h a x.toNatClampNeg) :: r) h else bif am_isF a then k (pc + 1) ρ (.int (am_sx a x.toNatClampNeg) :: r) h else none) else none) = some g := hr
    obtain ⟨a, x, r, rfl, h1⟩ := am_sia_some hr
    obtain ⟨h2, h3⟩ := am_bif h1
    cases hi : am_isI a with
    | true =>
      rw [hi] at h3
      obtain ⟨g1, g2⟩ := am_cell_i (al := al) (aC := aC) (h := h) hi
      have he := am_W_get (al := al) (aC := aC) (h := h) g2
      rw [g1] at he
      exact va_iald hx hb hK hP a 0 he rfl (am_in_spec h2) hd (hk _ _ _ _ h3 H locs ls hl hP hS)
    | false =>
      rw [hi] at h3
      obtain ⟨h4, h5⟩ := am_bif h3
      obtain ⟨z, hz1, hz2⟩ := am_f_spec h4
      obtain ⟨q1, q2, q3, -⟩ := hF.1 z hz1
      rw [hz2] at q1 q2 q3
      exact va_sld hx hb q1 q3 q2 hS (am_in_spec h2) hd (hk _ _ _ _ h5 H locs ls hl hP hS)
  case baload =>
    cases Nat.eq_of_beq_eq_true hlen
    have hr : am_sia st (fun a x r => bif am_isB a && am_in x (am_len a) then k (pc + 1) ρ (.int (h a x.toNatClampNeg) :: r) h else none) = some g := hr
    obtain ⟨a, x, r, rfl, h1⟩ := am_sia_some hr
    obtain ⟨h2, h3⟩ := am_bif h1
    rw [Bool.and_eq_true] at h2
    obtain ⟨g1, g2⟩ := am_cell_b (al := al) (aC := aC) (h := h) h2.1
    have he := am_W_get (al := al) (aC := aC) (h := h) g2
    rw [g1] at he
    exact va_zald hx hb hK hP a 1 he rfl (am_in_spec h2.2) hd (hk _ _ _ _ h3 H locs ls hl hP hS)
  case aaload =>
    cases Nat.eq_of_beq_eq_true hlen
    have hr : am_sia st (fun a x r => bif am_isA a && am_in x (am_len a) then (am_G a x.toNatClampNeg).bind (fun b => k (pc + 1) ρ (.ref b :: r) h) else none) = some g := hr
    obtain ⟨a, x, r, rfl, h1⟩ := am_sia_some hr
    obtain ⟨h2, h3⟩ := am_bif h1
    rw [Bool.and_eq_true] at h2
    obtain ⟨g1, g2, g3, g4⟩ := am_cell_a (al := al) (aC := aC) (h := h) h2.1
    have he := am_W_get (al := al) (aC := aC) (h := h) g2
    rw [g1] at he
    have hin := am_in_spec h2.2
    have hlt : x.toNatClampNeg < am_len a := Nat.not_le.mp fun q => hin (Or.inr q)
    cases hG : am_G a x.toNatClampNeg with
    | none => rw [hG] at h3; cases h3
    | some b =>
      rw [hG] at h3
      have ht : (am_tys aC)[(am_kd a).2.1]? = some (aC (am_kd a).2.1, am_tyL.getD (am_kd a).2.1 .int) := by
        unfold am_tys
        rw [List.getElem?_map, List.getElem?_range g4]
        rfl
      have hrf : (am_tyL.getD (am_kd a).2.1 FieldType.int).isReference = true := by
        have key : ∀ t, t < 7 → 1 < t → (am_tyL.getD t FieldType.int).isReference = true := by decide
        exact key _ g4 g3
      exact W.aald (v := .ref (al b)) hx hb (hP a _ he) ((hK.2 _ _ ht).1 (am_len a) (fun j => va_rf ((am_G a j).map al))) hrf (fun q => by cases q) (by show ¬ (x < 0 ∨ (arrV _ _ _).slots.size ≤ _); rw [arrV_size]; exact hin) (by show (arrV _ _ _).slots[_]? = _; rw [arrV_read _ _ hlt]; show some (va_rf (Option.map al (am_G a x.toNatClampNeg))) = _; rw [hG]; rfl) rfl rfl hd (hk _ _ _ _ h3 H locs ls hl hP hS)
  case iastore =>
    cases Nat.eq_of_beq_eq_true hlen
    have hr : am_siia st (fun a i x r => bif am_isI a && am_in i (am_len a) then k (pc + 1) ρ r (am_pi h a i.toNatClampNeg x) else none) = some g := hr
    obtain ⟨a, i, x, r, rfl, h1⟩ := am_siia_some hr
    obtain ⟨h2, h3⟩ := am_bif h1
    rw [Bool.and_eq_true] at h2
    obtain ⟨g1, g2⟩ := am_cell_i (al := al) (aC := aC) (h := h) h2.1
    obtain ⟨g5, -⟩ := am_cell_i (al := al) (aC := aC) (h := am_pi h a i.toNatClampNeg x) h2.1
    have he := am_W_get (al := al) (aC := aC) (h := h) g2
    rw [g1] at he
    refine va_iast hx hb hK hP (hD _) hS a 0 he rfl (am_in_spec h2.2) hd (fun H1 locs1 hP1 hD1 hS1 => ?_)
    rw [← am_pi_eq, ← g5, am_W_set g2 rfl] at hP1
    exact hk _ _ _ _ h3 H1 locs1 ls hl hP1 hS1
  case bastore =>
    cases Nat.eq_of_beq_eq_true hlen
    have hr : am_siia st (fun a i x r => bif am_isB a && am_in i (am_len a) then k (pc + 1) ρ r (am_pi h a i.toNatClampNeg (x &&& 1)) else none) = some g := hr
    obtain ⟨a, i, x, r, rfl, h1⟩ := am_siia_some hr
    obtain ⟨h2, h3⟩ := am_bif h1
    rw [Bool.and_eq_true] at h2
    obtain ⟨g1, g2⟩ := am_cell_b (al := al) (aC := aC) (h := h) h2.1
    obtain ⟨g5, -⟩ := am_cell_b (al := al) (aC := aC) (h := am_pi h a i.toNatClampNeg (x &&& 1)) h2.1
    have he := am_W_get (al := al) (aC := aC) (h := h) g2
    rw [g1] at he
    refine va_zast hx hb hK hP (hD _) hS a 1 he rfl (am_in_spec h2.2) hd (fun H1 locs1 hP1 hD1 hS1 => ?_)
    have hnz : vp_nar .boolean x = x &&& 1 := rfl
    rw [hnz, ← am_pi_eq, ← g5, am_W_set g2 rfl] at hP1
    exact hk _ _ _ _ h3 H1 locs1 ls hl hP1 hS1
  case arraylength =>
    cases Nat.eq_of_beq_eq_true hlen
    have hr : am_sa st (fun a r => bif am_isI a || am_isA a || am_isF a then k (pc + 1) ρ (.int (Int32.ofNat (am_len a)) :: r) h else none) = some g := hr
    obtain ⟨a, r, rfl, h1⟩ := am_sa_some hr
    obtain ⟨h2, h3⟩ := am_bif h1
    rw [Bool.or_eq_true, Bool.or_eq_true] at h2
    rcases h2 with (h2 | h2) | h2
    · obtain ⟨g1, g2⟩ := am_cell_i (al := al) (aC := aC) (h := h) h2
      have he := am_W_get (al := al) (aC := aC) (h := h) g2
      rw [g1] at he
      exact va_alen hx hb hK hP a 0 he rfl rfl hd (hk _ _ _ _ h3 H locs ls hl hP hS)
    · obtain ⟨g1, g2, g3, g4⟩ := am_cell_a (al := al) (aC := aC) (h := h) h2
      have he := am_W_get (al := al) (aC := aC) (h := h) g2
      rw [g1] at he
      have ht : (am_tys aC)[(am_kd a).2.1]? = some (aC (am_kd a).2.1, am_tyL.getD (am_kd a).2.1 .int) := by
        unfold am_tys
        rw [List.getElem?_map, List.getElem?_range g4]
        rfl
      exact va_alen hx hb hK hP a _ he ht rfl hd (hk _ _ _ _ h3 H locs ls hl hP hS)
    · obtain ⟨z, hz1, hz2⟩ := am_f_spec h2
      obtain ⟨q1, q2, q3, -⟩ := hF.1 z hz1
      rw [hz2] at q1 q2 q3
      exact va_slen hx hb q1 q3 q2 hS hd (hk _ _ _ _ h3 H locs ls hl hP hS)
  case invokevirtual ix =>
    cases Nat.eq_of_beq_eq_true hlen
    exact hcall 0 ix (Or.inl ⟨rfl, rfl⟩) hr H locs ls hl hP hS
  case invokestatic ix =>
    cases Nat.eq_of_beq_eq_true hlen
    exact hcall 1 ix (Or.inr ⟨rfl, rfl⟩) hr H locs ls hl hP hS
  case ireturn =>
    cases Nat.eq_of_beq_eq_true hlen
    have hr : am_s1 st (fun x r => bif r.isEmpty then (bif Nat.beq (am_rk me) 1 then ret (some (some (.int x))) h else bif Nat.beq (am_rk me) 2 then (if x &&& 1 = x then ret (some (some (.int x))) h else none) else none) else none) = some g := hr
    obtain ⟨x, r, rfl, h1⟩ := am_s1_some hr
    obtain ⟨h2, h3⟩ := am_bif h1
    cases List.isEmpty_iff.mp h2
    cases h4 : Nat.beq (am_rk me) 1 with
    | true =>
      rw [h4] at h3
      obtain ⟨e1, e2⟩ := hret _ _ h3
      subst e1; subst e2
      exact vx_ret (W.iret hx hb (by rw [hrt]; exact am_rk1 h4) (am_leaf (v := some (.int x)) hK hP hS) hS.2.2 hd)
    | false =>
      rw [h4] at h3
      obtain ⟨h5, h6⟩ := am_bif h3
      by_cases hz : x &&& 1 = x
      · rw [if_pos hz] at h6
        obtain ⟨e1, e2⟩ := hret _ _ h6
        subst e1; subst e2
        exact vx_ret (W.zret (ty := .boolean) hx hb (by rw [hrt]; exact am_rk2 h5) (by show Value.int (x &&& 1) = _; rw [hz]) (am_leaf (v := some (.int x)) hK hP hS) hS.2.2 hd)
      · rw [if_neg hz] at h6; cases h6
  case areturn =>
    cases Nat.eq_of_beq_eq_true hlen
    have hr : am_sa st (fun x r => bif r.isEmpty && Nat.beq (am_rk me) 4 then ret (some (some (.ref x))) h else none) = some g := hr
    obtain ⟨x, r, rfl, h1⟩ := am_sa_some hr
    obtain ⟨h2, h3⟩ := am_bif h1
    rw [Bool.and_eq_true] at h2
    cases List.isEmpty_iff.mp h2.1
    obtain ⟨e1, e2⟩ := hret _ _ h3
    subst e1; subst e2
    obtain ⟨nm, hnm⟩ := am_rk4 h2.2
    exact vx_ret (W.aret hx hb (by rw [hrt]; exact hnm) (Or.inl ⟨nm, rfl⟩) (Or.inr ⟨_, rfl⟩) (am_leaf (v := some (.ref x)) hK hP hS) hS.2.2 hd)
  case freturn =>
    cases Nat.eq_of_beq_eq_true hlen
    have hr : am_sf st (fun x r => bif r.isEmpty && Nat.beq (am_rk me) 3 then ret (some (some (.float x))) h else none) = some g := hr
    obtain ⟨x, r, rfl, h1⟩ := am_sf_some hr
    obtain ⟨h2, h3⟩ := am_bif h1
    rw [Bool.and_eq_true] at h2
    cases List.isEmpty_iff.mp h2.1
    obtain ⟨e1, e2⟩ := hret _ _ h3
    subst e1; subst e2
    exact vx_ret (W.fret hx hb (by rw [hrt]; exact am_rk3 h2.2) (am_leaf (v := some (.float x)) hK hP hS) hS.2.2 hd)
  case return_ =>
    cases Nat.eq_of_beq_eq_true hlen
    have hr : (bif st.isEmpty && Nat.beq (am_rk me) 5 then ret (some none) h else none) = some g := hr
    obtain ⟨h2, h3⟩ := am_bif hr
    rw [Bool.and_eq_true] at h2
    cases List.isEmpty_iff.mp h2.1
    obtain ⟨e1, e2⟩ := hret _ _ h3
    subst e1; subst e2
    exact vx_ret (W.vret hx hb (by rw [hrt]; exact am_rk5 h2.2) (am_leaf (v := none) hK hP hS) hS.2.2 hd)
  case new ix =>
    cases Nat.eq_of_beq_eq_true hlen
    have hr : (bif am_thr me pc ix && Nat.ble 6 (am_fr me) && Nat.ble 100 (am_lo me) && st.isEmpty then ret none h else none) = some g := hr
    obtain ⟨h2, h3⟩ := am_bif hr
    simp only [Bool.and_eq_true] at h2
    obtain ⟨⟨⟨t1, t2⟩, t3⟩, t4⟩ := h2
    cases List.isEmpty_iff.mp t4
    obtain ⟨e1, e2⟩ := hret _ _ h3
    subst e1; subst e2
    obtain ⟨d0, d3, d4, d7, ho⟩ := am_thr_spec t1
    rw [ho] at hown
    have t2 := Nat.le_of_ble_eq_true t2
    have t3 := Nat.le_of_ble_eq_true t3
    have hRf : R.frames = am_fr me := by rw [hR]; rfl
    have hRl : R.locals = am_lo me := by rw [hR]; rfl
    have hRc : R.cells = 1 := by rw [hR]; rfl
    have hRs : R.slots = 6 := by rw [hR]; rfl
    have hat : ∀ w ∈ am_tw, w.before args s = true := vx_hat (B := am_TB) (fun w hw => hts w (am_tw_in hw)) (fun w hw => by rw [am_tw_bad] at hw; exact hw) (fun w hw => va_Nw.use (am_TB_ot w hw) (hF.2.2.2.2.2.1 w hw))
    refine vx_throw0 hx hb htr (own := RX9) (cls := "java/lang/IndexOutOfBoundsException") (names := ["java/lang/RuntimeException", "java/lang/Exception"]) (ik := 317) (ic := 319) hown (by decide +kernel) (by decide +kernel) (va_Nw.use rfl hF.2.2.2.2.2.2.2.2.2.1) (va_Nw.use rfl hF.2.2.2.2.2.2.2.2.2.2.1) hat am_tw_ot hF.2.1 hF.2.2.1 hS (by rw [hml]; exact hl.1) d0 d3 d4 d7 (fun x hx => absurd hx (fun q => hexc x q)) (by rw [hRf]; exact t2) (by rw [hRl]; show 0 + (13 * (2 + 1) + 42) ≤ _; omega) (by rw [hRc]; exact Nat.le_refl _) (by rw [hRs]; exact Nat.le_refl _) hlocks ?_ hS.2.2 (Nat.le_refl _) (Nat.le_refl _)
    intro t ht hz hq
    refine ⟨rfl, rfl, ⟨hP.kept (fun kk q hkk => hq _ (hP kk q hkk).lt), va_K.moved ht hK⟩, Nat.le_trans hS.1 hz, fun q h1 h2 => (hq q (Nat.lt_of_lt_of_le h1 hS.1)).trans (hS.2.1 q h1 h2)⟩
  all_goals exact absurd (show (none : Option γ) = some g from hr) (by simp)
end AMP
