section TM2
/-- the law's constants, and the words that don't lie in the tables for good -/
def tm_rs : List (Nat × Nat) := [(21, 0), (47, 1), (49, 2), (54, 3), (62, 4), (68, 5), (81, 6), (83, 7)]
def tm_kc : List (String × Nat × Int32) := [("SharedConsoleLaw", 7, 2147483647), ("java/lang/AbstractStringBuilder", 39, 2147483647), ("jdk/internal/util/ArraysSupport", 200, 2147483639)]
/-- a builder's private methods -/
def tm_pv : List MethodName := [tm_y 18, tm_y 19, tm_y 24, tm_y 25]
def tm_tys (aC : Nat → ClassId) : List (ClassId × FieldType) := am_tys aC ++ [(aC 7, .byte)]
theorem tm_tys7 {aC : Nat → ClassId} : (tm_tys aC)[7]? = some (aC 7, FieldType.byte) := rfl
theorem tm_tys0 {aC : Nat → ClassId} : (tm_tys aC)[0]? = some (aC 0, FieldType.int) := rfl
theorem tm_K {D : va_G} {aC : Nat → ClassId} {U : State} (h : va_K D vwCl (tm_tys aC) U) : va_K D vwCl (am_tys aC) U := va_K.sub h [0, 1, 2, 3, 4, 5, 6] rfl
/-- what lies outside: strings, digits, the law's numbers -/
def tm_Fx (al : Nat → Nat) (X : tm_X) (A : Nat → Prop) (U : State) (H : Heap) : Prop :=
  vk_S 8 tm_slL tm_sbL (fun i => al (900 + i)) (fun i => al (920 + i)) A U H ∧
  (∀ q ∈ tm_rs, vk_R RL q.1 (tm_stL.getD q.2 "") (al (900 + q.2)) U) ∧
  (∀ q ∈ tm_kc, va_Nw (.constant q.1 q.2.1 q.2.2) U) ∧
  (va_T .byte (al 940) 100 (fun j => .int (tm_dg 0 j)) A U H ∧ va_Z "java/lang/Integer" "DigitOnes" "[B" (.ref (al 940)) A U H) ∧
  (va_T .byte (al 941) 100 (fun j => .int (tm_dg 1 j)) A U H ∧ va_Z "java/lang/Integer" "DigitTens" "[B" (.ref (al 941)) A U H) ∧
  (va_X (al 950) X.1 X.2 U H ∧ ¬ A (al 950) ∧ al 950 < H.size ∧ (∀ y ∈ tm_pv, va_Nw (.selects RJ4 y y) U) ∧ va_Nw (.castable "[B" "java/lang/Cloneable") U)
theorem tm_fx_kept {al : Nat → Nat} {X : tm_X} {A B : Nat → Prop} {U U1 : State} {H H1 : Heap} (h : tm_Fx al X A U H) (hW : U.WarmedH U1.vm) (hz : H.size ≤ H1.size) (hq : ∀ a : Nat, a < H.size → ¬ A a → H1[a]? = H[a]?) (hAB2 : ∀ q, B q → A q) : tm_Fx al X B U1 H1 := by
  have hvm := hW.alike
  obtain ⟨h1, h2, h3, ⟨h4, h5⟩, ⟨h6, h7⟩, h8, h9, h10, h11, h12⟩ := h
  exact ⟨((h1.kept hq).narrow hAB2).moved hvm, fun q hm => vk_R.warm hW (h2 q hm), fun q hm => word_at hW (Or.inl rfl) (h3 q hm), ⟨((h4.kept hq).narrow hAB2).moved hvm, ((h5.kept hq).narrow hAB2).moved hvm⟩, ⟨((h6.kept hq).narrow hAB2).moved hvm, ((h7.kept hq).narrow hAB2).moved hvm⟩, (h8.kept (hq _ h10 h9)).moved hvm, fun z => h9 (hAB2 _ z), Nat.lt_of_lt_of_le h10 hz, fun y hy => word_at hW (Or.inl rfl) (h11 y hy), va_tabs (u := U.setVm U1.vm) rfl rfl ((Cond.castable_setVm hvm _ _).trans h12)⟩
def tm_P (al : Nat → Nat) (dC : Nat → ClassId) (dI : Nat → Nat → Nat) (aC : Nat → ClassId) (aV : Nat → Nat) (x0 x1 : Nat) (X : tm_X) (S : dm_S) (U : State) : Prop :=
  U.heap.size = x1 + (dm_n S - 1000) ∧ va_P (dC, dI) vwCl (tm_W al aC x1 S) U.heap ∧ va_K (dC, dI) vwCl (tm_tys aC) U ∧ am_Fx al aV (fun q => x0 ≤ q) U U.heap ∧ tm_Fx al X (fun q => x0 ≤ q) U U.heap
def tm_Q (al : Nat → Nat) (dC : Nat → ClassId) (dI : Nat → Nat → Nat) (aC : Nat → ClassId) (x0 x1 : Nat) (v : Option Value) (S : dm_S) : Array Value → State → Outcome → State → Prop := fun _ st oc t =>
  oc = .returned (v.map (am_rl (dm_al al x1))) ∧ t.heap.size = x1 + (dm_n S - 1000) ∧ va_P (dC, dI) vwCl (tm_W al aC x1 S) t.heap ∧ va_F (fun q => x0 ≤ q) st t
def tm_rm (me n z : Nat) : Room := { frames := tm_fr me, cells := n, slots := z, locals := tm_lo me }
def tm_ws (me : Nat) : List Cond := .code (tm_y me) (tm_cc me) (tm_ml me) (tm_re me) :: am_AT
/-- method me, called with these values in this state, answers so, and leaves that state -/
def tm_Met (l : Launch) (al : Nat → Nat) (dC : Nat → ClassId) (dI : Nat → Nat → Nat) (aC : Nat → ClassId) (aV : Nat → Nat) (x0 x1 : Nat) (X : tm_X) (me : Nat) (as : List Value) (S : dm_S) (v : Option Value) (S' : dm_S) : Prop :=
  1000 ≤ dm_n S → (dm_n S ≤ dm_n S' ∧ dm_zz S ≤ dm_zz S' ∧ Met l (tm_y me) (tm_ws me) (tm_rm me (dm_n S' - dm_n S) (dm_zz S' - dm_zz S)) (va_Pc (as.map (am_rl (dm_al al x1))) (tm_P al dC dI aC aV x0 x1 X S)) (tm_Q al dC dI aC x0 x1 v S') (dm_n S' - dm_n S) (dm_zz S' - dm_zz S) (fun q => x0 ≤ q))
def tm_OS (l : Launch) (al : Nat → Nat) (dC : Nat → ClassId) (dI : Nat → Nat → Nat) (aC : Nat → ClassId) (aV : Nat → Nat) (x0 x1 : Nat) (X : tm_X) (orc : dm_Orc) : Prop :=
  ∀ (γ : Type) (mid : Nat) (as : List Value) (S : dm_S) (k : Option Value → dm_S → Option γ) (g : γ), orc γ mid as S k = some g → ∃ v S', tm_Met l al dC dI aC aV x0 x1 X mid as S v S' ∧ k v S' = some g
theorem tm_blind {al : Nat → Nat} {dC : Nat → ClassId} {dI : Nat → Nat → Nat} {aC : Nat → ClassId} {aV : Nat → Nat} {x0 x1 : Nat} {X : tm_X} {as : List Value} {S : dm_S} : FrameBlind (va_Pc as (tm_P al dC dI aC aV x0 x1 X S)) := by
  intro b U g mk q
  obtain ⟨q0, q1, q2, q3, q4, q5⟩ := q
  exact ⟨q0, q1, q2, va_K.moved (u := U) (U := U.calling g mk b) (Vm.Alike.refl U.vm) q3, am_fx_kept (U1 := U.calling g mk b) q4 (State.WarmedH.refl U) (Nat.le_refl _) (fun _ _ _ => rfl) (fun _ _ h => h) (fun _ h => h), tm_fx_kept (U1 := U.calling g mk b) q5 (State.WarmedH.refl U) (Nat.le_refl _) (fun _ _ _ => rfl) (fun _ h => h)⟩
section
variable {p : Program} {l : Launch} {e : Env} {R : Room} {s : State} {m : MethodId} {args : Array Value} {below : List Frame} {meth : Method} {c : Code}
/-- what a walk stands on -/
def tm_Cx (p : Program) (R : Room) (s : State) (m : MethodId) (args : Array Value) (meth : Method) (c : Code) (al : Nat → Nat) (dC : Nat → ClassId) (dI : Nat → Nat → Nat) (aC : Nat → ClassId) (aV : Nat → Nat) (x0 x1 : Nat) (X : tm_X) (me N0 Z0 : Nat) (SO : dm_S) : Prop :=
  p.tables.exec = Jvm.exec ∧ c.code = tm_cc me ∧ c.maxLocals = tm_ml me ∧ s.vm.findClass (tm_own me) = some m.cls ∧ (∀ w ∈ am_AT, w.before args s = true) ∧ meth.locks = false ∧ meth.sig.returnType = tm_re me ∧
  va_K (dC, dI) vwCl (tm_tys aC) s ∧ am_Fx al aV (fun q => x0 ≤ q) s s.heap ∧ tm_Fx al X (fun q => x0 ≤ q) s s.heap ∧ R = tm_rm me (dm_n SO - N0) (dm_zz SO - Z0) ∧ dm_Al al x0 x1 ∧ s.heap.size = x1 + (N0 - 1000) ∧ 1000 ≤ N0 ∧ meth.name = (tm_y me).name
/-- the machine from here on ends as vO and SO say -/
def tm_At (p : Program) (l : Launch) (e : Env) (R : Room) (s : State) (m : MethodId) (args : Array Value) (below : List Frame) (meth : Method) (c : Code) (al : Nat → Nat) (dC : Nat → ClassId) (dI : Nat → Nat → Nat) (aC : Nat → ClassId) (x0 x1 me N0 Z0 : Nat) (vO : Option Value) (SO : dm_S) (pc : Nat) (ρ : am_Lc) (st : List Value) (S : dm_S) : Prop :=
  N0 ≤ dm_n S → Z0 ≤ dm_zz S → (dm_n S ≤ dm_n SO ∧ dm_zz S ≤ dm_zz SO ∧ ∀ (H : Heap) (locs : List Loc) (ls : Array Slot), lv_has ls (tm_ml me) (am_rls (dm_al al x1) ρ) → va_P (dC, dI) vwCl (tm_W al aC x1 S) H → va_S (fun q => x0 ≤ q) s.heap H locs →
    W p l e R s m args below meth c H locs (dm_n S - N0) (dm_zz S - Z0) (MQ below (tm_Q al dC dI aC x0 x1 vO SO) args s (dm_n SO - N0) (dm_zz SO - Z0) (fun q => x0 ≤ q)) (F0 m pc ls (st.map (am_rl (dm_al al x1)))))
end
-- ---- what the tables say
/-- the class of a kind: 11 a string, 12 a builder -/
def tm_R (ci : Nat) : String := bif Nat.beq ci 11 then RJ0 else RJ4
def tm_T (ci : Nat) : u_T := bif Nat.beq ci 11 then TJ0 else TJ4
def tm_ty (ci j : Nat) : FieldType := bif Nat.beq j 0 then .array .byte else bif Nat.beq j 1 then .byte else bif Nat.beq ci 11 then (bif Nat.beq j 2 then .int else .boolean) else (bif Nat.beq j 2 then .boolean else .int)
theorem tm_cl {ci : Nat} (h : ci = 11 ∨ ci = 12) : vwCl[ci]? = some (tm_R ci, tm_T ci, 4) := by
  rcases h with rfl | rfl <;> rfl
theorem tm_ty_ok {ci : Nat} (h : ci = 11 ∨ ci = 12) : ∀ k, k < 4 → parseFieldDescriptor (tm_T ci k).2.2.1 = some (tm_ty ci k) := by
  rcases h with rfl | rfl <;> decide +kernel
theorem tm_nm {ci : Nat} (h : ci = 11 ∨ ci = 12) : ∀ a, a < 4 → ∀ b, b < 4 → a ≠ b → (tm_T ci a).2.1 ≠ (tm_T ci b).2.1 := by
  rcases h with rfl | rfl <;> decide +kernel
set_option maxRecDepth 100000 in
theorem tm_uw11 : (u_ws RJ0 TJ0 4).all dm_inT = true := by decide +kernel
set_option maxRecDepth 100000 in
theorem tm_uw12 : (u_ws RJ4 TJ4 4).all dm_inT = true := by decide +kernel
theorem tm_uw {ci : Nat} (h : ci = 11 ∨ ci = 12) : ∀ w ∈ u_ws (tm_R ci) (tm_T ci) 4, w ∈ am_AT := by
  rcases h with rfl | rfl
  · exact fun w hw => dm_inT_spec (List.all_eq_true.mp tm_uw11 w hw)
  · exact fun w hw => dm_inT_spec (List.all_eq_true.mp tm_uw12 w hw)
/-- the field links -/
def tm_fok (me : Nat) (q : Nat × Nat × Nat) : Bool := (Nat.beq q.2.1 11 || Nat.beq q.2.1 12) && Nat.blt q.2.2 4 && dm_inT (.fieldLink (tm_own me) q.1 (tm_T q.2.1 q.2.2).1 (tm_T q.2.1 q.2.2).2.1 (tm_T q.2.1 q.2.2).2.2.1)
set_option maxRecDepth 1000000 in
theorem tm_fk_ok : (List.range 47).all (fun me => (tm_fkL.getD me []).all (tm_fok me)) = true := by decide +kernel
theorem tm_fk_spec {me ix ci j : Nat} (hm : me < 47) (h : tm_fk me ix = some (ci, j)) : (ci = 11 ∨ ci = 12) ∧ j < 4 ∧ (Cond.fieldLink (tm_own me) ix (tm_T ci j).1 (tm_T ci j).2.1 (tm_T ci j).2.2.1) ∈ am_AT := by
  have h1 := List.all_eq_true.mp (List.all_eq_true.mp tm_fk_ok me (List.mem_range.mpr hm)) _ (am_lk_mem _ _ _ h)
  unfold tm_fok at h1
  rw [Bool.and_eq_true, Bool.and_eq_true, Bool.or_eq_true] at h1
  exact ⟨h1.1.1.imp Nat.eq_of_beq_eq_true Nat.eq_of_beq_eq_true, Nat.blt_eq.mp h1.1.2, dm_inT_spec h1.2⟩
/-- the new ones -/
def tm_nok (me : Nat) (q : Nat × Nat) : Bool := (Nat.beq q.2 11 || Nat.beq q.2 12) && dm_inT (.classLink (tm_own me) q.1 (tm_R q.2)) && dm_inT (.instantiable (tm_R q.2) 4) && dm_inT (.initialized (tm_R q.2))
set_option maxRecDepth 1000000 in
theorem tm_nk_ok : (List.range 47).all (fun me => (tm_nkL.getD me []).all (tm_nok me)) = true := by decide +kernel
theorem tm_nk_spec {me ix ci : Nat} (hm : me < 47) (h : tm_nk me ix = some ci) : (ci = 11 ∨ ci = 12) ∧ (Cond.classLink (tm_own me) ix (tm_R ci)) ∈ am_AT ∧ (Cond.instantiable (tm_R ci) 4) ∈ am_AT ∧ (Cond.initialized (tm_R ci)) ∈ am_AT := by
  have h1 := List.all_eq_true.mp (List.all_eq_true.mp tm_nk_ok me (List.mem_range.mpr hm)) _ (am_lk_mem _ _ _ h)
  unfold tm_nok at h1
  rw [Bool.and_eq_true, Bool.and_eq_true, Bool.and_eq_true, Bool.or_eq_true] at h1
  exact ⟨h1.1.1.1.imp Nat.eq_of_beq_eq_true Nat.eq_of_beq_eq_true, dm_inT_spec h1.1.1.2, dm_inT_spec h1.1.2, dm_inT_spec h1.2⟩
/-- the statics -/
def tm_sn (j : Nat) : String × String × String := bif Nat.beq j 1 then ("java/lang/String", "COMPACT_STRINGS", "Z") else bif Nat.beq j 940 then ("java/lang/Integer", "DigitOnes", "[B") else ("java/lang/Integer", "DigitTens", "[B")
def tm_sok (me : Nat) (q : Nat × Nat) : Bool := (Nat.beq q.2 1 || Nat.beq q.2 940 || Nat.beq q.2 941) && dm_inT (.fieldLink (tm_own me) q.1 (tm_sn q.2).1 (tm_sn q.2).2.1 (tm_sn q.2).2.2)
set_option maxRecDepth 1000000 in
theorem tm_sk_ok : (List.range 45).all (fun me => (tm_skL.getD me []).all (tm_sok me)) = true := by decide +kernel
theorem tm_sk_spec {me ix j : Nat} (hm : me < 45) (h : tm_sk me ix = some j) : (j = 1 ∨ j = 940 ∨ j = 941) ∧ (Cond.fieldLink (tm_own me) ix (tm_sn j).1 (tm_sn j).2.1 (tm_sn j).2.2) ∈ am_AT := by
  have h1 := List.all_eq_true.mp (List.all_eq_true.mp tm_sk_ok me (List.mem_range.mpr hm)) _ (am_lk_mem _ _ _ h)
  unfold tm_sok at h1
  rw [Bool.and_eq_true, Bool.or_eq_true, Bool.or_eq_true] at h1
  refine ⟨?_, dm_inT_spec h1.2⟩
  rcases h1.1 with (z | z) | z
  · exact Or.inl (Nat.eq_of_beq_eq_true z)
  · exact Or.inr (Or.inl (Nat.eq_of_beq_eq_true z))
  · exact Or.inr (Or.inr (Nat.eq_of_beq_eq_true z))
/-- the constants -/
def tm_cok (me : Nat) (q : Nat × (Int32 ⊕ Nat)) : Bool := match q.2 with
  | .inl v => decide ((tm_own me, q.1, v) ∈ tm_kc)
  | .inr r => tm_cs r && decide (tm_own me = RL) && decide ((q.1, r - 900) ∈ tm_rs)
set_option maxRecDepth 1000000 in
theorem tm_ck_ok : (List.range 47).all (fun me => (tm_ckL.getD me []).all (tm_cok me)) = true := by decide +kernel
theorem tm_ck_spec {me ix : Nat} {v : Int32 ⊕ Nat} (hm : me < 47) (h : tm_ck me ix = some v) : tm_cok me (ix, v) = true :=
  List.all_eq_true.mp (List.all_eq_true.mp tm_ck_ok me (List.mem_range.mpr hm)) _ (am_lk_mem _ _ _ h)
-- ---- cells
section
variable {al : Nat → Nat} {aC : Nat → ClassId} {x1 : Nat} {S : dm_S} {a : Nat}
theorem tm_c5 (h : (dm_k S a).1 = 5) : tm_cell al aC x1 S a = .inr (11, (List.range 4).map (tm_fv al x1 S a)) := by
  unfold tm_cell
  rw [h]; rfl
theorem tm_c6 (h : (dm_k S a).1 = 6) : tm_cell al aC x1 S a = .inr (12, (List.range 4).map (tm_fv al x1 S a)) := by
  unfold tm_cell
  rw [h]; rfl
theorem tm_co {ci : Nat} (hc : ci = 11 ∨ ci = 12) (h : (dm_k S a).1 = ci - 6) : tm_cell al aC x1 S a = .inr (ci, (List.range 4).map (tm_fv al x1 S a)) := by
  rcases hc with rfl | rfl
  · exact tm_c5 h
  · exact tm_c6 h
theorem tm_c4 (h : (dm_k S a).1 = 4) : tm_cell al aC x1 S a = .inl (aC 7, dm_len S a, .inl (fun j => tm_b (dm_g S a j))) := by
  unfold tm_cell
  rw [h]; rfl
theorem tm_c2 (h : (dm_k S a).1 = 2) : tm_cell al aC x1 S a = .inl (aC 0, dm_len S a, .inl (dm_g S a)) := by
  unfold tm_cell
  rw [h]; rfl
theorem tm_set_o {j : Nat} {v : Int32} {w : Value} (hw : tm_fv al x1 (dm_wr S a j v) a j = w) : ((List.range 4).map (tm_fv al x1 S a)).set j w = (List.range 4).map (tm_fv al x1 (dm_wr S a j v) a) := by
  subst hw
  apply List.ext_getElem?
  intro i
  by_cases hi : i < 4
  · by_cases hij : i = j
    · subst hij
      rw [List.getElem?_set_self (by simpa using hi), List.getElem?_map, List.getElem?_range hi]
      rfl
    · rw [List.getElem?_set_ne (Ne.symm hij), List.getElem?_map, List.getElem?_map, List.getElem?_range hi]
      show some (tm_fv al x1 S a i) = some (tm_fv al x1 (dm_wr S a j v) a i)
      unfold tm_fv
      rw [dm_wr_g, if_neg hij]
  · rw [List.getElem?_eq_none (by simpa using hi), List.getElem?_eq_none (by simpa using hi)]
theorem tm_fv_get {j : Nat} (hj : j < 4) : ((List.range 4).map (tm_fv al x1 S a))[j]? = some (tm_fv al x1 S a j) := by
  rw [List.getElem?_map, List.getElem?_range hj]
  rfl
end
end TM2
