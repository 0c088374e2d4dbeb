def f_J9_floorMod_7cf53 (N : Nat) (i0 : Int32) (i1 : Int32) (h : am_Hp) : Option (Int32 × am_Hp) :=
  if i1 = 0 then none else (if 0 ≤ (i0 ^^^ i1) then
    some (i0 - i0 / i1 * i1, h)
  else
    (if (i0 - i0 / i1 * i1) = 0 then
      some (i0 - i0 / i1 * i1, h)
    else
      some ((i0 - i0 / i1 * i1) + i1, h)))
def c_J9_floorMod_7cf53 (N : Nat) : am_Cl := fun _ as h kk => am_s1 as (fun i0 w0 => am_s1 w0 (fun i1 w1 => am_st0 w1 (am_bi (f_J9_floorMod_7cf53 N i0 i1 h) (fun v h => kk (am_oi v) h))))
def o_J9_floorMod_7cf53 (N : Nat) : am_Orc := am_o0
set_option maxRecDepth 100000 in
theorem tok_J9_floorMod_7cf53 : am_tok 2 tJ9_floorMod_7cf53 := by
  unfold am_tok
  decide +kernel
def f_SLEN (N : Nat) (a0 : Nat) (h : am_Hp) : Option (Int32 × am_Hp) := bif Nat.beq (am_kd a0).1 6 then some (Int32.ofNat (am_SL a0), h) else none
def c_SLEN (N : Nat) : am_Cl := fun _ as h kk => am_sa as (fun a0 w0 => am_st0 w0 (am_bi (f_SLEN N a0 h) (fun v h => kk (am_oi v) h)))
def am_SC (a i : Nat) : Int32 := (am_sbyt.getD (a - am_s0) []).getD i 0
def f_SCHR (N : Nat) (a0 : Nat) (i1 : Int32) (h : am_Hp) : Option (Int32 × am_Hp) := bif Nat.beq (am_kd a0).1 6 && am_in i1 (am_SL a0) then some (am_SC a0 i1.toNatClampNeg, h) else none
def c_SCHR (N : Nat) : am_Cl := fun _ as h kk => am_sa as (fun a0 w0 => am_s1 w0 (fun i1 w1 => am_st0 w1 (am_bi (f_SCHR N a0 i1 h) (fun v h => kk (am_oi v) h))))
section JK
variable {l : Launch}
def jk_yco : MethodName := ⟨"java/lang/String", "coder", "()B"⟩
def jk_yil : MethodName := ⟨"java/lang/String", "isLatin1", "()Z"⟩
def jk_yck : MethodName := ⟨"java/lang/String", "checkIndex", "(II)V"⟩
def jk_yla : MethodName := ⟨"java/lang/StringLatin1", "charAt", "([BI)C"⟩
def jk_ypc : MethodName := ⟨"jdk/internal/util/Preconditions", "checkIndex", "(IILjava/util/function/BiFunction;)I"⟩
abbrev jk_cco : ByteArray := prog_21_method_152_code
abbrev jk_cil : ByteArray := prog_21_method_154_code
abbrev jk_cck : ByteArray := prog_21_method_155_code
abbrev jk_cla : ByteArray := prog_23_method_2_code
abbrev jk_cpc : ByteArray := prog_29_method_11_code
/-- the words of the JDK's own calls -/
def jk_L : List Cond := [.fieldLink "java/lang/String" 38 "java/lang/String" "COMPACT_STRINGS" "Z", .fieldLink "java/lang/String" 15 "java/lang/String" "coder" "B", .fieldLink "java/lang/String" 9 "java/lang/String" "value" "[B",
  .methodLink "java/lang/String" 335 jk_yco, .instanceMethod jk_yco, .selects "java/lang/String" jk_yco jk_yco, .initialized "java/lang/String", .code jk_yco jk_cco 1 (some .byte),
  .methodLink "java/lang/String" 492 jk_yil, .instanceMethod jk_yil, .selects "java/lang/String" jk_yil jk_yil, .code jk_yil jk_cil 1 (some .boolean),
  .methodLink "java/lang/String" 495 jk_yla, .static jk_yla, .initialized "java/lang/StringLatin1", .code jk_yla jk_cla 2 (some .char),
  .methodLink "java/lang/StringLatin1" 9 jk_yck, .static jk_yck, .code jk_yck jk_cck 2 none,
  .fieldLink "java/lang/String" 1053 "jdk/internal/util/Preconditions" "SIOOBE_FORMATTER" "Ljava/util/function/BiFunction;", .methodLink "java/lang/String" 1059 jk_ypc, .static jk_ypc, .initialized "jdk/internal/util/Preconditions", .code jk_ypc jk_cpc 3 (some .int)]
set_option maxRecDepth 100000 in
theorem jk_all : jk_L.all (fun w => lw_tbl.any (fun q => decide (q = w)) && goodWord w) = true := by decide +kernel
theorem jk_in {w : Cond} (h : w ∈ jk_L) : w ∈ am_AT := by
  have h1 := List.all_eq_true.mp jk_all w h
  rw [Bool.and_eq_true] at h1
  obtain ⟨q, hq, e⟩ := List.any_eq_true.mp h1.1
  rw [of_decide_eq_true e] at hq
  exact List.mem_filter.mpr ⟨hq, h1.2⟩
def jk_ws (y : MethodName) (cc : ByteArray) (ml : Nat) (re : Option FieldType) : List Cond := .code y cc ml re :: am_AT
theorem jk_good {own : String} {ix : Nat} {C : String} {y : MethodName} {cc : ByteArray} {ml : Nat} {re : Option FieldType} (h1 : Cond.methodLink own ix y ∈ jk_L) (h2 : Cond.instanceMethod y ∈ jk_L) (h3 : Cond.selects C y y ∈ jk_L) (h4 : Cond.initialized C ∈ jk_L) (h5 : Cond.code y cc ml re ∈ jk_L) : GoodIn am_AT (wsV own ix C y (jk_ws y cc ml re)) := by
  intro w hw
  rcases List.mem_append.mp hw with hw | hw
  · simp only [List.mem_cons, List.not_mem_nil, or_false] at hw
    rcases hw with rfl | rfl | rfl | rfl
    · exact ⟨jk_in h1, am_AT_good (jk_in h1)⟩
    · exact ⟨jk_in h2, am_AT_good (jk_in h2)⟩
    · exact ⟨jk_in h3, am_AT_good (jk_in h3)⟩
    · exact ⟨jk_in h4, am_AT_good (jk_in h4)⟩
  · rcases List.mem_cons.mp hw with rfl | hw
    · exact ⟨jk_in h5, am_AT_good (jk_in h5)⟩
    · exact ⟨hw, am_AT_good hw⟩
theorem jk_goodS {own : String} {ix : Nat} {y : MethodName} {cc : ByteArray} {ml : Nat} {re : Option FieldType} (h1 : Cond.methodLink own ix y ∈ jk_L) (h2 : Cond.static y ∈ jk_L) (h4 : Cond.initialized y.cls ∈ jk_L) (h5 : Cond.code y cc ml re ∈ jk_L) : GoodIn am_AT (va_wsS own ix y (jk_ws y cc ml re)) := by
  intro w hw
  rcases List.mem_append.mp hw with hw | hw
  · simp only [List.mem_cons, List.not_mem_nil, or_false] at hw
    rcases hw with rfl | rfl | rfl
    · exact ⟨jk_in h1, am_AT_good (jk_in h1)⟩
    · exact ⟨jk_in h2, am_AT_good (jk_in h2)⟩
    · exact ⟨jk_in h4, am_AT_good (jk_in h4)⟩
  · rcases List.mem_cons.mp hw with rfl | hw
    · exact ⟨jk_in h5, am_AT_good (jk_in h5)⟩
    · exact ⟨hw, am_AT_good hw⟩
/-- what a JDK method finds: this heap -/
def jk_P (al aV : Nat → Nat) (H0 : Heap) (U : State) : Prop := U.heap = H0 ∧ am_Fx al aV (fun q => H0.size ≤ q) U H0
theorem jk_blind {al aV : Nat → Nat} {as : List Value} {H0 : Heap} : FrameBlind (va_Pc as (jk_P al aV H0)) := by
  intro a U g mk q
  obtain ⟨q0, q1, q4⟩ := q
  exact ⟨q0, q1, am_fx_kept (U1 := U.calling g mk a) q4 (State.WarmedH.refl U) (Nat.le_refl _) (fun _ _ _ => rfl) (fun _ _ h => h) (fun _ h => h)⟩
theorem jk_pre {al aV : Nat → Nat} {s : State} {A : Nat → Prop} {As : List Value} (hF : am_Fx al aV A s s.heap) (hA : ∀ q, s.heap.size ≤ q → A q) : ∀ U : State, U.heap = s.heap → s.WarmedH U.vm → va_Pc As (jk_P al aV s.heap) As.toArray U :=
  fun U hU hW => ⟨rfl, hU, am_fx_kept hF hW (Nat.le_refl _) (fun _ _ _ => rfl) (fun q _ z => hA q z) hA⟩
abbrev jk_i (H0 : Heap) (r0 : Int32) : Array Value → State → Outcome → State → Prop := va_Qi (fun r (_ : Unit) => r = r0) (fun _ t => t.heap = H0) (fun q => H0.size ≤ q)
abbrev jk_v (H0 : Heap) : Array Value → State → Outcome → State → Prop := va_Qv (fun (_ : Unit) => True) (fun _ t => t.heap = H0) (fun q => H0.size ≤ q)
def jk_rm (f lo : Nat) : Room := { frames := f, cells := 0, slots := 0, locals := lo }
theorem jk_leaf {s : State} {args : Array Value} {r : Int32} {locs : List Loc} (hS : va_S (fun q => s.heap.size ≤ q) s.heap s.heap locs) : ∀ t : State, t.heap = s.heap → s.WarmedH t.vm → jk_i s.heap r args s (.returned (some (.int r))) t :=
  fun t ht _ => ⟨⟨r, (), rfl, rfl, ht⟩, hS.F ht⟩
theorem jk_leafv {s : State} {args : Array Value} {locs : List Loc} (hS : va_S (fun q => s.heap.size ≤ q) s.heap s.heap locs) : ∀ t : State, t.heap = s.heap → s.WarmedH t.vm → jk_v s.heap args s (.returned none) t :=
  fun t ht _ => ⟨⟨(), rfl, trivial, ht⟩, hS.F ht⟩
set_option maxHeartbeats 1000000 in
theorem jk_coder {al aV : Nat → Nat} (H0 : Heap) (i : Nat) (hi : i < 5) : Met l jk_yco (jk_ws jk_yco jk_cco 1 (some .byte)) (jk_rm 0 0) (va_Pc [.ref (al (am_s0 + i))] (jk_P al aV H0)) (jk_i H0 0) 0 0 (fun q => H0.size ≤ q) := by
  refine Met.ofW (cc := jk_cco) (maxL := 1) (ret := some .byte) (by decide +kernel) rfl ?_
  intro p e s m args below meth c s₁ B hml hv
  obtain ⟨rfl, rfl, hF⟩ := hv
  have hts : ∀ w ∈ am_AT, w.before _ s = true := fun w hw => atoms_spec (ws := jk_ws jk_yco jk_cco 1 (some .byte)) B.pre w (List.mem_cons_of_mem _ hw)
  have hown : s.vm.findClass "java/lang/String" = some m.cls := findClass_of_methodNamed B.named
  have hl := lv_entry [.ref (al (am_s0 + i))] (n := 1) (Nat.le_of_ble_eq_true rfl)
  rw [lg_entry_eq]
  obtain ⟨-, k2, -, -⟩ := hF.2.2.2.1.1 i hi
  refine va_gets B.exec B.bytes (index := 38) hF.2.2.2.2.2.2.2.2.2.2.2.1 va_S.rf hown (hts _ (jk_in (by simp [jk_L]; try decide))) (fun x h => h) (by decide +kernel) ?_
  refine lv_if_eq B.exec B.bytes (off := 10) (tgt := 13) (by decide +kernel) rfl (fun z => absurd z (by decide)) (fun _ => ?_)
  refine lv_aload_n B.exec B.bytes (k := 0) (i := 0) (by decide +kernel) rfl (hl.2.2 (0, _) List.mem_cons_self) ?_
  refine vk_getf B.exec B.bytes (index := 15) k2 va_S.rf hown (hts _ (jk_in (by simp [jk_L]; try decide))) (fun x h => h) (by decide +kernel) ?_
  refine lv_goto B.exec B.bytes (off := 4) (tgt := 14) (by decide +kernel) rfl ?_
  exact W.zret (ty := .byte) B.exec B.bytes B.returns rfl (jk_leaf va_S.rf) (fun q h => nomatch h) (by decide +kernel)
set_option maxHeartbeats 1000000 in
theorem jk_latin {al aV : Nat → Nat} (H0 : Heap) (i : Nat) (hi : i < 5) : Met l jk_yil (jk_ws jk_yil jk_cil 1 (some .boolean)) (jk_rm 0 0) (va_Pc [.ref (al (am_s0 + i))] (jk_P al aV H0)) (jk_i H0 1) 0 0 (fun q => H0.size ≤ q) := by
  refine Met.ofW (cc := jk_cil) (maxL := 1) (ret := some .boolean) (by decide +kernel) rfl ?_
  intro p e s m args below meth c s₁ B hml hv
  obtain ⟨rfl, rfl, hF⟩ := hv
  have hts : ∀ w ∈ am_AT, w.before _ s = true := fun w hw => atoms_spec (ws := jk_ws jk_yil jk_cil 1 (some .boolean)) B.pre w (List.mem_cons_of_mem _ hw)
  have hown : s.vm.findClass "java/lang/String" = some m.cls := findClass_of_methodNamed B.named
  have hl := lv_entry [.ref (al (am_s0 + i))] (n := 1) (Nat.le_of_ble_eq_true rfl)
  rw [lg_entry_eq]
  obtain ⟨-, k2, -, -⟩ := hF.2.2.2.1.1 i hi
  refine va_gets B.exec B.bytes (index := 38) hF.2.2.2.2.2.2.2.2.2.2.2.1 va_S.rf hown (hts _ (jk_in (by simp [jk_L]; try decide))) (fun x h => h) (by decide +kernel) ?_
  refine lv_if_eq B.exec B.bytes (off := 14) (tgt := 17) (by decide +kernel) rfl (fun z => absurd z (by decide)) (fun _ => ?_)
  refine lv_aload_n B.exec B.bytes (k := 0) (i := 0) (by decide +kernel) rfl (hl.2.2 (0, _) List.mem_cons_self) ?_
  refine vk_getf B.exec B.bytes (index := 15) k2 va_S.rf hown (hts _ (jk_in (by simp [jk_L]; try decide))) (fun x h => h) (by decide +kernel) ?_
  refine lv_if_ne B.exec B.bytes (off := 7) (tgt := 17) (by decide +kernel) rfl (fun z => absurd rfl z) (fun _ => ?_)
  refine lv_iconst B.exec B.bytes (n := 1) (v := 1) (by decide +kernel) rfl ?_
  refine lv_goto B.exec B.bytes (off := 4) (tgt := 18) (by decide +kernel) rfl ?_
  exact W.zret (ty := .boolean) B.exec B.bytes B.returns rfl (jk_leaf va_S.rf) (fun q h => nomatch h) (by decide +kernel)
set_option maxHeartbeats 1000000 in
theorem jk_prec {al aV : Nat → Nat} (H0 : Heap) (i n : Int32) (v : Value) (h0 : ¬ i < 0) (h1 : i < n) (hv : v = .null ∨ ∃ t, v = .ref t) : Met l jk_ypc (jk_ws jk_ypc jk_cpc 3 (some .int)) (jk_rm 0 0) (va_Pc [.int i, .int n, v] (jk_P al aV H0)) (jk_i H0 i) 0 0 (fun q => H0.size ≤ q) := by
  refine Met.ofW (cc := jk_cpc) (maxL := 3) (ret := some .int) (by decide +kernel) rfl ?_
  intro p e s m args below meth c s₁ B hml hv
  obtain ⟨rfl, rfl, hF⟩ := hv
  have hl := lv_entry [.int i, .int n, v] (n := 3) (by rcases hv with rfl | ⟨t, rfl⟩ <;> exact Nat.le_refl _)
  rw [lg_entry_eq]
  refine lv_iload_n B.exec B.bytes (k := 0) (i := 0) (by decide +kernel) rfl (hl.2.2 (0, _) List.mem_cons_self) ?_
  refine lv_if_lt B.exec B.bytes (off := 8) (tgt := 9) (by decide +kernel) rfl (fun z => absurd z h0) (fun _ => ?_)
  refine lv_iload_n B.exec B.bytes (k := 0) (i := 0) (by decide +kernel) rfl (hl.2.2 (0, _) List.mem_cons_self) ?_
  refine lv_iload_n B.exec B.bytes (k := 1) (i := 1) (by decide +kernel) rfl (hl.2.2 (1, _) (List.mem_cons_of_mem _ List.mem_cons_self)) ?_
  refine lv_icmp_lt B.exec B.bytes (off := 10) (tgt := 16) (by decide +kernel) rfl (fun _ => ?_) (fun z => absurd h1 z)
  refine lv_iload_n B.exec B.bytes (k := 0) (i := 0) (by decide +kernel) rfl (hl.2.2 (0, _) List.mem_cons_self) ?_
  exact W.iret B.exec B.bytes B.returns (jk_leaf va_S.rf) (fun q h => nomatch h) (by decide +kernel)
set_option maxHeartbeats 1000000 in
theorem jk_check {al aV : Nat → Nat} (H0 : Heap) (i n : Int32) (h0 : ¬ i < 0) (h1 : i < n) : Met l jk_yck (jk_ws jk_yck jk_cck 2 none) (jk_rm 1 22) (va_Pc [.int i, .int n] (jk_P al aV H0)) (jk_v H0) 0 0 (fun q => H0.size ≤ q) := by
  refine Met.ofW (cc := jk_cck) (maxL := 2) (ret := none) (by decide +kernel) rfl ?_
  intro p e s m args below meth c s₁ B hml hv
  obtain ⟨rfl, rfl, hF⟩ := hv
  have hts : ∀ w ∈ am_AT, w.before _ s = true := fun w hw => atoms_spec (ws := jk_ws jk_yck jk_cck 2 none) B.pre w (List.mem_cons_of_mem _ hw)
  have hown : s.vm.findClass "java/lang/String" = some m.cls := findClass_of_methodNamed B.named
  have hl := lv_entry [.int i, .int n] (n := 2) (Nat.le_of_ble_eq_true rfl)
  rw [lg_entry_eq]
  refine lv_iload_n B.exec B.bytes (k := 0) (i := 0) (by decide +kernel) rfl (hl.2.2 (0, _) List.mem_cons_self) ?_
  refine lv_iload_n B.exec B.bytes (k := 1) (i := 1) (by decide +kernel) rfl (hl.2.2 (1, _) (List.mem_cons_of_mem _ List.mem_cons_self)) ?_
  obtain ⟨v, hv, hZ⟩ : ∃ v : Value, (v = .null ∨ ∃ t, v = .ref t) ∧ va_Z "jdk/internal/util/Preconditions" "SIOOBE_FORMATTER" "Ljava/util/function/BiFunction;" v (fun q => s.heap.size ≤ q) s s.heap := by
    rcases hF.2.2.2.2.2.2.2.2.2.2.2.2 with h | ⟨t, h⟩
    · exact ⟨_, Or.inl rfl, h⟩
    · exact ⟨_, Or.inr ⟨t, rfl⟩, h⟩
  have hc : v.category = 1 := by rcases hv with rfl | ⟨t, rfl⟩ <;> rfl
  refine va_gets B.exec B.bytes (index := 1053) hZ va_S.rf hown (hts _ (jk_in (by simp [jk_L]; try decide))) (fun x h => h) (by decide +kernel) ?_
  refine va_calli (A1 := fun q => s.heap.size ≤ q) (rest := []) (va_runS (cc := jk_cck) (nL := 2) (Ts := am_AT) (own := "java/lang/String") (bytes := jk_cpc) (maxL := 3) (ret := some .int) (ws := jk_ws jk_ypc jk_cpc 3 (some .int)) (rm := jk_rm 0 0) (n := 3) (index := 1059) (As := [.int i, .int n, v]) ⟨B.exec, B.bytes, hml, hown, hts⟩ (jk_prec s.heap i n v h0 h1 hv)
    (va_cwS 3 hts (jk_goodS (by simp [jk_L]; try decide) (by simp [jk_L]; try decide) (by simp [jk_L, jk_ypc]; try decide) (by simp [jk_L]; try decide)) rfl rfl rfl ⟨by decide, by decide, by decide +kernel⟩ ⟨Nat.le_of_ble_eq_true rfl, Nat.le_of_ble_eq_true rfl⟩) ⟨jk_blind, jk_pre hF (fun q z => z)⟩ rfl rfl hl.1 rfl (Nat.le_of_ble_eq_true rfl) (show decode jk_cck 5 = _ by decide +kernel) ⟨Nat.zero_le _, Nat.zero_le _⟩) va_S.rf (fun q _ z => z) (fun q z => z) ?_
  intro r u t H1 locs1 e1 hal hr hb hsz hq hS
  obtain rfl : H1 = s.heap := e1.symm.trans hb
  refine lv_pop B.exec B.bytes (by decide +kernel) rfl ?_
  exact W.vret B.exec B.bytes B.returns (jk_leafv hS) hS.2.2 (by decide +kernel)
set_option maxRecDepth 100000 in
theorem jk_ch : ∀ i, i < 5 → ((List.range ((am_stL.map (fun t => t.length)).getD i 0)).all (fun k => decide (((((am_sbyt.getD i []).getD k 0) &&& 255).toUInt32 % 65536).toInt32 = (am_sbyt.getD i []).getD k 0) && decide (((am_sbyt.getD i []).getD k 0).toUInt32.toUInt16.toUInt32.toInt32 = (am_sbyt.getD i []).getD k 0)) && decide ((am_stL.map (fun t => t.length)).getD i 0 = am_SL (am_s0 + i)) && decide (Int32.ofNat ((am_stL.map (fun t => t.length)).getD i 0) >>> (0 &&& 31) = Int32.ofNat (am_SL (am_s0 + i))) && decide (((am_stL.map (fun t => t.length)).getD i 0) < 100)) = true := by decide +kernel
theorem jk_lt {x : Int32} {n : Nat} (h : vp_in x n) (hn : n < 100) : ¬ x < 0 ∧ x < Int32.ofNat n ∧ x.toNatClampNeg < n := by
  have h0 : ¬ x < 0 := fun z => h (Or.inl z)
  have h1 : x.toNatClampNeg < n := Nat.not_le.mp fun z => h (Or.inr z)
  refine ⟨h0, ?_, h1⟩
  have h2 : (0 : Int) ≤ x.toInt := by
    have := Int32.not_lt.mp h0
    simpa using Int32.le_iff_toInt_le.mp this
  rw [Int32.lt_iff_toInt_lt]
  have e : (Int32.ofNat n).toInt = (n : Int) := Int32.toInt_ofNat_of_lt (by omega)
  rw [e]
  have : x.toNatClampNeg = x.toInt.toNat := rfl
  omega
set_option maxHeartbeats 1000000 in
theorem jk_latAt {al aV : Nat → Nat} (H0 : Heap) (i : Nat) (hi : i < 5) (x : Int32) (hx : vp_in x ((am_stL.map (fun t => t.length)).getD i 0)) : Met l jk_yla (jk_ws jk_yla jk_cla 2 (some .char)) (jk_rm 2 43) (va_Pc [.ref (aV i), .int x] (jk_P al aV H0)) (jk_i H0 ((am_sbyt.getD i []).getD x.toNatClampNeg 0)) 0 0 (fun q => H0.size ≤ q) := by
  refine Met.ofW (cc := jk_cla) (maxL := 2) (ret := some .char) (by decide +kernel) rfl ?_
  intro p e s m args below meth c s₁ B hml hv
  obtain ⟨rfl, rfl, hF⟩ := hv
  have hts : ∀ w ∈ am_AT, w.before _ s = true := fun w hw => atoms_spec (ws := jk_ws jk_yla jk_cla 2 (some .char)) B.pre w (List.mem_cons_of_mem _ hw)
  have hown : s.vm.findClass "java/lang/StringLatin1" = some m.cls := findClass_of_methodNamed B.named
  have hl := lv_entry [.ref (aV i), .int x] (n := 2) (Nat.le_of_ble_eq_true rfl)
  rw [lg_entry_eq]
  obtain ⟨-, -, -, k4⟩ := hF.2.2.2.1.1 i hi
  have hf := jk_ch i hi
  rw [Bool.and_eq_true, Bool.and_eq_true, Bool.and_eq_true] at hf
  obtain ⟨⟨⟨f1, f2⟩, f3⟩, f4⟩ := hf
  obtain ⟨g0, g1, g2⟩ := jk_lt hx (of_decide_eq_true f4)
  have f1 := List.all_eq_true.mp f1 _ (List.mem_range.mpr g2)
  rw [Bool.and_eq_true] at f1
  have c1 := of_decide_eq_true f1.1
  have c2 := of_decide_eq_true f1.2
  refine lv_iload_n B.exec B.bytes (k := 1) (i := 1) (by decide +kernel) rfl (hl.2.2 (1, _) (List.mem_cons_of_mem _ List.mem_cons_self)) ?_
  refine lv_aload_n B.exec B.bytes (k := 0) (i := 0) (by decide +kernel) rfl (hl.2.2 (0, _) List.mem_cons_self) ?_
  refine va_tlen B.exec B.bytes k4 va_S.rf rfl (by decide +kernel) ?_
  refine va_callv (A1 := fun q => s.heap.size ≤ q) (rest := []) (va_runS (cc := jk_cla) (nL := 2) (Ts := am_AT) (own := "java/lang/StringLatin1") (bytes := jk_cck) (maxL := 2) (ret := none) (ws := jk_ws jk_yck jk_cck 2 none) (rm := jk_rm 1 22) (n := 2) (index := 9) (As := [.int x, .int (Int32.ofNat ((am_stL.map (fun t => t.length)).getD i 0))]) ⟨B.exec, B.bytes, hml, hown, hts⟩ (jk_check s.heap x _ g0 g1)
    (va_cwS 2 hts (jk_goodS (by simp [jk_L]; try decide) (by simp [jk_L]; try decide) (by simp [jk_L, jk_yck]; try decide) (by simp [jk_L]; try decide)) rfl rfl rfl ⟨by decide, by decide, by decide +kernel⟩ ⟨Nat.le_of_ble_eq_true rfl, Nat.le_of_ble_eq_true rfl⟩) ⟨jk_blind, jk_pre hF (fun q z => z)⟩ rfl rfl hl.1 rfl (Nat.le_of_ble_eq_true rfl) (show decode jk_cla 3 = _ by decide +kernel) ⟨Nat.zero_le _, Nat.zero_le _⟩) va_S.rf (fun q _ z => z) (fun q z => z) ?_
  intro u t H1 locs1 e1 hal hr hb hsz hq hS
  obtain rfl : H1 = s.heap := e1.symm.trans hb
  refine lv_aload_n B.exec B.bytes (k := 0) (i := 0) (by decide +kernel) rfl (hl.2.2 (0, _) List.mem_cons_self) ?_
  refine lv_iload_n B.exec B.bytes (k := 1) (i := 1) (by decide +kernel) rfl (hl.2.2 (1, _) (List.mem_cons_of_mem _ List.mem_cons_self)) ?_
  refine va_tb B.exec B.bytes k4 hS hx rfl (by decide +kernel) ?_
  refine lv_sipush B.exec B.bytes (n := 255) (v := 255) (by decide +kernel) rfl ?_
  refine lv_iand B.exec B.bytes (by decide +kernel) ?_
  refine lv_i2c B.exec B.bytes (by decide +kernel) c1 ?_
  exact W.zret (ty := .char) B.exec B.bytes B.returns (by show Value.int _ = _; rw [c2]) (jk_leaf hS) hS.2.2 (by decide +kernel)
end JK
section JK2
variable {l : Launch} {al : Nat → Nat} {dC : Nat → ClassId} {dI : Nat → Nat → Nat} {aC : Nat → ClassId} {aV : Nat → Nat}
theorem jk_ofW {y : MethodName} {ws ws' : List Cond} {rm : Room} {Pc : Array Value → State → Prop} {Qc : Array Value → State → Outcome → State → Prop} {XC : String → State → State → Prop} {mc ms : Nat} {free : Addr → Prop} {cc : ByteArray} {maxL : Nat} {ret : Option FieldType}
    (hy : plainFor y = true) (hw : ws = Cond.code y cc maxL ret :: ws')
    (body : ∀ p e s m args below meth c s₁, BodyLoose p l y (headSpec ws rm) cc maxL ret e s m args below meth c s₁ → c.maxLocals = maxL → (∀ x ∈ c.exceptionTable.toList, False) → Pc args s →
      W p l e (headSpec ws rm).room s m args below meth c s.heap [] 0 0 (vx_MQ below Qc XC args s mc ms free) (entryFrame m args maxL)) : vx_Met l y ws rm Pc Qc XC mc ms free := by
  refine MetFree.of_bodySF (code := cc) (maxLocals := maxL) (ret := ret) hy ?_ ?_
  · intro args s m h hn
    obtain ⟨meth, c, h1, h2, h3, h4, h5, h6, -, -⟩ := Cond.code_spec hn (atoms_spec (ws := ws) h _ (by rw [hw]; exact List.mem_cons_self))
    exact ⟨meth, c, h1, h2, h3, h4, h5, h6⟩
  · intro p e s m args below meth c s₁ B hml hP _
    have hh0 : s₁.heap = s.heap := by rw [B.state]; rfl
    have ht : ∀ x ∈ c.exceptionTable.toList, False := by
      obtain ⟨meth9, c9, h1, h2, -, -, -, -, h7, -⟩ := Cond.code_spec B.named (atoms_spec (ws := ws) B.pre _ (by rw [hw]; exact List.mem_cons_self))
      cases Option.some.inj (h1.symm.trans B.method)
      cases Option.some.inj (h2.symm.trans (Stand.of_body B).code)
      intro x hx
      rw [Array.isEmpty_iff.mp h7] at hx
      cases hx
    obtain ⟨t, a1, o, b1, b2, b3⟩ := body p e s m args below meth c s₁ B hml ht hP s₁ hh0 (Stand.of_body B)
    exact ⟨t, o, a1, b1, b2, b3⟩
set_option maxHeartbeats 1000000 in
theorem jk_met {γ : Type} {mid : Nat} {o0 : am_Out} {h0 : am_Hp} {tab : List (Nat × Instr × Nat)} {orc : am_Orc} {ret : am_Out → am_Hp → Option γ} {g : γ} {as : List Value} {h : am_Hp}
    (hmid : mid < 109) (hpl : plainFor (am_y mid) = true) (htr : l.stackTraces = false) (hinj : am_Inj al) (htab : am_tok mid tab) (horc : am_OS l al dC dI aC aV orc) (hret : ∀ o h', ret o h' = some g → o = o0 ∧ h' = h0) (hlen : (lg_sl as).length ≤ am_ml mid)
    (hrun : ∀ At : Nat → am_Lc → List Value → am_Hp → Prop,
      (∀ (cut : am_Cut γ), (∀ pc cc, cut pc = some cc → ∀ ρ st h, cc ρ st h = some g → At pc ρ st h) → ∀ f pc ρ st h, am_sem mid tab cut orc ret f pc ρ st h = some g → At pc ρ st h) →
      (∀ pc ρ ρ' st h, (∀ q ∈ ρ', q ∈ ρ) → At pc ρ' st h → At pc ρ st h) → At 0 (lv_args 0 as) [] h) :
    am_Met l al dC dI aC aV mid as h o0 h0 := by
  intro sz
  obtain ⟨n1, n2, n3, n4, -⟩ := am_md_spec hmid
  refine jk_ofW (cc := am_cc mid) (maxL := am_ml mid) (ret := am_re mid) hpl rfl ?_
  intro p e s m args below meth c s₁ B hml hexc hv
  obtain ⟨rfl, hsz, ⟨hP, hK⟩, hF⟩ := hv
  subst hsz
  have hts := atoms_spec (ws := am_ws mid) B.pre
  have hown : s.vm.findClass (am_own mid) = some m.cls := n2 ▸ findClass_of_methodNamed B.named
  have C : am_Cx p l (am_rm mid o0) s m (as.map (am_rl al)).toArray meth c al dC dI aC aV mid o0 := ⟨B.exec, B.bytes, hml, hown, fun w hw => hts w (List.mem_cons_of_mem _ hw), B.notSynchronized, hexc, B.returns, htr, hK, hF, rfl, hinj⟩
  have key : am_At p l e (am_rm mid o0) s m (as.map (am_rl al)).toArray below meth c al dC dI aC mid o0 h0 0 (lv_args 0 as) [] h :=
    hrun (am_At p l e (am_rm mid o0) s m (as.map (am_rl al)).toArray below meth c al dC dI aC mid o0 h0) (fun cut hcut f pc ρ st h hr => am_sem_sound C htab horc hret hcut f pc ρ st h hr) (fun pc ρ ρ' st h hm k => am_At_mono hm k)
  have hl := lv_entry (as.map (am_rl al)) (n := am_ml mid) (by rw [am_sl_len]; exact hlen)
  rw [am_args_map] at hl
  rw [lg_entry_eq]
  exact key s.heap [] _ hl hP va_S.rf
theorem m_J9_floorMod_7cf53 (hy : am_Hy l al) (N : Nat) (i0 i1 : Int32) (h : am_Hp) (r : (Int32 × am_Hp)) (hf : f_J9_floorMod_7cf53 N i0 i1 h = some r) : am_Met l al dC dI aC aV 2 [.int i0, .int i1] h (am_oi r.1) r.2 :=
  jk_met (tab := tJ9_floorMod_7cf53) (orc := o_J9_floorMod_7cf53 N) (ret := am_ri) (g := r) (by decide) (by decide +kernel) hy.1 hy.2 tok_J9_floorMod_7cf53 am_os0 am_ri_inv (Nat.le_of_ble_eq_true rfl) (fun At cl wk => by
    exact cl am_C0 am_c0 400 0 _ _ h hf)
theorem s_J9_floorMod_7cf53 (hy : am_Hy l al) (N : Nat) : am_CS l al dC dI aC aV 2 (c_J9_floorMod_7cf53 N) := by
  intro γ as h kk g hc0
  obtain ⟨i0, w0, e_0, hc1⟩ := am_s1_some hc0
  obtain ⟨i1, w1, e_1, hc2⟩ := am_s1_some hc1
  obtain ⟨e_2, hc⟩ := am_st0_some hc2
  subst e_2
  subst e_1
  subst e_0
  obtain ⟨q, e1, e2⟩ := am_bi_some hc
  exact ⟨_, _, m_J9_floorMod_7cf53 hy N i0 i1 h _ e1, e2⟩
theorem jk_own3 : am_own 3 = "java/lang/String" := by decide +kernel
theorem jk_own4 : am_own 4 = "java/lang/String" := by decide +kernel
theorem jk_AP {s : State} : ∀ q, s.heap.size ≤ q → am_A al s.heap.size q := fun _ h => Or.inr h
set_option maxHeartbeats 2000000 in
theorem m_SLEN (i : Nat) (hi : i < 5) (h : am_Hp) : am_Met l al dC dI aC aV 3 [.ref (am_s0 + i)] h (some (some (.int (Int32.ofNat (am_SL (am_s0 + i)))))) h := by
  intro sz
  refine vx_ofW (cc := am_cc 3) (maxL := am_ml 3) (ret := am_re 3) (by decide +kernel) rfl ?_
  intro p e s m args below meth c s₁ B hml hexc hv
  obtain ⟨rfl, hsz, ⟨hP, hK⟩, hF⟩ := hv
  subst hsz
  have hts : ∀ w ∈ am_AT, w.before _ s = true := fun w hw => atoms_spec (ws := am_ws 3) B.pre w (List.mem_cons_of_mem _ hw)
  have hown : s.vm.findClass "java/lang/String" = some m.cls := findClass_of_methodNamed B.named
  have hl := lv_entry [.ref (al (am_s0 + i))] (n := am_ml 3) (Nat.le_of_ble_eq_true rfl)
  rw [lg_entry_eq]
  have hf := jk_ch i hi
  rw [Bool.and_eq_true, Bool.and_eq_true, Bool.and_eq_true] at hf
  obtain ⟨⟨⟨f1, f2⟩, f3⟩, f4⟩ := hf
  have f3 := of_decide_eq_true f3
  obtain ⟨k1, k2, k3, k4⟩ := hF.2.2.2.1.1 i hi
  refine lv_aload_n B.exec B.bytes (k := 0) (i := 0) (by decide +kernel) rfl (hl.2.2 (0, _) List.mem_cons_self) ?_
  refine vk_getf B.exec B.bytes (index := 9) k3 va_S.rf hown (hts _ (jk_in (by simp [jk_L]; try decide))) (fun x h => h) (by decide +kernel) ?_
  refine va_tlen B.exec B.bytes k4 va_S.rf rfl (by decide +kernel) ?_
  refine lv_aload_n B.exec B.bytes (k := 0) (i := 0) (by decide +kernel) rfl (hl.2.2 (0, _) List.mem_cons_self) ?_
  refine va_calli (A0 := am_A al s.heap.size) (A1 := fun q => s.heap.size ≤ q) (rest := [_]) (va_runV (cc := am_cc 3) (nL := am_ml 3) (Ts := am_AT) (own := "java/lang/String") (C := "java/lang/String") (bytes := jk_cco) (maxL := 1) (ret := some .byte) (ws := jk_ws jk_yco jk_cco 1 (some .byte)) (rm := jk_rm 0 0) (n := 0) (index := 335) (As := []) (b := al (am_s0 + i)) ⟨B.exec, B.bytes, hml, hown, hts⟩ (jk_coder s.heap i hi)
    (cwV 0 hts (jk_good (by simp [jk_L]; try decide) (by simp [jk_L]; try decide) (by simp [jk_L]; try decide) (by simp [jk_L]; try decide) (by simp [jk_L]; try decide)) rfl rfl rfl ⟨rfl, by decide, by decide, by decide +kernel⟩ ⟨Nat.le_of_ble_eq_true rfl, Nat.le_of_ble_eq_true rfl⟩) ⟨jk_blind, vk_recv (adK := fun i => al (am_s0 + i)) hF.2.2.2.1 hi va_S.rf, jk_pre hF (jk_AP (al := al))⟩ rfl rfl hl.1 rfl (Nat.le_of_ble_eq_true rfl) (show decode (am_cc 3) 6 = _ by decide +kernel) ⟨Nat.zero_le _, Nat.zero_le _⟩) va_S.rf (fun q h1 h2 => absurd h1 (Nat.not_lt.mpr h2)) jk_AP ?_
  intro r u t H1 locs1 e1 hal hr hb hsz hq hS
  obtain rfl : H1 = s.heap := e1.symm.trans hb
  subst hr
  refine lv_ishr B.exec B.bytes (by decide +kernel) ?_
  rw [f3]
  exact vx_ret (W.iret B.exec B.bytes B.returns (am_leaf (v := some (.int _)) hK hP hS) hS.2.2 (by decide +kernel))
theorem s_SLEN (hy : am_Hy l al) (N : Nat) : am_CS l al dC dI aC aV 3 (c_SLEN N) := by
  intro γ as h kk g hc0
  obtain ⟨a0, w0, e_0, hc1⟩ := am_sa_some hc0
  obtain ⟨e_1, hc⟩ := am_st0_some hc1
  subst e_1
  subst e_0
  obtain ⟨q, e1, e2⟩ := am_bi_some hc
  obtain ⟨h1, h2⟩ := am_bif e1
  obtain ⟨i, hi, rfl⟩ := am_str_spec h1
  cases Option.some.inj h2
  exact ⟨_, _, m_SLEN i hi h, e2⟩
set_option maxHeartbeats 2000000 in
theorem m_SCHR (i : Nat) (hi : i < 5) (x : Int32) (hx : vp_in x (am_SL (am_s0 + i))) (h : am_Hp) : am_Met l al dC dI aC aV 4 [.ref (am_s0 + i), .int x] h (some (some (.int (am_SC (am_s0 + i) x.toNatClampNeg)))) h := by
  intro sz
  refine vx_ofW (cc := am_cc 4) (maxL := am_ml 4) (ret := am_re 4) (by decide +kernel) rfl ?_
  intro p e s m args below meth c s₁ B hml hexc hv
  obtain ⟨rfl, hsz, ⟨hP, hK⟩, hF⟩ := hv
  subst hsz
  have hts : ∀ w ∈ am_AT, w.before _ s = true := fun w hw => atoms_spec (ws := am_ws 4) B.pre w (List.mem_cons_of_mem _ hw)
  have hown : s.vm.findClass "java/lang/String" = some m.cls := findClass_of_methodNamed B.named
  have hl := lv_entry [.ref (al (am_s0 + i)), .int x] (n := am_ml 4) (Nat.le_of_ble_eq_true rfl)
  rw [lg_entry_eq]
  have hf := jk_ch i hi
  rw [Bool.and_eq_true, Bool.and_eq_true, Bool.and_eq_true] at hf
  obtain ⟨⟨⟨f1, f2⟩, f3⟩, f4⟩ := hf
  rw [← of_decide_eq_true f2] at hx
  have g2 := (jk_lt hx (of_decide_eq_true f4)).2.2
  have f1 := List.all_eq_true.mp f1 _ (List.mem_range.mpr g2)
  rw [Bool.and_eq_true] at f1
  have c2 := of_decide_eq_true f1.2
  have hSC : am_SC (am_s0 + i) x.toNatClampNeg = (am_sbyt.getD i []).getD x.toNatClampNeg 0 := by unfold am_SC; rw [Nat.add_sub_cancel_left]
  rw [hSC]
  obtain ⟨k1, k2, k3, k4⟩ := hF.2.2.2.1.1 i hi
  refine lv_aload_n B.exec B.bytes (k := 0) (i := 0) (by decide +kernel) rfl (hl.2.2 (0, _) List.mem_cons_self) ?_
  refine va_calli (A0 := am_A al s.heap.size) (A1 := fun q => s.heap.size ≤ q) (rest := []) (va_runV (cc := am_cc 4) (nL := am_ml 4) (Ts := am_AT) (own := "java/lang/String") (C := "java/lang/String") (bytes := jk_cil) (maxL := 1) (ret := some .boolean) (ws := jk_ws jk_yil jk_cil 1 (some .boolean)) (rm := jk_rm 0 0) (n := 0) (index := 492) (As := []) (b := al (am_s0 + i)) ⟨B.exec, B.bytes, hml, hown, hts⟩ (jk_latin s.heap i hi)
    (cwV 0 hts (jk_good (by simp [jk_L]; try decide) (by simp [jk_L]; try decide) (by simp [jk_L]; try decide) (by simp [jk_L]; try decide) (by simp [jk_L]; try decide)) rfl rfl rfl ⟨rfl, by decide, by decide, by decide +kernel⟩ ⟨Nat.le_of_ble_eq_true rfl, Nat.le_of_ble_eq_true rfl⟩) ⟨jk_blind, vk_recv (adK := fun i => al (am_s0 + i)) hF.2.2.2.1 hi va_S.rf, jk_pre hF (jk_AP (al := al))⟩ rfl rfl hl.1 rfl (Nat.le_of_ble_eq_true rfl) (show decode (am_cc 4) 1 = _ by decide +kernel) ⟨Nat.zero_le _, Nat.zero_le _⟩) va_S.rf (fun q h1 h2 => absurd h1 (Nat.not_lt.mpr h2)) jk_AP ?_
  intro r u t H1 locs1 e1 hal hr hb hsz hq hS
  obtain rfl : H1 = s.heap := e1.symm.trans hb
  subst hr
  refine lv_if_eq B.exec B.bytes (off := 12) (tgt := 16) (by decide +kernel) rfl (fun z => absurd z (by decide)) (fun _ => ?_)
  refine lv_aload_n B.exec B.bytes (k := 0) (i := 0) (by decide +kernel) rfl (hl.2.2 (0, _) List.mem_cons_self) ?_
  refine vk_getf B.exec B.bytes (index := 9) k3 hS hown (hts _ (jk_in (by simp [jk_L]; try decide))) (fun x h => h) (by decide +kernel) ?_
  refine lv_iload_n B.exec B.bytes (k := 1) (i := 1) (by decide +kernel) rfl (hl.2.2 (1, _) (List.mem_cons_of_mem _ List.mem_cons_self)) ?_
  refine va_calli (A0 := am_A al s.heap.size) (A1 := fun q => s.heap.size ≤ q) (rest := []) (va_runS (cc := am_cc 4) (nL := am_ml 4) (Ts := am_AT) (own := "java/lang/String") (bytes := jk_cla) (maxL := 2) (ret := some .char) (ws := jk_ws jk_yla jk_cla 2 (some .char)) (rm := jk_rm 2 43) (n := 2) (index := 495) (As := [.ref (aV i), .int x]) ⟨B.exec, B.bytes, hml, hown, hts⟩ (jk_latAt s.heap i hi x hx)
    (va_cwS 2 hts (jk_goodS (by simp [jk_L]; try decide) (by simp [jk_L]; try decide) (by simp [jk_L, jk_yla]; try decide) (by simp [jk_L]; try decide)) rfl rfl rfl ⟨by decide, by decide, by decide +kernel⟩ ⟨Nat.le_of_ble_eq_true rfl, Nat.le_of_ble_eq_true rfl⟩) ⟨jk_blind, jk_pre hF (jk_AP (al := al))⟩ rfl rfl hl.1 rfl (Nat.le_of_ble_eq_true rfl) (show decode (am_cc 4) 12 = _ by decide +kernel) ⟨Nat.zero_le _, Nat.zero_le _⟩) hS (fun q h1 h2 => absurd h1 (Nat.not_lt.mpr h2)) jk_AP ?_
  intro r u t H1 locs2 e1 hal hr hb hsz hq hS2
  obtain rfl : H1 = s.heap := e1.symm.trans hb
  subst hr
  exact vx_ret (W.zret (ty := .char) B.exec B.bytes B.returns (by show Value.int _ = _; rw [c2]) (am_leaf (v := some (.int _)) hK hP hS2) hS2.2.2 (by decide +kernel))
set_option maxRecDepth 100000 in
theorem s_SCHR (hy : am_Hy l al) (N : Nat) : am_CS l al dC dI aC aV 4 (c_SCHR N) := by
  intro γ as h kk g hc0
  obtain ⟨a0, w0, e_0, hc1⟩ := am_sa_some hc0
  obtain ⟨i1, w1, e_1, hc2⟩ := am_s1_some hc1
  obtain ⟨e_2, hc⟩ := am_st0_some hc2
  subst e_2
  subst e_1
  subst e_0
  obtain ⟨q, e1, e2⟩ := am_bi_some hc
  obtain ⟨h1, h2⟩ := am_bif e1
  rw [Bool.and_eq_true] at h1
  obtain ⟨i, hi, rfl⟩ := am_str_spec h1.1
  cases Option.some.inj h2
  have e3 := e2
  exact ⟨_, _, m_SCHR i hi i1 (am_in_spec h1.2) h, e3⟩
end JK2
