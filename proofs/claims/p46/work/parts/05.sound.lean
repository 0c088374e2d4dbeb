/-! ===== that the interpreter tells the truth: what it computes, the machine does ===== -/
section AMS
def am_rl (al : Nat → Nat) (v : Value) : Value := match v with
  | .ref a => .ref (al a)
  | w => w
theorem am_rl_cat (al : Nat → Nat) (v : Value) : (am_rl al v).category = v.category := by cases v <;> rfl
def am_rls (al : Nat → Nat) (ρ : am_Lc) : am_Lc := ρ.map (fun q => (q.1, am_rl al q.2))
def am_fv (al : Nat → Nat) (h : am_Hp) (k j : Nat) : Value := bif am_fi (am_kd k).2.1 j then .int (h k j) else va_rf ((am_G k j).map al)
def am_cell (al : Nat → Nat) (aC : Nat → ClassId) (h : am_Hp) (k : Nat) : va_E :=
  bif Nat.beq (am_kd k).1 1 then .inr ((am_kd k).2.1, (List.range (am_nF (am_kd k).2.1)).map (am_fv al h k))
  else bif Nat.beq (am_kd k).1 3 then .inl (aC (am_kd k).2.1, (am_kd k).2.2, .inr (.inr (.inr (.inr (fun j => (am_G k j).map al)))))
  else .inl (aC (am_kd k).2.1, (am_kd k).2.2, .inl (h k))
def am_W (al : Nat → Nat) (aC : Nat → ClassId) (h : am_Hp) : va_W := (List.range am_n0).map (fun k => (al k, am_cell al aC h k))
def am_tys (aC : Nat → ClassId) : List (ClassId × FieldType) := (List.range 7).map (fun t => (aC t, am_tyL.getD t .int))
def am_A (al : Nat → Nat) (sz : Nat) : Nat → Prop := fun q => (∃ k, k < am_n0 ∧ q = al k) ∨ sz ≤ q
def am_TB : List Cond := [.declares (Bundle.init0 "java/lang/RuntimeException"), .declares (Bundle.init0 "java/lang/Exception"), .declares (Bundle.init0 Bundle.tN), .castable "java/lang/IndexOutOfBoundsException" "java/lang/IndexOutOfBoundsException"]
def am_sbyt : List (List Int32) := am_stL.map (fun t => t.toList.map (fun c => Int32.ofNat c.toNat))
/-- what stays: the static arrays, the statics that a throw reads, the strings, the words that don't lie in the tables for good -/
def am_Fx (al aV : Nat → Nat) (A : Nat → Prop) (U : State) (H : Heap) : Prop :=
  (∀ q ∈ am_sfL, va_X (al q.1) (am_len q.1) (am_sx q.1) U H ∧ ¬ A (al q.1) ∧ al q.1 < H.size ∧ va_Z q.2.1 q.2.2.1 q.2.2.2 (.ref (al q.1)) A U H) ∧
  vx_Zq Bundle.tN "UNASSIGNED_STACK" Bundle.steD A U H ∧ vx_Zq Bundle.tN "SUPPRESSED_SENTINEL" Bundle.listD A U H ∧
  vk_S 5 (am_stL.map (fun t => t.length)) am_sbyt (fun i => al (am_s0 + i)) aV A U H ∧
  (∀ (o : Nat) (q : Nat × (Int32 ⊕ Nat) × Nat) (i : Nat), q ∈ am_ckL.getD o [] → q.2.1 = .inr i → vk_R (am_R o) q.1 (am_stL.getD (i - am_s0) "") (al i) U) ∧
  (∀ w ∈ am_TB, va_Nw w U) ∧ va_Nw (.methodLinkNest "SharedConsole" 11 ⟨"SharedConsole$Text", "<init>", "()V"⟩ "SharedConsole") U ∧
  (∀ (o : Nat) (q : Nat × Nat × Nat × Nat) (z : Nat × String × String × String), q ∈ am_skL.getD o [] → z ∈ am_sfL → z.1 = q.2.1 → (q.2.2.1 = 0 ∧ va_Nw (.fieldLink (am_R o) q.1 z.2.1 z.2.2.1 z.2.2.2) U) ∨ (q.2.2.1 = 1 ∧ va_Nw (.fieldLinkNest (am_R o) q.1 z.2.1 z.2.2.1 z.2.2.2 "SharedConsole") U)) ∧
  (∀ (o : Nat) (q : Nat × (Int32 ⊕ Nat) × Nat) (v : Int32), q ∈ am_ckL.getD o [] → q.2.1 = .inl v → va_Nw (.constant (am_R o) q.1 v) U) ∧
  va_Nw (.classLink RX9 317 "java/lang/IndexOutOfBoundsException") U ∧ va_Nw (.initialized "java/lang/IndexOutOfBoundsException") U ∧
  va_Z "java/lang/String" "COMPACT_STRINGS" "Z" (.int 1) A U H ∧ va_Zq "jdk/internal/util/Preconditions" "SIOOBE_FORMATTER" "Ljava/util/function/BiFunction;" A U H
def am_B (al : Nat → Nat) (dC : Nat → ClassId) (dI : Nat → Nat → Nat) (aC : Nat → ClassId) (h : am_Hp) (U : State) : Prop :=
  va_P (dC, dI) vwCl (am_W al aC h) U.heap ∧ va_K (dC, dI) vwCl (am_tys aC) U
def am_mc (o : am_Out) : Nat := match o with
  | none => 1
  | some _ => 0
def am_ms (o : am_Out) : Nat := match o with
  | none => 6
  | some _ => 0
def am_Q (al : Nat → Nat) (dC : Nat → ClassId) (dI : Nat → Nat → Nat) (aC : Nat → ClassId) (o : am_Out) (h : am_Hp) (A : Nat → Prop) : Array Value → State → Outcome → State → Prop := fun _ st oc t =>
  ∃ v, o = some v ∧ oc = .returned (v.map (am_rl al)) ∧ am_B al dC dI aC h t ∧ va_F A st t
def am_X (al : Nat → Nat) (dC : Nat → ClassId) (dI : Nat → Nat → Nat) (aC : Nat → ClassId) (o : am_Out) (h : am_Hp) (A : Nat → Prop) : String → State → State → Prop := fun E st t =>
  o = none ∧ E = "java/lang/IndexOutOfBoundsException" ∧ am_B al dC dI aC h t ∧ va_F A st t
def am_rm (mid : Nat) (o : am_Out) : Room := { frames := am_fr mid, cells := am_mc o, slots := am_ms o, locals := am_lo mid }
def am_ws (mid : Nat) : List Cond := .code (am_y mid) (am_cc mid) (am_ml mid) (am_re mid) :: am_AT
/-- method mid, called with these values over this heap, ends so, over that heap -/
def am_Met (l : Launch) (al : Nat → Nat) (dC : Nat → ClassId) (dI : Nat → Nat → Nat) (aC : Nat → ClassId) (aV : Nat → Nat) (mid : Nat) (as : List Value) (h : am_Hp) (o : am_Out) (h' : am_Hp) : Prop :=
  ∀ sz : Nat, vx_Met l (am_y mid) (am_ws mid) (am_rm mid o) (va_Pc (as.map (am_rl al)) (fun U => U.heap.size = sz ∧ am_B al dC dI aC h U ∧ am_Fx al aV (am_A al sz) U U.heap)) (am_Q al dC dI aC o h' (am_A al sz)) (am_X al dC dI aC o h' (am_A al sz)) (am_mc o) (am_ms o) (am_A al sz)
def am_OS (l : Launch) (al : Nat → Nat) (dC : Nat → ClassId) (dI : Nat → Nat → Nat) (aC : Nat → ClassId) (aV : Nat → Nat) (orc : am_Orc) : Prop :=
  ∀ (γ : Type) (mid : Nat) (as : List Value) (h : am_Hp) (k : am_Out → am_Hp → Option γ) (g : γ), orc γ mid as h k = some g → ∃ o h', am_Met l al dC dI aC aV mid as h o h' ∧ k o h' = some g
def am_Inj (al : Nat → Nat) : Prop := ∀ i j, i < am_n0 → j < am_n0 → al i = al j → i = j
-- ---- small facts
theorem am_AT_good {w : Cond} (h : w ∈ am_AT) : (w.onTables && w.keeps) = true ∨ ∃ ty, w = .arrayClass ty := good_of_word (List.mem_filter.mp h).2
theorem am_AT_sub {ws : List Cond} (h : ∀ w ∈ ws, w ∈ am_AT) : GoodIn am_AT ws := fun w hw => ⟨h w hw, am_AT_good (h w hw)⟩
theorem am_lk_mem {α : Type} : ∀ (l : List (Nat × α)) (i : Nat) (x : α), am_lk l i = some x → (i, x) ∈ l
  | [], _, _, h => by cases h
  | q :: l, i, x, h => by
    unfold am_lk at h
    cases hq : Nat.beq q.1 i with
    | true =>
      rw [hq] at h
      have e1 : q.1 = i := Nat.eq_of_beq_eq_true hq
      have e2 : q.2 = x := Option.some.inj h
      rw [← e1, ← e2]
      exact List.mem_cons_self
    | false =>
      rw [hq] at h
      exact List.mem_cons_of_mem _ (am_lk_mem l i x h)
theorem am_rngD {α : Type} {L : List (List α)} {n : Nat} {P : Nat → α → Bool} (hn : L.length ≤ n) (h : (List.range n).all (fun o => (L.getD o []).all (P o)) = true) (o : Nat) {x : α} (hx : x ∈ L.getD o []) : P o x = true := by
  have h1 := List.all_eq_true.mp h
  by_cases ho : o < n
  · exact List.all_eq_true.mp (h1 o (List.mem_range.mpr ho)) x hx
  · have : L.getD o [] = [] := by
      rw [List.getD_eq_getElem?_getD, List.getElem?_eq_none (by omega)]; rfl
    rw [this] at hx
    cases hx
theorem am_md {m : Nat} (hm : m < 109) : am_mdb m = true := by
  have key : ∀ i, i < 10 → ((List.range 109).drop (12 * i) |>.take 12).all am_mdb = true := by
    intro i hi
    match i, hi with
    | 0, _ => exact am_md_0
    | 1, _ => exact am_md_1
    | 2, _ => exact am_md_2
    | 3, _ => exact am_md_3
    | 4, _ => exact am_md_4
    | 5, _ => exact am_md_5
    | 6, _ => exact am_md_6
    | 7, _ => exact am_md_7
    | 8, _ => exact am_md_8
    | 9, _ => exact am_md_9
    | n + 10, h => exact absurd h (by omega)
  have h := List.all_eq_true.mp (key (m / 12) (by omega)) m
  refine h ?_
  refine List.mem_of_getElem? (i := m % 12) ?_
  rw [List.getElem?_take, if_pos (Nat.mod_lt _ (by omega)), List.getElem?_drop, List.getElem?_range (by omega)]
  congr 1
  omega
theorem am_md_spec {m : Nat} (hm : m < 109) : Cond.code (am_y m) (am_cc m) (am_ml m) (am_re m) ∈ am_AT ∧ (am_y m).cls = am_own m ∧ (am_y m).cls ≠ "java/lang/invoke/MethodHandle" ∧ (am_y m).cls ≠ "java/lang/invoke/VarHandle" ∧ (plainName (am_y m).cls = true ∨ m < 3) := by
  have h := am_md hm
  simp only [am_mdb, Bool.and_eq_true, Bool.or_eq_true, decide_eq_true_eq] at h
  obtain ⟨⟨⟨⟨h1, h2⟩, h3⟩, h4⟩, h5⟩ := h
  exact ⟨am_hs_in h1, h2, h3, h4, h5.imp id Nat.blt_eq.mp⟩
theorem am_mkL_len : am_mkL.length ≤ 14 := by decide
theorem am_mk_spec {me ix kd mid : Nat} (h : am_mk me ix = some (kd, mid)) :
    mid < 109 ∧ (.initialized (am_y mid).cls : Cond) ∈ am_AT ∧
    ((kd = 0 ∧ (.methodLink (am_own me) ix (am_y mid) : Cond) ∈ am_AT ∧ (.instanceMethod (am_y mid) : Cond) ∈ am_AT ∧ (.selects (am_y mid).cls (am_y mid) (am_y mid) : Cond) ∈ am_AT ∧ 1 ≤ am_na mid ∧ (parseMethodDescriptor (am_y mid).desc).map (fun d => d.parameters.length) = some (am_na mid - 1)) ∨
     (kd = 1 ∧ (.methodLink (am_own me) ix (am_y mid) : Cond) ∈ am_AT ∧ (.static (am_y mid) : Cond) ∈ am_AT ∧ (parseMethodDescriptor (am_y mid).desc).map (fun d => d.parameters.length) = some (am_na mid)) ∨
     (kd = 3 ∧ Cond.methodLinkNest (am_own me) ix (am_y mid) "SharedConsole" = Cond.methodLinkNest "SharedConsole" 11 ⟨"SharedConsole$Text", "<init>", "()V"⟩ "SharedConsole" ∧ (.static (am_y mid) : Cond) ∈ am_AT ∧ (parseMethodDescriptor (am_y mid).desc).map (fun d => d.parameters.length) = some (am_na mid))) := by
  unfold am_mk at h
  cases hl : am_lk (am_mkL.getD (am_ow me) []) ix with
  | none => rw [hl] at h; cases h
  | some q =>
    rw [hl] at h
    obtain ⟨kd', mid', w⟩ := q
    cases h
    have hb := am_rngD am_mkL_len am_mk_all (am_ow me) (am_lk_mem _ _ _ hl)
    unfold am_mkb at hb
    split at hb
    · rename_i e
      simp only [Prod.mk.injEq] at e
      obtain ⟨e1, e2, e3, e4⟩ := e
      subst e1 e2 e3
      simp only [Bool.and_eq_true, decide_eq_true_eq] at hb
      obtain ⟨⟨⟨⟨⟨⟨h1, h2⟩, h3⟩, h4⟩, h5⟩, h6⟩, h7⟩ := hb
      exact ⟨Nat.blt_eq.mp h7, am_hs_in h4, Or.inl ⟨rfl, am_hs_in h1, am_hs_in h2, am_hs_in h3, Nat.le_of_ble_eq_true h5, h6⟩⟩
    · rename_i e
      simp only [Prod.mk.injEq] at e
      obtain ⟨e1, e2, e3, e4⟩ := e
      subst e1 e2 e3
      simp only [Bool.and_eq_true, decide_eq_true_eq] at hb
      obtain ⟨⟨⟨⟨h1, h2⟩, h3⟩, h6⟩, h7⟩ := hb
      exact ⟨Nat.blt_eq.mp h7, am_hs_in h3, Or.inr (Or.inl ⟨rfl, am_hs_in h1, am_hs_in h2, h6⟩)⟩
    · rename_i e
      simp only [Prod.mk.injEq] at e
      obtain ⟨e1, e2, e3, e4⟩ := e
      subst e1 e2 e3
      simp only [Bool.and_eq_true, decide_eq_true_eq] at hb
      obtain ⟨⟨⟨⟨h1, h2⟩, h3⟩, h6⟩, h7⟩ := hb
      exact ⟨Nat.blt_eq.mp h7, am_hs_in h3, Or.inr (Or.inr ⟨rfl, h1, am_hs_in h2, h6⟩)⟩
    · cases hb
theorem am_own_lt {a : Nat} (h : Nat.beq (am_kd a).1 1 = true ∨ Nat.beq (am_kd a).1 2 = true ∨ Nat.beq (am_kd a).1 3 = true ∨ Nat.beq (am_kd a).1 5 = true) : a < am_n0 ∧ (Nat.beq (am_kd a).1 1 = true → (am_kd a).2.1 < 11) ∧ (Nat.beq (am_kd a).1 2 = true → (am_kd a).2.1 = 0) ∧ (Nat.beq (am_kd a).1 5 = true → (am_kd a).2.1 = 1) ∧ (Nat.beq (am_kd a).1 3 = true → 1 < (am_kd a).2.1 ∧ (am_kd a).2.1 < 7) := by
  by_cases ha : a < am_kdL.length
  · have hb := List.all_eq_true.mp am_kd_all a (List.mem_range.mpr ha)
    simp only [Bool.or_eq_true, Bool.and_eq_true] at hb
    have e : ∀ {x y : Nat}, Nat.beq x y = true → x = y := fun h => Nat.eq_of_beq_eq_true h
    rcases hb with ((((((h0 | h0) | h1) | h1) | h1) | h1) | h1) | h1
    · rcases h with q | q | q | q <;> have := e q <;> have := e h0 <;> omega
    · rcases h with q | q | q | q <;> have := e q <;> have := e h0 <;> omega
    · refine ⟨Nat.blt_eq.mp h1.1.2, fun _ => Nat.blt_eq.mp h1.2, fun q => ?_, fun q => ?_, fun q => ?_⟩ <;> have := e h1.1.1 <;> have := e q <;> omega
    · refine ⟨Nat.blt_eq.mp h1.1.2, fun q => ?_, fun q => e h1.2, fun q => ?_, fun q => ?_⟩ <;> have := e h1.1.1 <;> have := e q <;> omega
    · refine ⟨Nat.blt_eq.mp h1.1.2, fun q => ?_, fun q => ?_, fun q => e h1.2, fun q => ?_⟩ <;> have := e h1.1.1 <;> have := e q <;> omega
    · refine ⟨Nat.blt_eq.mp h1.1.1.2, fun q => ?_, fun q => ?_, fun q => ?_, fun q => ⟨Nat.blt_eq.mp h1.1.2, Nat.blt_eq.mp h1.2⟩⟩ <;> have := e h1.1.1.1 <;> have := e q <;> omega
    · rcases h with q | q | q | q <;> have := e q <;> have := e h1.1.1 <;> omega
    · rcases h with q | q | q | q <;> have := e q <;> have := e h1.1.1 <;> omega
  · have h0 : am_kd a = (0, 0, 0) := by
      unfold am_kd
      rw [List.getD_eq_getElem?_getD, List.getElem?_eq_none (by omega)]; rfl
    rw [h0] at h
    rcases h with q | q | q | q <;> exact absurd q (by decide)
end AMS
