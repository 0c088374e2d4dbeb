section DM2
/-- words that don't lie in the tables for good -/
def dm_NB : List Cond := [.methodLinkNest RL 157 yX10_init RL, .methodLinkNest RL 162 yX10_blank RL, .methodLinkNest RL 169 yX10_typed RL, .methodLinkNest RL 172 yX10_sized RL,
  .fieldLinkNest RL 182 RX10 "rows" "[[I" RL, .fieldLinkNest RL 186 RX10 "y" "I" RL, .fieldLinkNest RL 189 RX10 "x" "I" RL, .fieldLinkNest RL 158 RX10 "wide" "I" RL, .fieldLinkNest RL 192 RX10 "gone" "I" RL, .fieldLinkNest RL 202 RX10 "lines" "[[I" RL, .arrayOver (.array .int)]
theorem dm_AO_warm {s U : State} (hW : s.WarmedH U.vm) {ty : FieldType} (h : va_Nw (.arrayOver ty) s) : va_Nw (.arrayOver ty) U := by
  have h2 : (Cond.arrayOver ty).before #[] (s.setVm U.vm) = true := (Cond.arrayOver_setVmC hW.alike _).trans h
  have e : (s.setVm U.vm).vm = U.vm := rfl
  unfold va_Nw
  simp only [Cond.before, Cond.holds, Cond.value, e] at h2 ⊢
  exact h2
theorem dm_NB_warm {s U : State} (hW : s.WarmedH U.vm) {w : Cond} (hw : w ∈ dm_NB) (h : va_Nw w s) : va_Nw w U := by
  simp only [dm_NB, List.mem_cons, List.not_mem_nil, or_false] at hw
  rcases hw with rfl | rfl | rfl | rfl | rfl | rfl | rfl | rfl | rfl | rfl | rfl
  · exact va_Nw.warmM hW h
  · exact va_Nw.warmM hW h
  · exact va_Nw.warmM hW h
  · exact va_Nw.warmM hW h
  · exact va_Nw.warmF hW h
  · exact va_Nw.warmF hW h
  · exact va_Nw.warmF hW h
  · exact va_Nw.warmF hW h
  · exact va_Nw.warmF hW h
  · exact va_Nw.warmF hW h
  · exact dm_AO_warm hW h
def dm_inT (w : Cond) : Bool := lw_tbl.any (fun q => decide (q = w)) && goodWord w
theorem dm_inT_spec {w : Cond} (h : dm_inT w = true) : w ∈ am_AT := by
  unfold dm_inT at h
  rw [Bool.and_eq_true] at h
  obtain ⟨q, hq, e⟩ := List.any_eq_true.mp h.1
  have e := of_decide_eq_true e
  subst e
  exact List.mem_filter.mpr ⟨hq, h.2⟩
def dm_P (al : Nat → Nat) (dC : Nat → ClassId) (dI : Nat → Nat → Nat) (aC : Nat → ClassId) (aV : Nat → Nat) (x0 x1 : Nat) (S : dm_S) (U : State) : Prop :=
  U.heap.size = x1 + (dm_n S - 1000) ∧ va_P (dC, dI) vwCl (dm_W al aC x1 S) U.heap ∧ va_K (dC, dI) vwCl (am_tys aC) U ∧ am_Fx al aV (fun q => x0 ≤ q) U U.heap ∧ ∀ w ∈ dm_NB, va_Nw w U
def dm_Q (al : Nat → Nat) (dC : Nat → ClassId) (dI : Nat → Nat → Nat) (aC : Nat → ClassId) (x0 x1 : Nat) (v : Option Value) (S : dm_S) : Array Value → State → Outcome → State → Prop := fun _ st oc t =>
  oc = .returned (v.map (am_rl (dm_al al x1))) ∧ t.heap.size = x1 + (dm_n S - 1000) ∧ va_P (dC, dI) vwCl (dm_W al aC x1 S) t.heap ∧ va_F (fun q => x0 ≤ q) st t
def dm_rm (me n z : Nat) : Room := { frames := dm_fr me, cells := n, slots := z, locals := dm_lo me }
def dm_ws (me : Nat) : List Cond := .code (dm_y me) (dm_cc me) (dm_ml me) (dm_re me) :: am_AT
/-- method me, called with these values in this state of the law's heap, answers so, and leaves that state -/
def dm_Met (l : Launch) (al : Nat → Nat) (dC : Nat → ClassId) (dI : Nat → Nat → Nat) (aC : Nat → ClassId) (aV : Nat → Nat) (x0 x1 : Nat) (me : Nat) (as : List Value) (S : dm_S) (v : Option Value) (S' : dm_S) : Prop :=
  1000 ≤ dm_n S → (dm_n S ≤ dm_n S' ∧ dm_zz S ≤ dm_zz S' ∧ Met l (dm_y me) (dm_ws me) (dm_rm me (dm_n S' - dm_n S) (dm_zz S' - dm_zz S)) (va_Pc (as.map (am_rl (dm_al al x1))) (dm_P al dC dI aC aV x0 x1 S)) (dm_Q al dC dI aC x0 x1 v S') (dm_n S' - dm_n S) (dm_zz S' - dm_zz S) (fun q => x0 ≤ q))
def dm_OS (l : Launch) (al : Nat → Nat) (dC : Nat → ClassId) (dI : Nat → Nat → Nat) (aC : Nat → ClassId) (aV : Nat → Nat) (x0 x1 : Nat) (orc : dm_Orc) : Prop :=
  ∀ (γ : Type) (mid : Nat) (as : List Value) (S : dm_S) (k : Option Value → dm_S → Option γ) (g : γ), orc γ mid as S k = some g → ∃ v S', dm_Met l al dC dI aC aV x0 x1 mid as S v S' ∧ k v S' = some g
theorem dm_blind {al : Nat → Nat} {dC : Nat → ClassId} {dI : Nat → Nat → Nat} {aC : Nat → ClassId} {aV : Nat → Nat} {x0 x1 : Nat} {as : List Value} {S : dm_S} : FrameBlind (va_Pc as (dm_P al dC dI aC aV x0 x1 S)) := by
  intro b U g mk q
  obtain ⟨q0, q1, q2, q3, q4, q5⟩ := q
  exact ⟨q0, q1, q2, va_K.moved (u := U) (U := U.calling g mk b) (Vm.Alike.refl U.vm) q3, am_fx_kept (U1 := U.calling g mk b) q4 (State.WarmedH.refl U) (Nat.le_refl _) (fun _ _ _ => rfl) (fun _ _ h => h) (fun _ h => h), fun w hw => dm_NB_warm (U := U.calling g mk b) (State.WarmedH.refl U) hw (q5 w hw)⟩
section
variable {p : Program} {l : Launch} {e : Env} {R : Room} {s : State} {m : MethodId} {args : Array Value} {below : List Frame} {meth : Method} {c : Code}
/-- what a walk stands on -/
def dm_Cx (p : Program) (R : Room) (s : State) (m : MethodId) (args : Array Value) (meth : Method) (c : Code) (al : Nat → Nat) (dC : Nat → ClassId) (dI : Nat → Nat → Nat) (aC : Nat → ClassId) (aV : Nat → Nat) (x0 x1 me N0 Z0 : Nat) (SO : dm_S) : Prop :=
  p.tables.exec = Jvm.exec ∧ c.code = dm_cc me ∧ c.maxLocals = dm_ml me ∧ s.vm.findClass (dm_own me) = some m.cls ∧ (∀ w ∈ am_AT, w.before args s = true) ∧ meth.locks = false ∧ meth.sig.returnType = dm_re me ∧
  va_K (dC, dI) vwCl (am_tys aC) s ∧ am_Fx al aV (fun q => x0 ≤ q) s s.heap ∧ (∀ w ∈ dm_NB, va_Nw w s) ∧ R = dm_rm me (dm_n SO - N0) (dm_zz SO - Z0) ∧ dm_Al al x0 x1 ∧ s.heap.size = x1 + (N0 - 1000) ∧ 1000 ≤ N0
/-- the machine from here on ends as vO and SO say -/
def dm_At (p : Program) (l : Launch) (e : Env) (R : Room) (s : State) (m : MethodId) (args : Array Value) (below : List Frame) (meth : Method) (c : Code) (al : Nat → Nat) (dC : Nat → ClassId) (dI : Nat → Nat → Nat) (aC : Nat → ClassId) (x0 x1 me N0 Z0 : Nat) (vO : Option Value) (SO : dm_S) (pc : Nat) (ρ : am_Lc) (st : List Value) (S : dm_S) : Prop :=
  N0 ≤ dm_n S → Z0 ≤ dm_zz S → (dm_n S ≤ dm_n SO ∧ dm_zz S ≤ dm_zz SO ∧ ∀ (H : Heap) (locs : List Loc) (ls : Array Slot), lv_has ls (dm_ml me) (am_rls (dm_al al x1) ρ) → va_P (dC, dI) vwCl (dm_W al aC x1 S) H → va_S (fun q => x0 ≤ q) s.heap H locs →
    W p l e R s m args below meth c H locs (dm_n S - N0) (dm_zz S - Z0) (MQ below (dm_Q al dC dI aC x0 x1 vO SO) args s (dm_n SO - N0) (dm_zz SO - Z0) (fun q => x0 ≤ q)) (F0 m pc ls (st.map (am_rl (dm_al al x1)))))
end
-- ---- what the tables say
def dm_fA : List (Nat × Nat) := [(20, 0), (33, 1), (30, 2), (15, 3), (23, 5), (9, 4)]
def dm_fB : List (Nat × Nat) := [(182, 0), (186, 1), (189, 2), (158, 3), (192, 5), (202, 4)]
set_option maxRecDepth 100000 in
theorem dm_fA_ok : dm_fA.all (fun q => dm_inT (.fieldLink RX10 q.1 (am_T 10 q.2).1 (am_T 10 q.2).2.1 (am_T 10 q.2).2.2.1) && Nat.blt q.2 6) = true := by decide +kernel
set_option maxRecDepth 100000 in
theorem dm_fB_ok : dm_fB.all (fun q => decide (Cond.fieldLinkNest RL q.1 (am_T 10 q.2).1 (am_T 10 q.2).2.1 (am_T 10 q.2).2.2.1 RL ∈ dm_NB) && Nat.blt q.2 6) = true := by decide +kernel
theorem dm_fk_spec {me ix j : Nat} (h : dm_fk me ix = some j) : j < 6 ∧ ((me < 6 ∧ (Cond.fieldLink RX10 ix (am_T 10 j).1 (am_T 10 j).2.1 (am_T 10 j).2.2.1) ∈ am_AT) ∨ (6 ≤ me ∧ Cond.fieldLinkNest RL ix (am_T 10 j).1 (am_T 10 j).2.1 (am_T 10 j).2.2.1 RL ∈ dm_NB)) := by
  unfold dm_fk at h
  cases hm : Nat.blt me 6 with
  | true =>
    rw [hm] at h
    have h1 := List.all_eq_true.mp dm_fA_ok _ (am_lk_mem _ _ _ h)
    rw [Bool.and_eq_true] at h1
    exact ⟨Nat.blt_eq.mp h1.2, Or.inl ⟨Nat.blt_eq.mp hm, dm_inT_spec h1.1⟩⟩
  | false =>
    rw [hm] at h
    have h1 := List.all_eq_true.mp dm_fB_ok _ (am_lk_mem _ _ _ h)
    rw [Bool.and_eq_true] at h1
    refine ⟨Nat.blt_eq.mp h1.2, Or.inr ⟨?_, of_decide_eq_true h1.1⟩⟩
    refine Nat.not_lt.mp (fun z => ?_)
    rw [Nat.blt_eq.mpr z] at hm
    cases hm
theorem dm_own_a {me : Nat} (h : me < 6) : dm_own me = RX10 := by
  unfold dm_own
  rw [Nat.blt_eq.mpr h]; rfl
theorem dm_own_b {me : Nat} (h : 6 ≤ me) : dm_own me = RL := by
  unfold dm_own
  have : Nat.blt me 6 = false := by
    cases hm : Nat.blt me 6 with
    | true => have := Nat.blt_eq.mp hm; omega
    | false => rfl
  rw [this]; rfl
theorem dm_ty10 : ∀ j, j < 6 → j ≠ 4 → (am_T 10 j).2.2.2 = false ∧ parseFieldDescriptor (am_T 10 j).2.2.1 = some (if dm_rj j then .array (.array .int) else .int) := by decide +kernel
-- ---- cells
section
variable {al : Nat → Nat} {aC : Nat → ClassId} {x1 : Nat} {S : dm_S} {a : Nat}
theorem dm_c1 (h : (dm_k S a).1 = 1) : dm_cell al aC x1 S a = .inr (10, (List.range 6).map (dm_fv al x1 S a)) := by
  unfold dm_cell
  rw [h]; rfl
theorem dm_c2 (h : (dm_k S a).1 = 2) : dm_cell al aC x1 S a = .inl (aC 0, dm_len S a, .inl (dm_g S a)) := by
  unfold dm_cell
  rw [h]; rfl
theorem dm_c3 (h : (dm_k S a).1 = 3) : dm_cell al aC x1 S a = .inl (aC 6, dm_len S a, .inr (.inr (.inr (.inr (fun j => dm_rf al x1 (dm_g S a j)))))) := by
  unfold dm_cell
  rw [h]; rfl
theorem dm_wr_g {k j : Nat} {v : Int32} : dm_g (dm_wr S a k v) a j = if j = k then v else dm_g S a j := by
  show am_pi S.2.2.1 a k v a j = _
  simp [am_pi, dm_g]
theorem dm_rf_z {x : Nat} (h : x < dm_bg) : dm_rf al x1 (am_z (x : Int)) = some (dm_al al x1 x) := by
  unfold dm_bg at h
  unfold dm_rf
  rw [if_neg, am_z_cl (by omega) (by omega), Int.toNat_natCast]
  have e0 : (0 : Int32) = am_z 0 := rfl
  rw [e0, am_z_lt (by omega) (by omega) (by omega) (by omega)]
  omega
theorem dm_set_o {j : Nat} {v : Int32} (hj : j < 6) {w : Value} (hw : dm_fv al x1 (dm_wr S a j v) a j = w) : ((List.range 6).map (dm_fv al x1 S a)).set j w = (List.range 6).map (dm_fv al x1 (dm_wr S a j v) a) := by
  subst hw
  apply List.ext_getElem?
  intro i
  by_cases hi : i < 6
  · by_cases hij : i = j
    · subst hij
      rw [List.getElem?_set_self (by simpa using hi), List.getElem?_map, List.getElem?_range hi]
      rfl
    · rw [List.getElem?_set_ne (Ne.symm hij), List.getElem?_map, List.getElem?_map, List.getElem?_range hi]
      show some (dm_fv al x1 S a i) = some (dm_fv al x1 (dm_wr S a j v) a i)
      unfold dm_fv
      rw [dm_wr_g, if_neg hij]
  · rw [List.getElem?_eq_none (by simpa using hi), List.getElem?_eq_none (by simpa using hi)]
theorem dm_fv_get {j : Nat} (hj : j < 6) : ((List.range 6).map (dm_fv al x1 S a))[j]? = some (dm_fv al x1 S a j) := by
  rw [List.getElem?_map, List.getElem?_range hj]
  rfl
end
end DM2
