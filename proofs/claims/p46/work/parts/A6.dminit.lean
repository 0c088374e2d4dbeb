section DM6
variable {l : Launch} {al : Nat → Nat} {dC : Nat → ClassId} {dI : Nat → Nat → Nat} {aC : Nat → ClassId} {aV : Nat → Nat} {x0 x1 : Nat}
def di_rm : Room := { frames := 1, cells := 1, slots := 40, locals := 20 }
def di_ws : List Cond := .code yX10_init cX10_init 1 none :: am_AT
def di_f0 : List Value := [.null, .int 0, .int 0, .int 0, .null, .int 0]
def di_f1 (q : Nat) : List Value := [.null, .int 0, .int 0, .int 0, .ref (q + 1), .int 0]
def di_P (dC : Nat → ClassId) (dI : Nat → Nat → Nat) (aC : Nat → ClassId) (q : Nat) (U : State) : Prop :=
  U.heap.size = q + 1 ∧ va_P (dC, dI) vwCl [(q, .inr (10, di_f0))] U.heap ∧ va_K (dC, dI) vwCl (am_tys aC) U ∧ ∀ w ∈ dm_NB, va_Nw w U
def di_W1 (aC : Nat → ClassId) (q : Nat) : va_W := [(q, .inr (10, di_f1 q)), (q + 1, .inl (aC 6, 40, .inr (.inr (.inr (.inr (fun _ => none))))))]
theorem di_blind {as : List Value} {q : Nat} : FrameBlind (va_Pc as (di_P dC dI aC q)) := by
  intro b U g mk z
  obtain ⟨q0, q1, q2, q3, q5⟩ := z
  exact ⟨q0, q1, q2, va_K.moved (u := U) (U := U.calling g mk b) (Vm.Alike.refl U.vm) q3, fun w hw => dm_NB_warm (U := U.calling g mk b) (State.WarmedH.refl U) hw (q5 w hw)⟩
set_option maxRecDepth 100000 in
theorem di_w : (dm_inT (.methodLink RX10 1 Lib.objectInit) && dm_inT (.instanceMethod Lib.objectInit) && dm_inT (.code Lib.objectInit ⟨#[0xb1]⟩ 1 none) && dm_inT (.classLink RX10 7 "[I") && decide (Cond.fieldLink RX10 9 (am_T 10 4).1 (am_T 10 4).2.1 (am_T 10 4).2.2.1 ∈ am_AT) && plainName yX10_init.cls) = true := by decide +kernel
theorem di_d : decode cX10_init 0 = .ok (.aload_n 0, 1) ∧ decode cX10_init 1 = .ok (.invokespecial 1, 3) ∧ decode cX10_init 4 = .ok (.aload_n 0, 1) ∧ decode cX10_init 5 = .ok (.bipush 40, 2) ∧ decode cX10_init 7 = .ok (.anewarray 7, 3) ∧ decode cX10_init 10 = .ok (.putfield 9, 3) ∧ decode cX10_init 13 = .ok (.return_, 1) := by decide +kernel
set_option maxHeartbeats 4000000 in
theorem di_met (q : Nat) : Met l yX10_init di_ws di_rm (va_Pc [.ref q] (di_P dC dI aC q)) (va_Qv (fun _ : Unit => True) (fun _ t => t.heap.size = q + 2 ∧ va_P (dC, dI) vwCl (di_W1 aC q) t.heap) (fun a => q ≤ a)) 1 40 (fun a => q ≤ a) := by
  have hw := di_w
  simp only [Bool.and_eq_true] at hw
  obtain ⟨⟨⟨⟨⟨w1, w2⟩, w3⟩, w4⟩, w5⟩, w6⟩ := hw
  obtain ⟨d0, d1, d4, d5, d7, d10, d13⟩ := di_d
  refine Met.ofW (cc := cX10_init) (maxL := 1) (ret := none) w6 rfl ?_
  intro p e s m args below meth c s₁ B hml hv
  obtain ⟨rfl, hsz, hP, hK, hNB⟩ := hv
  have hts : ∀ w ∈ am_AT, w.before _ s = true := fun w hw => atoms_spec (ws := di_ws) B.pre w (List.mem_cons_of_mem _ hw)
  have hown : s.vm.findClass RX10 = some m.cls := findClass_of_methodNamed B.named
  have hin : meth.name = "<init>" := (name_of_methodNamed B.named B.method).1
  have hx := B.exec
  have hb := B.bytes
  have hl := lv_entry [Value.ref q] (n := 1) (Nat.le_of_ble_eq_true rfl)
  rw [lg_entry_eq]
  generalize hls : ((lg_sl [Value.ref q]) ++ List.replicate (1 - (lg_sl [Value.ref q]).length) Slot.unset).toArray = ls at hl
  have h0 := hl.2.2 (0, Value.ref q) (by simp [lv_args])
  refine lv_aload_n hx hb d0 rfl h0 ?_
  refine W.objInit hx hb hown (hts _ (dm_inT_spec w1)) (hts _ (dm_inT_spec w2)) (hts _ (dm_inT_spec w3)) rfl (hl.1.trans hml.symm) rfl d1 (Nat.le_of_ble_eq_true rfl) (by show 2 * 0 + 0 + 12 ≤ 20; omega) ?_
  refine lv_aload_n hx hb d4 rfl h0 ?_
  refine lv_bipush hx hb (v := 40) d5 rfl ?_
  refine W.anewA (t := .int) hx hb hown (hts _ (dm_inT_spec w4)) (show va_Nw (.arrayOver (.array .int)) s from hNB (.arrayOver (.array .int)) (by simp [dm_NB])) rfl d7 rfl (by decide) (by decide) (by show 0 + 1 ≤ 1; omega) (by show 0 + 40 ≤ 40; omega) (fun cA kA comp e1 e2 e3 e4 => ?_)
  have hcA : cA = aC 6 := by
    have h9 : va_RA s (aC 6) (.array .int) := (hK.2 6 _ rfl).2
    have h9 : s.vm.findClass ("[" ++ (FieldType.array FieldType.int).toString) = some (aC 6) := h9
    exact Option.some.inj (e1.symm.trans h9)
  subst hcA
  have e40 : (40 : Int32).toNatClampNeg = 40 := by decide
  rw [e40, hsz]
  have hP1 : va_P (dC, dI) vwCl [(q, .inr (10, di_f0)), (q + 1, .inl (aC 6, 40, .inr (.inr (.inr (.inr (fun _ => none))))))] (s.heap.push { cls := aC 6, slots := Array.replicate 40 .null, vm := .none }) := by
    intro k z hk
    match k, hk with
    | 0, hk =>
      have hk := Option.some.inj hk
      rw [← hk]
      refine (hP 0 _ rfl).kept ?_
      show (s.heap.push _)[q]? = _
      rw [Array.getElem?_push, if_neg (by omega)]
    | 1, hk =>
      have hk := Option.some.inj hk
      rw [← hk]
      show (s.heap.push _)[q + 1]? = some (vp_cell _ _)
      rw [← hsz, Array.getElem?_push_size, vp_cell_q]
      exact congrArg some (arrV_new (aC 6) 40 .null)
    | k + 2, hk => cases hk
  have hD1 : va_D (fun a => q ≤ a) [(q, .inr (10, di_f0)), (q + 1, .inl (aC 6, 40, .inr (.inr (.inr (.inr (fun _ => none))))))] := by
    refine ⟨fun i j x y hi hj hxy => ?_, fun k z hk => ?_⟩
    · match i, j, hi, hj with
      | 0, 0, _, _ => rfl
      | 1, 1, _, _ => rfl
      | 0, 1, hi, hj =>
        rw [← Option.some.inj hi, ← Option.some.inj hj] at hxy
        exact absurd (show q = q + 1 from hxy) (by omega)
      | 1, 0, hi, hj =>
        rw [← Option.some.inj hi, ← Option.some.inj hj] at hxy
        exact absurd (show q + 1 = q from hxy) (by omega)
      | i + 2, _, hi, _ => cases hi
      | _, j + 2, _, hj => cases hj
    · match k, hk with
      | 0, hk => rw [← Option.some.inj hk]; exact Nat.le_refl _
      | 1, hk => rw [← Option.some.inj hk]; exact Nat.le_succ _
      | k + 2, hk => cases hk
  have hS1 : va_S (fun a => q ≤ a) s.heap (s.heap.push { cls := aC 6, slots := Array.replicate 40 .null, vm := .none }) [] := by
    refine ⟨by rw [Array.size_push]; omega, fun z h1 _ => ?_, fun _ h => by cases h⟩
    rw [Array.getElem?_push, if_neg (by omega)]
  obtain ⟨ty0, hty, hnm⟩ := am_tyn (ci := 10) (by decide)
  refine va_putF (D := (dC, dI)) (T := am_T 10) (N := am_N 10) hx hb hts (am_uw_spec (ci := 10) (by decide)) ty0 hty hnm hown hK hP1 hD1 hS1 0 (fs := di_f0) rfl (am_cl_spec (by decide)).2 4 (by decide) (hts _ (of_decide_eq_true w5)) (fun _ h9 => h9) (by decide) hin (by decide) (ty := .array (.array .int)) (by decide +kernel) rfl rfl (by decide) d10 (fun H1 locs1 q1 _ q3 => ?_)
  refine dm_lenW (fun hln => ?_)
  have hH1 : H1.size = q + 2 := by
    have h9 := (q1 1 _ rfl).lt
    have h9 : q + 1 < H1.size := h9
    omega
  exact W.vret hx hb B.returns (fun t ht hW => ⟨⟨(), rfl, trivial, by rw [ht]; exact hH1, by rw [ht]; exact q1⟩, q3.F ht⟩) q3.2.2 d13
end DM6
