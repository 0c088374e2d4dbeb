section FC1
def fc_y : MethodName := ⟨RL, "console", "([I)LSharedConsole;"⟩
def fc_cc : ByteArray := method_12_code
def fc_rt : FieldType := .object "SharedConsole"
def fc_ws : List Cond := .code fc_y fc_cc 3 (some fc_rt) :: am_AT
def fc_rm : Room := { frames := 14, cells := 893, slots := 759200, locals := 550 }
def fc_words : Bool :=
  cn_inT (.classLink RL 32 (am_R 9)) && cn_inT (.instantiable (am_R 9) (am_N 9)) && cn_inT (.initialized (am_R 9)) && cn_inT (.methodLink RL 85 (cn_y 9)) && cn_inT (.instanceMethod (cn_y 9)) && cn_inT (.code (cn_y 9) (cn_cc 9) (cn_ml 9) none) && cn_inT (.code fc_y fc_cc 3 (some fc_rt)) &&
  fw_sok 86 (tm_y 7) (tm_na 7) && fw_sok 90 (tm_y 9) (tm_na 9) && fw_sok 98 (tm_y 8) (tm_na 8) && (dm_inT (.methodLink RL 8 (tm_y 27)) && dm_inT (.instanceMethod (tm_y 27)) && dm_inT (.selects RJ0 (tm_y 27) (tm_y 27)) && dm_inT (.initialized RJ0)) && fw_vok 94 58 1
set_option maxRecDepth 1000000 in
theorem fc_words_ok : fc_words = true := by decide +kernel
def fc_code : Bool :=
  decide (decode fc_cc 0 = .ok (.new 32, 3)) && decide (decode fc_cc 3 = .ok (.dup, 1)) && decide (decode fc_cc 4 = .ok (.invokespecial 85, 3)) && decide (decode fc_cc 7 = .ok (.astore_n 1, 1)) && decide (decode fc_cc 8 = .ok (.aload_n 0, 1)) && decide (decode fc_cc 9 = .ok (.invokestatic 86, 3)) && decide (decode fc_cc 12 = .ok (.astore_n 2, 1)) && decide (decode fc_cc 13 = .ok (.aload_n 1, 1)) && decide (decode fc_cc 14 = .ok (.aload_n 2, 1)) && decide (decode fc_cc 15 = .ok (.invokestatic 90, 3)) &&
  decide (decode fc_cc 18 = .ok (.aload_n 1, 1)) && decide (decode fc_cc 19 = .ok (.aload_n 2, 1)) && decide (decode fc_cc 20 = .ok (.invokevirtual 8, 3)) && decide (decode fc_cc 23 = .ok (.invokevirtual 94, 3)) && decide (decode fc_cc 26 = .ok (.aload_n 2, 1)) && decide (decode fc_cc 27 = .ok (.invokestatic 98, 3)) && decide (decode fc_cc 30 = .ok (.if_icmp .ne 7, 3)) && decide (decode fc_cc 33 = .ok (.aload_n 1, 1)) && decide (decode fc_cc 34 = .ok (.goto 4, 3)) && decide (decode fc_cc 38 = .ok (.areturn, 1))
theorem fc_code_ok : fc_code = true := by decide +kernel
theorem fc_ynm : (cn_y 9).cls ≠ "java/lang/invoke/MethodHandle" ∧ (cn_y 9).cls ≠ "java/lang/invoke/VarHandle" ∧ (parseMethodDescriptor (cn_y 9).desc).map (fun d => d.parameters.length) = some 0 := by decide +kernel
theorem fc_sizes : (cn_mc 9 = 192 ∧ cn_mz 9 = 9098 ∧ am_N 9 = 12) ∧ ((cn_rm 9).frames + 1 ≤ 14 ∧ 8 + (cn_ml 9 + 11) + (cn_rm 9).locals ≤ 550) := by decide
variable {p : Program} {l : Launch} {e : Env} {R : Room} {s : State} {m : MethodId} {args : Array Value} {below : List Frame} {meth : Method} {c : Code} {Q : State → Prop}
variable {al : Nat → Nat} {dC : Nat → ClassId} {dI : Nat → Nat → Nat} {aC : Nat → ClassId} {aV : Nat → Nat} {x0 : Nat} {X : tm_X}
/-- a new object in the law's code, its address told -/
theorem fw_new {ci ix pc y cells slots : Nat} {cc : ByteArray} {H : Heap} {locs : List Loc} {ls : Array Slot} {rest : List Value} (hci : ci < 11) (hx : p.tables.exec = Jvm.exec) (hb : c.code = cc) (hts : ∀ w ∈ am_AT, w.before args s = true) (hown : s.vm.findClass RL = some m.cls) (hcl : (Cond.classLink RL ix (am_R ci)).before args s = true) (hinst : (Cond.instantiable (am_R ci) (am_N ci)).before args s = true) (hini : (Cond.initialized (am_R ci)).before args s = true) (hK : va_K (dC, dI) vwCl (am_tys aC) s) (hy : H.size = y) (hcells : cells + 1 ≤ R.cells) (hslots : slots + am_N ci ≤ R.slots) (hdg : decode cc pc = .ok (.new ix, 3))
    (kk : ∀ H1 : Heap, H1.size = y + 1 → va_P (dC, dI) vwCl [(y, cn_e (cn_al y al) aC (cn_new ci))] H1 → (∀ q, q < y → H1[q]? = H[q]?) → W p l e R s m args below meth c H1 locs (cells + 1) (slots + am_N ci) Q (F0 m (pc + 3) ls (.ref y :: rest))) : W p l e R s m args below meth c H locs cells slots Q (F0 m pc ls rest) := by
  obtain ⟨ty0, hty, hnm⟩ := am_tyn hci
  have hKn := hK.1 ci _ (am_cl_spec hci).2
  refine W.newcK hx hb hown hcl hinst hini rfl hdg hcells hslots hKn.2.1 hy fun H1 kC hkC e1 z1 o1 => ?_
  refine kk H1 z1 (fun k q hk => ?_) o1
  have hz : k < 1 := (List.getElem?_eq_some_iff.mp hk).1
  rw [show k = 0 by omega] at hk
  cases hk
  rw [cn_e_o rfl]
  exact ⟨_, (am_cl_spec hci).2, (u_born ty0 hts (am_uw_spec hci) hKn hkC e1 hty).to (fun j hj => cn_dfv hci hty hj)⟩
theorem fc_gd {o : Nat} (h : cn_inT (.code (cn_y o) (cn_cc o) (cn_ml o) none) = true) : GoodIn am_AT (cn_wsx o) := am_AT_sub (fun w hw => by
  rcases List.mem_cons.mp hw with rfl | hw
  · exact cn_inT_spec h
  · exact hw)
def fc_P (al : Nat → Nat) (dC : Nat → ClassId) (dI : Nat → Nat → Nat) (aC : Nat → ClassId) (aV : Nat → Nat) (x0 : Nat) (X : tm_X) (U : State) : Prop :=
  U.heap.size = x0 ∧ va_K (dC, dI) vwCl (tm_tys aC) U ∧ am_Fx al aV (fun q => x0 ≤ q) U U.heap ∧ tm_Fx al X (fun q => x0 ≤ q) U U.heap ∧ (∀ w ∈ dm_NB, va_Nw w U) ∧ ∀ w ∈ cn_NB, va_Nw w U
def fc_Q (al : Nat → Nat) (dC : Nat → ClassId) (dI : Nat → Nat → Nat) (aC : Nat → ClassId) (x0 : Nat) : Array Value → State → Outcome → State → Prop := fun _ st oc t =>
  ∃ nS nU h1 hm1, 0 < nS ∧ 0 < nU ∧ qr_R nS nU h1 hm1 ∧ oc = .returned (some (.ref x0)) ∧ va_P (dC, dI) vwCl (am_W al aC h1) t.heap ∧ va_F (fun q => x0 ≤ q) st t
theorem fc_blind {as : List Value} : FrameBlind (va_Pc as (fc_P al dC dI aC aV x0 X)) := by
  intro b U g mk q
  obtain ⟨q0, q1, q3, q4, q5, q6, q7⟩ := q
  exact ⟨q0, q1, va_K.moved (u := U) (U := U.calling g mk b) (Vm.Alike.refl U.vm) q3, am_fx_kept (U1 := U.calling g mk b) q4 (State.WarmedH.refl U) (Nat.le_refl _) (fun _ _ _ => rfl) (fun _ _ h => h) (fun _ h => h), tm_fx_kept (U1 := U.calling g mk b) q5 (State.WarmedH.refl U) (Nat.le_refl _) (fun _ _ _ => rfl) (fun _ h => h), fun w hw => dm_NB_warm (U := U.calling g mk b) (State.WarmedH.refl U) hw (q6 w hw), fun w hw => cn_NB_warm (U := U.calling g mk b) (State.WarmedH.refl U) hw (q7 w hw)⟩
theorem fw_h0 {h : am_Hp} : dm_h (fw_S0 h) = h := rfl
/-- what console() does, told without the machine -/
theorem fc_math {N : Nat} (hN : 60000 ≤ N) (hX : X.1 < 2147483648) : ∃ (nS nU cnt L r : Nat) (S1 S2 : dm_S) (hc' hm' : am_Hp), 0 < nS ∧ 0 < nU ∧ e_T_text X N 950 (fw_S0 cn_hp) = some (r, S1) ∧ dm_n S1 ≤ 1200 ∧ dm_zz S1 ≤ 250000 ∧ e_T_put X N r S1 = some ((), S2) ∧ dm_n S2 ≤ dm_n S1 + 500 ∧ dm_zz S2 ≤ dm_zz S1 + 500000 ∧ dm_n S1 ≤ dm_n S2 ∧ 1000 ≤ dm_n S1 ∧ dm_ok S2 5 r = true ∧ e_T_strLen X N r S2 = some (am_z (L : Int), S2) ∧
    f_X9_load N (am_z (L : Int)) (dm_h S2) = some (am_z (cnt : Int), hc') ∧ e_T_statements X N r (dm_sh S2 hc') = some (am_z (cnt : Int), dm_sh S2 hc') ∧ qr_R nS nU hc' hm' := by
  have hbg : dm_bg = 2147483648 := rfl
  obtain ⟨k, z, nS, nU, W, V, r, S1, ⟨k1, k2, k3, k4, k5, k6, k7⟩, hW, hV, et, hT, hl, F1⟩ := te_text (X := X) (N := N) (S := fw_S0 cn_hp) (by omega) hX (Nat.le_refl 1000) (by show 1000 + 20000 < dm_bg; omega)
  have n1 := F1.2.1
  have m1 := F1.2.2.1
  have z1 := F1.2.2.2.1
  have n0 : dm_n (fw_S0 cn_hp) = 1000 := rfl
  have z0 : dm_zz (fw_S0 cn_hp) = 0 := rfl
  rw [n0] at n1 m1
  rw [z0] at z1
  have hh : dm_h S1 = cn_hp := F1.1.trans fw_h0
  obtain ⟨h0, R0⟩ := cn_R0 N hN
  have hv := cn_vals
  simp only [Bool.and_eq_true, decide_eq_true_eq] at hv
  obtain ⟨⟨⟨⟨⟨⟨⟨⟨⟨⟨⟨⟨⟨⟨⟨⟨⟨v1, v2⟩, v3⟩, v4⟩, v5⟩, v6⟩, v7⟩, v8⟩, v9⟩, v10⟩, v11⟩, v12⟩, v13⟩, v14⟩, v15⟩, v17⟩, v19⟩, v21⟩ := hv
  obtain ⟨hby, hcnt⟩ := te_txtok (k := k) (z := z) (nS := nS) (nU := nU) (W := W) (V := V) (by omega) (by omega) (by omega) (by omega) (fun i => ⟨by have := (hW i).2.1; omega, by have := (hW i).2.2.2; omega⟩) (fun i => ⟨by have := (hV i).2.1; omega, by have := (hV i).2.2.2; omega⟩)
  obtain ⟨S2, hm2, F, ep, G2, R2, q1, q2, q3, q4⟩ := te_put (X := X) (N := N) (S := S1) (nS := 0) (nU := 0) (hm := h0) hN (by rw [hh]; exact R0) (by rw [hh, v17]; rfl) hT hby (by omega) (by omega) (by omega)
  have n2 := G2.1
  have m2 := G2.2.1
  have z2 := G2.2.2.1
  have hT2 := te_S_G hT G2
  have hok : dm_ok S2 5 r = true := by
    obtain ⟨v, -, -, w, -⟩ := hT2
    exact w
  have el := te_len (X := X) (N := N) (Or.inr hT2) (by omega)
  obtain ⟨hc', hm', e9, R9⟩ := te_load (L := (te_txt k W nS V nU z).length) hN R2 ⟨k1, k2, k3, by omega, by omega⟩ hW hV rfl q1 q2 q3 hby q4
  have hT3 : te_S (dm_sh S2 hc') (dm_n S1) r (te_txt k W nS V nU z) := hT2
  have es := te_statements (X := X) (N := N) (by omega) hby (by omega) hT3 (by show dm_n S2 < dm_bg; omega)
  rw [hcnt] at es
  exact ⟨nS, nU, 2 + nS + nU, _, r, S1, S2, hc', hm', by omega, by omega, et, by omega, by omega, ep, by omega, by omega, n2, by omega, hok, el, e9, es, R9⟩
set_option maxHeartbeats 8000000 in
/-- console()'s contract -/
theorem fc_met (hy : am_Hy l al) (hal : ∀ k, k < 193 → al k = x0 + k) (hX9 : X.1 < 2147483648) : Met l fc_y fc_ws fc_rm (va_Pc [.ref (al 950)] (fc_P al dC dI aC aV x0 X)) (fc_Q al dC dI aC x0) 893 759200 (fun q => x0 ≤ q) := by
  obtain ⟨nS, nU, cnt, L, r, S1, S2, hc', hm', oS, oU, et, n1, z1, ep, n2, z2, n3, n4, hok, el, eld, es, R9⟩ := fc_math (X := X) (N := 60000) (Nat.le_refl _) hX9
  refine Met.ofW (cc := fc_cc) (maxL := 3) (ret := some fc_rt) (by decide +kernel) rfl ?_
  intro p e s m args below meth c s₁ B hml hv
  obtain ⟨hargs, hsz, hK9, hF, hX, hNB, hNB2⟩ := hv
  have hK := tm_K hK9
  have hx := B.exec
  have hb := B.bytes
  have hlocks := B.notSynchronized
  have hts : ∀ w ∈ am_AT, w.before _ s = true := fun w hw => atoms_spec (ws := fc_ws) B.pre w (List.mem_cons_of_mem _ hw)
  have hown : s.vm.findClass RL = some m.cls := findClass_of_methodNamed B.named
  have hw := fc_words_ok
  unfold fc_words at hw
  rw [Bool.and_eq_true, Bool.and_eq_true, Bool.and_eq_true, Bool.and_eq_true, Bool.and_eq_true, Bool.and_eq_true, Bool.and_eq_true, Bool.and_eq_true, Bool.and_eq_true, Bool.and_eq_true, Bool.and_eq_true] at hw
  obtain ⟨⟨⟨⟨⟨⟨⟨⟨⟨⟨⟨w1, w2⟩, w3⟩, w4⟩, w5⟩, w6⟩, w7⟩, w8⟩, w9⟩, w10⟩, w11⟩, w12⟩ := hw
  have hd := fc_code_ok
  unfold fc_code at hd
  simp only [Bool.and_eq_true, decide_eq_true_eq] at hd
  obtain ⟨⟨⟨⟨⟨⟨⟨⟨⟨⟨⟨⟨⟨⟨⟨⟨⟨⟨⟨d0, d3⟩, d4⟩, d7⟩, d8⟩, d9⟩, d12⟩, d13⟩, d14⟩, d15⟩, d18⟩, d19⟩, d20⟩, d23⟩, d26⟩, d27⟩, d30⟩, d33⟩, d34⟩, d38⟩ := hd
  obtain ⟨⟨s1, s2, s3⟩, r9⟩ := fc_sizes
  obtain ⟨f1, f2, -⟩ := cn_facts_s
  obtain ⟨D, hD⟩ := Option.isSome_iff_exists.mp f1
  have hDX : cn_orc 4 9 [] = some cn_DX := by
    have e1 : cn_DX = D := by unfold cn_DX; rw [hD]; rfl
    rw [e1]
    exact hD
  have hC : fw_C p s m args c al dC dI aC aV x0 X fc_cc 3 := ⟨hx, hb, hml, hown, hts, hK9, hF, hX, hNB, hal⟩
  have hA : dm_Al al x0 (x0 + 193) := ⟨hal, Nat.le_refl _⟩
  have e950 : dm_al al (x0 + 193) 950 = al 950 := dm_al_lo (by decide)
  have e000 : dm_al al (x0 + 193) 0 = x0 := by rw [dm_al_lo (by decide), hal 0 (by decide), Nat.add_zero]
  have e00 : al 0 = x0 := by rw [hal 0 (by decide), Nat.add_zero]
  have hal950 : ¬ (x0 ≤ al 950) := hX.2.2.2.2.2.2.1
  show W p l e fc_rm s m _ below meth c s.heap [] 0 0 _ _
  have hfr9 : entryFrame m args 3 = entryFrame m ([Value.ref (al 950)] : List Value).toArray 3 := by rw [hargs]
  rw [hfr9, lg_entry_eq]
  have hl := lv_entry ([Value.ref (al 950)] : List Value) (n := 3) (Nat.le_of_ble_eq_true rfl)
  generalize (lg_sl ([Value.ref (al 950)] : List Value) ++ List.replicate (3 - (lg_sl ([Value.ref (al 950)] : List Value)).length) Slot.unset).toArray = ls at hl ⊢
  have hl0 : lv_has ls 3 [(0, .ref (al 950))] := hl
  refine fw_new (ci := 9) (al := al) (y := x0) (by decide) hx hb hts hown (hts _ (cn_inT_spec w1)) (hts _ (cn_inT_spec w2)) (hts _ (cn_inT_spec w3)) hK hsz (by show 0 + 1 ≤ 893; omega) (by show 0 + am_N 9 ≤ 759200; omega) d0 (fun H1 z1 P1 o1 => ?_)
  refine lv_dup hx hb d3 rfl ?_
  have hS1 : va_S (fun q => x0 ≤ q) s.heap H1 [] := ⟨by omega, fun q a1 a2 => o1 q (by omega), fun q hq => by cases hq⟩
  have hPre1 : ∀ U : State, U.heap = H1 → s.WarmedH U.vm → va_Pc (.ref x0 :: []) (cn_PP al dC dI aC aV x0 9) (Value.ref x0 :: []).toArray U := fun U hU hW =>
    ⟨rfl, by rw [hU]; exact z1, by rw [hU]; exact P1, va_K.moved hW.alike hK, by rw [hU]; exact am_fx_kept hF hW hS1.1 hS1.2.1 (fun q _ z => z) (fun q z => z), fun w hw => cn_NB_warm hW hw (hNB2 w hw)⟩
  have hrun1 : va_Run p l e fc_rm s m args below meth c H1 [] (0 + 1) (0 + am_N 9) (cn_mc 9) (cn_mz 9) (F0 m 4 ls (([] : List Value).reverse ++ .ref x0 :: [.ref x0])) [.ref x0] (cn_Q al dC dI aC x0 cn_DX (Value.ref x0 :: []).toArray) (fun q => x0 ≤ q) :=
    va_runI (own := RL) (index := 85) (bytes := cn_cc 9) (maxL := cn_ml 9) (ws := cn_wsx 9) (n := 0) (cc := fc_cc) (nL := 3) (Ts := am_AT) ⟨hx, hb, hml, hown, hts⟩ (cn_orc_ok 4 9 [] cn_DX hDX x0) (cwI 0 hts (fc_gd w6) rfl rfl rfl (hts _ (cn_inT_spec w3)) (hts _ (cn_inT_spec w4)) (hts _ (cn_inT_spec w5)) rfl fc_ynm r9) ⟨cn_blind, hPre1⟩ rfl rfl hl0.1 rfl (by show 2 * 0 + (1 + 0) ≤ 8; omega) d4 ⟨by show 0 + 1 + cn_mc 9 ≤ 893; omega, by show 0 + am_N 9 + cn_mz 9 ≤ 759200; omega⟩
  refine va_callv (A0 := fun q => x0 ≤ q) hrun1 hS1 (fun q _ h => h) (fun q h => h) (fun u t H2 locs2 ht hvm _ hB hz2 hk2 hS2 => ?_)
  obtain ⟨hB1, hB2⟩ := hB
  rw [ht] at hB1 hB2
  have hB1 : H2.size = x0 + 193 := by rw [hB1, f2]
  have hP2 : va_P (dC, dI) vwCl (am_W al aC cn_hp) H2 := cn_world hal hB2
  refine lv_astore_n (i := 1) (lv' := [(1, .ref x0), (0, .ref (al 950))]) hx hb d7 rfl hl0 (by decide) rfl (fun ls2 hl2 => ?_)
  rw [← e00] at hl2
  refine lv_aload_n (i := 0) hx hb d8 rfl (lv_at hl2 1 rfl) ?_
  show W p l e fc_rm s m args below meth c H2 locs2 _ _ _ (F0 m 9 ls2 ((([.ref 950] : List Value).map (am_rl (dm_al al (x0 + 193)))).reverse ++ ([] : List Value)))
  have n0 : dm_n (fw_S0 cn_hp) = 1000 := rfl
  have zz0 : dm_zz (fw_S0 cn_hp) = 0 := rfl
  have hfr14 : ∀ k, k ≤ 13 → k + 1 ≤ fc_rm.frames := fun k hk => by show k + 1 ≤ 14; omega
  refine fw_tm (mid := 7) (x1 := x0 + 193) (S := fw_S0 cn_hp) (S' := S1) hC (by decide) w8 (em_T_text hy hA X 60000 950 (fw_S0 cn_hp) (r, S1) et) (Nat.le_refl 1000) rfl hl2.1 (by rw [hB1, n0]) (by rw [fw_tW0]; exact hP2) hS2 (by decide) (by decide) ⟨by show 0 + 1 + cn_mc 9 + (dm_n S1 - 1000) ≤ 893; omega, by show 0 + am_N 9 + cn_mz 9 + (dm_zz S1 - 0) ≤ 759200; omega⟩ (by decide) d9 (fun H3 locs3 hz3 hP3 hS3 => ?_)
  rw [n0, zz0]
  refine lv_astore_n (i := 2) (lv' := [(2, .ref (dm_al al (x0 + 193) r)), (1, .ref (al 0)), (0, .ref (al 950))]) hx hb d12 rfl hl2 (by decide) rfl (fun ls3 hl3 => ?_)
  refine lv_aload_n (i := 1) hx hb d13 rfl (lv_at hl3 1 rfl) ?_
  refine lv_aload_n (i := 2) hx hb d14 rfl (lv_at hl3 0 rfl) ?_
  show W p l e fc_rm s m args below meth c H3 locs3 _ _ _ (F0 m 15 ls3 ((([.ref 0, .ref r] : List Value).map (am_rl (dm_al al (x0 + 193)))).reverse ++ ([] : List Value)))
  refine fw_tm (mid := 9) (x1 := x0 + 193) (S := S1) (S' := S2) hC (by decide) w9 (em_T_put hy hA X 60000 r S1 ((), S2) ep) n4 rfl hl3.1 hz3 hP3 hS3 (by decide) (by decide) ⟨by show 0 + 1 + cn_mc 9 + (dm_n S1 - 1000) + (dm_n S2 - dm_n S1) ≤ 893; omega, by show 0 + am_N 9 + cn_mz 9 + (dm_zz S1 - 0) + (dm_zz S2 - dm_zz S1) ≤ 759200; omega⟩ (by decide) d15 (fun H4 locs4 hz4 hP4 hS4 => ?_)
  refine lv_aload_n (i := 1) hx hb d18 rfl (lv_at hl3 1 rfl) ?_
  refine lv_aload_n (i := 2) hx hb d19 rfl (lv_at hl3 0 rfl) ?_
  refine fw_len (x1 := x0 + 193) (a := r) (S := S2) (S' := S2) hC w11 (em_T_strLen hy hA X 60000 r S2 (am_z (L : Int), S2) el) (by omega) hok hl3.1 hz4 hP4 hS4 (by decide) (by decide) ⟨by show 0 + 1 + cn_mc 9 + (dm_n S1 - 1000) + (dm_n S2 - dm_n S1) + (dm_n S2 - dm_n S2) ≤ 893; omega, by show 0 + am_N 9 + cn_mz 9 + (dm_zz S1 - 0) + (dm_zz S2 - dm_zz S1) + (dm_zz S2 - dm_zz S2) ≤ 759200; omega⟩ (Nat.le_of_ble_eq_true rfl) d20 (fun H5 locs5 hz5 hP5 hS5 => ?_)
  show W p l e fc_rm s m args below meth c H5 locs5 _ _ _ (F0 m 23 ls3 ((([.int (am_z (L : Int))] : List Value).map (am_rl al)).reverse ++ .ref (al 0) :: ([] : List Value)))
  refine fw_am (mid := 58) (b := 0) (h := dm_h S2) (h' := hc') (n := 1) hC w12 (m_X9_load hy 60000 (am_z (L : Int)) (dm_h S2) (am_z (cnt : Int), hc') eld) rfl (by decide) hl3.1 (tm_PC hP5) hS5 (by decide) (by decide) ⟨by show 0 + 1 + cn_mc 9 + (dm_n S1 - 1000) + (dm_n S2 - dm_n S1) + (dm_n S2 - dm_n S2) ≤ 893; omega, by show 0 + am_N 9 + cn_mz 9 + (dm_zz S1 - 0) + (dm_zz S2 - dm_zz S1) + (dm_zz S2 - dm_zz S2) ≤ 759200; omega⟩ (by decide) d23 (fun H6 locs6 hP6 hS6 hz6 hq6 => ?_)
  have hP6' : va_P (dC, dI) vwCl (tm_W al aC (x0 + 193) (dm_sh S2 hc')) H6 := tm_PJ hA hP5 hP6 hq6
  refine lv_aload_n (i := 2) hx hb d26 rfl (lv_at hl3 0 rfl) ?_
  refine fw_sz (fun hz7 => ?_)
  have hz8 : H6.size = x0 + 193 + (dm_n S2 - 1000) := by omega
  show W p l e fc_rm s m args below meth c H6 locs6 _ _ _ (F0 m 27 ls3 ((([.ref r] : List Value).map (am_rl (dm_al al (x0 + 193)))).reverse ++ ([.int (am_z (cnt : Int))] : List Value)))
  refine fw_tm (mid := 8) (x1 := x0 + 193) (S := dm_sh S2 hc') (S' := dm_sh S2 hc') hC (by decide) w10 (em_T_statements hy hA X 60000 r (dm_sh S2 hc') (am_z (cnt : Int), dm_sh S2 hc') es) (by show 1000 ≤ dm_n S2; omega) rfl hl3.1 hz8 hP6' hS6 (by decide) (by decide) ⟨by show 0 + 1 + cn_mc 9 + (dm_n S1 - 1000) + (dm_n S2 - dm_n S1) + (dm_n S2 - dm_n S2) + (dm_n S2 - dm_n S2) ≤ 893; omega, by show 0 + am_N 9 + cn_mz 9 + (dm_zz S1 - 0) + (dm_zz S2 - dm_zz S1) + (dm_zz S2 - dm_zz S2) + (dm_zz S2 - dm_zz S2) ≤ 759200; omega⟩ (Nat.le_of_ble_eq_true rfl) d27 (fun H7 locs7 hz9 hP7 hS7 => ?_)
  refine lv_icmp_ne (tgt := 37) hx hb d30 (by decide) (fun hne => absurd rfl hne) (fun _ => ?_)
  refine lv_aload_n (i := 1) hx hb d33 rfl (lv_at hl3 1 rfl) ?_
  refine lv_goto (tgt := 38) hx hb d34 (by decide) ?_
  refine W.widen (k := 893) (n := 759200) (by show 0 + 1 + cn_mc 9 + (dm_n S1 - 1000) + (dm_n S2 - dm_n S1) + (dm_n S2 - dm_n S2) + (dm_n S2 - dm_n S2) ≤ 893; omega) (by show 0 + am_N 9 + cn_mz 9 + (dm_zz S1 - 0) + (dm_zz S2 - dm_zz S1) + (dm_zz S2 - dm_zz S2) + (dm_zz S2 - dm_zz S2) ≤ 759200; omega) ?_
  exact W.aret hx hb B.returns (Or.inl ⟨_, rfl⟩) (Or.inr ⟨_, rfl⟩) (fun t ht hW => ⟨nS, nU, hc', hm', oS, oU, R9, by rw [e00], by rw [ht]; exact tm_PC hP7, hS7.F ht⟩) hS7.2.2 d38
end FC1
