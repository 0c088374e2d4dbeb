section DM7
variable {p : Program} {l : Launch} {e : Env} {R : Room} {s : State} {m : MethodId} {args : Array Value} {below : List Frame} {meth : Method} {c : Code}
variable {al : Nat → Nat} {dC : Nat → ClassId} {dI : Nat → Nat → Nat} {aC : Nat → ClassId} {aV : Nat → Nat} {x0 x1 N0 Z0 : Nat} {vO : Option Value} {SO : dm_S} {ρ : am_Lc} {S : dm_S}
set_option maxRecDepth 100000 in
theorem ds_w : (dm_inT (.classLink RL 155 RX10) && dm_inT (.instantiable RX10 6) && dm_inT (.initialized RX10) && dm_inT (.instanceMethod yX10_init) && dm_inT (.code yX10_init cX10_init 1 none) && decide ((parseMethodDescriptor yX10_init.desc).map (fun d => d.parameters.length) = some 0)) = true := by decide +kernel
theorem ds_d : decode cL_screen 0 = .ok (.new 155, 3) ∧ decode cL_screen 3 = .ok (.dup, 1) ∧ decode cL_screen 4 = .ok (.invokespecial 157, 3) := by decide +kernel
theorem ds_e1 (h1 : 1000 ≤ dm_n S) (hbg : dm_n S + 2000 < dm_bg) (f z : _) (hf : f = fun j => if j = 0 then am_z (-1) else if j = 4 then am_z ((dm_n S + 1 : Nat) : Int) else 0) : dm_cell al aC x1 (dm_nw S (1, 10, 6) f z) (dm_n S) = .inr (10, di_f1 (x1 + (dm_n S - 1000))) := by
  have ek : (dm_k (dm_nw S (1, 10, 6) f z) (dm_n S)) = (1, 10, 6) := if_pos rfl
  have eg : ∀ j, dm_g (dm_nw S (1, 10, 6) f z) (dm_n S) j = f j := fun j => if_pos rfl
  rw [dm_c1 (by rw [ek])]
  have e0 : dm_fv al x1 (dm_nw S (1, 10, 6) f z) (dm_n S) 0 = .null := by
    unfold dm_fv
    rw [eg, hf]
    show va_rf (dm_rf al x1 (am_z (-1))) = _
    rw [dm_rf_m1]; rfl
  have e4 : dm_fv al x1 (dm_nw S (1, 10, 6) f z) (dm_n S) 4 = .ref (x1 + (dm_n S - 1000) + 1) := by
    unfold dm_fv
    rw [eg, hf]
    show va_rf (dm_rf al x1 (am_z ((dm_n S + 1 : Nat) : Int))) = _
    rw [dm_rf_z (by omega), dm_al_hi (by omega)]
    show Value.ref (x1 + (dm_n S + 1 - 1000)) = Value.ref (x1 + (dm_n S - 1000) + 1)
    have e9 : x1 + (dm_n S + 1 - 1000) = x1 + (dm_n S - 1000) + 1 := by omega
    exact congrArg Value.ref e9
  have ei : ∀ j, j = 1 ∨ j = 2 ∨ j = 3 ∨ j = 5 → dm_fv al x1 (dm_nw S (1, 10, 6) f z) (dm_n S) j = .int 0 := by
    intro j hj
    unfold dm_fv
    rw [eg, hf]
    rcases hj with rfl | rfl | rfl | rfl <;> rfl
  have er : (List.range 6).map (dm_fv al x1 (dm_nw S (1, 10, 6) f z) (dm_n S)) = [dm_fv al x1 (dm_nw S (1, 10, 6) f z) (dm_n S) 0, dm_fv al x1 (dm_nw S (1, 10, 6) f z) (dm_n S) 1, dm_fv al x1 (dm_nw S (1, 10, 6) f z) (dm_n S) 2, dm_fv al x1 (dm_nw S (1, 10, 6) f z) (dm_n S) 3, dm_fv al x1 (dm_nw S (1, 10, 6) f z) (dm_n S) 4, dm_fv al x1 (dm_nw S (1, 10, 6) f z) (dm_n S) 5] := rfl
  rw [er, e0, e4, ei 1 (by simp), ei 2 (by simp), ei 3 (by simp), ei 5 (by simp)]
  rfl
theorem ds_e2 : dm_cell al aC x1 (dm_nw S (3, 6, 40) (fun _ => am_z (-1)) 40) (dm_n S) = .inl (aC 6, 40, .inr (.inr (.inr (.inr (fun _ => none))))) := by
  have ek : (dm_k (dm_nw S (3, 6, 40) (fun _ => am_z (-1)) 40) (dm_n S)) = (3, 6, 40) := if_pos rfl
  have eg : dm_g (dm_nw S (3, 6, 40) (fun _ => am_z (-1)) 40) (dm_n S) = fun _ => am_z (-1) := by
    funext j
    exact if_pos rfl
  rw [dm_c3 (by rw [ek])]
  unfold dm_len
  rw [ek, eg]
  have e9 : (fun j : Nat => dm_rf al x1 ((fun _ : Nat => am_z (-1)) j)) = fun _ => none := by
    funext j
    exact dm_rf_m1
  rw [e9]
set_option maxHeartbeats 4000000 in
theorem dm_new_ok (C : dm_Cx p R s m args meth c al dC dI aC aV x0 x1 6 N0 Z0 SO) (hbg : dm_n S + 2000 < dm_bg)
    (hk : dm_At p l e R s m args below meth c al dC dI aC x0 x1 6 N0 Z0 vO SO 7 ρ [.ref (dm_n S)] (dm_sc S)) : dm_At p l e R s m args below meth c al dC dI aC x0 x1 6 N0 Z0 vO SO 0 ρ [] S := by
  obtain ⟨hx, hb, hml, hown, hts, hlocks, hrt, hK, hF, hNB, hR, hA, hsz, hN0⟩ := C
  have hw := ds_w
  simp only [Bool.and_eq_true, decide_eq_true_eq] at hw
  obtain ⟨⟨⟨⟨⟨w1, w2⟩, w3⟩, w4⟩, w5⟩, w6⟩ := hw
  obtain ⟨d0, d3, d4⟩ := ds_d
  intro hN hZ
  have en : dm_n (dm_sc S) = dm_n S + 2 := rfl
  have ez : dm_zz (dm_sc S) = dm_zz S + 46 := rfl
  have q := hk (by rw [en]; omega) (by rw [ez]; omega)
  rw [en, ez] at q
  obtain ⟨q1, q2, q3⟩ := q
  refine ⟨by omega, by omega, fun H locs ls hl hP hS => ?_⟩
  refine dm_szW hP hS hsz hN0 hN rfl (fun hHz => ?_)
  have hn1 : 1000 ≤ dm_n S := by omega
  have hcl : vwCl[10]? = some (am_R 10, am_T 10, am_N 10) := (am_cl_spec (by decide)).2
  have hKn := hK.1 10 _ hcl
  have hown : s.vm.findClass RL = some m.cls := hown
  have hx01 := hA.2
  refine W.newcK hx hb hown (hts _ (dm_inT_spec w1)) (hts _ (dm_inT_spec w2)) (hts _ (dm_inT_spec w3)) rfl d0 (by rw [hR]; show dm_n S - N0 + 1 ≤ dm_n SO - N0; omega) (by rw [hR]; show dm_zz S - Z0 + 6 ≤ dm_zz SO - Z0; omega) hKn.2.1 rfl fun H1 kC hkC e1 z1 o1 => ?_
  have hPq : va_P (dC, dI) vwCl [(H.size, .inr (10, di_f0))] H1 := by
    intro k x hx9
    have hz : k < 1 := (List.getElem?_eq_some_iff.mp hx9).1
    rw [show k = 0 by omega] at hx9
    rw [← Option.some.inj hx9]
    refine ⟨_, hcl, (u_born tyX10 hts (am_uw_spec (ci := 10) (by decide)) hKn hkC e1 tyX10_ok).to (fun j hj => ?_)⟩
    have hj : j < 6 := hj
    match j, hj with
    | 0, _ => rfl
    | 1, _ => rfl
    | 2, _ => rfl
    | 3, _ => rfl
    | 4, _ => rfl
    | 5, _ => rfl
    | n + 6, h => exact absurd h (by omega)
  have hS1 : va_S (fun q => x0 ≤ q) s.heap H1 locs := ⟨Nat.le_trans hS.1 (by omega), fun q9 h8 h9 => by
    rw [o1 q9 (by have := hS.1; omega)]
    exact hS.2.1 q9 h8 h9, hS.2.2⟩
  refine lv_dup hx hb d3 rfl ?_
  have hgd : GoodIn am_AT di_ws := am_AT_sub (fun w hw => by
    rcases List.mem_cons.mp hw with rfl | hw
    · exact dm_inT_spec w5
    · exact hw)
  have hlink : va_Nw (.methodLinkNest RL 157 yX10_init RL) s := hNB _ (by simp [dm_NB])
  have hPre : ∀ U : State, U.heap = H1 → s.WarmedH U.vm → va_Pc [.ref H.size] (di_P dC dI aC H.size) (Value.ref H.size :: []).toArray U := fun U hU hW =>
    ⟨rfl, by rw [hU]; exact z1, by rw [hU]; exact hPq, va_K.moved hW.alike hK, fun w hw => dm_NB_warm hW hw (hNB w hw)⟩
  refine va_callv (A1 := fun a => H.size ≤ a) (rest := [.ref H.size]) (va_runIN (own := RL) (host := RL) (index := 157) (bytes := cX10_init) (maxL := 1) (ws := di_ws) (rm := di_rm) (n := 0) (cc := dm_cc 6) (nL := dm_ml 6) (Ts := am_AT) (As := []) (b := H.size) ⟨hx, hb, hml, hown, hts⟩ (di_met H.size)
    ⟨va_cnB 0 hts hgd rfl rfl rfl hlink (hts _ (dm_inT_spec w3)) ⟨by decide, by decide, w6⟩ ⟨by rw [hR]; exact Nat.le_of_ble_eq_true rfl, by rw [hR]; exact Nat.le_of_ble_eq_true rfl⟩, rfl, hts _ (dm_inT_spec w4)⟩ ⟨di_blind, hPre⟩ rfl rfl hl.1 rfl (Nat.le_of_ble_eq_true rfl) d4 (by rw [hR]; show dm_n S - N0 + 1 + 1 ≤ dm_n SO - N0 ∧ dm_zz S - Z0 + 6 + 40 ≤ dm_zz SO - Z0; omega)) hS1 (fun q9 _ h9 => by show x0 ≤ q9; have h9 : H.size ≤ q9 := h9; omega) (fun q9 h9 => by show x0 ≤ q9; have h9 : H.size ≤ q9 := h9; omega) (fun u t H2 locs2 e2 _ _ hB hz2 hk2 hS2 => ?_)
  obtain ⟨t1, t2⟩ := hB
  rw [e2] at t1 t2
  have hkeep : ∀ q9, q9 < H.size → H2[q9]? = H[q9]? := fun q9 h9 => (hk2 q9 (by omega) (fun z => by have z : H.size ≤ q9 := z; omega)).trans (o1 q9 h9)
  have hP2 : va_P (dC, dI) vwCl (dm_W al aC x1 (dm_sc S)) H2 := by
    have a1 := dm_push (al := al) (aC := aC) (x1 := x1) (S := S) hn1 (ds_e1 (al := al) (aC := aC) (x1 := x1) hn1 hbg _ 6 rfl)
    have a2 := dm_push (al := al) (aC := aC) (x1 := x1) (S := dm_nw S (1, 10, 6) (fun j => if j = 0 then am_z (-1) else if j = 4 then am_z ((dm_n S + 1 : Nat) : Int) else 0) 6) (by show 1000 ≤ dm_n S + 1; omega) ds_e2
    have a3 : dm_W al aC x1 (dm_sc S) = (dm_W al aC x1 S ++ [(x1 + (dm_n S - 1000), .inr (10, di_f1 (x1 + (dm_n S - 1000))))]) ++ [(x1 + (dm_n S + 1 - 1000), .inl (aC 6, 40, .inr (.inr (.inr (.inr (fun _ => none))))))] := by
      rw [a1]
      exact a2.symm
    rw [a3]
    refine va_P.app (va_P.app (hP.kept (fun k x hx9 => hkeep _ (hP k x hx9).lt)) (fun k x hx9 => ?_)) (fun k x hx9 => ?_)
    · have hz : k < 1 := (List.getElem?_eq_some_iff.mp hx9).1
      rw [show k = 0 by omega] at hx9
      rw [← Option.some.inj hx9, ← hHz]
      exact t2 0 _ rfl
    · have hz : k < 1 := (List.getElem?_eq_some_iff.mp hx9).1
      rw [show k = 0 by omega] at hx9
      rw [← Option.some.inj hx9, show x1 + (dm_n S + 1 - 1000) = H.size + 1 by omega]
      exact t2 1 _ rfl
  have q4 := q3 H2 locs2 ls hl hP2 hS2
  have q4 : W p l e R s m args below meth c H2 locs2 (dm_n S + 2 - N0) (dm_zz S + 46 - Z0) (MQ below (dm_Q al dC dI aC x0 x1 vO SO) args s (dm_n SO - N0) (dm_zz SO - Z0) (fun q => x0 ≤ q)) (F0 m 7 ls [.ref (dm_al al x1 (dm_n S))]) := q4
  rw [dm_al_hi hn1, ← hHz, show dm_n S + 2 - N0 = dm_n S - N0 + 1 + 1 by omega, show dm_zz S + 46 - Z0 = dm_zz S - Z0 + 6 + 40 by omega] at q4
  exact q4
end DM7
