section CNCALL
variable {p : Program} {l : Launch} {e : Env} {R : Room} {s : State} {m : MethodId} {args : Array Value} {below : List Frame} {meth : Method} {c : Code} {Q : State → Prop}
variable {al0 : Nat → Nat} {dC : Nat → ClassId} {dI : Nat → Nat → Nat} {aC : Nat → ClassId} {aV : Nat → Nat} {o a : Nat}
variable {pc : Nat} {ρ : am_Lc} {st r : List Value} {L : List cn_E} {z : Nat} {t : cn_St} {orc : Nat → List Value → Option (List cn_E)}
theorem cn_inv22 {ix : Nat} : cn_step o orc pc (.invokespecial ix) ρ st L z = some t → (∃ (q : Nat × Nat) (k : Nat), cn_tk o ix 0 = some q ∧ st = [.ref k] ∧ t = (pc + 3, ρ, [], L, z)) ∨
    ∃ (ci y k : Nat) (r : List Value) (C : List cn_E), (cn_tk o ix 1 = some (ci, y) ∨ cn_tk o ix 2 = some (ci, y)) ∧ st.drop y = .ref k :: r ∧ orc ci (st.take y).reverse = some C ∧ (Nat.beq (k + 1) L.length && decide (L[k]? = some (cn_new ci)) && Nat.ble y st.length && Nat.ble y 1 && Nat.ble r.length 4 && Nat.ble (cn_fr ci + 1) (cn_fr o) && Nat.ble (8 + (cn_ml ci + 11) + cn_lo ci) (cn_lo o) && Nat.ble (k + cn_mc ci) (cn_mc o) && Nat.ble (z + cn_mz ci) (cn_mz o) && Nat.beq C.length (cn_mc ci + 1) && cn_wf (900 - k) C && Nat.blt (k + C.length) 900 && (st.take y).all cn_int && Nat.ble 1 L.length) = true ∧ t = (pc + 3, ρ, r, L.dropLast ++ C.map (cn_sh k), z + cn_mz ci) := by
  show (match cn_tk o ix 0 with
    | some _ => am_sa st (fun _ r => bif r.isEmpty then some (pc + 3, ρ, r, L, z) else none)
    | none => match (match cn_tk o ix 1 with
        | some q => some q
        | none => cn_tk o ix 2) with
      | none => none
      | some (ci, y) => match st.drop y with
        | .ref k :: r => (orc ci (st.take y).reverse).bind (fun C => bif Nat.beq (k + 1) L.length && decide (L[k]? = some (cn_new ci)) && Nat.ble y st.length && Nat.ble y 1 && Nat.ble r.length 4 && Nat.ble (cn_fr ci + 1) (cn_fr o) && Nat.ble (8 + (cn_ml ci + 11) + cn_lo ci) (cn_lo o) && Nat.ble (k + cn_mc ci) (cn_mc o) && Nat.ble (z + cn_mz ci) (cn_mz o) && Nat.beq C.length (cn_mc ci + 1) && cn_wf (900 - k) C && Nat.blt (k + C.length) 900 && (st.take y).all cn_int && Nat.ble 1 L.length then some (pc + 3, ρ, r, L.dropLast ++ C.map (cn_sh k), z + cn_mz ci) else none)
        | _ => none) = some t → _
  intro hr
  split at hr
  · rename_i q hz
    obtain ⟨k, r, rfl, h1⟩ := am_sa_some hr
    obtain ⟨h2, h3⟩ := am_bif h1
    cases List.isEmpty_iff.mp h2
    exact Or.inl ⟨q, k, hz, rfl, (Option.some.inj h3).symm⟩
  · split at hr
    · cases hr
    · rename_i ci y hz
      split at hr
      · rename_i k r hst
        obtain ⟨C, hC, h2⟩ := cn_bind hr
        obtain ⟨h4, h5⟩ := am_bif h2
        refine Or.inr ⟨ci, y, k, r, C, ?_, hst, hC, h4, (Option.some.inj h5).symm⟩
        split at hz
        · rename_i q hq
          cases hz
          exact Or.inl hq
        · exact Or.inr hz
      · cases hr
theorem cn_rest (al : Nat → Nat) (r : List Value) (h : r.length ≤ 4) : ((r.map (am_rl al)).map fun v => v.category).sum ≤ 8 := by
  have := am_sum (al := al) r
  omega
/-- behind a constructor's call -/
theorem cn_after {ci k : Nat} {C : List cn_E} {H H1 : Heap} {locs1 : List Loc} {ls : Array Slot} {u : State} (hk1 : k + 1 = L.length) (hC : C.length = cn_mc ci + 1) (hwf : cn_wf (900 - k) C = true) 
    (hl : lv_has ls (cn_ml o) (am_rls (cn_al a al0) ρ)) (hP : va_P (dC, dI) vwCl (cn_ws a (cn_al a al0) aC L) H) (hz : H.size = a + L.length) (hq : ∀ q : Nat, q < H.size → ¬ (a + k ≤ q) → H1[q]? = H[q]?) (hP1 : va_P (dC, dI) vwCl (cn_ws (a + k) (cn_al (a + k) al0) aC C) H1) (hS : va_S (fun q => a ≤ q) s.heap H1 locs1)
    (hk : cn_At p l e R s m args below meth c Q al0 dC dI aC o a (pc, ρ, r, L.dropLast ++ C.map (cn_sh k), z)) : W p l e R s m args below meth c H1 locs1 (L.length - 1 + cn_mc ci) z Q (F0 m pc ls (r.map (am_rl (cn_al a al0)))) := by
  have hlen : (L.dropLast ++ C.map (cn_sh k)).length = k + C.length := by rw [List.length_append, List.length_dropLast, List.length_map]; omega
  have hP2 : va_P (dC, dI) vwCl (cn_ws a (cn_al a al0) aC (L.dropLast ++ C.map (cn_sh k))) H1 := by
    refine cn_P_of fun j f hj => ?_
    have hdl : L.dropLast.length = k := by rw [List.length_dropLast]; omega
    by_cases hjk : j < k
    · rw [List.getElem?_append_left (by omega), List.getElem?_dropLast, if_pos (by omega)] at hj
      exact (hP _ _ (cn_get hj)).kept (hq _ (by show a + j < _; omega) (by show ¬ (a + k ≤ a + j); omega))
    · rw [List.getElem?_append_right (by omega), hdl, List.getElem?_map] at hj
      cases hg : C[j - k]? with
      | none => rw [hg] at hj; cases hj
      | some g =>
        rw [hg] at hj
        cases hj
        rw [cn_sh_e (List.all_eq_true.mp hwf g (List.mem_of_getElem? hg))]
        have h9 := hP1 _ _ (cn_get hg)
        have e9 : a + k + (j - k) = a + j := by omega
        rw [e9] at h9
        exact h9
  have h9 := hk (by show 1 ≤ (L.dropLast ++ C.map (cn_sh k)).length; omega) H1 locs1 ls hl hP2 hS
  have h9 : W p l e R s m args below meth c H1 locs1 ((L.dropLast ++ C.map (cn_sh k)).length - 1) z Q (F0 m pc ls (r.map (am_rl (cn_al a al0)))) := h9
  have e1 : (L.dropLast ++ C.map (cn_sh k)).length - 1 = L.length - 1 + cn_mc ci := by rw [hlen]; omega
  rw [e1] at h9
  exact h9
theorem cn_ynm : (List.range 10).all (fun x => decide ((cn_y x).cls ≠ "java/lang/invoke/MethodHandle" ∧ (cn_y x).cls ≠ "java/lang/invoke/VarHandle" ∧ (parseMethodDescriptor (cn_y x).desc).map (fun d => d.parameters.length) = some (bif Nat.beq x 8 then 1 else 0))) = true := by decide +kernel
set_option maxHeartbeats 1000000 in
theorem cn_s22 {ix : Nat} (ho : o < 11) (horc : ∀ ci as C, orc ci as = some C → cn_Met l al0 dC dI aC aV ci as C) (hlocks : meth.locks = false) (C : cn_Cx p R s m args meth c al0 dC dI aC aV o a) (hd : decode (cn_cc o) pc = .ok (.invokespecial ix, 3)) (hr : cn_step o orc pc (.invokespecial ix) ρ st L z = some t) (hk : cn_At p l e R s m args below meth c Q al0 dC dI aC o a t) : cn_At p l e R s m args below meth c Q al0 dC dI aC o a (pc, ρ, st, L, z) := by
  obtain ⟨hx, hb, hml, hown, hts, hin, hK, hF, hNB, hsz, hR⟩ := C
  intro hL H locs ls hl hP hS
  have hL : 1 ≤ L.length := hL
  have hT := cn_Ts
  simp only [Bool.and_eq_true] at hT
  rcases cn_inv22 hr with ⟨q, k, hz, rfl, rfl⟩ | ⟨ci, y, k, r, D, hz, hst, hD, h4, rfl⟩
  · have hw := cn_tk_spec hz
    have hfr : ∀ o, o < 11 → 1 ≤ cn_fr o ∧ 12 ≤ cn_lo o := by decide
    obtain ⟨f1, f2⟩ := hfr o ho
    exact W.objInit hx hb hown (hts _ (cn_inT_spec hw)) (hts _ (cn_inT_spec hT.1.2)) (hts _ (cn_inT_spec hT.2)) rfl (hl.1.trans hml.symm) rfl hd (by rw [hR]; exact f1) (by rw [hR]; show 2 * 0 + 0 + 12 ≤ cn_lo o; omega) (hk hL H locs ls hl hP hS)
  · simp only [Bool.and_eq_true] at h4
    obtain ⟨⟨⟨⟨⟨⟨⟨⟨⟨⟨⟨⟨⟨b1, b2⟩, b3⟩, b4⟩, b5⟩, b6⟩, b7⟩, b8⟩, b9⟩, b10⟩, b11⟩, b12⟩, b13⟩, b14⟩ := h4
    have b1 : k + 1 = L.length := Nat.eq_of_beq_eq_true b1
    have b2 := of_decide_eq_true b2
    have b4 := Nat.le_of_ble_eq_true b4
    have b5 := Nat.le_of_ble_eq_true b5
    have b6 := Nat.le_of_ble_eq_true b6
    have b7 := Nat.le_of_ble_eq_true b7
    have b8 := Nat.le_of_ble_eq_true b8
    have b9 := Nat.le_of_ble_eq_true b9
    have b10 := Nat.eq_of_beq_eq_true b10
    have b12 := Nat.blt_eq.mp b12
    have hcal : cn_cal ci y = true ∧ (va_Nw (.methodLinkNest (am_R o) ix (cn_y ci) "SharedConsole") s ∨ (Cond.methodLink (am_R o) ix (cn_y ci)).before args s = true) := by
      rcases hz with hz | hz
      · have hw := cn_tk_spec hz
        simp only [cn_rok, Bool.and_eq_true] at hw
        exact ⟨hw.2, Or.inl (hNB _ (of_decide_eq_true hw.1))⟩
      · have hw := cn_tk_spec hz
        simp only [cn_rok, Bool.and_eq_true] at hw
        exact ⟨hw.2, Or.inr (hts _ (cn_inT_spec hw.1))⟩
    obtain ⟨hcal, hlink⟩ := hcal
    simp only [cn_cal, Bool.and_eq_true] at hcal
    obtain ⟨⟨⟨⟨c1, c2⟩, c3⟩, c4⟩, c5⟩ := hcal
    have c1 := Nat.blt_eq.mp c1
    have c2 : y = (bif Nat.beq ci 8 then 1 else 0) := Nat.eq_of_beq_eq_true c2
    have hnm := of_decide_eq_true (List.all_eq_true.mp cn_ynm ci (List.mem_range.mpr c1))
    rw [← c2] at hnm
    have hgd : GoodIn am_AT (cn_wsx ci) := am_AT_sub (fun w hw => by
      rcases List.mem_cons.mp hw with rfl | hw
      · exact cn_inT_spec c5
      · exact hw)
    have hk9 : k < 900 := by omega
    -- the arguments, as they lie on the stack
    have hst2 : st.map (am_rl (cn_al a al0)) = ((st.take y).reverse).reverse ++ .ref (a + k) :: r.map (am_rl (cn_al a al0)) := by
      rw [List.reverse_reverse]
      have e1 : st = st.take y ++ st.drop y := (List.take_append_drop y st).symm
      have e2 : (st.take y).map (am_rl (cn_al a al0)) = st.take y := by
        have : (st.take y).map (am_rl (cn_al a al0)) = (st.take y).map id := List.map_congr_left (fun v hv => by
          have h8 := List.all_eq_true.mp b13 v hv
          cases v <;> first | rfl | cases h8)
        rw [this, List.map_id]
      conv => lhs; rw [e1]
      rw [List.map_append, e2, hst, List.map_cons]
      show st.take y ++ Value.ref (cn_al a al0 k) :: r.map (am_rl (cn_al a al0)) = _
      rw [cn_al_lt hk9]
    have hlen : (st.take y).reverse.length = y := by rw [List.length_reverse, List.length_take]; have := Nat.le_of_ble_eq_true b3; omega
    show W p l e R s m args below meth c H locs (L.length - 1) z Q (F0 m pc ls (st.map (am_rl (cn_al a al0))))
    refine cn_lenW (fun hsz2 => ?_)
    have hlast := (hP _ _ (cn_get b2)).lt
    have hHz : H.size = a + L.length := by
      have : a + k < H.size := hlast
      rw [hsz] at hsz2
      omega
    have hPre : ∀ U : State, U.heap = H → s.WarmedH U.vm → va_Pc (.ref (a + k) :: (st.take y).reverse) (cn_PP al0 dC dI aC aV (a + k) ci) (.ref (a + k) :: (st.take y).reverse).toArray U := by
      intro U hU hW
      refine ⟨rfl, by rw [hU, hHz]; omega, ?_, va_K.moved hW.alike hK, ?_, fun w hw => cn_NB_warm hW hw (hNB w hw)⟩
      · intro j q hj
        have h0 : j < 1 := (List.getElem?_eq_some_iff.mp hj).1
        rw [show j = 0 by omega] at hj
        cases hj
        have h9 := hP _ _ (cn_get b2)
        rw [hU]
        have e9 : cn_e (cn_al (a + k) al0) aC (cn_new ci) = cn_e (cn_al a al0) aC (cn_new ci) := by
          rw [cn_e_o rfl, cn_e_o rfl]
          congr 2
          unfold cn_new cn_fv
          show List.map _ (List.map _ _) = List.map _ (List.map _ _)
          rw [List.map_map, List.map_map]
          refine List.map_congr_left (fun j _ => ?_)
          show am_rl _ (bif am_fi ci j then .int 0 else .null) = am_rl _ (bif am_fi ci j then .int 0 else .null)
          cases am_fi ci j <;> rfl
        rw [e9]
        exact h9
      · rw [hU]
        exact am_fx_kept hF hW hS.1 hS.2.1 (fun q _ z => Nat.le_trans (Nat.le_add_right a k) z) (fun q z => Nat.le_trans (Nat.le_add_right a k) z)
    rw [hst2]
    have hrun : va_Run p l e R s m args below meth c H locs (L.length - 1) z (cn_mc ci) (cn_mz ci) (F0 m pc ls (((st.take y).reverse).reverse ++ .ref (a + k) :: r.map (am_rl (cn_al a al0)))) (r.map (am_rl (cn_al a al0))) (cn_Q al0 dC dI aC (a + k) D (.ref (a + k) :: (st.take y).reverse).toArray) (fun q => a + k ≤ q) := by
      have hf : L.length - 1 + cn_mc ci ≤ R.cells ∧ z + cn_mz ci ≤ R.slots := by rw [hR]; exact ⟨by show L.length - 1 + cn_mc ci ≤ cn_mc o; omega, b9⟩
      have hRR : (cn_rm ci).frames + 1 ≤ R.frames ∧ 8 + (cn_ml ci + 11) + (cn_rm ci).locals ≤ R.locals := by rw [hR]; exact ⟨b6, b7⟩
      have hsum : 2 * (F0 m pc ls (((st.take y).reverse).reverse ++ .ref (a + k) :: r.map (am_rl (cn_al a al0)))).monitorRoom + ((r.map (am_rl (cn_al a al0))).map fun v => v.category).sum ≤ 8 := by
        show 2 * 0 + _ ≤ 8
        have := cn_rest (cn_al a al0) r b5
        omega
      rcases hlink with hlink | hlink
      · exact va_runIN (own := am_R o) (host := "SharedConsole") (index := ix) (bytes := cn_cc ci) (maxL := cn_ml ci) (ws := cn_wsx ci) (n := y) (cc := cn_cc o) (nL := cn_ml o) (Ts := am_AT) ⟨hx, hb, hml, hown, hts⟩ (horc ci _ D hD (a + k)) ⟨va_cnB y hts hgd rfl rfl rfl hlink (hts _ (cn_inT_spec c4)) hnm hRR, rfl, hts _ (cn_inT_spec c3)⟩ ⟨cn_blind, hPre⟩ rfl hlen hl.1 rfl hsum hd hf
      · exact va_runI (own := am_R o) (index := ix) (bytes := cn_cc ci) (maxL := cn_ml ci) (ws := cn_wsx ci) (n := y) (cc := cn_cc o) (nL := cn_ml o) (Ts := am_AT) ⟨hx, hb, hml, hown, hts⟩ (horc ci _ D hD (a + k)) (cwI y hts hgd rfl rfl rfl (hts _ (cn_inT_spec c4)) hlink (hts _ (cn_inT_spec c3)) rfl hnm hRR) ⟨cn_blind, hPre⟩ rfl hlen hl.1 rfl hsum hd hf
    refine va_callv (A0 := fun q => a ≤ q) hrun hS (fun q _ h => Nat.le_trans (Nat.le_add_right a k) h) (fun q h => Nat.le_trans (Nat.le_add_right a k) h) (fun u t H1 locs1 ht hvm _ hB hz1 hk1 hS1 => ?_)
    obtain ⟨hB1, hB2⟩ := hB
    rw [ht] at hB1 hB2
    exact cn_after (u := t) b1 b10 b11 hl hP hHz hk1 hB2 hS1 hk
end CNCALL
