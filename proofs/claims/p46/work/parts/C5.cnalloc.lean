section CNALLOC
variable {p : Program} {l : Launch} {e : Env} {R : Room} {s : State} {m : MethodId} {args : Array Value} {below : List Frame} {meth : Method} {c : Code} {Q : State → Prop}
variable {al0 : Nat → Nat} {dC : Nat → ClassId} {dI : Nat → Nat → Nat} {aC : Nat → ClassId} {aV : Nat → Nat} {o a : Nat}
variable {pc : Nat} {ρ : am_Lc} {st r : List Value} {L : List cn_E} {z : Nat} {t : cn_St} {orc : Nat → List Value → Option (List cn_E)}
theorem cn_dfv {ci j : Nat} {ty0 : Nat → FieldType} (hc : ci < 11) (hty : ∀ k, k < am_N ci → parseFieldDescriptor (am_T ci k).2.2.1 = some (ty0 k)) (hj : j < am_N ci) {al : Nat → Nat} : defaultValue (ty0 j) = vp_V ((cn_fv ci).map (am_rl al)) j := by
  obtain ⟨t, t1, t2, t3⟩ := cn_fty_spec hc hj
  cases (hty j hj).symm.trans t1
  have e1 : vp_V ((cn_fv ci).map (am_rl al)) j = am_rl al (bif am_fi ci j then .int 0 else .null) := by
    unfold vp_V cn_fv
    rw [List.getD_eq_getElem?_getD, List.getElem?_map, List.getElem?_map, List.getElem?_range hj]
    rfl
  rw [e1]
  cases hf : am_fi ci j with
  | true => rw [t2 hf]; rfl
  | false =>
    have h3 := t3 hf
    cases hq : ty0 j with
    | object n => rfl
    | array n => rfl
    | _ => rw [hq] at h3; cases h3
/-- behind a new cell -/
theorem cn_grow {E : cn_E} {q : Nat} {x : va_E} {H1 : Heap} {locs : List Loc} {ls : Array Slot} {z' pc' : Nat} (hL : 1 ≤ L.length) (hsz : s.heap.size = a + 1) (hx : x = cn_e (cn_al a al0) aC E) (hlt : L.length < 800)
    (hl : lv_has ls (cn_ml o) (am_rls (cn_al a al0) ρ)) (hP : va_P (dC, dI) vwCl (cn_ws a (cn_al a al0) aC L ++ [(q, x)]) H1) (hD : va_D (fun q => a ≤ q) (cn_ws a (cn_al a al0) aC L ++ [(q, x)])) (hS : va_S (fun q => a ≤ q) s.heap H1 locs)
    (hk : cn_At p l e R s m args below meth c Q al0 dC dI aC o a (pc', ρ, .ref L.length :: r, L ++ [E], z')) : W p l e R s m args below meth c H1 locs (L.length - 1 + 1) z' Q (F0 m pc' ls (.ref q :: r.map (am_rl (cn_al a al0)))) := by
  refine cn_lenW (fun h1 => ?_)
  have hq := cn_addr hP hD (by rw [hsz] at h1; omega)
  subst hq
  rw [hx, cn_app] at hP
  have h9 := hk (by show 1 ≤ (L ++ [E]).length; rw [List.length_append]; omega) H1 locs ls hl hP hS
  have h9 : W p l e R s m args below meth c H1 locs ((L ++ [E]).length - 1) z' Q (F0 m pc' ls (.ref (cn_al a al0 L.length) :: r.map (am_rl (cn_al a al0)))) := h9
  rw [cn_al_lt (by omega)] at h9
  have e1 : (L ++ [E]).length - 1 = L.length - 1 + 1 := by rw [List.length_append]; show L.length + 1 - 1 = _; omega
  rw [e1] at h9
  exact h9
theorem cn_inv19 {ix : Nat} : cn_step o orc pc (.new ix) ρ st L z = some t → ∃ ci y, cn_tk o ix 4 = some (ci, y) ∧ (Nat.ble L.length (cn_mc o) && Nat.ble (z + am_N ci) (cn_mz o) && Nat.blt L.length 800) = true ∧ t = (pc + 3, ρ, .ref L.length :: st, L ++ [cn_new ci], z + am_N ci) := by
  show (match cn_tk o ix 4 with
    | none => none
    | some (ci, _) => bif Nat.ble L.length (cn_mc o) && Nat.ble (z + am_N ci) (cn_mz o) && Nat.blt L.length 800 then some (pc + 3, ρ, .ref L.length :: st, L ++ [cn_new ci], z + am_N ci) else none) = some t → _
  intro hr
  split at hr
  · cases hr
  rename_i ci y hz
  obtain ⟨h4, h5⟩ := am_bif hr
  exact ⟨ci, y, hz, h4, (Option.some.inj h5).symm⟩
theorem cn_s19 {ix : Nat} (C : cn_Cx p R s m args meth c al0 dC dI aC aV o a) (hd : decode (cn_cc o) pc = .ok (.new ix, 3)) (hr : cn_step o orc pc (.new ix) ρ st L z = some t) (hk : cn_At p l e R s m args below meth c Q al0 dC dI aC o a t) : cn_At p l e R s m args below meth c Q al0 dC dI aC o a (pc, ρ, st, L, z) := by
  obtain ⟨hx, hb, hml, hown, hts, hin, hK, hF, hNB, hsz, hR⟩ := C
  intro hL H locs ls hl hP hS
  have hL : 1 ≤ L.length := hL
  obtain ⟨ci, y, hz, h4, rfl⟩ := cn_inv19 hr
  simp only [Bool.and_eq_true] at h4
  obtain ⟨⟨b1, b2⟩, b3⟩ := h4
  have hw := cn_tk_spec hz
  simp only [cn_rok, Bool.and_eq_true] at hw
  obtain ⟨⟨⟨w1, w2⟩, w3⟩, w4⟩ := hw
  have hci : ci < 11 := Nat.blt_eq.mp w1
  obtain ⟨ty0, hty, hnm⟩ := am_tyn hci
  have b1 := Nat.le_of_ble_eq_true b1
  have b2 := Nat.le_of_ble_eq_true b2
  exact va_new (ci := ci) (fs := (cn_fv ci).map (am_rl (cn_al a al0))) (C := am_R ci) (T := am_T ci) (N := am_N ci) hx hb hts (am_uw_spec hci) ty0 hty hown (hts _ (cn_inT_spec w2)) (hts _ (cn_inT_spec w3)) (hts _ (cn_inT_spec w4)) hK hP cn_D hS (fun q hq => by rw [hsz] at hq; omega) (am_cl_spec hci).2 (fun j hj => cn_dfv hci hty hj) (by rw [hR]; show L.length - 1 + 1 ≤ cn_mc o; omega) (by rw [hR]; exact b2) hd (fun q H1 hP1 hD1 hS1 => cn_grow hL hsz (cn_e_o rfl).symm (Nat.blt_eq.mp b3) hl hP1 hD1 hS1 hk)
theorem cn_newA_inv {ty n ln kd : Nat} : cn_newA o ty n pc ln kd ρ r L z = some t → L.length ≤ cn_mc o ∧ z + n ≤ cn_mz o ∧ n ≤ 100000 ∧ L.length < 800 ∧ t = (pc + ln, ρ, .ref L.length :: r, L ++ [(kd, ty, n, cn_pad n (bif Nat.beq kd 2 then .int 0 else .null))], z + n) := by
  intro hr
  unfold cn_newA at hr
  obtain ⟨h4, h5⟩ := am_bif hr
  simp only [Bool.and_eq_true] at h4
  obtain ⟨⟨⟨b1, b2⟩, b3⟩, b4⟩ := h4
  exact ⟨Nat.le_of_ble_eq_true b1, Nat.le_of_ble_eq_true b2, Nat.le_of_ble_eq_true b3, Nat.blt_eq.mp b4, (Option.some.inj h5).symm⟩
theorem cn_inv20 {x : ArrayType} : cn_step o orc pc (.newarray x) ρ st L z = some t → ∃ n r, st = .int n :: r ∧ 0 ≤ n ∧ ((x = .int ∧ cn_newA o 0 n.toNatClampNeg pc 2 2 ρ r L z = some t) ∨ (x = .boolean ∧ cn_newA o 1 n.toNatClampNeg pc 2 2 ρ r L z = some t)) := by
  intro hr
  obtain ⟨n, r, rfl, h1⟩ := am_s1_some hr
  obtain ⟨h2, h3⟩ := am_bif h1
  refine ⟨n, r, rfl, of_decide_eq_true h2, ?_⟩
  by_cases h4 : x = .int
  · rw [decide_eq_true h4] at h3
    exact Or.inl ⟨h4, h3⟩
  · rw [decide_eq_false h4] at h3
    obtain ⟨h5, h6⟩ := am_bif h3
    exact Or.inr ⟨of_decide_eq_true h5, h6⟩
theorem cn_s20 {x : ArrayType} (C : cn_Cx p R s m args meth c al0 dC dI aC aV o a) (hd : decode (cn_cc o) pc = .ok (.newarray x, 2)) (hr : cn_step o orc pc (.newarray x) ρ st L z = some t) (hk : cn_At p l e R s m args below meth c Q al0 dC dI aC o a t) : cn_At p l e R s m args below meth c Q al0 dC dI aC o a (pc, ρ, st, L, z) := by
  obtain ⟨hx, hb, hml, hown, hts, hin, hK, hF, hNB, hsz, hR⟩ := C
  intro hL H locs ls hl hP hS
  have hL : 1 ≤ L.length := hL
  obtain ⟨n, r, rfl, h0, hz⟩ := cn_inv20 hr
  have hT := cn_Ts
  simp only [Bool.and_eq_true] at hT
  have hn : ¬ n < 0 := Int32.not_lt.mpr h0
  rcases hz with ⟨rfl, hz⟩ | ⟨rfl, hz⟩
  · obtain ⟨b1, b2, b3, b4, rfl⟩ := cn_newA_inv hz
    refine va_newa (atype := .int) (ty := .int) (N' := n.toNatClampNeg) (a0 := (n.toNatClampNeg, .inl (fun j => cn_iv ((cn_pad n.toNatClampNeg (.int 0)).getD j (.int 0))))) hx hb (hts _ (cn_inT_spec hT.1.1.1)) rfl hK hP cn_D hS (fun q hq => by rw [hsz] at hq; omega) (fun cA => ?_) hn rfl (by show n.toNatClampNeg * 4 ≤ _; omega) (by rw [hR]; show L.length - 1 + 1 ≤ cn_mc o; omega) (by rw [hR]; exact b2) hd (fun q cA H1 hK1 hP1 hD1 hS1 => ?_)
    · rw [vp_cell_i]
      congr 1
      funext j
      rw [cn_pad_i]
      rfl
    · exact cn_grow hL hsz (by rw [cn_aC hK hK1 (t := 0) (by decide) rfl]; exact (cn_e_i (e := (2, 0, n.toNatClampNeg, cn_pad n.toNatClampNeg (.int 0))) rfl).symm) b4 hl hP1 hD1 hS1 hk
  · obtain ⟨b1, b2, b3, b4, rfl⟩ := cn_newA_inv hz
    refine va_newa (atype := .boolean) (ty := .boolean) (N' := n.toNatClampNeg) (a0 := (n.toNatClampNeg, .inl (fun j => cn_iv ((cn_pad n.toNatClampNeg (.int 0)).getD j (.int 0))))) hx hb (hts _ (cn_inT_spec hT.1.1.2)) rfl hK hP cn_D hS (fun q hq => by rw [hsz] at hq; omega) (fun cA => ?_) hn rfl (by show n.toNatClampNeg * 1 ≤ _; omega) (by rw [hR]; show L.length - 1 + 1 ≤ cn_mc o; omega) (by rw [hR]; exact b2) hd (fun q cA H1 hK1 hP1 hD1 hS1 => ?_)
    · rw [vp_cell_i]
      congr 1
      funext j
      rw [cn_pad_i]
      rfl
    · exact cn_grow hL hsz (by rw [cn_aC hK hK1 (t := 1) (by decide) rfl]; exact (cn_e_i (e := (2, 1, n.toNatClampNeg, cn_pad n.toNatClampNeg (.int 0))) rfl).symm) b4 hl hP1 hD1 hS1 hk
theorem cn_inv21 {ix : Nat} : cn_step o orc pc (.anewarray ix) ρ st L z = some t → ∃ ty y n r, cn_tk o ix 5 = some (ty, y) ∧ st = .int n :: r ∧ 0 ≤ n ∧ cn_newA o ty n.toNatClampNeg pc 3 3 ρ r L z = some t := by
  show (match cn_tk o ix 5 with
    | none => none
    | some (t, _) => am_s1 st (fun n r => bif decide (0 ≤ n) then cn_newA o t n.toNatClampNeg pc 3 3 ρ r L z else none)) = some t → _
  intro hr
  split at hr
  · cases hr
  rename_i ty y hz
  obtain ⟨n, r, rfl, h1⟩ := am_s1_some hr
  obtain ⟨h2, h3⟩ := am_bif h1
  exact ⟨ty, y, n, r, hz, rfl, of_decide_eq_true h2, h3⟩
theorem cn_s21 {ix : Nat} (C : cn_Cx p R s m args meth c al0 dC dI aC aV o a) (hd : decode (cn_cc o) pc = .ok (.anewarray ix, 3)) (hr : cn_step o orc pc (.anewarray ix) ρ st L z = some t) (hk : cn_At p l e R s m args below meth c Q al0 dC dI aC o a t) : cn_At p l e R s m args below meth c Q al0 dC dI aC o a (pc, ρ, st, L, z) := by
  obtain ⟨hx, hb, hml, hown, hts, hin, hK, hF, hNB, hsz, hR⟩ := C
  intro hL H locs ls hl hP hS
  have hL : 1 ≤ L.length := hL
  obtain ⟨ty, y, n, r, hz, rfl, h0, h3⟩ := cn_inv21 hr
  have hw := cn_tk_spec hz
  simp only [cn_rok, Bool.and_eq_true] at hw
  obtain ⟨⟨⟨w1, w2⟩, w3⟩, w4⟩ := hw
  have hn : ¬ n < 0 := Int32.not_lt.mpr h0
  obtain ⟨b1, b2, b3, b4, rfl⟩ := cn_newA_inv h3
  refine va_newq (C := am_R (cn_to ty)) (N' := n.toNatClampNeg) hx hb hown (hts _ (cn_inT_spec w3)) (hNB _ (of_decide_eq_true w4)) hK hP cn_D hS (fun q hq => by rw [hsz] at hq; omega) hn rfl (by omega) (by rw [hR]; show L.length - 1 + 1 ≤ cn_mc o; omega) (by rw [hR]; exact b2) hd (fun q cA H1 hK1 hP1 hD1 hS1 => ?_)
  refine cn_grow hL hsz ?_ b4 hl hP1 hD1 hS1 hk
  rw [cn_aC hK hK1 (t := ty) (Nat.blt_eq.mp w1) (of_decide_eq_true w2), cn_e_r rfl]
  have e8 : (fun _ => none : Nat → Option Nat) = (fun j => (cn_rv ((cn_pad n.toNatClampNeg .null).getD j .null)).map (cn_al a al0)) := by
    funext j
    rw [cn_pad_r]
    rfl
  rw [e8]
  rfl
end CNALLOC
