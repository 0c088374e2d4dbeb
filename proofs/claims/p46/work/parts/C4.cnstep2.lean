section CNSTEP2
variable {p : Program} {l : Launch} {e : Env} {R : Room} {s : State} {m : MethodId} {args : Array Value} {below : List Frame} {meth : Method} {c : Code} {Q : State → Prop}
variable {al0 : Nat → Nat} {dC : Nat → ClassId} {dI : Nat → Nat → Nat} {aC : Nat → ClassId} {aV : Nat → Nat} {o a : Nat}
variable {pc : Nat} {ρ : am_Lc} {st : List Value} {L : List cn_E} {z : Nat} {t : cn_St} {orc : Nat → List Value → Option (List cn_E)}
theorem cn_s14 {ix : Nat} (C : cn_Cx p R s m args meth c al0 dC dI aC aV o a) (hd : decode (cn_cc o) pc = .ok (.getfield ix, 3)) (hr : cn_step o orc pc (.getfield ix) ρ st L z = some t) (hk : cn_At p l e R s m args below meth c Q al0 dC dI aC o a t) : cn_At p l e R s m args below meth c Q al0 dC dI aC o a (pc, ρ, st, L, z) := by
  obtain ⟨hx, hb, hml, hown, hts, hin, hK, hF, hNB, hsz, hR⟩ := C
  intro hL H locs ls hl hP hS
  have hr : (match cn_tk o ix 3 with
    | none => none
    | some (ci, j) => am_sa st (fun k r => (L[k]?).bind (fun e => (e.2.2.2[j]?).bind (fun v => bif cn_ob e && Nat.beq e.2.1 ci && Nat.blt k 900 && Nat.blt j (am_N ci) then some (pc + 3, ρ, v :: r, L, z) else none)))) = some t := hr
  split at hr
  · cases hr
  rename_i ci j hz
  have hw := cn_tk_spec hz
  simp only [cn_rok, Bool.and_eq_true] at hw
  obtain ⟨⟨⟨⟨w1, w2⟩, w3⟩, w4⟩, w5⟩ := hw
  obtain ⟨k, r, rfl, h1⟩ := am_sa_some hr
  obtain ⟨f, hf, h2⟩ := cn_bind h1
  obtain ⟨v, hv, h3⟩ := cn_bind h2
  obtain ⟨h4, h5⟩ := am_bif h3
  simp only [Bool.and_eq_true] at h4
  obtain ⟨⟨⟨b1, b2⟩, b3⟩, b4⟩ := h4
  cases h5
  have he := cn_get (a := a) (al := cn_al a al0) (aC := aC) hf
  rw [cn_e_o b1, show f.2.1 = ci from Nat.eq_of_beq_eq_true b2] at he
  have hci : ci < 11 := Nat.blt_eq.mp w2
  show W p l e R s m args below meth c H locs (L.length - 1) z Q (F0 m pc ls (.ref (cn_al a al0 k) :: r.map (am_rl (cn_al a al0))))
  rw [cn_al_lt (Nat.blt_eq.mp b3)]
  exact va_get (D := (dC, dI)) (T := am_T ci) (N := am_N ci) hx hb hts (am_uw_spec hci) hown hK hP k he (am_cl_spec hci).2 j (Nat.blt_eq.mp b4) (hts _ (cn_inT_spec w4)) (fun _ h9 => h9) (by rw [List.getElem?_map, hv]; rfl) hd (hk hL H locs ls hl hP hS)
theorem cn_s15 (C : cn_Cx p R s m args meth c al0 dC dI aC aV o a) (hd : decode (cn_cc o) pc = .ok (.arraylength, 1)) (hr : cn_step o orc pc .arraylength ρ st L z = some t) (hk : cn_At p l e R s m args below meth c Q al0 dC dI aC o a t) : cn_At p l e R s m args below meth c Q al0 dC dI aC o a (pc, ρ, st, L, z) := by
  obtain ⟨hx, hb, hml, hown, hts, hin, hK, hF, hNB, hsz, hR⟩ := C
  intro hL H locs ls hl hP hS
  obtain ⟨k, r, rfl, h1⟩ := am_sa_some hr
  obtain ⟨f, hf, h2⟩ := cn_bind h1
  obtain ⟨h4, h5⟩ := am_bif h2
  simp only [Bool.and_eq_true] at h4
  obtain ⟨⟨b1, b2⟩, b3⟩ := h4
  cases h5
  have he := cn_get (a := a) (al := cn_al a al0) (aC := aC) hf
  rw [cn_e_r b1] at he
  show W p l e R s m args below meth c H locs (L.length - 1) z Q (F0 m pc ls (.ref (cn_al a al0 k) :: r.map (am_rl (cn_al a al0))))
  rw [cn_al_lt (Nat.blt_eq.mp b2)]
  exact va_alen hx hb hK hP k f.2.1 he (cn_ty (Nat.blt_eq.mp b3)) rfl hd (hk hL H locs ls hl hP hS)
theorem cn_inv16 {ix : Nat} : cn_step o orc pc (.putfield ix) ρ st L z = some t → ∃ ci j v k r f, cn_tk o ix 3 = some (ci, j) ∧ st = v :: .ref k :: r ∧ L[k]? = some f ∧ (cn_ob f && Nat.beq f.2.1 ci && Nat.blt k 900 && Nat.blt j f.2.2.2.length && Nat.blt j (am_N ci) && cn_okv ci j v && Nat.beq ci o) = true ∧ t = (pc + 3, ρ, r, L.set k (1, ci, f.2.2.1, f.2.2.2.set j v), z) := by
  show (match cn_tk o ix 3 with
    | none => none
    | some (ci, j) => match st with
      | v :: .ref k :: r => (L[k]?).bind (fun e => bif cn_ob e && Nat.beq e.2.1 ci && Nat.blt k 900 && Nat.blt j e.2.2.2.length && Nat.blt j (am_N ci) && cn_okv ci j v && Nat.beq ci o then some (pc + 3, ρ, r, L.set k (1, ci, e.2.2.1, e.2.2.2.set j v), z) else none)
      | _ => none) = some t → _
  intro hr
  split at hr
  · cases hr
  rename_i ci j hz
  split at hr
  · rename_i v k r
    obtain ⟨f, hf, h2⟩ := cn_bind hr
    obtain ⟨h4, h5⟩ := am_bif h2
    exact ⟨ci, j, v, k, r, f, hz, rfl, hf, h4, (Option.some.inj h5).symm⟩
  · cases hr
theorem cn_inv18 : cn_step o orc pc .aastore ρ st L z = some t → ∃ v i k r e f, st = .ref v :: .int i :: .ref k :: r ∧ L[k]? = some e ∧ L[v]? = some f ∧ (Nat.beq e.1 3 && Nat.blt k 900 && Nat.blt v 900 && am_in i e.2.2.1 && Nat.beq e.2.2.2.length e.2.2.1 && cn_ob f && Nat.beq (cn_to e.2.1) f.2.1 && Nat.blt e.2.1 7) = true ∧ t = (pc + 1, ρ, r, L.set k (3, e.2.1, e.2.2.1, e.2.2.2.set i.toNatClampNeg (.ref v)), z) := by
  show (match st with
    | .ref v :: .int i :: .ref k :: r => (L[k]?).bind (fun e => (L[v]?).bind (fun f => bif Nat.beq e.1 3 && Nat.blt k 900 && Nat.blt v 900 && am_in i e.2.2.1 && Nat.beq e.2.2.2.length e.2.2.1 && cn_ob f && Nat.beq (cn_to e.2.1) f.2.1 && Nat.blt e.2.1 7 then some (pc + 1, ρ, r, L.set k (3, e.2.1, e.2.2.1, e.2.2.2.set i.toNatClampNeg (.ref v)), z) else none))
    | _ => none) = some t → _
  intro hr
  split at hr
  · rename_i v i k r
    obtain ⟨e, hf, h1⟩ := cn_bind hr
    obtain ⟨f, hg, h2⟩ := cn_bind h1
    obtain ⟨h4, h5⟩ := am_bif h2
    exact ⟨v, i, k, r, e, f, rfl, hf, hg, h4, (Option.some.inj h5).symm⟩
  · cases hr
theorem cn_s16 {ix : Nat} (C : cn_Cx p R s m args meth c al0 dC dI aC aV o a) (hd : decode (cn_cc o) pc = .ok (.putfield ix, 3)) (hr : cn_step o orc pc (.putfield ix) ρ st L z = some t) (hk : cn_At p l e R s m args below meth c Q al0 dC dI aC o a t) : cn_At p l e R s m args below meth c Q al0 dC dI aC o a (pc, ρ, st, L, z) := by
  obtain ⟨hx, hb, hml, hown, hts, hin, hK, hF, hNB, hsz, hR⟩ := C
  intro hL H locs ls hl hP hS
  obtain ⟨ci, j, v, k, r, f, hz, rfl, hf, h4, rfl⟩ := cn_inv16 hr
  have hw := cn_tk_spec hz
  simp only [cn_rok, Bool.and_eq_true] at hw
  obtain ⟨⟨⟨⟨w1, w2⟩, w3⟩, w4⟩, w5⟩ := hw
  simp only [Bool.and_eq_true] at h4
  obtain ⟨⟨⟨⟨⟨⟨b1, b2⟩, b3⟩, b4⟩, b5⟩, b6⟩, b7⟩ := h4
  have he := cn_get (a := a) (al := cn_al a al0) (aC := aC) hf
  rw [cn_e_o b1, show f.2.1 = ci from Nat.eq_of_beq_eq_true b2] at he
  have hci : ci < 11 := Nat.blt_eq.mp w2
  have hj := Nat.blt_eq.mp b5
  obtain ⟨ty0, hty, hnm⟩ := am_tyn hci
  obtain ⟨ty, t1, t2, t3⟩ := cn_fty_spec hci hj
  obtain ⟨n1, n2⟩ := cn_okv_spec (al := cn_al a al0) b6 t2 t3
  show W p l e R s m args below meth c H locs (L.length - 1) z Q (F0 m pc ls (am_rl (cn_al a al0) v :: .ref (cn_al a al0 k) :: r.map (am_rl (cn_al a al0))))
  rw [cn_al_lt (Nat.blt_eq.mp b3)]
  have key : ∀ (H1 : Heap) (locs1 : List Loc), va_P (dC, dI) vwCl ((cn_ws a (cn_al a al0) aC L).set k (a + k, .inr (ci, (f.2.2.2.map (am_rl (cn_al a al0))).set j (am_rl (cn_al a al0) v)))) H1 → va_S (fun q => a ≤ q) s.heap H1 locs1 →
      W p l e R s m args below meth c H1 locs1 (L.length - 1) z Q (F0 m (pc + 3) ls (r.map (am_rl (cn_al a al0)))) := by
    intro H1 locs1 hP1 hS1
    rw [← List.map_set] at hP1
    have e9 : (.inr (ci, (f.2.2.2.set j v).map (am_rl (cn_al a al0))) : va_E) = cn_e (cn_al a al0) aC (1, ci, f.2.2.1, f.2.2.2.set j v) := rfl
    rw [e9, cn_set] at hP1
    have h9 := hk (by show 1 ≤ (L.set k _).length; rw [List.length_set]; exact hL) H1 locs1 ls hl hP1 hS1
    have h9 : W p l e R s m args below meth c H1 locs1 ((L.set k (1, ci, f.2.2.1, f.2.2.2.set j v)).length - 1) z Q (F0 m (pc + 3) ls (r.map (am_rl (cn_al a al0)))) := h9
    rw [List.length_set] at h9
    exact h9
  cases hfin : (am_T ci j).2.2.2 with
  | false => exact va_put (D := (dC, dI)) (T := am_T ci) (N := am_N ci) hx hb hts (am_uw_spec hci) ty0 hty hnm hown hK hP cn_D hS k he (am_cl_spec hci).2 j hj (hts _ (cn_inT_spec w4)) (fun _ h9 => h9) hfin t1 n1 n2 (by rw [List.length_map]; exact Nat.blt_eq.mp b4) hd (fun H1 locs1 q1 _ q3 => key H1 locs1 q1 q3)
  | true => exact va_putF (D := (dC, dI)) (T := am_T ci) (N := am_N ci) hx hb hts (am_uw_spec hci) ty0 hty hnm hown hK hP cn_D hS k he (am_cl_spec hci).2 j hj (hts _ (cn_inT_spec w4)) (fun _ h9 => h9) hfin hin (of_decide_eq_true w5) t1 n1 n2 (by rw [List.length_map]; exact Nat.blt_eq.mp b4) hd (fun H1 locs1 q1 _ q3 => key H1 locs1 q1 q3)
theorem cn_s17 (C : cn_Cx p R s m args meth c al0 dC dI aC aV o a) (hd : decode (cn_cc o) pc = .ok (.iastore, 1)) (hr : cn_step o orc pc .iastore ρ st L z = some t) (hk : cn_At p l e R s m args below meth c Q al0 dC dI aC o a t) : cn_At p l e R s m args below meth c Q al0 dC dI aC o a (pc, ρ, st, L, z) := by
  obtain ⟨hx, hb, hml, hown, hts, hin, hK, hF, hNB, hsz, hR⟩ := C
  intro hL H locs ls hl hP hS
  obtain ⟨k, i, x, r, rfl, h1⟩ := am_siia_some hr
  obtain ⟨f, hf, h2⟩ := cn_bind h1
  obtain ⟨h4, h5⟩ := am_bif h2
  simp only [Bool.and_eq_true] at h4
  obtain ⟨⟨⟨⟨b1, b2⟩, b3⟩, b4⟩, b5⟩ := h4
  cases h5
  have he := cn_get (a := a) (al := cn_al a al0) (aC := aC) hf
  rw [cn_e_i b1, show f.2.1 = 0 from Nat.eq_of_beq_eq_true b2] at he
  have hin := am_in_spec b4
  have hlt : i.toNatClampNeg < f.2.2.1 := Nat.not_le.mp fun q => hin (Or.inr q)
  have hln : f.2.2.2.length = f.2.2.1 := Nat.eq_of_beq_eq_true b5
  show W p l e R s m args below meth c H locs (L.length - 1) z Q (F0 m pc ls (.int x :: .int i :: .ref (cn_al a al0 k) :: r.map (am_rl (cn_al a al0))))
  rw [cn_al_lt (Nat.blt_eq.mp b3)]
  refine va_iast hx hb hK hP cn_D hS k 0 he rfl hin hd (fun H1 locs1 hP1 _ hS1 => ?_)
  have e8 : upd (fun j => cn_iv (f.2.2.2.getD j (.int 0))) i.toNatClampNeg x = (fun j => cn_iv ((f.2.2.2.set i.toNatClampNeg (.int x)).getD j (.int 0))) := by
    funext j
    show (if j = i.toNatClampNeg then x else cn_iv (f.2.2.2.getD j (.int 0))) = _
    rw [List.getD_eq_getElem?_getD, List.getD_eq_getElem?_getD, List.getElem?_set]
    by_cases hj : j = i.toNatClampNeg
    · subst hj
      rw [if_pos rfl, if_pos rfl, if_pos (by rw [hln]; exact hlt)]
      rfl
    · rw [if_neg hj, if_neg (fun z => hj z.symm)]
  rw [e8] at hP1
  have e9 : (.inl (aC 0, f.2.2.1, .inl (fun j => cn_iv ((f.2.2.2.set i.toNatClampNeg (.int x)).getD j (.int 0)))) : va_E) = cn_e (cn_al a al0) aC (2, 0, f.2.2.1, f.2.2.2.set i.toNatClampNeg (.int x)) := rfl
  rw [e9, cn_set] at hP1
  have h9 := hk (by show 1 ≤ (L.set k _).length; rw [List.length_set]; exact hL) H1 locs1 ls hl hP1 hS1
  have h9 : W p l e R s m args below meth c H1 locs1 ((L.set k (2, 0, f.2.2.1, f.2.2.2.set i.toNatClampNeg (.int x))).length - 1) z Q (F0 m (pc + 1) ls (r.map (am_rl (cn_al a al0)))) := h9
  rw [List.length_set] at h9
  exact h9
theorem cn_toR {t ci : Nat} (ht : t < 7) (h : cn_to t = ci) (hc : ci < 11) : am_tyL.getD t .int = .object (am_R ci) := by
  subst h
  have key : (List.range 7).all (fun t => !(Nat.blt (cn_to t) 11) || decide (am_tyL.getD t FieldType.int = .object (am_R (cn_to t)))) = true := by decide +kernel
  have h1 := List.all_eq_true.mp key t (List.mem_range.mpr ht)
  rw [Nat.blt_eq.mpr hc] at h1
  exact of_decide_eq_true (by simpa using h1)
theorem cn_vwlt {ci : Nat} {r : vw_C} (h : vwCl[ci]? = some r) : ci < 13 := (List.getElem?_eq_some_iff.mp h).1
theorem cn_s18 (C : cn_Cx p R s m args meth c al0 dC dI aC aV o a) (hd : decode (cn_cc o) pc = .ok (.aastore, 1)) (hr : cn_step o orc pc .aastore ρ st L z = some t) (hk : cn_At p l e R s m args below meth c Q al0 dC dI aC o a t) : cn_At p l e R s m args below meth c Q al0 dC dI aC o a (pc, ρ, st, L, z) := by
  obtain ⟨hx, hb, hml, hown, hts, hin, hK, hF, hNB, hsz, hR⟩ := C
  intro hL H locs ls hl hP hS
  obtain ⟨v, i, k, r, f, g, rfl, hf, hg, h4, rfl⟩ := cn_inv18 hr
  simp only [Bool.and_eq_true] at h4
  obtain ⟨⟨⟨⟨⟨⟨⟨b1, b2⟩, b3⟩, b4⟩, b5⟩, b6⟩, b7⟩, b8⟩ := h4
  have he := cn_get (a := a) (al := cn_al a al0) (aC := aC) hf
  rw [cn_e_r b1] at he
  have hev := cn_get (a := a) (al := cn_al a al0) (aC := aC) hg
  rw [cn_e_o b6] at hev
  have hin := am_in_spec b4
  have hlt : i.toNatClampNeg < f.2.2.1 := Nat.not_le.mp fun q => hin (Or.inr q)
  have hln : f.2.2.2.length = f.2.2.1 := Nat.eq_of_beq_eq_true b5
  have hci : g.2.1 < 11 := by
    obtain ⟨rr, hrr, -⟩ := hP _ _ hev
    have k1 := cn_vwlt hrr
    have key : ∀ t, t < 7 → cn_to t < 13 → cn_to t < 11 := by decide
    have k2 := Nat.eq_of_beq_eq_true b7
    rw [← k2] at k1 ⊢
    exact key _ (Nat.blt_eq.mp b8) k1
  have hty := cn_toR (Nat.blt_eq.mp b8) (Nat.eq_of_beq_eq_true b7) hci
  have ht9 := cn_ty (aC := aC) (Nat.blt_eq.mp b8)
  rw [hty] at ht9
  show W p l e R s m args below meth c H locs (L.length - 1) z Q (F0 m pc ls (.ref (cn_al a al0 v) :: .int i :: .ref (cn_al a al0 k) :: r.map (am_rl (cn_al a al0))))
  rw [cn_al_lt (Nat.blt_eq.mp b2), cn_al_lt (Nat.blt_eq.mp b3)]
  refine va_astq (r := (am_R g.2.1, am_T g.2.1, am_N g.2.1)) hx hb hK hP cn_D hS k f.2.1 v g.2.1 he ht9 hev (am_cl_spec hci).2 hin hd (fun H1 locs1 hP1 _ hS1 => ?_)
  have e8 : va_up (fun j => (cn_rv (f.2.2.2.getD j .null)).map (cn_al a al0)) i.toNatClampNeg (some (a + v)) = (fun j => (cn_rv ((f.2.2.2.set i.toNatClampNeg (.ref v)).getD j .null)).map (cn_al a al0)) := by
    funext j
    show (if j = i.toNatClampNeg then some (a + v) else (cn_rv (f.2.2.2.getD j .null)).map (cn_al a al0)) = _
    rw [List.getD_eq_getElem?_getD, List.getD_eq_getElem?_getD, List.getElem?_set]
    by_cases hj : j = i.toNatClampNeg
    · subst hj
      rw [if_pos rfl, if_pos rfl, if_pos (by rw [hln]; exact hlt)]
      show some (a + v) = some (cn_al a al0 v)
      rw [cn_al_lt (Nat.blt_eq.mp b3)]
    · rw [if_neg hj, if_neg (fun z => hj z.symm)]
  rw [e8] at hP1
  have e9 : (.inl (aC f.2.1, f.2.2.1, .inr (.inr (.inr (.inr (fun j => (cn_rv ((f.2.2.2.set i.toNatClampNeg (.ref v)).getD j .null)).map (cn_al a al0)))))) : va_E) = cn_e (cn_al a al0) aC (3, f.2.1, f.2.2.1, f.2.2.2.set i.toNatClampNeg (.ref v)) := rfl
  rw [e9, cn_set] at hP1
  have h9 := hk (by show 1 ≤ (L.set k _).length; rw [List.length_set]; exact hL) H1 locs1 ls hl hP1 hS1
  have h9 : W p l e R s m args below meth c H1 locs1 ((L.set k (3, f.2.1, f.2.2.1, f.2.2.2.set i.toNatClampNeg (.ref v))).length - 1) z Q (F0 m (pc + 1) ls (r.map (am_rl (cn_al a al0)))) := h9
  rw [List.length_set] at h9
  exact h9
end CNSTEP2
