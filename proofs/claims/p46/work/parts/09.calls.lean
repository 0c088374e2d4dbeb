section AMCALL
variable {p : Program} {l : Launch} {e : Env} {R : Room} {s : State} {m : MethodId} {args : Array Value} {below : List Frame} {meth : Method} {c : Code}
theorem am_mmax_c : Cond.code (am_y 0) (am_cc 0) (am_ml 0) (am_re 0) = Cond.code Lib.Math.max.name Lib.Math.max.code 2 (some .int) := by decide +kernel
theorem am_mmin_c : Cond.code (am_y 1) (am_cc 1) (am_ml 1) (am_re 1) = Cond.code Lib.Math.min.name Lib.Math.min.code 2 (some .int) := by decide +kernel
theorem am_rcv_some {mid : Nat} {as : List Value} (h : am_rcv 0 mid as = true) : ∃ a as', as = .ref a :: as' ∧ ((am_ow mid ≠ 12 ∧ am_isO a (am_ow mid) = true) ∨ (am_ow mid = 12 ∧ Nat.beq (am_kd a).1 6 = true)) := by
  cases as with
  | nil => exact absurd (show false = true from h) (by decide)
  | cons v as' =>
    cases v
    case ref a =>
      have h : (bif Nat.beq (am_ow mid) 12 then Nat.beq (am_kd a).1 6 else am_isO a (am_ow mid)) = true := h
      refine ⟨a, as', rfl, ?_⟩
      cases hz : Nat.beq (am_ow mid) 12 with
      | true => rw [hz] at h; exact Or.inr ⟨Nat.eq_of_beq_eq_true hz, h⟩
      | false => rw [hz] at h; exact Or.inl ⟨Nat.ne_of_beq_eq_false hz, h⟩
    all_goals exact absurd (show false = true from h) (by decide)
theorem am_str_spec {a : Nat} (h : Nat.beq (am_kd a).1 6 = true) : ∃ i, i < 5 ∧ a = am_s0 + i := by
  have key : (List.range am_kdL.length).all (fun a => !(Nat.beq (am_kd a).1 6) || (Nat.ble am_s0 a && Nat.blt a (am_s0 + 5))) = true := by decide +kernel
  by_cases ha : a < am_kdL.length
  · have h1 := List.all_eq_true.mp key a (List.mem_range.mpr ha)
    rw [h] at h1
    simp only [Bool.not_true, Bool.false_or, Bool.and_eq_true] at h1
    have h2 := Nat.le_of_ble_eq_true h1.1
    have h3 := Nat.blt_eq.mp h1.2
    exact ⟨a - am_s0, by omega, by omega⟩
  · exfalso
    unfold am_kd at h
    rw [List.getD_eq_getElem?_getD, List.getElem?_eq_none (by omega)] at h
    exact absurd h (by decide)
theorem am_blind {al : Nat → Nat} {dC : Nat → ClassId} {dI : Nat → Nat → Nat} {aC : Nat → ClassId} {aV : Nat → Nat} {as : List Value} {h : am_Hp} {sz : Nat} : FrameBlind (va_Pc as (fun U => U.heap.size = sz ∧ am_B al dC dI aC h U ∧ am_Fx al aV (am_A al sz) U U.heap)) := by
  intro a U g mk q
  obtain ⟨q0, q1, ⟨q2, q3⟩, q4⟩ := q
  exact ⟨q0, q1, ⟨q2, va_K.moved (u := U) (U := U.calling g mk a) (Vm.Alike.refl U.vm) q3⟩, am_fx_kept (U1 := U.calling g mk a) q4 (State.WarmedH.refl U) (Nat.le_refl _) (fun _ _ _ => rfl) (fun _ _ h => h) (fun _ h => h)⟩
theorem am_sum {al : Nat → Nat} : ∀ (r : List Value), ((r.map (am_rl al)).map fun v => v.category).sum ≤ 2 * r.length
  | [] => by simp
  | v :: r => by
    have h := am_sum (al := al) r
    have h2 : (am_rl al v).category ≤ 2 := by rw [am_rl_cat]; rcases lv_cat v with q | q <;> omega
    simp only [List.map_cons, List.sum_cons, List.length_cons]
    omega
theorem am_AP {al : Nat → Nat} {a b : Nat} (h : a ≤ b) : ∀ q, am_A al b q → am_A al a q := fun q z => z.imp id (fun y => Nat.le_trans h y)
set_option maxHeartbeats 4000000 in
/-- from what a call does to what the caller sees -/
theorem am_call_end {γ : Type} {al : Nat → Nat} {dC : Nat → ClassId} {dI : Nat → Nat → Nat} {aC : Nat → ClassId} {aV : Nat → Nat} {me : Nat} {o0 o : am_Out} {h0 h' : am_Hp} {pc : Nat} {ρ : am_Lc} {st rest : List Value} {ret : am_Out → am_Hp → Option γ} {k : Nat → am_Lc → List Value → am_Hp → Option γ} {g : γ} {H : Heap} {locs : List Loc} {ls : Array Slot} {fa : Array Value}
    (C : am_Cx p l R s m args meth c al dC dI aC aV me o0) (hret : ∀ o h', ret o h' = some g → o = o0 ∧ h' = h0)
    (hk : ∀ pc' ρ' st' h', k pc' ρ' st' h' = some g → am_At p l e R s m args below meth c al dC dI aC me o0 h0 pc' ρ' st' h')
    (hl : lv_has ls (am_ml me) (am_rls al ρ)) (hS : va_S (am_A al s.heap.size) s.heap H locs) (hback : am_back pc ρ rest ret k o h' = some g)
    (hr : vx_Run p l e R s m args below meth c H locs 0 0 (am_mc o) (am_ms o) (F0 m pc ls st) (rest.map (am_rl al)) (am_Q al dC dI aC o h' (am_A al H.size) fa) (am_X al dC dI aC o h' (am_A al H.size)) (am_A al H.size)) :
    W p l e R s m args below meth c H locs 0 0 (vx_MQ below (am_Q al dC dI aC o0 h0 (am_A al s.heap.size)) (am_X al dC dI aC o0 h0 (am_A al s.heap.size)) args s (am_mc o0) (am_ms o0) (am_A al s.heap.size)) (F0 m pc ls st) := by
  obtain ⟨hx, hb, hml, hown, hts, hlocks, hexc, hrt, htr, hK, hF, hR, hinj⟩ := C
  intro T hT X
  rcases hr T hT X with ⟨v, st₀, t, T', L, h00, X', hL, e1, e2, ⟨v', q1, q2, ⟨q3, q4⟩, q5⟩, stp⟩ | ⟨q, st₀, t, T', L, E, ce, h00, X', hL, e1, e2, ⟨q1, q2, ⟨q3, q4⟩, q5⟩, hce, hcv, hcl, stp⟩
  · obtain ⟨k1, k2, k3⟩ := vx_keep h00 e1 hS (fun q _ z => am_AP hS.1 q z) (fun q z => am_AP hS.1 q z) hL q5
    subst q1
    cases Outcome.returned.inj q2
    cases v' with
    | none =>
      obtain ⟨t2, a1, b1⟩ := hk _ _ _ _ hback T'.heap (locs ++ L) ls hl (by rw [e1]; exact q3) k3 T' rfl X'
      exact ⟨t2, stp t2 a1, b1⟩
    | some w =>
      obtain ⟨t2, a1, b1⟩ := hk _ _ _ _ hback T'.heap (locs ++ L) ls hl (by rw [e1]; exact q3) k3 T' rfl X'
      exact ⟨t2, stp t2 a1, b1⟩
  · obtain ⟨k1, k2, k3⟩ := vx_keep h00 e1 hS (fun q _ z => am_AP hS.1 q z) (fun q z => am_AP hS.1 q z) hL q5
    subst q1
    obtain ⟨z1, z2⟩ := hret _ _ hback
    subst z1; subst z2
    obtain ⟨t2, a1, b1⟩ := vx_out (XC := am_X al dC dI aC none h' (am_A al s.heap.size)) (Qc := am_Q al dC dI aC none h' (am_A al s.heap.size)) (mc := 1) (ms := 6) (free := am_A al s.heap.size) (E := E) (ls := ls) (rest := rest.map (am_rl al)) (pc := pc) (fun x hx => absurd hx (fun q => hexc x q)) hlocks (by rw [e1]; exact hce) hcv hcl (fun t' ht' hW' => ⟨rfl, q2, ⟨by rw [ht', e1]; exact q3, va_K.moved hW' hK⟩, k3.F ht'⟩) k3.2.2 (Nat.le_refl _) (Nat.le_refl _) T' rfl X'
    exact ⟨t2, stp.trans a1, b1⟩
set_option maxHeartbeats 4000000 in
theorem am_inv_sound {γ : Type} {al : Nat → Nat} {dC : Nat → ClassId} {dI : Nat → Nat → Nat} {aC : Nat → ClassId} {aV : Nat → Nat} {me : Nat} {o0 : am_Out} {h0 : am_Hp} {pc : Nat} {ins : Instr} {ρ : am_Lc} {st : List Value} {h : am_Hp} {orc : am_Orc} {ret : am_Out → am_Hp → Option γ} {k : Nat → am_Lc → List Value → am_Hp → Option γ} {g : γ}
    (C : am_Cx p l R s m args meth c al dC dI aC aV me o0) (hd : decode (am_cc me) pc = .ok (ins, 3)) (horc : am_OS l al dC dI aC aV orc) (hret : ∀ o h', ret o h' = some g → o = o0 ∧ h' = h0)
    (hk : ∀ pc' ρ' st' h', k pc' ρ' st' h' = some g → am_At p l e R s m args below meth c al dC dI aC me o0 h0 pc' ρ' st' h')
    (kd ix : Nat) (hi : ins = .invokevirtual ix ∧ kd = 0 ∨ ins = .invokestatic ix ∧ kd = 1) (hr : am_inv me kd pc ix ρ st h orc ret k = some g) : am_At p l e R s m args below meth c al dC dI aC me o0 h0 pc ρ st h := by
  have C' := C
  obtain ⟨hx, hb, hml, hown, hts, hlocks, hexc, hrt, htr, hK, hF, hR, hinj⟩ := C
  intro H locs ls hl hP hS
  unfold am_inv at hr
  cases hz : am_mk me ix with
  | none => rw [hz] at hr; cases hr
  | some q =>
    obtain ⟨kd', mid⟩ := q
    rw [hz] at hr
    obtain ⟨m1, m2, m3⟩ := am_mk_spec hz
    obtain ⟨n1, n2, n3, n4, -⟩ := am_md_spec m1
    have hr : (bif Nat.blt mid 2 then (bif Nat.beq kd' 1 && Nat.beq kd 1 && Nat.ble st.length 6 && Nat.ble 1 (am_fr me) && Nat.ble 21 (am_lo me) then am_s2 st (fun x y r => k (pc + 3) ρ (.int (bif Nat.beq mid 0 then (if x < y then y else x) else (if y < x then y else x)) :: r) h) else none) else bif Nat.beq (kd' % 2) kd && Nat.ble (am_na mid) st.length && Nat.ble ((st.drop (am_na mid)).map (fun v => v.category)).sum 8 && am_rmOk me mid && am_rcv kd mid (st.take (am_na mid)).reverse
      then orc γ mid (st.take (am_na mid)).reverse h (am_back pc ρ (st.drop (am_na mid)) ret k) else none) = some g := hr
    have hRf : R.frames = am_fr me := by rw [hR]; rfl
    have hRl : R.locals = am_lo me := by rw [hR]; rfl
    cases hb2 : Nat.blt mid 2 with
    | true =>
      rw [hb2] at hr
      obtain ⟨h1, h2⟩ := am_bif hr
      simp only [Bool.and_eq_true] at h1
      obtain ⟨⟨⟨⟨h11, h12⟩, h13⟩, h14⟩, h15⟩ := h1
      obtain ⟨x, y, r, rfl, h3⟩ := am_s2_some h2
      have e1 : kd' = 1 := Nat.eq_of_beq_eq_true h11
      have e2 : kd = 1 := Nat.eq_of_beq_eq_true h12
      subst e1; subst e2
      rcases hi with ⟨-, q⟩ | ⟨rfl, -⟩
      · exact absurd q (by decide)
      rcases m3 with ⟨q, -⟩ | ⟨-, w1, w2, -⟩ | ⟨q, -⟩
      · exact absurd q (by decide)
      · have hr4 : r.length ≤ 4 := by have := Nat.le_of_ble_eq_true h13; simp only [List.length_cons] at this; omega
        have hs4 := am_sum (al := al) r
        have hlo := Nat.le_of_ble_eq_true h15
        have hmid : mid = 0 ∨ mid = 1 := by have := Nat.blt_eq.mp hb2; omega
        rcases hmid with rfl | rfl
        · exact va_mmax hx hb (hml.trans hl.1.symm) hown (hts _ w1) (hts _ w2) (hts _ m2) (hts _ (am_mmax_c ▸ n1)) (by rw [hRf]; exact Nat.le_of_ble_eq_true h14) (by rw [hRl]; omega) (Nat.zero_le _) (Nat.zero_le _) hd (hk _ _ _ _ h3 H locs ls hl hP hS)
        · exact va_mmin hx hb (hml.trans hl.1.symm) hown (hts _ w1) (hts _ w2) (hts _ m2) (hts _ (am_mmin_c ▸ n1)) (by rw [hRf]; exact Nat.le_of_ble_eq_true h14) (by rw [hRl]; omega) (Nat.zero_le _) (Nat.zero_le _) hd (hk _ _ _ _ h3 H locs ls hl hP hS)
      · exact absurd q (by decide)
    | false =>
      rw [hb2] at hr
      have hr : (bif Nat.beq (kd' % 2) kd && Nat.ble (am_na mid) st.length && Nat.ble ((st.drop (am_na mid)).map (fun v => v.category)).sum 8 && am_rmOk me mid && am_rcv kd mid (st.take (am_na mid)).reverse
        then orc γ mid (st.take (am_na mid)).reverse h (am_back pc ρ (st.drop (am_na mid)) ret k) else none) = some g := hr
      obtain ⟨h1, h2⟩ := am_bif hr
      simp only [Bool.and_eq_true] at h1
      obtain ⟨⟨⟨⟨h11, h12⟩, h13⟩, h14⟩, h15⟩ := h1
      have h11 := Nat.eq_of_beq_eq_true h11
      have h12 := Nat.le_of_ble_eq_true h12
      have h13 := Nat.le_of_ble_eq_true h13
      unfold am_rmOk at h14
      rw [Bool.and_eq_true] at h14
      have h141 := Nat.le_of_ble_eq_true h14.1
      have h142 := Nat.le_of_ble_eq_true h14.2
      generalize hasd : (st.take (am_na mid)).reverse = as at h2 h15
      generalize hresd : st.drop (am_na mid) = rest at h2 h13
      have hst : st = as.reverse ++ rest := by rw [← hasd, ← hresd, List.reverse_reverse, List.take_append_drop]
      have hln : as.length = am_na mid := by rw [← hasd, List.length_reverse, List.length_take]; omega
      obtain ⟨o, h', hM, hback⟩ := horc _ _ _ _ _ _ h2
      have hmc : 0 + am_mc o ≤ R.cells ∧ 0 + am_ms o ≤ R.slots := by
        rw [hR]
        cases o with
        | some v => exact ⟨Nat.zero_le _, Nat.zero_le _⟩
        | none =>
          obtain ⟨z1, -⟩ := hret _ _ hback
          subst z1
          exact ⟨Nat.le_refl _, Nat.le_refl _⟩
      have hsum : 2 * (F0 m pc ls (st.map (am_rl al))).monitorRoom + ((rest.map (am_rl al)).map fun v => v.category).sum ≤ 8 := by
        have e : (rest.map (am_rl al)).map (fun v => v.category) = rest.map (fun v => v.category) := by
          rw [List.map_map]
          exact List.map_congr_left (fun v _ => am_rl_cat al v)
        show 2 * 0 + _ ≤ 8
        rw [e]
        omega
      have hPre : ∀ U : State, U.heap = H → s.WarmedH U.vm → va_Pc (as.map (am_rl al)) (fun U => U.heap.size = H.size ∧ am_B al dC dI aC h U ∧ am_Fx al aV (am_A al H.size) U U.heap) (as.map (am_rl al)).toArray U := fun U hU hW =>
        ⟨rfl, by rw [hU], ⟨by rw [hU]; exact hP, va_K.moved hW.alike hK⟩, by rw [hU]; exact am_fx_kept hF hW hS.1 hS.2.1 (fun q _ z => am_AP hS.1 q z) (fun q z => am_AP hS.1 q z)⟩
      have hws : GoodIn am_AT (am_ws mid) := am_AT_sub (fun w hw => by
        rcases List.mem_cons.mp hw with rfl | hw
        · exact n1
        · exact hw)
      have hRR : (am_rm mid o).frames + 1 ≤ R.frames ∧ 8 + (am_ml mid + 11) + (am_rm mid o).locals ≤ R.locals := by rw [hRf, hRl]; exact ⟨h141, h142⟩
      refine am_call_end (fa := (as.map (am_rl al)).toArray) C' hret hk hl hS hback ?_
      rcases m3 with ⟨q, w1, w2, w3, w4, w5⟩ | ⟨q, w1, w2, w5⟩ | ⟨q, w1, w2, w5⟩
      · subst q
        have hkd : kd = 0 := h11.symm
        subst hkd
        rcases hi with ⟨rfl, -⟩ | ⟨-, q⟩
        · obtain ⟨a, as', rfl, hrc⟩ := am_rcv_some h15
          have hcell : ∃ cellB : Cell, H[al a]? = some cellB ∧ cellB.vm.isStatics = false ∧ s.vm.findClass (am_y mid).cls = some cellB.cls := by
            rcases hrc with ⟨c1, c2⟩ | ⟨c1, c2⟩
            · obtain ⟨g1, g2, g3, -⟩ := am_cell_o (al := al) (aC := aC) (h := h) c2
              have he := am_W_get (al := al) (aC := aC) (h := h) g2
              rw [g1] at he
              have := va_recv hK hP (am_cl_spec g3).2 he
              rw [n2]
              exact this
            · obtain ⟨i, i1, i2⟩ := am_str_spec c2
              have := vk_recv hF.2.2.2.1 i1 hS
              rw [n2, show am_own mid = "java/lang/String" by unfold am_own; rw [c1]; rfl, i2]
              exact this
          refine vx_runV (cc := am_cc me) (nL := am_ml me) (Ts := am_AT) (own := am_own me) (C := (am_y mid).cls) (bytes := am_cc mid) (maxL := am_ml mid) (ret := am_re mid) (ws := am_ws mid) (rm := am_rm mid o) (n := am_na mid - 1) (index := ix) (As := as'.map (am_rl al)) (b := al a) ⟨hx, hb, hml, hown, hts⟩ (hM H.size) (cwV _ hts (fun w hw => ?_) rfl rfl rfl ⟨rfl, n3, n4, w5⟩ hRR) ⟨am_blind, hcell, hPre⟩ rfl (by rw [List.length_map]; rw [List.length_cons] at hln; omega) hl.1 (by show st.map (am_rl al) = _; rw [hst]; simp [am_rl]) hsum hd hmc
          rcases List.mem_append.mp hw with hw | hw
          · simp only [List.mem_cons, List.not_mem_nil, or_false] at hw
            rcases hw with rfl | rfl | rfl | rfl
            · exact ⟨w1, am_AT_good w1⟩
            · exact ⟨w2, am_AT_good w2⟩
            · exact ⟨w3, am_AT_good w3⟩
            · exact ⟨m2, am_AT_good m2⟩
          · exact hws w hw
        · exact absurd q (by decide)
      · subst q
        have hkd : kd = 1 := h11.symm
        subst hkd
        rcases hi with ⟨-, q⟩ | ⟨rfl, -⟩
        · exact absurd q (by decide)
        · exact vx_runS (cc := am_cc me) (nL := am_ml me) (Ts := am_AT) (own := am_own me) (bytes := am_cc mid) (maxL := am_ml mid) (ret := am_re mid) (ws := am_ws mid) (rm := am_rm mid o) (n := am_na mid) (index := ix) (As := as.map (am_rl al)) ⟨hx, hb, hml, hown, hts⟩ (hM H.size) ⟨callB_of _ hts hws rfl rfl rfl (hts _ m2) (hts _ w1) ⟨n3, n4, w5⟩ hRR, hts _ w2⟩ ⟨am_blind, hPre⟩ rfl (by rw [List.length_map]; exact hln) hl.1 (by show st.map (am_rl al) = _; rw [hst]; simp) hsum hd hmc
      · subst q
        have hkd : kd = 1 := h11.symm
        subst hkd
        rcases hi with ⟨-, q⟩ | ⟨rfl, -⟩
        · exact absurd q (by decide)
        · exact vx_runSN (host := "SharedConsole") (cc := am_cc me) (nL := am_ml me) (Ts := am_AT) (own := am_own me) (bytes := am_cc mid) (maxL := am_ml mid) (ret := am_re mid) (ws := am_ws mid) (rm := am_rm mid o) (n := am_na mid) (index := ix) (As := as.map (am_rl al)) ⟨hx, hb, hml, hown, hts⟩ (hM H.size) ⟨va_cnB _ hts hws rfl rfl rfl (by rw [w1]; exact hF.2.2.2.2.2.2.1) (hts _ m2) ⟨n3, n4, w5⟩ hRR, hts _ w2, trivial⟩ ⟨am_blind, hPre⟩ rfl (by rw [List.length_map]; exact hln) hl.1 (by show st.map (am_rl al) = _; rw [hst]; simp) hsum hd hmc
end AMCALL
