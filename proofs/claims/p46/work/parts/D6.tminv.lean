section TM6
variable {p : Program} {l : Launch} {e : Env} {R : Room} {s : State} {m : MethodId} {args : Array Value} {below : List Frame} {meth : Method} {c : Code}
variable {γ : Type} {g : γ}
set_option maxRecDepth 100000 in
theorem tm_oiw : (Cond.code Lib.objectInit ⟨#[0xb1]⟩ 1 none) ∈ am_AT := cn_inT_spec (by have h := cn_Ts; rw [Bool.and_eq_true] at h; exact h.2)
set_option maxRecDepth 100000 in
theorem tm_lw37 : (dm_inT (.instanceMethod (tm_y 37))) = true := by decide +kernel
theorem tm_sbf : ∀ i, i < 8 → ∀ j, fits .byte (.int (tm_sb i j)) = true := by
  intro i hi j
  have key : ∀ i, i < 8 → ∀ j, j < 12 → fits .byte (.int (tm_sb i j)) = true := by decide
  by_cases hj : j < 12
  · exact key i hi j hj
  · have : tm_sb i j = 0 := by
      unfold tm_sb
      have h1 : ∀ i, i < 8 → (tm_sbL.getD i []).length ≤ 12 := by decide
      rw [List.getD_eq_getElem?_getD, List.getElem?_eq_none (by have := h1 i hi; omega)]
      rfl
    rw [this]
    rfl
theorem tm_sbb : ∀ i, i < 8 → ∀ j, tm_b (tm_sb i j) = tm_sb i j := by
  intro i hi j
  have key : ∀ i, i < 8 → ∀ j, j < 12 → tm_b (tm_sb i j) = tm_sb i j := by decide
  by_cases hj : j < 12
  · exact key i hi j hj
  · have : tm_sb i j = 0 := by
      unfold tm_sb
      have h1 : ∀ i, i < 8 → (tm_sbL.getD i []).length ≤ 12 := by decide
      rw [List.getD_eq_getElem?_getD, List.getElem?_eq_none (by have := h1 i hi; omega)]
      rfl
    rw [this]
    rfl
theorem tm_fb (x : Int32) : fits .byte (.int (tm_b x)) = true := by
  unfold tm_b fits
  simp only [decide_eq_true_eq, Bool.and_eq_true]
  have h1 := Int8.le_toInt x.toInt8
  have h2 := Int8.toInt_lt x.toInt8
  rw [Int32.le_iff_toInt_le, Int32.le_iff_toInt_le, Int8.toInt_toInt32]
  have e1 : (-128 : Int32).toInt = -128 := by decide
  have e2 : (127 : Int32).toInt = 127 := by decide
  rw [e1, e2]
  omega
theorem tm_cell_cp {al : Nat → Nat} {aC : Nat → ClassId} {x1 : Nat} {S : dm_S} {a b : Nat} {f : Nat → Int32} {sp dp n : Nat} (hb : b ≠ a) : tm_cell al aC x1 (tm_cp S a f sp dp n) b = tm_cell al aC x1 S b := by
  have e : dm_g (tm_cp S a f sp dp n) b = dm_g S b := by
    funext j
    show (if b = a ∧ dp ≤ j ∧ j < dp + n then f (sp + (j - dp)) else dm_g S b j) = _
    rw [if_neg (fun z => hb z.1)]
  have e2 : tm_fv al x1 (tm_cp S a f sp dp n) b = tm_fv al x1 S b := by
    funext j
    unfold tm_fv
    rw [e]
  unfold tm_cell
  rw [e2, e]
  rfl
theorem tm_setcp {al : Nat → Nat} {aC : Nat → ClassId} {x1 : Nat} {S : dm_S} {a : Nat} {f : Nat → Int32} {sp dp n : Nat} {E : va_E} (h1 : 1000 ≤ a) (h2 : a < dm_n S) (hE : tm_cell al aC x1 (tm_cp S a f sp dp n) a = E) : (tm_W al aC x1 S).set (193 + (a - 1000)) (dm_al al x1 a, E) = tm_W al aC x1 (tm_cp S a f sp dp n) := by
  apply List.ext_getElem?
  intro i
  have en : dm_n (tm_cp S a f sp dp n) = dm_n S := rfl
  by_cases hi : i < 193 + (dm_n S - 1000)
  · by_cases hia : i = 193 + (a - 1000)
    · have h9 := tm_get (al := al) (aC := aC) (x1 := x1) (S := tm_cp S a f sp dp n) h1 (by rw [en]; exact h2)
      rw [hE] at h9
      rw [hia] at hi ⊢
      rw [h9]
      exact List.getElem?_set_self (by rw [tm_Wl]; exact hi)
    · rw [List.getElem?_set_ne (Ne.symm hia)]
      by_cases hc : i < 193
      · rw [tm_getC hc, tm_getC hc]
        rfl
      · have e1 := tm_get (al := al) (aC := aC) (x1 := x1) (S := S) (a := 1000 + (i - 193)) (by omega) (by omega)
        have e2 := tm_get (al := al) (aC := aC) (x1 := x1) (S := tm_cp S a f sp dp n) (a := 1000 + (i - 193)) (by omega) (by rw [en]; omega)
        rw [show 193 + (1000 + (i - 193) - 1000) = i by omega] at e1 e2
        rw [e1, e2, tm_cell_cp (by omega)]
  · rw [List.getElem?_eq_none (by rw [List.length_set, tm_Wl]; omega), List.getElem?_eq_none (by rw [tm_Wl, en]; omega)]
set_option maxHeartbeats 8000000 in
theorem tm_inv_sound {al : Nat → Nat} {dC : Nat → ClassId} {dI : Nat → Nat → Nat} {aC : Nat → ClassId} {aV : Nat → Nat} {x0 x1 : Nat} {X : tm_X} {me N0 Z0 : Nat} {vO : Option Value} {SO : dm_S} {pc : Nat} {ins : Instr} {ρ : am_Lc} {st : List Value} {S : dm_S} {oC : am_Orc} {oD : dm_Orc} {k : Nat → am_Lc → List Value → dm_S → Option γ}
    (hme : me < 45) (C : tm_Cx p R s m args meth c al dC dI aC aV x0 x1 X me N0 Z0 SO) (hd : decode (tm_cc me) pc = .ok (ins, 3)) (hoC : am_OS l al dC dI aC aV oC) (hoD : tm_OS l al dC dI aC aV x0 x1 X oD)
    (hk : ∀ pc' ρ' st' S', k pc' ρ' st' S' = some g → tm_At p l e R s m args below meth c al dC dI aC x0 x1 me N0 Z0 vO SO pc' ρ' st' S')
    (sv ix : Nat) (hi : ins = .invokevirtual ix ∧ sv = 0 ∨ ins = .invokestatic ix ∧ sv = 1 ∨ ins = .invokespecial ix ∧ sv = 2) (hr : tm_inv me sv pc ix ρ st S oC oD k = some g) : tm_At p l e R s m args below meth c al dC dI aC x0 x1 me N0 Z0 vO SO pc ρ st S := by
  obtain ⟨hx, hb, hml, hown, hts, hlocks, hrt, hK, hF, hX, hR, hA, hsz, hN0, hnm⟩ := C
  intro hN hZ
  unfold tm_inv at hr
  have hRf : R.frames = tm_fr me := by rw [hR]; rfl
  have hRl : R.locals = tm_lo me := by rw [hR]; rfl
  have hRc : R.cells = dm_n SO - N0 := by rw [hR]; rfl
  have hRs : R.slots = dm_zz SO - Z0 := by rw [hR]; rfl
  have hx01 := hA.2
  have hn1 : 1000 ≤ dm_n S := Nat.le_trans hN0 hN
  have hT7 : (tm_tys aC)[7]? = some (aC 7, FieldType.byte) := rfl
  have hD : ∀ S', va_D (fun q => x0 ≤ q) (tm_W al aC x1 S') := fun S' => tm_VD hA
  cases hz : tm_lk me ix with
  | none => rw [hz] at hr; cases hr
  | some q =>
    obtain ⟨kd, mid⟩ := q
    rw [hz] at hr
    have hlok := tm_lk_spec hme hz
    by_cases h0 : kd = 0
    · subst h0
      have hlok : (decide (tm_own me = RL) && decide (am_mk 108 ix = some (0, mid))) = true := hlok
      rw [Bool.and_eq_true] at hlok
      have hoRL := of_decide_eq_true hlok.1
      have hmk := of_decide_eq_true hlok.2
      have hK := tm_K hK
      obtain ⟨m1, m2, m3⟩ := am_mk_spec hmk
      obtain ⟨n1, n2, n3, n4, -⟩ := am_md_spec m1
      rcases m3 with ⟨-, v1, v2, v3, v4, v5⟩ | ⟨q, -⟩ | ⟨q, -⟩
      rotate_left
      · exact absurd q (by decide)
      · exact absurd q (by decide)
      have hr : (bif Nat.beq sv 0 && dm_ct st (am_na mid) && Nat.ble (am_fr mid + 1) (tm_fr me) && Nat.ble (8 + (am_ml mid + 11) + am_lo mid) (tm_lo me) && !(Nat.beq (am_ow mid) 12) && !(Nat.blt mid 2) && am_rcv 0 mid (st.take (am_na mid)).reverse && (st.take (am_na mid)).all dm_lo1
        then oC γ mid (st.take (am_na mid)).reverse (dm_h S) (fun o h' => match o with
          | none => none
          | some v => bif dm_rv v then k (pc + 3) ρ (v.toList ++ st.drop (am_na mid)) (dm_sh S h') else none) else none) = some g := hr
      obtain ⟨h1, h2⟩ := am_bif hr
      simp only [Bool.and_eq_true, dm_ct] at h1
      obtain ⟨⟨⟨⟨⟨⟨⟨b1, b2a, b2b⟩, b3⟩, b4⟩, b5⟩, b6⟩, b7⟩, b8⟩ := h1
      have b1 := Nat.eq_of_beq_eq_true b1
      subst b1
      have b2a := Nat.le_of_ble_eq_true b2a
      have b2b := Nat.le_of_ble_eq_true b2b
      have b3 := Nat.le_of_ble_eq_true b3
      have b4 := Nat.le_of_ble_eq_true b4
      have b8' : (st.take (am_na mid)).reverse.all dm_lo1 = true := by rw [List.all_reverse]; exact b8
      generalize hasd : (st.take (am_na mid)).reverse = as at h2 b7 b8'
      generalize hresd : st.drop (am_na mid) = rest at h2 b2b
      have hst : st = as.reverse ++ rest := by rw [← hasd, ← hresd, List.reverse_reverse, List.take_append_drop]
      have hln : as.length = am_na mid := by rw [← hasd, List.length_reverse, List.length_take]; omega
      obtain ⟨o, h', hM, hback⟩ := hoC _ _ _ _ _ _ h2
      cases o with
      | none => cases hback
      | some v =>
        have hback : (bif dm_rv v then k (pc + 3) ρ (v.toList ++ rest) (dm_sh S h') else none) = some g := hback
        obtain ⟨hv, hback⟩ := am_bif hback
        have en : dm_n (dm_sh S h') = dm_n S := rfl
        have ez : dm_zz (dm_sh S h') = dm_zz S := rfl
        have q := hk _ _ _ _ hback (by rw [en]; exact hN) (by rw [ez]; exact hZ)
        rw [en, ez] at q
        obtain ⟨q1, q2, q3⟩ := q
        refine ⟨q1, q2, fun H locs ls hl hP hS => ?_⟩
        have hx0H : x0 ≤ H.size := by
          have := hS.1
          omega
        have hAs := tm_As hA hx0H
        have hPC := tm_PC hP
        have hPre : ∀ U : State, U.heap = H → s.WarmedH U.vm → va_Pc (as.map (am_rl al)) (fun U => U.heap.size = H.size ∧ am_B al dC dI aC (dm_h S) U ∧ am_Fx al aV (am_A al H.size) U U.heap) (as.map (am_rl al)).toArray U := fun U hU hW =>
          ⟨rfl, by rw [hU], ⟨by rw [hU]; exact hPC, va_K.moved hW.alike hK⟩, by rw [hU]; exact am_fx_kept hF hW hS.1 hS.2.1 (fun q _ z => hAs q z) (fun q z => hAs q z)⟩
        have hws : GoodIn am_AT (am_ws mid) := am_AT_sub (fun w hw => by
          rcases List.mem_cons.mp hw with rfl | hw
          · exact n1
          · exact hw)
        have hsum : 2 * (F0 m pc ls (st.map (am_rl (dm_al al x1)))).monitorRoom + ((rest.map (am_rl (dm_al al x1))).map fun v => v.category).sum ≤ 8 := by
          have e9 : (rest.map (am_rl (dm_al al x1))).map (fun v => v.category) = rest.map (fun v => v.category) := by
            rw [List.map_map]
            exact List.map_congr_left (fun v _ => am_rl_cat _ v)
          show 2 * 0 + _ ≤ 8
          rw [e9]
          omega
        obtain ⟨a, as', rfl, hrc⟩ := am_rcv_some b7
        have how : am_ow mid ≠ 12 := by
          intro z
          rw [z] at b5
          exact absurd b5 (by decide)
        have hiso : am_isO a (am_ow mid) = true := by
          rcases hrc with ⟨-, z⟩ | ⟨z, -⟩
          · exact z
          · exact absurd z how
        have hcell : ∃ cellB : Cell, H[al a]? = some cellB ∧ cellB.vm.isStatics = false ∧ s.vm.findClass (am_y mid).cls = some cellB.cls := by
          obtain ⟨g1, g2, g3, -⟩ := am_cell_o (al := al) (aC := aC) (h := dm_h S) hiso
          have he := am_W_get (al := al) (aC := aC) (h := dm_h S) g2
          rw [g1] at he
          have := va_recv hK hPC (am_cl_spec g3).2 he
          rw [n2]
          exact this
        rw [hoRL] at hown
        have hv1 : (Cond.methodLink RL ix (am_y mid)) ∈ am_AT := v1
        rcases hi with ⟨rfl, -⟩ | ⟨-, z⟩ | ⟨-, z⟩
        rotate_left
        · exact absurd z (by decide)
        · exact absurd z (by decide)
        have estk : st.map (am_rl (dm_al al x1)) = (as'.map (am_rl al)).reverse ++ .ref (al a) :: rest.map (am_rl (dm_al al x1)) := by
          have e8 := dm_all_lo (al := al) (x1 := x1) b8'
          rw [hst, List.map_append, List.map_reverse, e8]
          simp [am_rl]
        have hrun := vx_runV (p := p) (l := l) (e := e) (R := R) (below := below) (meth := meth) (locs := locs) (cells := dm_n S - N0) (slots := dm_zz S - Z0) (rest := rest.map (am_rl (dm_al al x1))) (g := F0 m pc ls (st.map (am_rl (dm_al al x1)))) (cc := tm_cc me) (nL := tm_ml me) (Ts := am_AT) (own := RL) (C := (am_y mid).cls) (bytes := am_cc mid) (maxL := am_ml mid) (ret := am_re mid) (ws := am_ws mid) (rm := am_rm mid (some v)) (n := am_na mid - 1) (index := ix) (As := as'.map (am_rl al)) (b := al a) ⟨hx, hb, hml, hown, hts⟩ (hM H.size)
          (cwV _ hts (fun w hw => by
            rcases List.mem_append.mp hw with hw | hw
            · simp only [List.mem_cons, List.not_mem_nil, or_false] at hw
              rcases hw with rfl | rfl | rfl | rfl
              · exact ⟨hv1, am_AT_good hv1⟩
              · exact ⟨v2, am_AT_good v2⟩
              · exact ⟨v3, am_AT_good v3⟩
              · exact ⟨m2, am_AT_good m2⟩
            · exact hws w hw) rfl rfl rfl ⟨rfl, n3, n4, v5⟩ ⟨by rw [hRf]; exact b3, by rw [hRl]; exact b4⟩) ⟨am_blind, hcell, hPre⟩ rfl (by rw [List.length_map]; rw [List.length_cons] at hln; omega) hl.1 estk hsum hd (by rw [hRc, hRs]; show dm_n S - N0 + 0 ≤ _ ∧ dm_zz S - Z0 + 0 ≤ _; omega)
        intro T hT X
        rcases hrun T hT X with ⟨w2, st₀, t, T', L, h00, X', hL, e1, e2, ⟨v', z1, z2, ⟨z3, z4⟩, z5⟩, stp⟩ | ⟨q9, st₀, t, T', L, E, ce, h00, X', hL, e1, e2, ⟨z1, -⟩, hce, hcv, hcl, stp⟩
        · obtain ⟨k1, k2, k3⟩ := vx_keep (A0 := fun q => x0 ≤ q) h00 e1 hS (fun q _ z => hAs q z) (fun q z => hAs q z) hL z5
          cases z1
          cases Outcome.returned.inj z2
          have hP9 := tm_PJ hA hP (by rw [e1]; exact z3) k2
          have q4 := q3 T'.heap (locs ++ L) ls hl hP9 k3
          have e7 : (v.toList ++ rest).map (am_rl (dm_al al x1)) = (v.map (am_rl al)).toList ++ rest.map (am_rl (dm_al al x1)) := by
            rw [List.map_append, ← dm_rl_rv (al := al) (x1 := x1) hv]
            cases v <;> rfl
          rw [e7] at q4
          obtain ⟨t2, a1, b1⟩ := q4 T' rfl X'
          exact ⟨t2, stp t2 a1, b1⟩
        · cases z1
    by_cases h6 : kd = 6
    · subst h6
      have hlok : (dm_inT (.methodLink (tm_own me) ix tm_oi) && dm_inT (.instanceMethod tm_oi)) = true := hlok
      rw [Bool.and_eq_true] at hlok
      have hr : (bif Nat.beq sv 2 && Nat.ble 1 (tm_fr me) && Nat.ble 20 (tm_lo me) then am_sa st (fun a r => bif r.isEmpty && (dm_ok S 5 a || dm_ok S 6 a) then k (pc + 3) ρ r S else none) else none) = some g := hr
      obtain ⟨h1, h2⟩ := am_bif hr
      rw [Bool.and_eq_true, Bool.and_eq_true] at h1
      cases Nat.eq_of_beq_eq_true h1.1.1
      have b2 := Nat.le_of_ble_eq_true h1.1.2
      have b3 := Nat.le_of_ble_eq_true h1.2
      obtain ⟨a, r, rfl, h3⟩ := am_sa_some h2
      obtain ⟨h4, h5⟩ := am_bif h3
      rw [Bool.and_eq_true] at h4
      cases List.isEmpty_iff.mp h4.1
      have q := hk _ _ _ _ h5 hN hZ
      rcases hi with ⟨-, z⟩ | ⟨-, z⟩ | ⟨rfl, -⟩
      · exact absurd z (by decide)
      · exact absurd z (by decide)
      exact ⟨q.1, q.2.1, fun H locs ls hl hP hS => W.objInit hx hb hown (hts _ (dm_inT_spec hlok.1)) (hts _ (dm_inT_spec hlok.2)) (hts _ tm_oiw) rfl (hl.1.trans hml.symm) rfl hd (by rw [hRf]; exact b2) (by rw [hRl]; show 2 * 0 + 0 + 12 ≤ tm_lo me; omega) (q.2.2 H locs ls hl hP hS)⟩
    by_cases h7 : kd = 7
    · subst h7
      have hlok : (dm_inT (.methodLink (tm_own me) ix tm_acn) && dm_inT (.native tm_acn) && dm_inT (.static tm_acn) && dm_inT (.initialized "java/lang/System")) = true := hlok
      simp only [Bool.and_eq_true] at hlok
      obtain ⟨⟨⟨w1, w2⟩, w3⟩, w4⟩ := hlok
      have hr : (bif Nat.beq sv 1 && Nat.ble 1 (tm_fr me) && Nat.ble 40 (tm_lo me) then tm_ac st (fun n dp a sp b r => if n < 0 then none else if dp < 0 then none else if sp < 0 then none else
        bif r.isEmpty && dm_ok S 4 a && Nat.ble (dp.toNatClampNeg + n.toNatClampNeg) (dm_len S a) then
          (bif tm_cb b then (bif Nat.ble (sp.toNatClampNeg + n.toNatClampNeg) (tm_sl (b - 920)) then k (pc + 3) ρ r (tm_cp S a (tm_sb (b - 920)) sp.toNatClampNeg dp.toNatClampNeg n.toNatClampNeg) else none)
          else bif dm_ok S 4 b && Nat.ble (sp.toNatClampNeg + n.toNatClampNeg) (dm_len S b) then k (pc + 3) ρ r (tm_cp S a (dm_g S b) sp.toNatClampNeg dp.toNatClampNeg n.toNatClampNeg) else none) else none) else none) = some g := hr
      obtain ⟨h1, h2⟩ := am_bif hr
      rw [Bool.and_eq_true, Bool.and_eq_true] at h1
      cases Nat.eq_of_beq_eq_true h1.1.1
      have b2 := Nat.le_of_ble_eq_true h1.1.2
      have b3 := Nat.le_of_ble_eq_true h1.2
      obtain ⟨n, dp, a, sp, b, r, rfl, h3⟩ := tm_ac_some h2
      obtain ⟨c1, h3⟩ := dm_if0 h3
      obtain ⟨c2, h3⟩ := dm_if0 h3
      obtain ⟨c3, h3⟩ := dm_if0 h3
      obtain ⟨h4, h5⟩ := am_bif h3
      rw [Bool.and_eq_true, Bool.and_eq_true] at h4
      cases List.isEmpty_iff.mp h4.1.1
      obtain ⟨k1, k2, k3⟩ := dm_ok_s h4.1.2
      have c4 := Nat.le_of_ble_eq_true h4.2
      have he := tm_get (al := al) (aC := aC) (x1 := x1) k2 k3
      rw [tm_c4 k1] at he
      rcases hi with ⟨-, z⟩ | ⟨rfl, -⟩ | ⟨-, z⟩
      · exact absurd z (by decide)
      rotate_left
      · exact absurd z (by decide)
      have hfr : 1 ≤ R.frames := by rw [hRf]; exact b2
      have hnw : nativeFrameWords "java/lang/System" "arraycopy" 5 + 11 ≤ 40 := by decide
      have hlo : ((([] : List Value).map (am_rl (dm_al al x1))).map fun v => v.category).sum + (nativeFrameWords "java/lang/System" "arraycopy" 5 + 11) ≤ R.locals := by rw [hRl]; show 0 + _ ≤ _; omega
      have fin : ∀ (f : Nat → Int32) (H : Heap) (H1 : Heap) (locs1 : List Loc) (ls : Array Slot), (∀ i, f i = f i) → lv_has ls (tm_ml me) (am_rls (dm_al al x1) ρ) → k (pc + 3) ρ [] (tm_cp S a f sp.toNatClampNeg dp.toNatClampNeg n.toNatClampNeg) = some g →
          va_P (dC, dI) vwCl ((tm_W al aC x1 S).set (193 + (a - 1000)) (dm_al al x1 a, .inl (aC 7, dm_len S a, .inl (va_cpy (fun j => tm_b (f j)) (fun j => tm_b (dm_g S a j)) sp.toNatClampNeg dp.toNatClampNeg n.toNatClampNeg)))) H1 → va_S (fun q => x0 ≤ q) s.heap H1 locs1 →
          W p l e R s m args below meth c H1 locs1 (dm_n S - N0) (dm_zz S - Z0) (MQ below (tm_Q al dC dI aC x0 x1 vO SO) args s (dm_n SO - N0) (dm_zz SO - Z0) (fun q => x0 ≤ q)) (F0 m (pc + 3) ls []) := by
        intro f H H1 locs1 ls _ hl hkk hP1 hS1
        have q := hk _ _ _ _ hkk hN hZ
        have e2 : va_cpy (fun j => tm_b (f j)) (fun j => tm_b (dm_g S a j)) sp.toNatClampNeg dp.toNatClampNeg n.toNatClampNeg = fun j => tm_b (dm_g (tm_cp S a f sp.toNatClampNeg dp.toNatClampNeg n.toNatClampNeg) a j) := by
          funext j
          show (if dp.toNatClampNeg ≤ j ∧ j < dp.toNatClampNeg + n.toNatClampNeg then tm_b (f (sp.toNatClampNeg + (j - dp.toNatClampNeg))) else tm_b (dm_g S a j)) = tm_b (if a = a ∧ dp.toNatClampNeg ≤ j ∧ j < dp.toNatClampNeg + n.toNatClampNeg then f (sp.toNatClampNeg + (j - dp.toNatClampNeg)) else dm_g S a j)
          by_cases c9 : dp.toNatClampNeg ≤ j ∧ j < dp.toNatClampNeg + n.toNatClampNeg
          · rw [if_pos c9, if_pos ⟨rfl, c9⟩]
          · rw [if_neg c9, if_neg (fun z => c9 z.2)]
        rw [e2, ← show dm_len (tm_cp S a f sp.toNatClampNeg dp.toNatClampNeg n.toNatClampNeg) a = dm_len S a from rfl, ← tm_c4 (al := al) (x1 := x1) (S := tm_cp S a f sp.toNatClampNeg dp.toNatClampNeg n.toNatClampNeg) (a := a) k1, tm_setcp k2 k3 rfl] at hP1
        exact q.2.2 H1 _ ls hl hP1 hS1
      rcases tm_ifR h5 with ⟨h6, h7⟩ | ⟨h6, h7⟩
      · obtain ⟨i, hi8, rfl⟩ := tm_cb_s h6
        obtain ⟨h8, h9⟩ := am_bif h7
        rw [Nat.add_sub_cancel_left] at h8 h9
        have c5 := Nat.le_of_ble_eq_true h8
        have q := hk _ _ _ _ h9 hN hZ
        refine ⟨q.1, q.2.1, fun H locs ls hl hP hS => ?_⟩
        have e8 : dm_al al x1 (920 + i) = al (920 + i) := dm_al_lo (by omega)
        show W p l e R s m args below meth c H locs _ _ _ (F0 m pc ls (.int n :: .int dp :: .ref (dm_al al x1 a) :: .int sp :: .ref (dm_al al x1 (920 + i)) :: []))
        rw [e8]
        refine vk_copyt hx hb (hml.trans hl.1.symm) hown (hts _ (dm_inT_spec w1)) (hts _ (dm_inT_spec w2)) (hts _ (dm_inT_spec w3)) (hts _ (dm_inT_spec w4)) hK hP (hD _) hS (hX.1.1 i hi8).2.2.2 _ 7 he hT7 c3 c2 c1 c5 c4 (fun i9 _ => tm_sbf i hi8 _) hfr hlo hd (fun H1 locs1 hP1 _ hS1 => ?_)
        refine fin (tm_sb i) H H1 locs1 ls (fun _ => rfl) hl h9 ?_ hS1
        have e7 : (fun j => tm_b (tm_sb i j)) = fun j => (tm_sbL.getD i []).getD j 0 := funext fun j => tm_sbb i hi8 j
        rw [e7]
        exact hP1
      · obtain ⟨h8, h9⟩ := am_bif h7
        rw [Bool.and_eq_true] at h8
        obtain ⟨j1, j2, j3⟩ := dm_ok_s h8.1
        have c5 := Nat.le_of_ble_eq_true h8.2
        have he2 := tm_get (al := al) (aC := aC) (x1 := x1) j2 j3
        rw [tm_c4 j1] at he2
        have q := hk _ _ _ _ h9 hN hZ
        refine ⟨q.1, q.2.1, fun H locs ls hl hP hS => ?_⟩
        refine va_copyi hx hb (hml.trans hl.1.symm) hown (hts _ (dm_inT_spec w1)) (hts _ (dm_inT_spec w2)) (hts _ (dm_inT_spec w3)) (hts _ (dm_inT_spec w4)) hK hP (hD _) hS _ _ 7 7 he2 he hT7 hT7 rfl c3 c2 c1 c5 c4 (fun i9 _ => tm_fb _) hfr hlo hd (fun H1 locs1 hP1 _ hS1 => ?_)
        exact fin (dm_g S b) H H1 locs1 ls (fun _ => rfl) hl h9 hP1 hS1
    by_cases h8 : kd = 8
    · subst h8
      have hlok : (dm_inT (.methodLink (tm_own me) ix tm_bcl) && dm_inT (.sameMethod "[B" "java/lang/Object" "clone" "()Ljava/lang/Object;") && dm_inT (.native tm_ocl) && dm_inT (.instanceMethod tm_ocl) && dm_inT (.selects "[B" tm_bcl tm_ocl)) = true := hlok
      simp only [Bool.and_eq_true] at hlok
      obtain ⟨⟨⟨⟨w1, w2⟩, w3⟩, w4⟩, w5⟩ := hlok
      have hr : (bif Nat.beq sv 0 && Nat.ble 1 (tm_fr me) && Nat.ble 40 (tm_lo me) then am_sa st (fun a r => bif r.isEmpty && dm_ok S 4 a && Nat.blt (dm_n S + 2000) dm_bg then k (pc + 3) ρ (.ref (dm_n S) :: r) (dm_nw S (4, 7, dm_len S a) (dm_g S a) (dm_len S a)) else none) else none) = some g := hr
      obtain ⟨h1, h2⟩ := am_bif hr
      rw [Bool.and_eq_true, Bool.and_eq_true] at h1
      cases Nat.eq_of_beq_eq_true h1.1.1
      have b2 := Nat.le_of_ble_eq_true h1.1.2
      have b3 := Nat.le_of_ble_eq_true h1.2
      obtain ⟨a, r, rfl, h3⟩ := am_sa_some h2
      obtain ⟨h4, h5⟩ := am_bif h3
      rw [Bool.and_eq_true, Bool.and_eq_true] at h4
      cases List.isEmpty_iff.mp h4.1.1
      obtain ⟨k1, k2, k3⟩ := dm_ok_s h4.1.2
      have he := tm_get (al := al) (aC := aC) (x1 := x1) k2 k3
      rw [tm_c4 k1] at he
      rcases hi with ⟨rfl, -⟩ | ⟨-, z⟩ | ⟨-, z⟩
      rotate_left
      · exact absurd z (by decide)
      · exact absurd z (by decide)
      have en : dm_n (dm_nw S (4, 7, dm_len S a) (dm_g S a) (dm_len S a)) = dm_n S + 1 := rfl
      have ez : dm_zz (dm_nw S (4, 7, dm_len S a) (dm_g S a) (dm_len S a)) = dm_zz S + dm_len S a := rfl
      have q := hk _ _ _ _ h5 (by rw [en]; omega) (by rw [ez]; omega)
      rw [en, ez] at q
      refine ⟨by omega, by omega, fun H locs ls hl hP hS => ?_⟩
      refine tm_szW hP hS hsz hN0 hN rfl (fun hHz => ?_)
      have hnm7 : s.vm.findClass "[B" = some (aC 7) := by
        have h9 : va_RA s (aC 7) .byte := (hK.2 7 _ hT7).2
        exact h9
      refine tm_cloneK (ad := "[B") (x := (dm_len S a, .inl (fun j => tm_b (dm_g S a j)))) hx hb (hml.trans hl.1.symm) hown (hts _ (dm_inT_spec w1)) (hts _ (dm_inT_spec w2)) (hts _ (dm_inT_spec w3)) (hts _ (dm_inT_spec w4)) (hts _ (dm_inT_spec w5)) hX.2.2.2.2.2.2.2.2.2 hK hP _ 7 he hT7 hnm7 (fun i v hv => tm_fitb hv tm_fb) (by rw [hRf]; exact b2) (by rw [hRl]; show 0 + 14 ≤ _; omega) (by rw [hRc]; omega) (by rw [hRs]; show dm_zz S - Z0 + dm_len S a ≤ _; omega) hd (fun H1 z1 o1 e1 => ?_)
      have ek : (dm_k (dm_nw S (4, 7, dm_len S a) (dm_g S a) (dm_len S a)) (dm_n S)) = (4, 7, dm_len S a) := if_pos rfl
      have eg : (dm_g (dm_nw S (4, 7, dm_len S a) (dm_g S a) (dm_len S a)) (dm_n S)) = dm_g S a := by
        funext j
        exact if_pos rfl
      rw [hHz] at z1 e1 o1 ⊢
      refine tm_newW (kd := (4, 7, dm_len S a)) (f := dm_g S a) (z := dm_len S a) (E := .inl (aC 7, dm_len S a, .inl (fun j => tm_b (dm_g S a j)))) hn1 hN hZ hP hS hHz ?_ z1 o1 (fun kk q9 hkk => ?_) q.2.2 hl
      · have el : dm_len (dm_nw S (4, 7, dm_len S a) (dm_g S a) (dm_len S a)) (dm_n S) = dm_len S a := by
          show (dm_k (dm_nw S (4, 7, dm_len S a) (dm_g S a) (dm_len S a)) (dm_n S)).2.2 = _
          rw [ek]
        rw [tm_c4 (by rw [ek]), el, eg]
      · have hz9 : kk < 1 := (List.getElem?_eq_some_iff.mp hkk).1
        rw [show kk = 0 by omega] at hkk
        rw [← Option.some.inj hkk]
        exact e1
    simp only [tm_beq_f h0, tm_beq_f h6, tm_beq_f h7, tm_beq_f h8, cond_false] at hr
    exact tm_own_sound hme ⟨hx, hb, hml, hown, hts, hlocks, hrt, hK, hF, hX, hR, hA, hsz, hN0, hnm⟩ hd hoD hk sv ix kd mid hi hz h0 h6 h7 h8 hr hN hZ
end TM6
