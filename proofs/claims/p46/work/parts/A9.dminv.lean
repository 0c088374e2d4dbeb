section DM9
variable {p : Program} {l : Launch} {e : Env} {R : Room} {s : State} {m : MethodId} {args : Array Value} {below : List Frame} {meth : Method} {c : Code}
variable {γ : Type} {g : γ}
theorem dm_all_lo {as : List Value} {al : Nat → Nat} {x1 : Nat} (h : as.all dm_lo1 = true) : as.map (am_rl (dm_al al x1)) = as.map (am_rl al) :=
  List.map_congr_left (fun v hv => dm_rl_lo (List.all_eq_true.mp h v hv))
theorem dm_rcv_some {S : dm_S} {as : List Value} (h : dm_rcv S as = true) : ∃ a as', as = .ref a :: as' ∧ dm_ok S 1 a = true := by
  cases as with
  | nil => exact absurd (show false = true from h) (by decide)
  | cons v as' =>
    cases v
    case ref a => exact ⟨a, as', rfl, h⟩
    all_goals exact absurd (show false = true from h) (by decide)
theorem dm_wsG {mid : Nat} (h : mid < 10) : GoodIn am_AT (dm_ws mid) := am_AT_sub (fun w hw => by
  rcases List.mem_cons.mp hw with rfl | hw
  · exact (dm_md_spec h).1
  · exact hw)
set_option maxHeartbeats 8000000 in
theorem dm_inv_sound {al : Nat → Nat} {dC : Nat → ClassId} {dI : Nat → Nat → Nat} {aC : Nat → ClassId} {aV : Nat → Nat} {x0 x1 me N0 Z0 : Nat} {vO : Option Value} {SO : dm_S} {pc : Nat} {ins : Instr} {ρ : am_Lc} {st : List Value} {S : dm_S} {oC : am_Orc} {oD : dm_Orc} {k : Nat → am_Lc → List Value → dm_S → Option γ}
    (C : dm_Cx p R s m args meth c al dC dI aC aV x0 x1 me N0 Z0 SO) (hd : decode (dm_cc me) pc = .ok (ins, 3)) (hoC : am_OS l al dC dI aC aV oC) (hoD : dm_OS l al dC dI aC aV x0 x1 oD)
    (hk : ∀ pc' ρ' st' S', k pc' ρ' st' S' = some g → dm_At p l e R s m args below meth c al dC dI aC x0 x1 me N0 Z0 vO SO pc' ρ' st' S')
    (sv ix : Nat) (hi : ins = .invokevirtual ix ∧ sv = 0 ∨ ins = .invokestatic ix ∧ sv = 1) (hr : dm_inv me sv pc ix ρ st S oC oD k = some g) : dm_At p l e R s m args below meth c al dC dI aC x0 x1 me N0 Z0 vO SO pc ρ st S := by
  obtain ⟨hx, hb, hml, hown, hts, hlocks, hrt, hK, hF, hNB, hR, hA, hsz, hN0⟩ := C
  intro hN hZ
  unfold dm_inv at hr
  have hRf : R.frames = dm_fr me := by rw [hR]; rfl
  have hRl : R.locals = dm_lo me := by rw [hR]; rfl
  have hRc : R.cells = dm_n SO - N0 := by rw [hR]; rfl
  have hRs : R.slots = dm_zz SO - Z0 := by rw [hR]; rfl
  have hx01 := hA.2
  cases hz : dm_mk me ix with
  | none => rw [hz] at hr; cases hr
  | some q =>
    obtain ⟨kd, mid⟩ := q
    rw [hz] at hr
    have hr : (bif Nat.beq kd 4 then (bif Nat.beq sv 1 && Nat.ble st.length 6 && Nat.ble 1 (dm_fr me) && Nat.ble 21 (dm_lo me) then am_s2 st (fun x y r => k (pc + 3) ρ (.int (if x < y then y else x) :: r) S) else none)
      else bif Nat.beq kd 0 then (bif Nat.beq sv 0 && dm_ct st (am_na mid) && Nat.ble (am_fr mid + 1) (dm_fr me) && Nat.ble (8 + (am_ml mid + 11) + am_lo mid) (dm_lo me) && !(Nat.beq (am_ow mid) 12) && !(Nat.blt mid 2) && am_rcv 0 mid (st.take (am_na mid)).reverse && (st.take (am_na mid)).all dm_lo1
        then oC γ mid (st.take (am_na mid)).reverse (dm_h S) (fun o h' => match o with
          | none => none
          | some v => bif dm_rv v then k (pc + 3) ρ (v.toList ++ st.drop (am_na mid)) (dm_sh S h') else none) else none)
      else (bif Nat.beq sv (bif Nat.beq kd 3 then 1 else 0) && dm_ct st (dm_na mid) && Nat.ble (dm_fr mid + 1) (dm_fr me) && Nat.ble (8 + (dm_ml mid + 11) + dm_lo mid) (dm_lo me) && (Nat.beq kd 3 || dm_rcv S (st.take (dm_na mid)).reverse)
        then oD γ mid (st.take (dm_na mid)).reverse S (fun v S' => k (pc + 3) ρ (v.toList ++ st.drop (dm_na mid)) S') else none)) = some g := hr
    rcases dm_mk_spec hz with ⟨rfl, h6, hmk⟩ | ⟨rfl, h6, hmk⟩ | ⟨hkd, hmid, hlk, win, wsel, wini, wds, wna⟩ | ⟨rfl, hmid, h6, wlk, wst, wini, wds⟩
    · -- the class's own
      obtain ⟨m1, m2, m3⟩ := am_mk_spec hmk
      obtain ⟨n1, n2, n3, n4, -⟩ := am_md_spec m1
      rcases m3 with ⟨-, v1, v2, v3, v4, v5⟩ | ⟨q, -⟩ | ⟨q, -⟩
      rotate_left
      · exact absurd q (by decide)
      · exact absurd q (by decide)
      have hr : (bif Nat.beq sv 0 && dm_ct st (am_na mid) && Nat.ble (am_fr mid + 1) (dm_fr me) && Nat.ble (8 + (am_ml mid + 11) + am_lo mid) (dm_lo me) && !(Nat.beq (am_ow mid) 12) && !(Nat.blt mid 2) && am_rcv 0 mid (st.take (am_na mid)).reverse && (st.take (am_na mid)).all dm_lo1
        then oC γ mid (st.take (am_na mid)).reverse (dm_h S) (fun o h' => match o with
          | none => none
          | some v => bif dm_rv v then k (pc + 3) ρ (v.toList ++ st.drop (am_na mid)) (dm_sh S h') else none) else none) = some g := hr
      obtain ⟨h1, h2⟩ := am_bif hr
      simp only [Bool.and_eq_true, dm_ct] at h1
      obtain ⟨⟨⟨⟨⟨⟨⟨b1, b2a, b2b⟩, b3⟩, b4⟩, b5⟩, b6⟩, b7⟩, b8⟩ := h1
      have b1 := Nat.eq_of_beq_eq_true b1
      subst b1
      have b2a := Nat.le_of_ble_eq_true b2a
      have b2b := Nat.le_of_ble_eq_true b2b
      have b3 := Nat.le_of_ble_eq_true b3
      have b4 := Nat.le_of_ble_eq_true b4
      have b8' : (st.take (am_na mid)).reverse.all dm_lo1 = true := by rw [List.all_reverse]; exact b8
      generalize hasd : (st.take (am_na mid)).reverse = as at h2 b7 b8'
      generalize hresd : st.drop (am_na mid) = rest at h2 b2b
      have hst : st = as.reverse ++ rest := by rw [← hasd, ← hresd, List.reverse_reverse, List.take_append_drop]
      have hln : as.length = am_na mid := by rw [← hasd, List.length_reverse, List.length_take]; omega
      obtain ⟨o, h', hM, hback⟩ := hoC _ _ _ _ _ _ h2
      cases o with
      | none => cases hback
      | some v =>
        have hback : (bif dm_rv v then k (pc + 3) ρ (v.toList ++ rest) (dm_sh S h') else none) = some g := hback
        obtain ⟨hv, hback⟩ := am_bif hback
        have en : dm_n (dm_sh S h') = dm_n S := rfl
        have ez : dm_zz (dm_sh S h') = dm_zz S := rfl
        have q := hk _ _ _ _ hback (by rw [en]; exact hN) (by rw [ez]; exact hZ)
        rw [en, ez] at q
        obtain ⟨q1, q2, q3⟩ := q
        refine ⟨q1, q2, fun H locs ls hl hP hS => ?_⟩
        have hx0H : x0 ≤ H.size := by
          have := hS.1
          omega
        have hAs := dm_As hA hx0H
        have hPC := dm_PC hP
        have hPre : ∀ U : State, U.heap = H → s.WarmedH U.vm → va_Pc (as.map (am_rl al)) (fun U => U.heap.size = H.size ∧ am_B al dC dI aC (dm_h S) U ∧ am_Fx al aV (am_A al H.size) U U.heap) (as.map (am_rl al)).toArray U := fun U hU hW =>
          ⟨rfl, by rw [hU], ⟨by rw [hU]; exact hPC, va_K.moved hW.alike hK⟩, by rw [hU]; exact am_fx_kept hF hW hS.1 hS.2.1 (fun q _ z => hAs q z) (fun q z => hAs q z)⟩
        have hws : GoodIn am_AT (am_ws mid) := am_AT_sub (fun w hw => by
          rcases List.mem_cons.mp hw with rfl | hw
          · exact n1
          · exact hw)
        have hsum : 2 * (F0 m pc ls (st.map (am_rl (dm_al al x1)))).monitorRoom + ((rest.map (am_rl (dm_al al x1))).map fun v => v.category).sum ≤ 8 := by
          have e9 : (rest.map (am_rl (dm_al al x1))).map (fun v => v.category) = rest.map (fun v => v.category) := by
            rw [List.map_map]
            exact List.map_congr_left (fun v _ => am_rl_cat _ v)
          show 2 * 0 + _ ≤ 8
          rw [e9]
          omega
        obtain ⟨a, as', rfl, hrc⟩ := am_rcv_some b7
        have how : am_ow mid ≠ 12 := by
          intro z
          rw [z] at b5
          exact absurd b5 (by decide)
        have hiso : am_isO a (am_ow mid) = true := by
          rcases hrc with ⟨-, z⟩ | ⟨z, -⟩
          · exact z
          · exact absurd z how
        have hcell : ∃ cellB : Cell, H[al a]? = some cellB ∧ cellB.vm.isStatics = false ∧ s.vm.findClass (am_y mid).cls = some cellB.cls := by
          obtain ⟨g1, g2, g3, -⟩ := am_cell_o (al := al) (aC := aC) (h := dm_h S) hiso
          have he := am_W_get (al := al) (aC := aC) (h := dm_h S) g2
          rw [g1] at he
          have := va_recv hK hPC (am_cl_spec g3).2 he
          rw [n2]
          exact this
        rw [dm_own_b h6] at hown
        have hv1 : (Cond.methodLink RL ix (am_y mid)) ∈ am_AT := v1
        rcases hi with ⟨rfl, -⟩ | ⟨-, z⟩
        rotate_left
        · exact absurd z (by decide)
        have estk : st.map (am_rl (dm_al al x1)) = (as'.map (am_rl al)).reverse ++ .ref (al a) :: rest.map (am_rl (dm_al al x1)) := by
          have e8 := dm_all_lo (al := al) (x1 := x1) b8'
          rw [hst, List.map_append, List.map_reverse, e8]
          simp [am_rl]
        have hrun := vx_runV (p := p) (l := l) (e := e) (R := R) (below := below) (meth := meth) (locs := locs) (cells := dm_n S - N0) (slots := dm_zz S - Z0) (rest := rest.map (am_rl (dm_al al x1))) (g := F0 m pc ls (st.map (am_rl (dm_al al x1)))) (cc := dm_cc me) (nL := dm_ml me) (Ts := am_AT) (own := RL) (C := (am_y mid).cls) (bytes := am_cc mid) (maxL := am_ml mid) (ret := am_re mid) (ws := am_ws mid) (rm := am_rm mid (some v)) (n := am_na mid - 1) (index := ix) (As := as'.map (am_rl al)) (b := al a) ⟨hx, hb, hml, hown, hts⟩ (hM H.size)
          (cwV _ hts (fun w hw => by
            rcases List.mem_append.mp hw with hw | hw
            · simp only [List.mem_cons, List.not_mem_nil, or_false] at hw
              rcases hw with rfl | rfl | rfl | rfl
              · exact ⟨hv1, am_AT_good hv1⟩
              · exact ⟨v2, am_AT_good v2⟩
              · exact ⟨v3, am_AT_good v3⟩
              · exact ⟨m2, am_AT_good m2⟩
            · exact hws w hw) rfl rfl rfl ⟨rfl, n3, n4, v5⟩ ⟨by rw [hRf]; exact b3, by rw [hRl]; exact b4⟩) ⟨am_blind, hcell, hPre⟩ rfl (by rw [List.length_map]; rw [List.length_cons] at hln; omega) hl.1 estk hsum hd (by rw [hRc, hRs]; show dm_n S - N0 + 0 ≤ _ ∧ dm_zz S - Z0 + 0 ≤ _; omega)
        intro T hT X
        rcases hrun T hT X with ⟨w2, st₀, t, T', L, h00, X', hL, e1, e2, ⟨v', z1, z2, ⟨z3, z4⟩, z5⟩, stp⟩ | ⟨q9, st₀, t, T', L, E, ce, h00, X', hL, e1, e2, ⟨z1, -⟩, hce, hcv, hcl, stp⟩
        · obtain ⟨k1, k2, k3⟩ := vx_keep (A0 := fun q => x0 ≤ q) h00 e1 hS (fun q _ z => hAs q z) (fun q z => hAs q z) hL z5
          cases z1
          cases Outcome.returned.inj z2
          have hP9 := dm_PJ hA hP (by rw [e1]; exact z3) k2
          have q4 := q3 T'.heap (locs ++ L) ls hl hP9 k3
          have e7 : (v.toList ++ rest).map (am_rl (dm_al al x1)) = (v.map (am_rl al)).toList ++ rest.map (am_rl (dm_al al x1)) := by
            rw [List.map_append, ← dm_rl_rv (al := al) (x1 := x1) hv]
            cases v <;> rfl
          rw [e7] at q4
          obtain ⟨t2, a1, b1⟩ := q4 T' rfl X'
          exact ⟨t2, stp t2 a1, b1⟩
        · cases z1
    · -- Math.max
      obtain ⟨m1, m2, m3⟩ := am_mk_spec hmk
      obtain ⟨n1, n2, n3, n4, -⟩ := am_md_spec (m := 0) (by decide)
      have hr : (bif Nat.beq sv 1 && Nat.ble st.length 6 && Nat.ble 1 (dm_fr me) && Nat.ble 21 (dm_lo me) then am_s2 st (fun x y r => k (pc + 3) ρ (.int (if x < y then y else x) :: r) S) else none) = some g := hr
      obtain ⟨h1, h2⟩ := am_bif hr
      simp only [Bool.and_eq_true] at h1
      obtain ⟨⟨⟨h1, h11⟩, h12⟩, h13⟩ := h1
      have b1 := Nat.eq_of_beq_eq_true h1
      subst b1
      have h12 := Nat.le_of_ble_eq_true h12
      have h13 := Nat.le_of_ble_eq_true h13
      obtain ⟨x, y, r, rfl, h3⟩ := am_s2_some h2
      rcases hi with ⟨-, z⟩ | ⟨rfl, -⟩
      · exact absurd z (by decide)
      rcases m3 with ⟨q, -⟩ | ⟨-, w1, w2, -⟩ | ⟨q, -⟩
      · exact absurd q (by decide)
      · have q := hk _ _ _ _ h3 hN hZ
        refine ⟨q.1, q.2.1, fun H locs ls hl hP hS => ?_⟩
        have hr4 : r.length ≤ 4 := by have := Nat.le_of_ble_eq_true h11; simp only [List.length_cons] at this; omega
        have hs4 := am_sum (al := dm_al al x1) r
        rw [dm_own_b h6] at hown
        exact va_mmax hx hb (hml.trans hl.1.symm) hown (hts _ w1) (hts _ w2) (hts _ m2) (hts _ (am_mmax_c ▸ n1)) (by rw [hRf]; omega) (by rw [hRl]; omega) (by rw [hRc]; omega) (by rw [hRs]; omega) hd (q.2.2 H locs ls hl hP hS)
      · exact absurd q (by decide)
    · -- a screen's
      have hk40 : Nat.beq kd 4 = false := by rcases hkd with rfl | rfl <;> rfl
      have hk00 : Nat.beq kd 0 = false := by rcases hkd with rfl | rfl <;> rfl
      have hk30 : Nat.beq kd 3 = false := by rcases hkd with rfl | rfl <;> rfl
      rw [hk40, hk00, hk30] at hr
      have hr : (bif Nat.beq sv 0 && dm_ct st (dm_na mid) && Nat.ble (dm_fr mid + 1) (dm_fr me) && Nat.ble (8 + (dm_ml mid + 11) + dm_lo mid) (dm_lo me) && (false || dm_rcv S (st.take (dm_na mid)).reverse)
        then oD γ mid (st.take (dm_na mid)).reverse S (fun v S' => k (pc + 3) ρ (v.toList ++ st.drop (dm_na mid)) S') else none) = some g := hr
      obtain ⟨h1, h2⟩ := am_bif hr
      simp only [Bool.and_eq_true, dm_ct, Bool.false_or] at h1
      obtain ⟨⟨⟨⟨b1, b2a, b2b⟩, b3⟩, b4⟩, b5⟩ := h1
      have b1 := Nat.eq_of_beq_eq_true b1
      subst b1
      have b2a := Nat.le_of_ble_eq_true b2a
      have b2b := Nat.le_of_ble_eq_true b2b
      have b3 := Nat.le_of_ble_eq_true b3
      have b4 := Nat.le_of_ble_eq_true b4
      generalize hasd : (st.take (dm_na mid)).reverse = as at h2 b5
      generalize hresd : st.drop (dm_na mid) = rest at h2 b2b
      have hst : st = as.reverse ++ rest := by rw [← hasd, ← hresd, List.reverse_reverse, List.take_append_drop]
      have hln : as.length = dm_na mid := by rw [← hasd, List.length_reverse, List.length_take]; omega
      obtain ⟨v, S', hM, hback⟩ := hoD _ _ _ _ _ _ h2
      obtain ⟨f1, f2, hM⟩ := hM (by omega)
      have q := hk _ _ _ _ hback (by omega) (by omega)
      obtain ⟨q1, q2, q3⟩ := q
      refine ⟨by omega, by omega, fun H locs ls hl hP hS => ?_⟩
      refine dm_szW hP hS hsz hN0 hN rfl (fun hHz => ?_)
      rcases hi with ⟨rfl, -⟩ | ⟨-, z⟩
      rotate_left
      · exact absurd z (by decide)
      obtain ⟨a, as', rfl, hrc⟩ := dm_rcv_some b5
      obtain ⟨k1, k2, k3⟩ := dm_ok_s hrc
      have he := dm_get (al := al) (aC := aC) (x1 := x1) k2 k3
      rw [dm_c1 k1] at he
      have hcl : vwCl[10]? = some (am_R 10, am_T 10, am_N 10) := (am_cl_spec (by decide)).2
      have hcell : ∃ cellB : Cell, H[dm_al al x1 a]? = some cellB ∧ cellB.vm.isStatics = false ∧ s.vm.findClass RX10 = some cellB.cls := va_recv hK hP hcl he
      obtain ⟨n1, n2, n9, n3, n4⟩ := dm_md_spec (m := mid) (by omega)
      have ncls : (dm_y mid).cls = RX10 := n2.trans (dm_own_a hmid)
      have hPre : ∀ U : State, U.heap = H → s.WarmedH U.vm → va_Pc ((Value.ref a :: as').map (am_rl (dm_al al x1))) (dm_P al dC dI aC aV x0 x1 S) (Value.ref (dm_al al x1 a) :: as'.map (am_rl (dm_al al x1))).toArray U := fun U hU hW =>
        ⟨rfl, by rw [hU]; exact hHz, by rw [hU]; exact hP, va_K.moved hW.alike hK, by rw [hU]; exact am_fx_kept hF hW hS.1 hS.2.1 (fun q _ z => z) (fun q z => z), fun w hw => dm_NB_warm hW hw (hNB w hw)⟩
      have hsum : 2 * (F0 m pc ls (st.map (am_rl (dm_al al x1)))).monitorRoom + ((rest.map (am_rl (dm_al al x1))).map fun v => v.category).sum ≤ 8 := by
        have e9 : (rest.map (am_rl (dm_al al x1))).map (fun v => v.category) = rest.map (fun v => v.category) := by
          rw [List.map_map]
          exact List.map_congr_left (fun v _ => am_rl_cat _ v)
        show 2 * 0 + _ ≤ 8
        rw [e9]
        omega
      have estk : st.map (am_rl (dm_al al x1)) = (as'.map (am_rl (dm_al al x1))).reverse ++ .ref (dm_al al x1 a) :: rest.map (am_rl (dm_al al x1)) := by
        rw [hst, List.map_append, List.map_reverse]
        simp [am_rl]
      have hRR : (dm_rm mid (dm_n S' - dm_n S) (dm_zz S' - dm_zz S)).frames + 1 ≤ R.frames ∧ 8 + (dm_ml mid + 11) + (dm_rm mid (dm_n S' - dm_n S) (dm_zz S' - dm_zz S)).locals ≤ R.locals := by rw [hRf, hRl]; exact ⟨b3, b4⟩
      have hlen : (as'.map (am_rl (dm_al al x1))).length = dm_na mid - 1 := by rw [List.length_map]; rw [List.length_cons] at hln; omega
      have hroom : dm_n S - N0 + (dm_n S' - dm_n S) ≤ R.cells ∧ dm_zz S - Z0 + (dm_zz S' - dm_zz S) ≤ R.slots := by rw [hRc, hRs]; omega
      have hrun : va_Run p l e R s m args below meth c H locs (dm_n S - N0) (dm_zz S - Z0) (dm_n S' - dm_n S) (dm_zz S' - dm_zz S) (F0 m pc ls (st.map (am_rl (dm_al al x1)))) (rest.map (am_rl (dm_al al x1))) (dm_Q al dC dI aC x0 x1 v S' (Value.ref (dm_al al x1 a) :: as'.map (am_rl (dm_al al x1))).toArray) (fun q => x0 ≤ q) := by
        rcases hlk with ⟨-, h6, wl⟩ | ⟨-, h6, wl⟩
        · rw [dm_own_a h6] at hown
          exact va_runV (cc := dm_cc me) (nL := dm_ml me) (Ts := am_AT) (own := RX10) (C := RX10) (bytes := dm_cc mid) (maxL := dm_ml mid) (ret := dm_re mid) (ws := dm_ws mid) (rm := dm_rm mid (dm_n S' - dm_n S) (dm_zz S' - dm_zz S)) (n := dm_na mid - 1) (index := ix) (As := as'.map (am_rl (dm_al al x1))) (b := dm_al al x1 a) ⟨hx, hb, hml, hown, hts⟩ hM
            (cwV _ hts (fun w hw => by
              rcases List.mem_append.mp hw with hw | hw
              · simp only [List.mem_cons, List.not_mem_nil, or_false] at hw
                rcases hw with rfl | rfl | rfl | rfl
                · exact ⟨wl, am_AT_good wl⟩
                · exact ⟨win, am_AT_good win⟩
                · exact ⟨wsel, am_AT_good wsel⟩
                · exact ⟨wini, am_AT_good wini⟩
              · exact dm_wsG (by omega) w hw) rfl rfl rfl ⟨ncls, n3, n4, wds⟩ hRR) ⟨dm_blind, hcell, hPre⟩ rfl hlen hl.1 estk hsum hd hroom
        · rw [dm_own_b h6] at hown
          exact va_runVN (cc := dm_cc me) (nL := dm_ml me) (Ts := am_AT) (own := RL) (host := RL) (C := RX10) (bytes := dm_cc mid) (maxL := dm_ml mid) (ret := dm_re mid) (ws := dm_ws mid) (rm := dm_rm mid (dm_n S' - dm_n S) (dm_zz S' - dm_zz S)) (n := dm_na mid - 1) (index := ix) (As := as'.map (am_rl (dm_al al x1))) (b := dm_al al x1 a) ⟨hx, hb, hml, hown, hts⟩ hM
            ⟨va_cnB _ hts (dm_wsG (by omega)) rfl rfl rfl (hNB _ wl) (by rw [ncls]; exact hts _ wini) ⟨n3, n4, wds⟩ hRR, hts _ win, hts _ wsel⟩ ⟨dm_blind, hcell, hPre⟩ rfl hlen hl.1 estk hsum hd hroom
      refine dm_end hS hrun (fun H1 locs1 hP1 hS1 => ?_)
      have q4 := q3 H1 locs1 ls hl hP1 hS1
      have e7 : (v.toList ++ rest).map (am_rl (dm_al al x1)) = (v.map (am_rl (dm_al al x1))).toList ++ rest.map (am_rl (dm_al al x1)) := by
        rw [List.map_append]
        cases v <;> rfl
      rw [e7, show dm_n S' - N0 = dm_n S - N0 + (dm_n S' - dm_n S) by omega, show dm_zz S' - Z0 = dm_zz S - Z0 + (dm_zz S' - dm_zz S) by omega] at q4
      exact q4
    · -- screen(..)
      have hr : (bif Nat.beq sv 1 && dm_ct st (dm_na mid) && Nat.ble (dm_fr mid + 1) (dm_fr me) && Nat.ble (8 + (dm_ml mid + 11) + dm_lo mid) (dm_lo me) && (true || dm_rcv S (st.take (dm_na mid)).reverse)
        then oD γ mid (st.take (dm_na mid)).reverse S (fun v S' => k (pc + 3) ρ (v.toList ++ st.drop (dm_na mid)) S') else none) = some g := hr
      obtain ⟨h1, h2⟩ := am_bif hr
      simp only [Bool.and_eq_true, dm_ct] at h1
      obtain ⟨⟨⟨⟨b1, b2a, b2b⟩, b3⟩, b4⟩, -⟩ := h1
      have b1 := Nat.eq_of_beq_eq_true b1
      subst b1
      have b2a := Nat.le_of_ble_eq_true b2a
      have b2b := Nat.le_of_ble_eq_true b2b
      have b3 := Nat.le_of_ble_eq_true b3
      have b4 := Nat.le_of_ble_eq_true b4
      generalize hasd : (st.take (dm_na mid)).reverse = as at h2
      generalize hresd : st.drop (dm_na mid) = rest at h2 b2b
      have hst : st = as.reverse ++ rest := by rw [← hasd, ← hresd, List.reverse_reverse, List.take_append_drop]
      have hln : as.length = dm_na mid := by rw [← hasd, List.length_reverse, List.length_take]; omega
      obtain ⟨v, S', hM, hback⟩ := hoD _ _ _ _ _ _ h2
      obtain ⟨f1, f2, hM⟩ := hM (by omega)
      have q := hk _ _ _ _ hback (by omega) (by omega)
      obtain ⟨q1, q2, q3⟩ := q
      refine ⟨by omega, by omega, fun H locs ls hl hP hS => ?_⟩
      refine dm_szW hP hS hsz hN0 hN rfl (fun hHz => ?_)
      rcases hi with ⟨-, z⟩ | ⟨rfl, -⟩
      · exact absurd z (by decide)
      obtain ⟨n1, n2, n9, n3, n4⟩ := dm_md_spec (m := mid) (by omega)
      have hPre : ∀ U : State, U.heap = H → s.WarmedH U.vm → va_Pc (as.map (am_rl (dm_al al x1))) (dm_P al dC dI aC aV x0 x1 S) (as.map (am_rl (dm_al al x1))).toArray U := fun U hU hW =>
        ⟨rfl, by rw [hU]; exact hHz, by rw [hU]; exact hP, va_K.moved hW.alike hK, by rw [hU]; exact am_fx_kept hF hW hS.1 hS.2.1 (fun q _ z => z) (fun q z => z), fun w hw => dm_NB_warm hW hw (hNB w hw)⟩
      have hsum : 2 * (F0 m pc ls (st.map (am_rl (dm_al al x1)))).monitorRoom + ((rest.map (am_rl (dm_al al x1))).map fun v => v.category).sum ≤ 8 := by
        have e9 : (rest.map (am_rl (dm_al al x1))).map (fun v => v.category) = rest.map (fun v => v.category) := by
          rw [List.map_map]
          exact List.map_congr_left (fun v _ => am_rl_cat _ v)
        show 2 * 0 + _ ≤ 8
        rw [e9]
        omega
      have estk : st.map (am_rl (dm_al al x1)) = (as.map (am_rl (dm_al al x1))).reverse ++ rest.map (am_rl (dm_al al x1)) := by
        rw [hst, List.map_append, List.map_reverse]
      have hRR : (dm_rm mid (dm_n S' - dm_n S) (dm_zz S' - dm_zz S)).frames + 1 ≤ R.frames ∧ 8 + (dm_ml mid + 11) + (dm_rm mid (dm_n S' - dm_n S) (dm_zz S' - dm_zz S)).locals ≤ R.locals := by rw [hRf, hRl]; exact ⟨b3, b4⟩
      have hroom : dm_n S - N0 + (dm_n S' - dm_n S) ≤ R.cells ∧ dm_zz S - Z0 + (dm_zz S' - dm_zz S) ≤ R.slots := by rw [hRc, hRs]; omega
      rw [dm_own_b h6] at hown
      have ncls : (dm_y mid).cls = RL := n2.trans (dm_own_b (by omega))
      have hrun : va_Run p l e R s m args below meth c H locs (dm_n S - N0) (dm_zz S - Z0) (dm_n S' - dm_n S) (dm_zz S' - dm_zz S) (F0 m pc ls (st.map (am_rl (dm_al al x1)))) (rest.map (am_rl (dm_al al x1))) (dm_Q al dC dI aC x0 x1 v S' (as.map (am_rl (dm_al al x1))).toArray) (fun q => x0 ≤ q) :=
        va_runS (cc := dm_cc me) (nL := dm_ml me) (Ts := am_AT) (own := RL) (bytes := dm_cc mid) (maxL := dm_ml mid) (ret := dm_re mid) (ws := dm_ws mid) (rm := dm_rm mid (dm_n S' - dm_n S) (dm_zz S' - dm_zz S)) (n := dm_na mid) (index := ix) (As := as.map (am_rl (dm_al al x1))) ⟨hx, hb, hml, hown, hts⟩ hM
          ⟨callB_of _ hts (dm_wsG (by omega)) rfl rfl rfl (by rw [ncls]; exact hts _ wini) (hts _ wlk) ⟨n3, n4, wds⟩ hRR, hts _ wst⟩ ⟨dm_blind, hPre⟩ rfl (by rw [List.length_map]; exact hln) hl.1 estk hsum hd hroom
      refine dm_end hS hrun (fun H1 locs1 hP1 hS1 => ?_)
      have q4 := q3 H1 locs1 ls hl hP1 hS1
      have e7 : (v.toList ++ rest).map (am_rl (dm_al al x1)) = (v.map (am_rl (dm_al al x1))).toList ++ rest.map (am_rl (dm_al al x1)) := by
        rw [List.map_append]
        cases v <;> rfl
      rw [e7, show dm_n S' - N0 = dm_n S - N0 + (dm_n S' - dm_n S) by omega, show dm_zz S' - Z0 = dm_zz S - Z0 + (dm_zz S' - dm_zz S) by omega] at q4
      exact q4
end DM9
