section TM5B
variable {p : Program} {l : Launch} {e : Env} {R : Room} {s : State} {m : MethodId} {args : Array Value} {below : List Frame} {meth : Method} {c : Code}
variable {γ : Type} {g : γ}
theorem tm_beq_f {a b : Nat} (h : ¬ a = b) : Nat.beq a b = false := Bool.eq_false_iff.mpr (fun z => h (Nat.eq_of_beq_eq_true z))
theorem tm_al_lo9 {al : Nat → Nat} {x1 i : Nat} (h : i < 8) : dm_al al x1 (900 + i) = al (900 + i) := dm_al_lo (by omega)
set_option maxHeartbeats 8000000 in
/-- the texts' own methods, called -/
theorem tm_own_sound {al : Nat → Nat} {dC : Nat → ClassId} {dI : Nat → Nat → Nat} {aC : Nat → ClassId} {aV : Nat → Nat} {x0 x1 : Nat} {X : tm_X} {me N0 Z0 : Nat} {vO : Option Value} {SO : dm_S} {pc : Nat} {ins : Instr} {ρ : am_Lc} {st : List Value} {S : dm_S} {oD : dm_Orc} {k : Nat → am_Lc → List Value → dm_S → Option γ}
    (hme : me < 45) (C : tm_Cx p R s m args meth c al dC dI aC aV x0 x1 X me N0 Z0 SO) (hd : decode (tm_cc me) pc = .ok (ins, 3)) (hoD : tm_OS l al dC dI aC aV x0 x1 X oD)
    (hk : ∀ pc' ρ' st' S', k pc' ρ' st' S' = some g → tm_At p l e R s m args below meth c al dC dI aC x0 x1 me N0 Z0 vO SO pc' ρ' st' S')
    (sv ix kd mid : Nat) (hi : ins = .invokevirtual ix ∧ sv = 0 ∨ ins = .invokestatic ix ∧ sv = 1 ∨ ins = .invokespecial ix ∧ sv = 2) (hz : tm_lk me ix = some (kd, mid))
    (h0 : ¬ kd = 0) (h6 : ¬ kd = 6) (h7 : ¬ kd = 7) (h8 : ¬ kd = 8)
    (hr : (bif Nat.beq sv (bif Nat.beq kd 3 then 1 else bif Nat.beq kd 4 || Nat.beq kd 5 then 2 else 0) && dm_ct st (tm_na mid) && Nat.ble (tm_fr mid + 1) (tm_fr me) && Nat.ble (8 + (tm_ml mid + 11) + tm_lo mid) (tm_lo me) &&
        (bif Nat.beq kd 3 then true else bif Nat.beq kd 1 then tm_r1 S (st.take (tm_na mid)).reverse else bif Nat.beq kd 4 then tm_r4 S mid (st.take (tm_na mid)).reverse else tm_r2 S (st.take (tm_na mid)).reverse)
      then oD γ mid (st.take (tm_na mid)).reverse S (fun v S' => k (pc + 3) ρ (v.toList ++ st.drop (tm_na mid)) S') else none) = some g) : tm_At p l e R s m args below meth c al dC dI aC x0 x1 me N0 Z0 vO SO pc ρ st S := by
  obtain ⟨hx, hb, hml, hown, hts, hlocks, hrt, hK, hF, hX, hR, hA, hsz, hN0, hnm⟩ := C
  intro hN hZ
  have hRf : R.frames = tm_fr me := by rw [hR]; rfl
  have hRl : R.locals = tm_lo me := by rw [hR]; rfl
  have hRc : R.cells = dm_n SO - N0 := by rw [hR]; rfl
  have hRs : R.slots = dm_zz SO - Z0 := by rw [hR]; rfl
  have hx01 := hA.2
  have hlok := tm_lk_spec hme hz
  unfold tm_lok at hlok
  simp only [tm_beq_f h0, tm_beq_f h6, tm_beq_f h7, tm_beq_f h8, cond_false] at hlok
  obtain ⟨h1, h2⟩ := am_bif hr
  simp only [Bool.and_eq_true, dm_ct] at h1
  obtain ⟨⟨⟨⟨b1, b2a, b2b⟩, b3⟩, b4⟩, b5⟩ := h1
  have b1 := Nat.eq_of_beq_eq_true b1
  have b2a := Nat.le_of_ble_eq_true b2a
  have b2b := Nat.le_of_ble_eq_true b2b
  have b3 := Nat.le_of_ble_eq_true b3
  have b4 := Nat.le_of_ble_eq_true b4
  generalize hasd : (st.take (tm_na mid)).reverse = as at h2 b5
  generalize hresd : st.drop (tm_na mid) = rest at h2 b2b
  have hst : st = as.reverse ++ rest := by rw [← hasd, ← hresd, List.reverse_reverse, List.take_append_drop]
  have hln : as.length = tm_na mid := by rw [← hasd, List.length_reverse, List.length_take]; omega
  obtain ⟨v, S', hM, hback⟩ := hoD _ _ _ _ _ _ h2
  obtain ⟨f1, f2, hM⟩ := hM (by omega)
  have q := hk _ _ _ _ hback (by omega) (by omega)
  obtain ⟨q1, q2, q3⟩ := q
  refine ⟨by omega, by omega, fun H locs ls hl hP hS => ?_⟩
  refine tm_szW hP hS hsz hN0 hN rfl (fun hHz => ?_)
  have hPre : ∀ U : State, U.heap = H → s.WarmedH U.vm → va_Pc (as.map (am_rl (dm_al al x1))) (tm_P al dC dI aC aV x0 x1 X S) (as.map (am_rl (dm_al al x1))).toArray U := fun U hU hW =>
    ⟨rfl, by rw [hU]; exact hHz, by rw [hU]; exact hP, va_K.moved hW.alike hK, by rw [hU]; exact am_fx_kept hF hW hS.1 hS.2.1 (fun q _ z => z) (fun q z => z), by rw [hU]; exact tm_fx_kept hX hW hS.1 hS.2.1 (fun q z => z)⟩
  have hsum : 2 * (F0 m pc ls (st.map (am_rl (dm_al al x1)))).monitorRoom + ((rest.map (am_rl (dm_al al x1))).map fun v => v.category).sum ≤ 8 := by
    have e9 : (rest.map (am_rl (dm_al al x1))).map (fun v => v.category) = rest.map (fun v => v.category) := by
      rw [List.map_map]
      exact List.map_congr_left (fun v _ => am_rl_cat _ v)
    show 2 * 0 + _ ≤ 8
    rw [e9]
    omega
  have hRR : (tm_rm mid (dm_n S' - dm_n S) (dm_zz S' - dm_zz S)).frames + 1 ≤ R.frames ∧ 8 + (tm_ml mid + 11) + (tm_rm mid (dm_n S' - dm_n S) (dm_zz S' - dm_zz S)).locals ≤ R.locals := by rw [hRf, hRl]; exact ⟨b3, b4⟩
  have hroom : dm_n S - N0 + (dm_n S' - dm_n S) ≤ R.cells ∧ dm_zz S - Z0 + (dm_zz S' - dm_zz S) ≤ R.slots := by rw [hRc, hRs]; omega
  have hfix : CallFix p m c (tm_cc me) (tm_ml me) s args am_AT (tm_own me) := ⟨hx, hb, hml, hown, hts⟩
  have fin : va_Run p l e R s m args below meth c H locs (dm_n S - N0) (dm_zz S - Z0) (dm_n S' - dm_n S) (dm_zz S' - dm_zz S) (F0 m pc ls (st.map (am_rl (dm_al al x1)))) (rest.map (am_rl (dm_al al x1))) (tm_Q al dC dI aC x0 x1 v S' (as.map (am_rl (dm_al al x1))).toArray) (fun q => x0 ≤ q) →
      W p l e R s m args below meth c H locs (dm_n S - N0) (dm_zz S - Z0) (MQ below (tm_Q al dC dI aC x0 x1 vO SO) args s (dm_n SO - N0) (dm_zz SO - Z0) (fun q => x0 ≤ q)) (F0 m pc ls (st.map (am_rl (dm_al al x1)))) := by
    intro hrun
    refine tm_end hS hrun (fun H1 locs1 hP1 hS1 => ?_)
    have q4 := q3 H1 locs1 ls hl hP1 hS1
    have e7 : (v.toList ++ rest).map (am_rl (dm_al al x1)) = (v.map (am_rl (dm_al al x1))).toList ++ rest.map (am_rl (dm_al al x1)) := by
      rw [List.map_append]
      cases v <;> rfl
    rw [e7, show dm_n S' - N0 = dm_n S - N0 + (dm_n S' - dm_n S) by omega, show dm_zz S' - Z0 = dm_zz S - Z0 + (dm_zz S' - dm_zz S) by omega] at q4
    exact q4
  refine fin ?_
  by_cases h3 : kd = 3
  · subst h3
    have hlok : (Nat.blt mid 46 && dm_inT (.methodLink (tm_own me) ix (tm_y mid)) && dm_inT (.static (tm_y mid)) && dm_inT (.initialized (tm_own mid)) && tm_dsc mid (tm_na mid)) = true := hlok
    simp only [Bool.and_eq_true] at hlok
    obtain ⟨⟨⟨⟨w0, w1⟩, w2⟩, w3⟩, w4⟩ := hlok
    have hmid := Nat.blt_eq.mp w0
    have w4 := of_decide_eq_true w4
    obtain ⟨n1, n2⟩ := tm_md_spec hmid
    have b1 : sv = 1 := b1
    subst b1
    rcases hi with ⟨-, z⟩ | ⟨rfl, -⟩ | ⟨-, z⟩
    · exact absurd z (by decide)
    rotate_left
    · exact absurd z (by decide)
    have estk : st.map (am_rl (dm_al al x1)) = (as.map (am_rl (dm_al al x1))).reverse ++ rest.map (am_rl (dm_al al x1)) := by
      rw [hst, List.map_append, List.map_reverse]
    exact va_runS (bytes := tm_cc mid) (maxL := tm_ml mid) (ret := tm_re mid) (ws := tm_ws mid) (rm := tm_rm mid (dm_n S' - dm_n S) (dm_zz S' - dm_zz S)) (n := tm_na mid) (index := ix) (As := as.map (am_rl (dm_al al x1))) hfix hM
      ⟨callB_of _ hts (tm_wsG hmid) rfl rfl rfl (hts _ (dm_inT_spec w3)) (hts _ (dm_inT_spec w1)) ⟨n1, n2, w4⟩ hRR, hts _ (dm_inT_spec w2)⟩ ⟨tm_blind, hPre⟩ rfl (by rw [List.length_map]; exact hln) hl.1 estk hsum hd hroom
  have b5 : (bif Nat.beq kd 1 then tm_r1 S as else bif Nat.beq kd 4 then tm_r4 S mid as else tm_r2 S as) = true := by
    rw [tm_beq_f h3] at b5
    exact b5
  simp only [tm_beq_f h3, cond_false] at hlok b1
  have hrcv : ∃ a as', as = .ref a :: as' := by
    by_cases z1 : kd = 1
    · subst z1
      obtain ⟨a, as', e1, -⟩ := tm_r1_s (show tm_r1 S as = true from b5)
      exact ⟨a, as', e1⟩
    rw [tm_beq_f z1] at b5
    by_cases z4 : kd = 4
    · subst z4
      exact tm_r4_s (show tm_r4 S mid as = true from b5)
    rw [tm_beq_f z4] at b5
    obtain ⟨a, as', e1, -⟩ := tm_r2_s (show tm_r2 S as = true from b5)
    exact ⟨a, as', e1⟩
  obtain ⟨a, as', rfl⟩ := hrcv
  have estk : st.map (am_rl (dm_al al x1)) = (as'.map (am_rl (dm_al al x1))).reverse ++ .ref (dm_al al x1 a) :: rest.map (am_rl (dm_al al x1)) := by
    rw [hst, List.map_append, List.map_reverse]
    simp [am_rl]
  have hlen : (as'.map (am_rl (dm_al al x1))).length = tm_na mid - 1 := by rw [List.length_map]; rw [List.length_cons] at hln; omega
  have hcell2 : tm_r2 S (.ref a :: as') = true → ∃ cellB : Cell, H[dm_al al x1 a]? = some cellB ∧ cellB.vm.isStatics = false ∧ s.vm.findClass RJ4 = some cellB.cls := by
    intro z
    obtain ⟨a9, as9, e9, z9⟩ := tm_r2_s z
    cases e9
    obtain ⟨k1, k2, k3⟩ := dm_ok_s z9
    have he := tm_get (al := al) (aC := aC) (x1 := x1) k2 k3
    rw [tm_c6 k1] at he
    exact va_recv hK hP (tm_cl (Or.inr rfl)) he
  have hcell1 : tm_r1 S (.ref a :: as') = true → ∃ cellB : Cell, H[dm_al al x1 a]? = some cellB ∧ cellB.vm.isStatics = false ∧ s.vm.findClass RJ0 = some cellB.cls := by
    intro z
    obtain ⟨a9, as9, e9, z9⟩ := tm_r1_s z
    cases e9
    rcases z9 with z9 | z9
    · obtain ⟨i, hi8, rfl⟩ := tm_cs_s z9
      rw [tm_al_lo9 hi8]
      exact vk_recv (adK := fun i => al (900 + i)) (i := i) hX.1 hi8 hS
    · obtain ⟨k1, k2, k3⟩ := dm_ok_s z9
      have he := tm_get (al := al) (aC := aC) (x1 := x1) k2 k3
      rw [tm_c5 k1] at he
      exact va_recv hK hP (tm_cl (Or.inl rfl)) he
  by_cases h28 : kd = 2 ∧ mid = 38
  · obtain ⟨rfl, rfl⟩ := h28
    have hlok : (dm_inT (.methodLink (tm_own me) ix (tm_y 37)) && dm_inT (.sameMethod (tm_own 37) (tm_own 37) "length" "()I") && dm_inT (.instanceMethod (tm_y 37)) && dm_inT (.selects RJ4 (tm_y 37) (tm_y 38)) && dm_inT (.instanceMethod (tm_y 38)) && dm_inT (.initialized RJ4)) = true := hlok
    simp only [Bool.and_eq_true] at hlok
    obtain ⟨⟨⟨⟨⟨w1, w2⟩, w3⟩, w4⟩, w5⟩, w6⟩ := hlok
    have b1 : sv = 0 := b1
    subst b1
    rcases hi with ⟨rfl, -⟩ | ⟨-, z⟩ | ⟨-, z⟩
    rotate_left
    · exact absurd z (by decide)
    · exact absurd z (by decide)
    have hmid : 38 < 46 := by decide
    exact va_runU (x := tm_y 37) (y := tm_y 38) (owner := tm_own 37) (C := RJ4) (bytes := tm_cc 38) (maxL := tm_ml 38) (ret := tm_re 38) (ws := tm_ws 38) (rm := tm_rm 38 (dm_n S' - dm_n S) (dm_zz S' - dm_zz S)) (n := tm_na 38 - 1) (index := ix) (As := as'.map (am_rl (dm_al al x1))) (b := dm_al al x1 a) hfix hM
      (va_cwO _ hts (fun w hw => by
        rcases List.mem_append.mp hw with hw | hw
        · simp only [List.mem_cons, List.not_mem_nil, or_false] at hw
          rcases hw with rfl | rfl | rfl | rfl | rfl | rfl
          · exact ⟨dm_inT_spec w1, am_AT_good (dm_inT_spec w1)⟩
          · exact ⟨dm_inT_spec w2, am_AT_good (dm_inT_spec w2)⟩
          · exact ⟨dm_inT_spec w3, am_AT_good (dm_inT_spec w3)⟩
          · exact ⟨dm_inT_spec w4, am_AT_good (dm_inT_spec w4)⟩
          · exact ⟨dm_inT_spec w5, am_AT_good (dm_inT_spec w5)⟩
          · exact ⟨dm_inT_spec w6, am_AT_good (dm_inT_spec w6)⟩
        · exact tm_wsG hmid w hw) rfl rfl rfl tm_cw37 ⟨(tm_md_spec (m := 37) (by decide)).1, (tm_md_spec (m := 37) (by decide)).2, by decide +kernel⟩ hRR) ⟨tm_blind, hcell2 b5, hPre⟩ rfl hlen hl.1 estk hsum hd hroom
  have e28 : (Nat.beq kd 2 && Nat.beq mid 38) = false := by
    rw [← Bool.not_eq_true, Bool.and_eq_true]
    exact fun z => h28 ⟨Nat.eq_of_beq_eq_true z.1, Nat.eq_of_beq_eq_true z.2⟩
  rw [e28] at hlok
  simp only [Bool.and_eq_true, cond_false] at hlok
  obtain ⟨⟨⟨⟨⟨⟨w0, w1⟩, w2⟩, w3⟩, w4⟩, w5⟩, w6⟩ := hlok
  have hmid := Nat.blt_eq.mp w0
  have w4 := of_decide_eq_true w4
  obtain ⟨n1, n2⟩ := tm_md_spec hmid
  have hB := callB_of (R := R) (s := s) (args := args) (own := tm_own me) (index := ix) (y := tm_y mid) (bytes := tm_cc mid) (maxL := tm_ml mid) (ret := tm_re mid) (ws := tm_ws mid) (ws' := am_AT) (rm := tm_rm mid (dm_n S' - dm_n S) (dm_zz S' - dm_zz S)) (tm_na mid - 1) hts (tm_wsG hmid) rfl rfl rfl (hts _ (dm_inT_spec w3)) (hts _ (dm_inT_spec w1)) ⟨n1, n2, w4⟩ hRR
  have hin := hts _ (dm_inT_spec w2)
  by_cases z1 : kd = 1
  · subst z1
    have w6 : (decide (tm_own mid = RJ0) && dm_inT (.selects RJ0 (tm_y mid) (tm_y mid))) = true := w6
    rw [Bool.and_eq_true] at w6
    have b1 : sv = 0 := b1
    subst b1
    rcases hi with ⟨rfl, -⟩ | ⟨-, z⟩ | ⟨-, z⟩
    rotate_left
    · exact absurd z (by decide)
    · exact absurd z (by decide)
    exact va_runV (C := RJ0) (As := as'.map (am_rl (dm_al al x1))) (b := dm_al al x1 a) hfix hM ⟨hB, hin, hts _ (dm_inT_spec w6.2)⟩ ⟨tm_blind, hcell1 b5, hPre⟩ rfl hlen hl.1 estk hsum hd hroom
  rw [tm_beq_f z1] at w6 b5
  by_cases z2 : kd = 2
  · subst z2
    simp only [cond_false, cond_true, show Nat.beq 2 2 = true from rfl] at w6
    have b1 : sv = 0 := b1
    subst b1
    rcases hi with ⟨rfl, -⟩ | ⟨-, z⟩ | ⟨-, z⟩
    rotate_left
    · exact absurd z (by decide)
    · exact absurd z (by decide)
    exact va_runV (C := RJ4) (As := as'.map (am_rl (dm_al al x1))) (b := dm_al al x1 a) hfix hM ⟨hB, hin, hts _ (dm_inT_spec w6)⟩ ⟨tm_blind, hcell2 b5, hPre⟩ rfl hlen hl.1 estk hsum hd hroom
  rw [tm_beq_f z2] at w6
  by_cases z4 : kd = 4
  · subst z4
    have w6 : (decide ((tm_y mid).name = "<init>") && decide (tm_re mid = none)) = true := w6
    rw [Bool.and_eq_true] at w6
    have hre := of_decide_eq_true w6.2
    have b1 : sv = 2 := b1
    subst b1
    rcases hi with ⟨-, z⟩ | ⟨-, z⟩ | ⟨rfl, -⟩
    · exact absurd z (by decide)
    · exact absurd z (by decide)
    rw [hre] at hB
    exact va_runI (As := as'.map (am_rl (dm_al al x1))) (b := dm_al al x1 a) hfix hM ⟨hB, of_decide_eq_true w6.1, hin⟩ ⟨tm_blind, hPre⟩ rfl hlen hl.1 estk hsum hd hroom
  rw [tm_beq_f z4] at w6 b5
  by_cases z5 : kd = 5
  · subst z5
    have w6 : (decide (tm_own me = RJ4) && dm_inT (.sameMethod (tm_own mid) (tm_own mid) (tm_y mid).name (tm_y mid).desc) && dm_inT (.superclass RJ4 (tm_own mid)) && decide ((tm_y mid).name ≠ "<init>")) = true := w6
    simp only [Bool.and_eq_true] at w6
    obtain ⟨⟨⟨y1, y2⟩, y3⟩, y4⟩ := w6
    have y1 := of_decide_eq_true y1
    have y4 := of_decide_eq_true y4
    have b1 : sv = 2 := b1
    subst b1
    rcases hi with ⟨-, z⟩ | ⟨-, z⟩ | ⟨rfl, -⟩
    · exact absurd z (by decide)
    · exact absurd z (by decide)
    have hat : ClassAt s RJ4 (dC 12) := (hK.1 12 _ (tm_cl (Or.inr rfl))).2
    have w1' := dm_inT_spec w1
    rw [y1] at hfix w1'
    exact va_runSU (C := RJ4) (bytes := tm_cc mid) (maxL := tm_ml mid) (ret := tm_re mid) (ws := tm_ws mid) (rm := tm_rm mid (dm_n S' - dm_n S) (dm_zz S' - dm_zz S)) (n := tm_na mid - 1) (index := ix) (As := as'.map (am_rl (dm_al al x1))) (b := dm_al al x1 a) hat hfix hM
      (va_cwSU _ hts (fun w hw => by
        rcases List.mem_append.mp hw with hw | hw
        · simp only [List.mem_cons, List.not_mem_nil, or_false] at hw
          rcases hw with rfl | rfl | rfl | rfl | rfl
          · exact ⟨w1', am_AT_good w1'⟩
          · exact ⟨dm_inT_spec y2, am_AT_good (dm_inT_spec y2)⟩
          · exact ⟨dm_inT_spec y3, am_AT_good (dm_inT_spec y3)⟩
          · exact ⟨dm_inT_spec w2, am_AT_good (dm_inT_spec w2)⟩
          · exact ⟨dm_inT_spec w3, am_AT_good (dm_inT_spec w3)⟩
        · exact tm_wsG hmid w hw) rfl rfl rfl ⟨y4, w4⟩ hRR) ⟨tm_blind, hcell2 b5, hPre⟩ rfl hlen hl.1 estk hsum hd hroom
  rw [tm_beq_f z5] at w6
  have w6 : (Nat.beq kd 9 && decide (tm_y mid ∈ tm_pv)) = true := w6
  rw [Bool.and_eq_true] at w6
  cases Nat.eq_of_beq_eq_true w6.1
  have b1 : sv = 0 := b1
  subst b1
  rcases hi with ⟨rfl, -⟩ | ⟨-, z⟩ | ⟨-, z⟩
  rotate_left
  · exact absurd z (by decide)
  · exact absurd z (by decide)
  have hsel : (Cond.selects RJ4 (tm_y mid) (tm_y mid)).before args s = true := va_Nw.use (A := args) rfl (hX.2.2.2.2.2.2.2.2.1 _ (of_decide_eq_true w6.2))
  exact va_runV (C := RJ4) (As := as'.map (am_rl (dm_al al x1))) (b := dm_al al x1 a) hfix hM ⟨hB, hin, hsel⟩ ⟨tm_blind, hcell2 b5, hPre⟩ rfl hlen hl.1 estk hsum hd hroom
end TM5B
