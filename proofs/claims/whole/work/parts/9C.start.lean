set_option maxHeartbeats 8000000 in
/-- from the entry, for every script of at most 3072 ints, the law comes to its end with true -/
theorem whole_start {p : Program} {e : Env} {s : State} {m : MethodId} {below : List Frame} {meth : Method} {c : Code} (l : Launch) (hflags : l.flags = flags0) {b L : Nat} {xs : Nat → Int32} (hL : L ≤ 3072) (C0 : lw_At p s m meth c b L xs) : W p l e room_1 s m #[Value.ref b] below meth c s.heap [] 0 0 (lw_Z below #[Value.ref b] s) (entryFrame m ([Value.ref b] : List Value).toArray 8) := by
  obtain ⟨hx, hb, hrt, hml, hown, hts0, hX, hbl, hlocks, hgv⟩ := C0
  obtain ⟨al, aV, dC, dI, aC, hal, hK, hF, hNB⟩ := lg_given hts0 (flat_of_before _ hgv)
  have hy := ls_hy (al := al) hflags hal
  have hts : ∀ w ∈ am_AT, w.before #[Value.ref b] s = true := fun w hw => hts0 w (List.mem_filter.mp hw).1
  have hw := ls_words_ok
  unfold ls_words at hw
  simp only [Bool.and_eq_true] at hw
  obtain ⟨⟨⟨⟨⟨⟨⟨⟨⟨⟨⟨⟨⟨⟨w1, w2⟩, w3⟩, w4⟩, w5⟩, w6⟩, w7⟩, w8⟩, w9⟩, w10⟩, w11⟩, w12⟩, w13⟩, w14⟩, w15⟩ := hw
  have hcast : va_Nw (.castable lw_io lw_io) s := lg_nw (lg_t_spec hts0 w15) rfl
  have hd := ls_code_ok
  unfold ls_code at hd
  simp only [Bool.and_eq_true, decide_eq_true_eq] at hd
  obtain ⟨⟨⟨⟨⟨⟨⟨⟨⟨⟨⟨⟨⟨⟨⟨⟨⟨d0, d1⟩, d2⟩, d3⟩, d4⟩, d5⟩, d6⟩, d7⟩, d8⟩, d9⟩, d10⟩, d11⟩, d12⟩, d13⟩, d14⟩, d15⟩, d16⟩, d17⟩ := hd
  obtain ⟨⟨q1, q2, q3, q4, q5, q6⟩, r9, r10⟩ := ls_sizes
  obtain ⟨f1, f2, -⟩ := cn_facts_s
  obtain ⟨D, hD⟩ := Option.isSome_iff_exists.mp f1
  have hDX : cn_orc 4 9 [] = some cn_DX := by
    have e1 : cn_DX = D := by unfold cn_DX; rw [hD]; rfl
    rw [e1]
    exact hD
  obtain ⟨h1, hf, R0⟩ := cn_R0 60000 (Nat.le_refl _)
  obtain ⟨x0, hx0⟩ : ∃ x0, s.heap.size = x0 := ⟨_, rfl⟩
  rw [hx0] at hal hF hbl
  rw [lg_entry_eq]
  have hl := lv_entry ([Value.ref b] : List Value) (n := 8) (Nat.le_of_ble_eq_true rfl)
  generalize (lg_sl ([Value.ref b] : List Value) ++ List.replicate (8 - (lg_sl ([Value.ref b] : List Value)).length) Slot.unset).toArray = ls at hl ⊢
  have hl0 : lv_has ls 8 [(0, .ref b)] := hl
  refine ls_new (ci := 9) (al := al) (y := x0) (by decide) hx hb hts hown (hts _ (cn_inT_spec w1)) (hts _ (cn_inT_spec w2)) (hts _ (cn_inT_spec w3)) hK hx0 (by omega) (by omega) d0 (fun H1 z1 P1 o1 => ?_)
  refine lv_dup hx hb d1 rfl ?_
  have hS1 : va_S (fun q => x0 ≤ q) s.heap H1 [] := ⟨by omega, fun q a1 a2 => o1 q (by omega), fun q hq => by cases hq⟩
  have hPre1 : ∀ U : State, U.heap = H1 → s.WarmedH U.vm → va_Pc (.ref x0 :: []) (cn_PP al dC dI aC aV x0 9) (Value.ref x0 :: []).toArray U := fun U hU hW =>
    ⟨rfl, by rw [hU]; exact z1, by rw [hU]; exact P1, va_K.moved hW.alike hK, by rw [hU]; exact am_fx_kept hF hW hS1.1 hS1.2.1 (fun q _ z => z) (fun q z => z), fun w hw => cn_NB_warm hW hw (hNB w hw)⟩
  have hrun1 : va_Run p l e room_1 s m #[Value.ref b] below meth c H1 [] (0 + 1) (0 + am_N 9) (cn_mc 9) (cn_mz 9) (F0 m 4 ls (([] : List Value).reverse ++ .ref x0 :: [.ref x0])) [.ref x0] (cn_Q al dC dI aC x0 cn_DX (Value.ref x0 :: []).toArray) (fun q => x0 ≤ q) :=
    va_runI (own := lw_L) (index := 77) (bytes := cn_cc 9) (maxL := cn_ml 9) (ws := cn_wsx 9) (n := 0) (cc := code) (nL := 8) (Ts := am_AT) ⟨hx, hb, hml, hown, hts⟩ (cn_orc_ok 4 9 [] cn_DX hDX x0) (cwI 0 hts (ls_gd w6) rfl rfl rfl (hts _ (cn_inT_spec w3)) (hts _ (cn_inT_spec w4)) (hts _ (cn_inT_spec w5)) rfl ls_ynm.1 r9) ⟨cn_blind, hPre1⟩ rfl rfl hl0.1 rfl (by show 2 * 0 + (1 + 0) ≤ 8; omega) d2 ⟨by show 0 + 1 + cn_mc 9 ≤ 601024; omega, by show 0 + am_N 9 + cn_mz 9 ≤ 7293034; omega⟩
  refine va_callv (A0 := fun q => x0 ≤ q) hrun1 hS1 (fun q _ h => h) (fun q h => h) (fun u t H2 locs2 ht hvm _ hB hz2 hk2 hS2 => ?_)
  obtain ⟨hB1, hB2⟩ := hB
  rw [ht] at hB1 hB2
  have hB1 : H2.size = x0 + 193 := by rw [hB1, f2]
  refine lv_astore_n (i := 1) (lv' := [(1, .ref x0), (0, .ref b)]) hx hb d3 rfl hl0 (by decide) rfl (fun ls2 hl2 => ?_)
  refine ls_new (ci := 10) (al := al) (y := x0 + 193) (by decide) hx hb hts hown (hts _ (cn_inT_spec w7)) (hts _ (cn_inT_spec w8)) (hts _ (cn_inT_spec w9)) hK hB1 (by omega) (by omega) d4 (fun H3 z3 P3 o3 => ?_)
  refine lv_dup hx hb d5 rfl ?_
  have hS3 : va_S (fun q => x0 ≤ q) s.heap H3 locs2 := ⟨by omega, fun q a1 a2 => (o3 q (by omega)).trans (hS2.2.1 q a1 a2), hS2.2.2⟩
  have hX3 : va_P (dC, dI) vwCl (cn_ws x0 (cn_al x0 al) aC cn_DX) H3 := hB2.kept (fun k q hk => o3 q.1 (by have := (hB2 k q hk).lt; omega))
  have hPre2 : ∀ U : State, U.heap = H3 → s.WarmedH U.vm → va_Pc (.ref (x0 + 193) :: []) (cn_PM al dC dI aC aV x0) (Value.ref (x0 + 193) :: []).toArray U := fun U hU hW =>
    ⟨rfl, by rw [hU]; exact z3, by rw [hU]; exact P3, va_K.moved hW.alike hK, by rw [hU]; exact am_fx_kept hF hW hS3.1 hS3.2.1 (fun q _ z => z) (fun q z => z), fun w hw => cn_NB_warm hW hw (hNB w hw), by rw [hU]; exact hX3⟩
  have hrun2 : va_Run p l e room_1 s m #[Value.ref b] below meth c H3 locs2 (0 + 1 + cn_mc 9 + 1) (0 + am_N 9 + cn_mz 9 + am_N 10) (cn_mc 10) (cn_mz 10) (F0 m 12 ls2 (([] : List Value).reverse ++ .ref (x0 + 193) :: [.ref (x0 + 193)])) [.ref (x0 + 193)] (va_Qv (fun _ : Unit => True) (fun _ t => va_P (dC, dI) vwCl (am_W al aC h1) t.heap) (fun q => x0 ≤ q) (Value.ref (x0 + 193) :: []).toArray) (fun q => x0 ≤ q) :=
    va_runI (own := lw_L) (index := 80) (bytes := cn_cc 10) (maxL := cn_ml 10) (ws := cn_wsx 10) (n := 0) (cc := code) (nL := 8) (Ts := am_AT) ⟨hx, hb, hml, hown, hts⟩ (cn_metM hy hal hf) (cwI 0 hts (ls_gd w12) rfl rfl rfl (hts _ (cn_inT_spec w9)) (hts _ (cn_inT_spec w10)) (hts _ (cn_inT_spec w11)) rfl ls_ynm.2 r10) ⟨cn_blindM, hPre2⟩ rfl rfl hl2.1 rfl (by show 2 * 0 + (1 + 0) ≤ 8; omega) d6 ⟨by show 0 + 1 + cn_mc 9 + 1 + cn_mc 10 ≤ 601024; omega, by show 0 + am_N 9 + cn_mz 9 + am_N 10 + cn_mz 10 ≤ 7293034; omega⟩
  refine va_callv (A0 := fun q => x0 ≤ q) hrun2 hS3 (fun q _ h => h) (fun q h => h) (fun u4 t4 H4 locs4 ht4 hvm4 _ hB4 hz4 hk4 hS4 => ?_)
  have hP4 : va_P (dC, dI) vwCl (am_W al aC h1) H4 := by rw [← ht4]; exact hB4
  have hsz4 : x0 + 205 ≤ H4.size := lw_size hal hP4
  refine lv_astore_n (i := 2) (lv' := [(2, .ref (x0 + 193)), (1, .ref x0), (0, .ref b)]) hx hb d7 rfl hl2 (by decide) rfl (fun ls3 hl3 => ?_)
  refine lv_iconst hx hb (v := 1) d8 rfl ?_
  refine ls_long (y := H4.size) hx hb (hts _ (cn_inT_spec w13)) hK rfl (by omega) (by omega) d9 (fun H5 cL z5 P5 o5 hKL => ?_)
  refine lv_astore_n (i := 3) (lv' := [(3, .ref H4.size), (2, .ref (x0 + 193)), (1, .ref x0), (0, .ref b)]) hx hb d10 rfl hl3 (by decide) rfl (fun ls4 hl4 => ?_)
  refine lv_iconst hx hb (v := 1) d11 rfl ?_
  refine ls_double (y := H4.size + 1) hx hb (hts _ (cn_inT_spec w14)) hK z5 (by omega) (by omega) d12 (fun H6 cD z6 P6 o6 hKD => ?_)
  refine lv_astore (i := 4) (lv' := [(4, .ref (H4.size + 1)), (3, .ref H4.size), (2, .ref (x0 + 193)), (1, .ref x0), (0, .ref b)]) hx hb d13 hl4 (by decide) rfl (fun ls5 hl5 => ?_)
  refine lv_iconst hx hb (v := 0) d14 rfl ?_
  refine lv_istore (i := 5) (lv' := [(5, .int 0), (4, .ref (H4.size + 1)), (3, .ref H4.size), (2, .ref (x0 + 193)), (1, .ref x0), (0, .ref b)]) hx hb d15 hl5 (by decide) rfl (fun ls6 hl6 => ?_)
  have e0 : al 0 = x0 := by rw [hal 0 (by decide), Nat.add_zero]
  have e193 : al 193 = x0 + 193 := hal 193 (by decide)
  have hl9 : lv_has ls6 8 (lw_base al b H4.size (H4.size + 1) 0) := by
    unfold lw_base
    rw [e0, e193]
    exact lv_sub hl6 [5, 4, 3, 2, 1, 0] rfl
  have hP5 : va_P (dC, dI) vwCl (am_W al aC h1) H5 := hP4.kept (fun k q hk => o5 q.1 (hP4 k q hk).lt)
  have hP6 : va_P (dC, dI) vwCl (am_W al aC h1) H6 := hP5.kept (fun k q hk => o6 q.1 (by have := (hP5 k q hk).lt; omega))
  have hL6 : va_P (dC, dI) vwCl [(H4.size, .inl (cL, (1, .inr (.inl (fun _ => 0)))))] H6 := P5.kept (fun k q hk => o6 q.1 (by have := (P5 k q hk).lt; omega))
  have hS6 : va_S (fun q => x0 ≤ q) s.heap H6 locs4 := ⟨by omega, fun q a1 a2 => (o6 q (by omega)).trans ((o5 q (by omega)).trans (hS4.2.1 q a1 a2)), hS4.2.2⟩
  have X : lw_X p s m #[Value.ref b] c al dC dI aC aV x0 b L H4.size (H4.size + 1) xs cL cD := ⟨⟨hx, hb, hml, hown, hts, hK, hF, hal⟩, hX, hbl, by omega, hL, hsz4, by omega, by omega, hKL, hKD, hcast⟩
  exact lp_loop (c0 := 0 + 1 + cn_mc 9 + 1 + cn_mc 10 + 1 + 1) (s0 := 0 + am_N 9 + cn_mz 9 + am_N 10 + cn_mz 10 + 1 + 1) hy (Nat.le_refl 60000) X (by omega) (by omega)
    (fun H locs ls hS => by
      refine lv_iconst hx hb (v := 1) d16 rfl ?_
      refine va_forget (fun q hq => by rw [hx0]; exact hS.2.2 q hq) ?_
      refine W.base ?_
      exact lw_ret (Drawn.sameBut.refl s.drawn lw_cs) hx hb hrt hlocks d17)
    512 0 0 0 H6 locs4 ls6 h1 (fun _ => 0) (fun _ => 0) (by omega) (by omega) hl9 ⟨hP6, hL6, P6⟩ hS6 R0
