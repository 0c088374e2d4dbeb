section LOOP
variable {p : Program} {l : Launch} {e : Env} {s : State} {m : MethodId} {args : Array Value} {below : List Frame} {meth : Method} {c : Code} {Q : State → Prop}
variable {al : Nat → Nat} {dC : Nat → ClassId} {dI : Nat → Nat → Nat} {aC : Nat → ClassId} {aV : Nat → Nat} {x0 b L out outD : Nat} {xs : Nat → Int32} {cL cD : ClassId}
def lp_pcs : List Nat := [232, 305, 330, 343, 368, 381, 434, 459, 527, 607, 687, 779, 871, 939, 1019, 1075, 1143, 1227, 1311, 1367, 1423, 1491, 1547, 1615, 1695, 1785, 1841, 1866, 1903, 1928, 1965, 1990, 2039, 2076, 2125, 2162, 2187, 2240, 2265, 2290, 2327, 2340, 2396]
def lp_offs : Array Int := #[187, 260, 285, 298, 323, 336, 389, 414, 482, 562, 642, 734, 826, 894, 974, 1030, 1098, 1182, 1266, 1322, 1378, 1446, 1502, 1570, 1650, 1740, 1796, 1821, 1858, 1883, 1920, 1945, 1994, 2031, 2080, 2117, 2142, 2195, 2220, 2245, 2282, 2295, 2351]
def lp_code : Bool :=
  decide (decode code 28 = .ok (.iload 5, 2)) && decide (decode code 30 = .ok (.aload_n 0, 1)) && decide (decode code 31 = .ok (.arraylength, 1)) && decide (decode code 32 = .ok (.bipush 6, 2)) && decide (decode code 34 = .ok (.isub, 1)) && decide (decode code 35 = .ok (.if_icmp .gt 2392, 3)) && decide (decode code 38 = .ok (.aload_n 0, 1)) && decide (decode code 39 = .ok (.iload 5, 2)) &&
  decide (decode code 41 = .ok (.iaload, 1)) && decide (decode code 42 = .ok (.bipush 63, 2)) && decide (decode code 44 = .ok (.iand, 1)) && decide (decode code 45 = .ok (.tableswitch 2376 0 42 lp_offs, 187)) && decide (decode code 2421 = .ok (.iinc 5 6, 3)) && decide (decode code 2424 = .ok (.goto (-2396), 3))
set_option maxRecDepth 10000 in
theorem lp_code_ok : lp_code = true := by decide +kernel
theorem lp_off : ∀ t, t < 43 → lp_offs[t]? = some (((lp_pcs.getD t 0 : Nat) : Int) - 45) := by decide +kernel
/-- one of the cases -/
theorem lp_case {n N nS nU cells slots : Nat} {H : Heap} {locs : List Loc} {ls : Array Slot} {h : am_Hp} {fL : Nat → Int64} {fD : Nat → UInt64} (hy : am_Hy l al) (hN : 60000 ≤ N) (hN1 : 1000 ≤ N) (X : lw_X p s m args c al dC dI aC aV x0 b L out outD xs cL cD) (hn : 6 * n + 6 ≤ L) (hl : lv_has ls 8 (lw_base al b out outD n)) (hH : lw_H al dC dI aC out outD cL cD h fL fD H) (hS : va_S (fun q => x0 ≤ q) s.heap H locs) (hc : cells + 1 ≤ 601024 ∧ slots + 6 ≤ 7293034) (R : qr_R nS nU h h) (K : lw_K p l e s m args below meth c Q al dC dI aC x0 b out outD cL cD n cells slots) :
    ∀ t, t < 43 → W p l e room_1 s m args below meth c H locs cells slots Q (F0 m (lp_pcs.getD t 0) ls [])
  | 0, _ => lk_feed hy hN hN1 X hn hl hH hS hc R K
  | 1, _ => lk_load hy hN hN1 X hn hl hH hS hc R K
  | 2, _ => lk_errorPosition hy hN hN1 X hn hl hH hS hc R K
  | 3, _ => lk_count hy hN hN1 X hn hl hH hS hc R K
  | 4, _ => lk_undoCount hy hN hN1 X hn hl hH hS hc R K
  | 5, _ => lk_named hy hN hN1 X hn hl hH hS hc R K
  | 6, _ => lk_getSetting hy hN hN1 X hn hl hH hS hc R K
  | 7, _ => lk_session hy hN hN1 X hn hl hH hS hc R K
  | 8, _ => lk_event hy hN hN1 X hn hl hH hS hc R K
  | 9, _ => lk_screen hy hN hN1 X hn hl hH hS hc R K
  | 10, _ => lk_at hy hN hN1 X hn hl hH hS hc R K
  | 11, _ => lk_above hy hN hN1 X hn hl hH hS hc R K
  | 12, _ => lk_user hy hN hN1 X hn hl hH hS hc R K
  | 13, _ => lk_shown hy hN hN1 X hn hl hH hS hc R K
  | 14, _ => lk_cursorRow hy hN hN1 X hn hl hH hS hc R K
  | 15, _ => lk_watchers hy hN hN1 X hn hl hH hS hc R K
  | 16, _ => lk_rightSize hy hN hN1 X hn hl hH hS hc R K
  | 17, _ => lk_narrowest hy hN hN1 X hn hl hH hS hc R K
  | 18, _ => lk_whyNot hy hN hN1 X hn hl hH hS hc R K
  | 19, _ => lk_grantedAt hy hN hN1 X hn hl hH hS hc R K
  | 20, _ => lk_reachedAt hy hN hN1 X hn hl hH hS hc R K
  | 21, _ => lk_behind hy hN hN1 X hn hl hH hS hc R K
  | 22, _ => lk_firstShowing hy hN hN1 X hn hl hH hS hc R K
  | 23, _ => lk_firstDifference hy hN hN1 X hn hl hH hS hc R K
  | 24, _ => lk_fullness hy hN hN1 X hn hl hH hS hc R K
  | 25, _ => lk_typedBy hy hN hN1 X hn hl hH hS hc R K
  | 26, _ => lk_account hy hN hN1 X hn hl hH hS hc R K
  | 27, _ => lk_attach hy hN hN1 X hn hl hH hS hc R K
  | 28, _ => lk_detach hy hN hN1 X hn hl hH hS hc R K
  | 29, _ => lk_goTo hy hN hN1 X hn hl hH hS hc R K
  | 30, _ => lk_goLive hy hN hN1 X hn hl hH hS hc R K
  | 31, _ => lk_replay hy hN hN1 X hn hl hH hS hc R K
  | 32, _ => lk_lookBack hy hN hN1 X hn hl hH hS hc R K
  | 33, _ => lk_window hy hN hN1 X hn hl hH hS hc R K
  | 34, _ => lk_type hy hN hN1 X hn hl hH hS hc R K
  | 35, _ => lk_request hy hN hN1 X hn hl hH hS hc R K
  | 36, _ => lk_answer hy hN hN1 X hn hl hH hS hc R K
  | 37, _ => lk_yield hy hN hN1 X hn hl hH hS hc R K
  | 38, _ => lk_pass hy hN hN1 X hn hl hH hS hc R K
  | 39, _ => lk_setSetting hy hN hN1 X hn hl hH hS hc R K
  | 40, _ => lk_undo hy hN hN1 X hn hl hH hS hc R K
  | 41, _ => lk_write hy hN hN1 X hn hl hH hS hc R K
  | 42, _ => lk_outputAt hy hN hN1 X hn hl hH hS hc R K
  | t + 43, z => absurd z (by omega)
theorem lp_lt {n : Nat} (hL : L ≤ 3072) (hn : 6 * n ≤ 3072) : (Int32.ofNat L - Int32.ofInt 6 < Int32.ofNat (6 * n)) ↔ L < 6 * n + 6 := by
  have e1 : (Int32.ofNat L - Int32.ofInt 6).toInt = (L : Int) - 6 := by
    have e2 : Int32.ofNat L = Int32.ofInt (L : Int) := rfl
    rw [e2, ← Int32.ofInt_sub]
    exact Int32.toInt_ofInt_of_le (by omega) (by omega)
  have e3 : (Int32.ofNat (6 * n)).toInt = ((6 * n : Nat) : Int) := Int32.toInt_ofNat_of_lt (by omega)
  rw [Int32.lt_iff_toInt_lt, e1, e3]
  omega
set_option maxHeartbeats 2000000 in
/-- the law's loop: n calls are behind -/
theorem lp_loop {N c0 s0 : Nat} (hy : am_Hy l al) (hN : 60000 ≤ N) (X : lw_X p s m args c al dC dI aC aV x0 b L out outD xs cL cD) (hc0 : c0 + 513 ≤ 601024) (hs0 : s0 + 3078 ≤ 7293034)
    (kk : ∀ (H : Heap) (locs : List Loc) (ls : Array Slot), va_S (fun q => x0 ≤ q) s.heap H locs → W p l e room_1 s m args below meth c H locs 601024 7293034 Q (F0 m 2427 ls [])) :
    ∀ (k n nS nU : Nat) (H : Heap) (locs : List Loc) (ls : Array Slot) (h : am_Hp) (fL : Nat → Int64) (fD : Nat → UInt64), 6 * n ≤ L → L < 6 * n + 6 * k + 6 → lv_has ls 8 (lw_base al b out outD n) → lw_H al dC dI aC out outD cL cD h fL fD H → va_S (fun q => x0 ≤ q) s.heap H locs → qr_R nS nU h h → W p l e room_1 s m args below meth c H locs (c0 + n) (s0 + 6 * n) Q (F0 m 28 ls []) := by
  intro k
  induction k with
  | zero =>
    intro n nS nU H locs ls h fL fD hn hk hl hH hS R
    obtain ⟨C, hXb, hbl, hx0, hL, -⟩ := X
    obtain ⟨hx, hb, -⟩ := C
    have hok := lp_code_ok
    unfold lp_code at hok
    simp only [Bool.and_eq_true, decide_eq_true_eq] at hok
    obtain ⟨⟨⟨⟨⟨⟨⟨⟨⟨⟨⟨⟨⟨d0, d1⟩, d2⟩, d3⟩, d4⟩, d5⟩, d6⟩, d7⟩, d8⟩, d9⟩, d10⟩, d11⟩, d12⟩, d13⟩ := hok
    refine lv_iload hx hb d0 (lv_at hl 5 rfl) ?_
    refine lv_aload_n hx hb (i := 0) d1 rfl (lv_at hl 0 rfl) ?_
    refine va_slen hx hb hXb (by omega) (by show ¬ (x0 ≤ b); omega) hS d2 ?_
    refine lv_bipush hx hb (v := Int32.ofInt 6) d3 (by decide) ?_
    refine lv_isub hx hb d4 ?_
    refine lv_icmp_gt hx hb (tgt := 2427) d5 (by decide) (fun _ => ?_) (fun z => absurd ((lp_lt hL (by omega)).mpr (by omega)) z)
    exact W.widen (by omega) (by omega) (kk H locs ls hS)
  | succ k ih =>
    intro n nS nU H locs ls h fL fD hn hk hl hH hS R
    have X' := X
    obtain ⟨C, hXb, hbl, hx0, hL, -⟩ := X
    obtain ⟨hx, hb, -⟩ := C
    have hok := lp_code_ok
    unfold lp_code at hok
    simp only [Bool.and_eq_true, decide_eq_true_eq] at hok
    obtain ⟨⟨⟨⟨⟨⟨⟨⟨⟨⟨⟨⟨⟨d0, d1⟩, d2⟩, d3⟩, d4⟩, d5⟩, d6⟩, d7⟩, d8⟩, d9⟩, d10⟩, d11⟩, d12⟩, d13⟩ := hok
    refine lv_iload hx hb d0 (lv_at hl 5 rfl) ?_
    refine lv_aload_n hx hb (i := 0) d1 rfl (lv_at hl 0 rfl) ?_
    refine va_slen hx hb hXb (by omega) (by show ¬ (x0 ≤ b); omega) hS d2 ?_
    refine lv_bipush hx hb (v := Int32.ofInt 6) d3 (by decide) ?_
    refine lv_isub hx hb d4 ?_
    refine lv_icmp_gt hx hb (tgt := 2427) d5 (by decide) (fun _ => ?_) (fun z => ?_)
    · exact W.widen (by omega) (by omega) (kk H locs ls hS)
    have hn6 : 6 * n + 6 ≤ L := by
      have := mt (lp_lt hL (by omega)).mpr z
      omega
    have hcc : (c0 + n) + 1 ≤ 601024 ∧ (s0 + 6 * n) + 6 ≤ 7293034 := ⟨by omega, by omega⟩
    have K : lw_K p l e s m args below meth c Q al dC dI aC x0 b out outD cL cD n (c0 + n) (s0 + 6 * n) := by
      intro H2 locs2 ls2 h2 nS2 nU2 fL2 fD2 hl2 hH2 hS2 R2
      have e6 : Int32.ofNat (6 * n) + Int32.ofInt 6 = Int32.ofNat (6 * (n + 1)) := by
        have e2 : Int32.ofInt 6 = Int32.ofNat 6 := rfl
        rw [e2, ← Int32.ofNat_add, show 6 * n + 6 = 6 * (n + 1) by omega]
      refine lv_iinc (k := 5) (v := Int32.ofNat (6 * (n + 1))) (lv' := [(5, .int (Int32.ofNat (6 * (n + 1)))), (0, .ref b), (1, .ref (al 0)), (2, .ref (al 193)), (3, .ref out), (4, .ref outD)]) hx hb d12 hl2 rfl e6 (by decide) rfl (fun ls3 hl3 => ?_)
      refine lv_goto hx hb (tgt := 28) d13 (by decide) ?_
      have hl4 : lv_has ls3 8 (lw_base al b out outD (n + 1)) := lv_sub hl3 [1, 2, 3, 4, 5, 0] rfl
      have h9 := ih (n + 1) nS2 nU2 H2 locs2 ls3 h2 fL2 fD2 (by omega) (by omega) hl4 hH2 hS2 R2
      rw [show c0 + (n + 1) = c0 + n + 1 by omega, show s0 + 6 * (n + 1) = s0 + 6 * n + 6 by omega] at h9
      exact h9
    refine lv_aload_n hx hb (i := 0) d6 rfl (lv_at hl 0 rfl) ?_
    refine lv_iload hx hb d7 (lv_at hl 5 rfl) ?_
    have hix := la_ix (k := 0) (by decide) hn6 hL
    rw [show Int32.ofNat (6 * n) + Int32.ofInt ((0 : Nat) : Int) = Int32.ofNat (6 * n) by
      rw [show Int32.ofInt ((0 : Nat) : Int) = 0 from rfl, Int32.add_zero]] at hix
    refine va_sld hx hb hXb (by omega) (by show ¬ (x0 ≤ b); omega) hS hix.2 d8 ?_
    refine lv_bipush hx hb (v := Int32.ofInt 63) d9 (by decide) ?_
    refine lv_iand hx hb d10 ?_
    generalize hv : xs (Int32.ofNat (6 * n)).toNatClampNeg &&& Int32.ofInt 63 = v
    by_cases h1 : v.toInt < 0
    · refine lv_tableOut hx hb (tgt := 2421) d11 (Or.inl h1) (by decide) ?_
      exact W.widen (k := c0 + n + 1) (n := s0 + 6 * n + 6) (by omega) (by omega) (K H locs ls h nS nU fL fD hl hH hS R)
    · by_cases h2 : 42 < v.toInt
      · refine lv_tableOut hx hb (tgt := 2421) d11 (Or.inr h2) (by decide) ?_
        exact W.widen (k := c0 + n + 1) (n := s0 + 6 * n + 6) (by omega) (by omega) (K H locs ls h nS nU fL fD hl hH hS R)
      · have ht : (v.toInt - 0).toNat < 43 := by omega
        refine lv_tableIn hx hb (tgt := lp_pcs.getD (v.toInt - 0).toNat 0) d11 h1 h2 (lp_off _ ht) (by omega) ?_
        exact lp_case hy hN (by omega) X' hn6 hl hH hS hcc R K _ ht
end LOOP
