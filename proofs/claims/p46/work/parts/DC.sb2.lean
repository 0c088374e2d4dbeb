def e_T_copyOf (X : tm_X) (N : Nat) (a0 : Nat) (i1 : Int32) (S : dm_S) : Option (Nat × dm_S) :=
  (bif tm_cb a0 then (if i1 = (Int32.ofNat (tm_sl (a0 - 920))) then
    bif dm_ok S 4 a0 && Nat.blt (dm_n S + 2000) dm_bg then (let S14 := dm_nw S (4, 7, dm_len S a0) (dm_g S a0) (dm_len S a0)
    bif dm_ok S14 4 (dm_n S) && true then some (dm_n S, S14) else none) else none
  else
    if i1 < 0 then none else bif Nat.ble i1.toNatClampNeg 100000 then (let S1 := dm_nw S (4, 7, i1.toNatClampNeg) (fun _ => 0) i1.toNatClampNeg
    (bif tm_cb a0 then dm_bi (e_T_min X N (Int32.ofNat (tm_sl (a0 - 920))) i1 S1) (fun x3 S2 =>
    if x3 < 0 then none else if (0 : Int32) < 0 then none else if (0 : Int32) < 0 then none else bif dm_ok S2 4 (dm_n S) && Nat.ble ((0 : Int32).toNatClampNeg + x3.toNatClampNeg) (dm_len S2 (dm_n S)) then (bif tm_cb a0 then (bif Nat.ble ((0 : Int32).toNatClampNeg + x3.toNatClampNeg) (tm_sl (a0 - 920)) then (let S4 := tm_cp S2 (dm_n S) (tm_sb (a0 - 920)) (0 : Int32).toNatClampNeg (0 : Int32).toNatClampNeg x3.toNatClampNeg
    some (dm_n S, S4)) else none) else bif dm_ok S2 4 a0 && Nat.ble ((0 : Int32).toNatClampNeg + x3.toNatClampNeg) (dm_len S2 a0) then (let S5 := tm_cp S2 (dm_n S) (dm_g S2 a0) (0 : Int32).toNatClampNeg (0 : Int32).toNatClampNeg x3.toNatClampNeg
    some (dm_n S, S5)) else none) else none) else bif Nat.beq a0 950 then dm_bi (e_T_min X N (Int32.ofNat X.1) i1 S1) (fun x7 S6 =>
    if x7 < 0 then none else if (0 : Int32) < 0 then none else if (0 : Int32) < 0 then none else bif dm_ok S6 4 (dm_n S) && Nat.ble ((0 : Int32).toNatClampNeg + x7.toNatClampNeg) (dm_len S6 (dm_n S)) then (bif tm_cb a0 then (bif Nat.ble ((0 : Int32).toNatClampNeg + x7.toNatClampNeg) (tm_sl (a0 - 920)) then (let S8 := tm_cp S6 (dm_n S) (tm_sb (a0 - 920)) (0 : Int32).toNatClampNeg (0 : Int32).toNatClampNeg x7.toNatClampNeg
    some (dm_n S, S8)) else none) else bif dm_ok S6 4 a0 && Nat.ble ((0 : Int32).toNatClampNeg + x7.toNatClampNeg) (dm_len S6 a0) then (let S9 := tm_cp S6 (dm_n S) (dm_g S6 a0) (0 : Int32).toNatClampNeg (0 : Int32).toNatClampNeg x7.toNatClampNeg
    some (dm_n S, S9)) else none) else none) else bif dm_ok S1 2 a0 || dm_ok S1 4 a0 then dm_bi (e_T_min X N (Int32.ofNat (dm_len S1 a0)) i1 S1) (fun x11 S10 =>
    if x11 < 0 then none else if (0 : Int32) < 0 then none else if (0 : Int32) < 0 then none else bif dm_ok S10 4 (dm_n S) && Nat.ble ((0 : Int32).toNatClampNeg + x11.toNatClampNeg) (dm_len S10 (dm_n S)) then (bif tm_cb a0 then (bif Nat.ble ((0 : Int32).toNatClampNeg + x11.toNatClampNeg) (tm_sl (a0 - 920)) then (let S12 := tm_cp S10 (dm_n S) (tm_sb (a0 - 920)) (0 : Int32).toNatClampNeg (0 : Int32).toNatClampNeg x11.toNatClampNeg
    some (dm_n S, S12)) else none) else bif dm_ok S10 4 a0 && Nat.ble ((0 : Int32).toNatClampNeg + x11.toNatClampNeg) (dm_len S10 a0) then (let S13 := tm_cp S10 (dm_n S) (dm_g S10 a0) (0 : Int32).toNatClampNeg (0 : Int32).toNatClampNeg x11.toNatClampNeg
    some (dm_n S, S13)) else none) else none) else none)) else none) else bif Nat.beq a0 950 then (if i1 = (Int32.ofNat X.1) then
    bif dm_ok S 4 a0 && Nat.blt (dm_n S + 2000) dm_bg then (let S28 := dm_nw S (4, 7, dm_len S a0) (dm_g S a0) (dm_len S a0)
    bif dm_ok S28 4 (dm_n S) && true then some (dm_n S, S28) else none) else none
  else
    if i1 < 0 then none else bif Nat.ble i1.toNatClampNeg 100000 then (let S15 := dm_nw S (4, 7, i1.toNatClampNeg) (fun _ => 0) i1.toNatClampNeg
    (bif tm_cb a0 then dm_bi (e_T_min X N (Int32.ofNat (tm_sl (a0 - 920))) i1 S15) (fun x17 S16 =>
    if x17 < 0 then none else if (0 : Int32) < 0 then none else if (0 : Int32) < 0 then none else bif dm_ok S16 4 (dm_n S) && Nat.ble ((0 : Int32).toNatClampNeg + x17.toNatClampNeg) (dm_len S16 (dm_n S)) then (bif tm_cb a0 then (bif Nat.ble ((0 : Int32).toNatClampNeg + x17.toNatClampNeg) (tm_sl (a0 - 920)) then (let S18 := tm_cp S16 (dm_n S) (tm_sb (a0 - 920)) (0 : Int32).toNatClampNeg (0 : Int32).toNatClampNeg x17.toNatClampNeg
    some (dm_n S, S18)) else none) else bif dm_ok S16 4 a0 && Nat.ble ((0 : Int32).toNatClampNeg + x17.toNatClampNeg) (dm_len S16 a0) then (let S19 := tm_cp S16 (dm_n S) (dm_g S16 a0) (0 : Int32).toNatClampNeg (0 : Int32).toNatClampNeg x17.toNatClampNeg
    some (dm_n S, S19)) else none) else none) else bif Nat.beq a0 950 then dm_bi (e_T_min X N (Int32.ofNat X.1) i1 S15) (fun x21 S20 =>
    if x21 < 0 then none else if (0 : Int32) < 0 then none else if (0 : Int32) < 0 then none else bif dm_ok S20 4 (dm_n S) && Nat.ble ((0 : Int32).toNatClampNeg + x21.toNatClampNeg) (dm_len S20 (dm_n S)) then (bif tm_cb a0 then (bif Nat.ble ((0 : Int32).toNatClampNeg + x21.toNatClampNeg) (tm_sl (a0 - 920)) then (let S22 := tm_cp S20 (dm_n S) (tm_sb (a0 - 920)) (0 : Int32).toNatClampNeg (0 : Int32).toNatClampNeg x21.toNatClampNeg
    some (dm_n S, S22)) else none) else bif dm_ok S20 4 a0 && Nat.ble ((0 : Int32).toNatClampNeg + x21.toNatClampNeg) (dm_len S20 a0) then (let S23 := tm_cp S20 (dm_n S) (dm_g S20 a0) (0 : Int32).toNatClampNeg (0 : Int32).toNatClampNeg x21.toNatClampNeg
    some (dm_n S, S23)) else none) else none) else bif dm_ok S15 2 a0 || dm_ok S15 4 a0 then dm_bi (e_T_min X N (Int32.ofNat (dm_len S15 a0)) i1 S15) (fun x25 S24 =>
    if x25 < 0 then none else if (0 : Int32) < 0 then none else if (0 : Int32) < 0 then none else bif dm_ok S24 4 (dm_n S) && Nat.ble ((0 : Int32).toNatClampNeg + x25.toNatClampNeg) (dm_len S24 (dm_n S)) then (bif tm_cb a0 then (bif Nat.ble ((0 : Int32).toNatClampNeg + x25.toNatClampNeg) (tm_sl (a0 - 920)) then (let S26 := tm_cp S24 (dm_n S) (tm_sb (a0 - 920)) (0 : Int32).toNatClampNeg (0 : Int32).toNatClampNeg x25.toNatClampNeg
    some (dm_n S, S26)) else none) else bif dm_ok S24 4 a0 && Nat.ble ((0 : Int32).toNatClampNeg + x25.toNatClampNeg) (dm_len S24 a0) then (let S27 := tm_cp S24 (dm_n S) (dm_g S24 a0) (0 : Int32).toNatClampNeg (0 : Int32).toNatClampNeg x25.toNatClampNeg
    some (dm_n S, S27)) else none) else none) else none)) else none) else bif dm_ok S 2 a0 || dm_ok S 4 a0 then (if i1 = (Int32.ofNat (dm_len S a0)) then
    bif dm_ok S 4 a0 && Nat.blt (dm_n S + 2000) dm_bg then (let S42 := dm_nw S (4, 7, dm_len S a0) (dm_g S a0) (dm_len S a0)
    bif dm_ok S42 4 (dm_n S) && true then some (dm_n S, S42) else none) else none
  else
    if i1 < 0 then none else bif Nat.ble i1.toNatClampNeg 100000 then (let S29 := dm_nw S (4, 7, i1.toNatClampNeg) (fun _ => 0) i1.toNatClampNeg
    (bif tm_cb a0 then dm_bi (e_T_min X N (Int32.ofNat (tm_sl (a0 - 920))) i1 S29) (fun x31 S30 =>
    if x31 < 0 then none else if (0 : Int32) < 0 then none else if (0 : Int32) < 0 then none else bif dm_ok S30 4 (dm_n S) && Nat.ble ((0 : Int32).toNatClampNeg + x31.toNatClampNeg) (dm_len S30 (dm_n S)) then (bif tm_cb a0 then (bif Nat.ble ((0 : Int32).toNatClampNeg + x31.toNatClampNeg) (tm_sl (a0 - 920)) then (let S32 := tm_cp S30 (dm_n S) (tm_sb (a0 - 920)) (0 : Int32).toNatClampNeg (0 : Int32).toNatClampNeg x31.toNatClampNeg
    some (dm_n S, S32)) else none) else bif dm_ok S30 4 a0 && Nat.ble ((0 : Int32).toNatClampNeg + x31.toNatClampNeg) (dm_len S30 a0) then (let S33 := tm_cp S30 (dm_n S) (dm_g S30 a0) (0 : Int32).toNatClampNeg (0 : Int32).toNatClampNeg x31.toNatClampNeg
    some (dm_n S, S33)) else none) else none) else bif Nat.beq a0 950 then dm_bi (e_T_min X N (Int32.ofNat X.1) i1 S29) (fun x35 S34 =>
    if x35 < 0 then none else if (0 : Int32) < 0 then none else if (0 : Int32) < 0 then none else bif dm_ok S34 4 (dm_n S) && Nat.ble ((0 : Int32).toNatClampNeg + x35.toNatClampNeg) (dm_len S34 (dm_n S)) then (bif tm_cb a0 then (bif Nat.ble ((0 : Int32).toNatClampNeg + x35.toNatClampNeg) (tm_sl (a0 - 920)) then (let S36 := tm_cp S34 (dm_n S) (tm_sb (a0 - 920)) (0 : Int32).toNatClampNeg (0 : Int32).toNatClampNeg x35.toNatClampNeg
    some (dm_n S, S36)) else none) else bif dm_ok S34 4 a0 && Nat.ble ((0 : Int32).toNatClampNeg + x35.toNatClampNeg) (dm_len S34 a0) then (let S37 := tm_cp S34 (dm_n S) (dm_g S34 a0) (0 : Int32).toNatClampNeg (0 : Int32).toNatClampNeg x35.toNatClampNeg
    some (dm_n S, S37)) else none) else none) else bif dm_ok S29 2 a0 || dm_ok S29 4 a0 then dm_bi (e_T_min X N (Int32.ofNat (dm_len S29 a0)) i1 S29) (fun x39 S38 =>
    if x39 < 0 then none else if (0 : Int32) < 0 then none else if (0 : Int32) < 0 then none else bif dm_ok S38 4 (dm_n S) && Nat.ble ((0 : Int32).toNatClampNeg + x39.toNatClampNeg) (dm_len S38 (dm_n S)) then (bif tm_cb a0 then (bif Nat.ble ((0 : Int32).toNatClampNeg + x39.toNatClampNeg) (tm_sl (a0 - 920)) then (let S40 := tm_cp S38 (dm_n S) (tm_sb (a0 - 920)) (0 : Int32).toNatClampNeg (0 : Int32).toNatClampNeg x39.toNatClampNeg
    some (dm_n S, S40)) else none) else bif dm_ok S38 4 a0 && Nat.ble ((0 : Int32).toNatClampNeg + x39.toNatClampNeg) (dm_len S38 a0) then (let S41 := tm_cp S38 (dm_n S) (dm_g S38 a0) (0 : Int32).toNatClampNeg (0 : Int32).toNatClampNeg x39.toNatClampNeg
    some (dm_n S, S41)) else none) else none) else none)) else none) else none)
def ec_T_copyOf (X : tm_X) (N : Nat) : dm_Cl := fun _ as S kk => am_sa as (fun a0 w0 => am_s1 w0 (fun i1 w1 => am_st0 w1 (dm_bi (e_T_copyOf X N a0 i1 S) (fun v S => kk (some (.ref v)) S))))
def dtT_copyOf : List (Nat × Instr × Nat) := [(0, .iload_n 1, 1), (1, .aload_n 0, 1), (2, .arraylength, 1), (3, .if_icmp .ne 11, 3), (6, .aload_n 0, 1), (7, .invokevirtual 310, 3), (10, .checkcast 311, 3), (13, .areturn, 1), (14, .iload_n 1, 1), (15, .newarray .byte, 2), (17, .astore_n 2, 1), (18, .aload_n 0, 1), (19, .iconst 0, 1), (20, .aload_n 2, 1), (21, .iconst 0, 1), (22, .aload_n 0, 1), (23, .arraylength, 1), (24, .iload_n 1, 1), (25, .invokestatic 304, 3), (28, .invokestatic 150, 3), (31, .aload_n 2, 1), (32, .areturn, 1)]
def eoC_T_copyOf (X : tm_X) (N : Nat) : am_Orc := am_o0
def eoD_T_copyOf (X : tm_X) (N : Nat) : dm_Orc := (dm_oc 22 (ec_T_min X N) dm_o0)
set_option maxRecDepth 100000 in
theorem dtok_T_copyOf : tm_tok 23 dtT_copyOf := by
  unfold tm_tok
  decide +kernel
set_option maxHeartbeats 4000000 in
set_option maxRecDepth 100000 in
theorem em_T_copyOf {l : Launch} {al : Nat → Nat} {dC : Nat → ClassId} {dI : Nat → Nat → Nat} {aC : Nat → ClassId} {aV : Nat → Nat} {x0 x1 : Nat} (hy : am_Hy l al) (hA : dm_Al al x0 x1) (X : tm_X) (N : Nat) (a0 : Nat) (i1 : Int32) (S : dm_S) (r : (Nat × dm_S)) (hf : e_T_copyOf X N a0 i1 S = some r) : tm_Met l al dC dI aC aV x0 x1 X 23 [.ref a0, .int i1] S (some (.ref r.1)) r.2 :=
  tm_met (tab := dtT_copyOf) (oC := eoC_T_copyOf X N) (oD := eoD_T_copyOf X N) (ret := dm_rr) (g := r) (by decide) hA dtok_T_copyOf am_os0 (tm_os1 (es_T_min hy hA X N) tm_os0) dm_rr_inv (Nat.le_of_ble_eq_true rfl) (fun At cl wk => by
    skip
    exact cl dm_C0 dm_u0 400 0 _ _ S hf)
theorem es_T_copyOf {l : Launch} {al : Nat → Nat} {dC : Nat → ClassId} {dI : Nat → Nat → Nat} {aC : Nat → ClassId} {aV : Nat → Nat} {x0 x1 : Nat} (hy : am_Hy l al) (hA : dm_Al al x0 x1) (X : tm_X) (N : Nat) : tm_CS l al dC dI aC aV x0 x1 X 23 (ec_T_copyOf X N) := by
  intro γ as S kk g hc0
  obtain ⟨a0, w0, e_0, hc1⟩ := am_sa_some hc0
  obtain ⟨i1, w1, e_1, hc2⟩ := am_s1_some hc1
  obtain ⟨e_2, hc⟩ := am_st0_some hc2
  subst e_2
  subst e_1
  subst e_0
  obtain ⟨q, e1, e2⟩ := dm_bi_some hc
  exact ⟨_, _, em_T_copyOf hy hA X N a0 i1 S _ e1, e2⟩

def e_T_ensure (X : tm_X) (N : Nat) (a0 : Nat) (i1 : Int32) (S : dm_S) : Option (Unit × dm_S) :=
  bif tm_cs a0 then (none) else bif dm_ok S 6 a0 then (if dm_g S a0 0 < 0 then none else
  (bif tm_cb ((dm_g S a0 0).toNatClampNeg) then bif tm_cs a0 then (none) else bif dm_ok S 6 a0 then (if (i1 - ((Int32.ofNat (tm_sl ((dm_g S a0 0).toNatClampNeg - 920))) >>> ((dm_g S a0 1) &&& 31))) ≤ 0 then
    some ((), S)
  else
    bif tm_cs a0 then (none) else bif dm_ok S 6 a0 then (if dm_g S a0 0 < 0 then none else
    bif dm_ok S 6 a0 then dm_bi (e_T_newCap X N a0 i1 S) (fun x2 S1 =>
    bif tm_cs a0 then (none) else bif dm_ok S1 6 a0 then dm_bi (e_T_copyOf X N ((dm_g S a0 0).toNatClampNeg) (x2 <<< ((dm_g S1 a0 1) &&& 31)) S1) (fun b4 S3 =>
    bif dm_ok S3 6 a0 && dm_ok S3 4 b4 && Nat.blt b4 dm_bg then (let S5 := dm_wr S3 a0 0 (am_z ((b4 : Nat) : Int))
    some ((), S5)) else none) else none) else none) else none) else none else bif Nat.beq ((dm_g S a0 0).toNatClampNeg) 950 then bif tm_cs a0 then (none) else bif dm_ok S 6 a0 then (if (i1 - ((Int32.ofNat X.1) >>> ((dm_g S a0 1) &&& 31))) ≤ 0 then
    some ((), S)
  else
    bif tm_cs a0 then (none) else bif dm_ok S 6 a0 then (if dm_g S a0 0 < 0 then none else
    bif dm_ok S 6 a0 then dm_bi (e_T_newCap X N a0 i1 S) (fun x7 S6 =>
    bif tm_cs a0 then (none) else bif dm_ok S6 6 a0 then dm_bi (e_T_copyOf X N ((dm_g S a0 0).toNatClampNeg) (x7 <<< ((dm_g S6 a0 1) &&& 31)) S6) (fun b9 S8 =>
    bif dm_ok S8 6 a0 && dm_ok S8 4 b9 && Nat.blt b9 dm_bg then (let S10 := dm_wr S8 a0 0 (am_z ((b9 : Nat) : Int))
    some ((), S10)) else none) else none) else none) else none) else none else bif dm_ok S 2 ((dm_g S a0 0).toNatClampNeg) || dm_ok S 4 ((dm_g S a0 0).toNatClampNeg) then bif tm_cs a0 then (none) else bif dm_ok S 6 a0 then (if (i1 - ((Int32.ofNat (dm_len S ((dm_g S a0 0).toNatClampNeg))) >>> ((dm_g S a0 1) &&& 31))) ≤ 0 then
    some ((), S)
  else
    bif tm_cs a0 then (none) else bif dm_ok S 6 a0 then (if dm_g S a0 0 < 0 then none else
    bif dm_ok S 6 a0 then dm_bi (e_T_newCap X N a0 i1 S) (fun x12 S11 =>
    bif tm_cs a0 then (none) else bif dm_ok S11 6 a0 then dm_bi (e_T_copyOf X N ((dm_g S a0 0).toNatClampNeg) (x12 <<< ((dm_g S11 a0 1) &&& 31)) S11) (fun b14 S13 =>
    bif dm_ok S13 6 a0 && dm_ok S13 4 b14 && Nat.blt b14 dm_bg then (let S15 := dm_wr S13 a0 0 (am_z ((b14 : Nat) : Int))
    some ((), S15)) else none) else none) else none) else none) else none else none)) else none
def ec_T_ensure (X : tm_X) (N : Nat) : dm_Cl := fun _ as S kk => am_sa as (fun a0 w0 => am_s1 w0 (fun i1 w1 => am_st0 w1 (dm_bi (e_T_ensure X N a0 i1 S) (fun v S => kk none S))))
def dtT_ensure : List (Nat × Instr × Nat) := [(0, .aload_n 0, 1), (1, .getfield 15, 3), (4, .arraylength, 1), (5, .aload_n 0, 1), (6, .getfield 22, 3), (9, .ishr, 1), (10, .istore_n 2, 1), (11, .iload_n 1, 1), (12, .iload_n 2, 1), (13, .isub, 1), (14, .ifCond .le 24, 3), (17, .aload_n 0, 1), (18, .aload_n 0, 1), (19, .getfield 15, 3), (22, .aload_n 0, 1), (23, .iload_n 1, 1), (24, .invokevirtual 104, 3), (27, .aload_n 0, 1), (28, .getfield 22, 3), (31, .ishl, 1), (32, .invokestatic 108, 3), (35, .putfield 15, 3), (38, .return_, 1)]
def eoC_T_ensure (X : tm_X) (N : Nat) : am_Orc := am_o0
def eoD_T_ensure (X : tm_X) (N : Nat) : dm_Orc := (dm_oc 19 (ec_T_newCap X N) (dm_oc 23 (ec_T_copyOf X N) dm_o0))
set_option maxRecDepth 100000 in
theorem dtok_T_ensure : tm_tok 18 dtT_ensure := by
  unfold tm_tok
  decide +kernel
set_option maxHeartbeats 4000000 in
set_option maxRecDepth 100000 in
theorem em_T_ensure {l : Launch} {al : Nat → Nat} {dC : Nat → ClassId} {dI : Nat → Nat → Nat} {aC : Nat → ClassId} {aV : Nat → Nat} {x0 x1 : Nat} (hy : am_Hy l al) (hA : dm_Al al x0 x1) (X : tm_X) (N : Nat) (a0 : Nat) (i1 : Int32) (S : dm_S) (r : (Unit × dm_S)) (hf : e_T_ensure X N a0 i1 S = some r) : tm_Met l al dC dI aC aV x0 x1 X 18 [.ref a0, .int i1] S (none) r.2 :=
  tm_met (tab := dtT_ensure) (oC := eoC_T_ensure X N) (oD := eoD_T_ensure X N) (ret := dm_rv') (g := r) (by decide) hA dtok_T_ensure am_os0 (tm_os1 (es_T_newCap hy hA X N) (tm_os1 (es_T_copyOf hy hA X N) tm_os0)) dm_rv'_inv (Nat.le_of_ble_eq_true rfl) (fun At cl wk => by
    skip
    exact cl dm_C0 dm_u0 400 0 _ _ S hf)
theorem es_T_ensure {l : Launch} {al : Nat → Nat} {dC : Nat → ClassId} {dI : Nat → Nat → Nat} {aC : Nat → ClassId} {aV : Nat → Nat} {x0 x1 : Nat} (hy : am_Hy l al) (hA : dm_Al al x0 x1) (X : tm_X) (N : Nat) : tm_CS l al dC dI aC aV x0 x1 X 18 (ec_T_ensure X N) := by
  intro γ as S kk g hc0
  obtain ⟨a0, w0, e_0, hc1⟩ := am_sa_some hc0
  obtain ⟨i1, w1, e_1, hc2⟩ := am_s1_some hc1
  obtain ⟨e_2, hc⟩ := am_st0_some hc2
  subst e_2
  subst e_1
  subst e_0
  obtain ⟨q, e1, e2⟩ := dm_bi_some hc
  exact ⟨_, _, em_T_ensure hy hA X N a0 i1 S _ e1, e2⟩

def e_T_inflIf (X : tm_X) (N : Nat) (a0 : Nat) (a1 : Nat) (S : dm_S) : Option (Unit × dm_S) :=
  (if (1 : Int32) = 0 then
    some ((), S)
  else
    bif tm_cs a0 then (none) else bif dm_ok S 6 a0 then bif tm_cs a1 || dm_ok S 5 a1 then dm_bi (e_T_coder X N a1 S) (fun x2 S1 =>
    (if (dm_g S a0 1) = x2 then
      some ((), S1)
    else
      none)) else none else none)
def ec_T_inflIf (X : tm_X) (N : Nat) : dm_Cl := fun _ as S kk => am_sa as (fun a0 w0 => am_sa w0 (fun a1 w1 => am_st0 w1 (dm_bi (e_T_inflIf X N a0 a1 S) (fun v S => kk none S))))
def dtT_inflIf : List (Nat × Instr × Nat) := [(0, .getstatic 18, 3), (3, .ifCond .eq 18, 3), (6, .aload_n 0, 1), (7, .getfield 22, 3), (10, .aload_n 1, 1), (11, .invokevirtual 40, 3), (14, .if_icmp .eq 7, 3), (17, .aload_n 0, 1), (18, .invokevirtual 195, 3), (21, .return_, 1)]
def eoC_T_inflIf (X : tm_X) (N : Nat) : am_Orc := am_o0
def eoD_T_inflIf (X : tm_X) (N : Nat) : dm_Orc := (dm_oc 28 (ec_T_coder X N) dm_o0)
set_option maxRecDepth 100000 in
theorem dtok_T_inflIf : tm_tok 25 dtT_inflIf := by
  unfold tm_tok
  decide +kernel
set_option maxHeartbeats 4000000 in
set_option maxRecDepth 100000 in
theorem em_T_inflIf {l : Launch} {al : Nat → Nat} {dC : Nat → ClassId} {dI : Nat → Nat → Nat} {aC : Nat → ClassId} {aV : Nat → Nat} {x0 x1 : Nat} (hy : am_Hy l al) (hA : dm_Al al x0 x1) (X : tm_X) (N : Nat) (a0 : Nat) (a1 : Nat) (S : dm_S) (r : (Unit × dm_S)) (hf : e_T_inflIf X N a0 a1 S = some r) : tm_Met l al dC dI aC aV x0 x1 X 25 [.ref a0, .ref a1] S (none) r.2 :=
  tm_met (tab := dtT_inflIf) (oC := eoC_T_inflIf X N) (oD := eoD_T_inflIf X N) (ret := dm_rv') (g := r) (by decide) hA dtok_T_inflIf am_os0 (tm_os1 (es_T_coder hy hA X N) tm_os0) dm_rv'_inv (Nat.le_of_ble_eq_true rfl) (fun At cl wk => by
    skip
    exact cl dm_C0 dm_u0 400 0 _ _ S hf)
theorem es_T_inflIf {l : Launch} {al : Nat → Nat} {dC : Nat → ClassId} {dI : Nat → Nat → Nat} {aC : Nat → ClassId} {aV : Nat → Nat} {x0 x1 : Nat} (hy : am_Hy l al) (hA : dm_Al al x0 x1) (X : tm_X) (N : Nat) : tm_CS l al dC dI aC aV x0 x1 X 25 (ec_T_inflIf X N) := by
  intro γ as S kk g hc0
  obtain ⟨a0, w0, e_0, hc1⟩ := am_sa_some hc0
  obtain ⟨a1, w1, e_1, hc2⟩ := am_sa_some hc1
  obtain ⟨e_2, hc⟩ := am_st0_some hc2
  subst e_2
  subst e_1
  subst e_0
  obtain ⟨q, e1, e2⟩ := dm_bi_some hc
  exact ⟨_, _, em_T_inflIf hy hA X N a0 a1 S _ e1, e2⟩

def e_T_getBytes (X : tm_X) (N : Nat) (a0 : Nat) (a1 : Nat) (i2 : Int32) (i3 : Int32) (S : dm_S) : Option (Unit × dm_S) :=
  bif tm_cs a0 || dm_ok S 5 a0 then dm_bi (e_T_coder X N a0 S) (fun x2 S1 =>
  (if x2 = i3 then
    bif tm_cs a0 then (bif tm_cs a0 then ((bif tm_cb (a0 + 20) then if (Int32.ofNat (tm_sl ((a0 + 20) - 920))) < 0 then none else if (i2 <<< (i3 &&& 31)) < 0 then none else if (0 : Int32) < 0 then none else bif dm_ok S1 4 a1 && Nat.ble ((i2 <<< (i3 &&& 31)).toNatClampNeg + (Int32.ofNat (tm_sl ((a0 + 20) - 920))).toNatClampNeg) (dm_len S1 a1) then (bif tm_cb (a0 + 20) then (bif Nat.ble ((0 : Int32).toNatClampNeg + (Int32.ofNat (tm_sl ((a0 + 20) - 920))).toNatClampNeg) (tm_sl ((a0 + 20) - 920)) then (let S21 := tm_cp S1 a1 (tm_sb ((a0 + 20) - 920)) (0 : Int32).toNatClampNeg (i2 <<< (i3 &&& 31)).toNatClampNeg (Int32.ofNat (tm_sl ((a0 + 20) - 920))).toNatClampNeg
    some ((), S21)) else none) else bif dm_ok S1 4 (a0 + 20) && Nat.ble ((0 : Int32).toNatClampNeg + (Int32.ofNat (tm_sl ((a0 + 20) - 920))).toNatClampNeg) (dm_len S1 (a0 + 20)) then (let S22 := tm_cp S1 a1 (dm_g S1 (a0 + 20)) (0 : Int32).toNatClampNeg (i2 <<< (i3 &&& 31)).toNatClampNeg (Int32.ofNat (tm_sl ((a0 + 20) - 920))).toNatClampNeg
    some ((), S22)) else none) else none else bif Nat.beq (a0 + 20) 950 then if (Int32.ofNat X.1) < 0 then none else if (i2 <<< (i3 &&& 31)) < 0 then none else if (0 : Int32) < 0 then none else bif dm_ok S1 4 a1 && Nat.ble ((i2 <<< (i3 &&& 31)).toNatClampNeg + (Int32.ofNat X.1).toNatClampNeg) (dm_len S1 a1) then (bif tm_cb (a0 + 20) then (bif Nat.ble ((0 : Int32).toNatClampNeg + (Int32.ofNat X.1).toNatClampNeg) (tm_sl ((a0 + 20) - 920)) then (let S23 := tm_cp S1 a1 (tm_sb ((a0 + 20) - 920)) (0 : Int32).toNatClampNeg (i2 <<< (i3 &&& 31)).toNatClampNeg (Int32.ofNat X.1).toNatClampNeg
    some ((), S23)) else none) else bif dm_ok S1 4 (a0 + 20) && Nat.ble ((0 : Int32).toNatClampNeg + (Int32.ofNat X.1).toNatClampNeg) (dm_len S1 (a0 + 20)) then (let S24 := tm_cp S1 a1 (dm_g S1 (a0 + 20)) (0 : Int32).toNatClampNeg (i2 <<< (i3 &&& 31)).toNatClampNeg (Int32.ofNat X.1).toNatClampNeg
    some ((), S24)) else none) else none else bif dm_ok S1 2 (a0 + 20) || dm_ok S1 4 (a0 + 20) then if (Int32.ofNat (dm_len S1 (a0 + 20))) < 0 then none else if (i2 <<< (i3 &&& 31)) < 0 then none else if (0 : Int32) < 0 then none else bif dm_ok S1 4 a1 && Nat.ble ((i2 <<< (i3 &&& 31)).toNatClampNeg + (Int32.ofNat (dm_len S1 (a0 + 20))).toNatClampNeg) (dm_len S1 a1) then (bif tm_cb (a0 + 20) then (bif Nat.ble ((0 : Int32).toNatClampNeg + (Int32.ofNat (dm_len S1 (a0 + 20))).toNatClampNeg) (tm_sl ((a0 + 20) - 920)) then (let S25 := tm_cp S1 a1 (tm_sb ((a0 + 20) - 920)) (0 : Int32).toNatClampNeg (i2 <<< (i3 &&& 31)).toNatClampNeg (Int32.ofNat (dm_len S1 (a0 + 20))).toNatClampNeg
    some ((), S25)) else none) else bif dm_ok S1 4 (a0 + 20) && Nat.ble ((0 : Int32).toNatClampNeg + (Int32.ofNat (dm_len S1 (a0 + 20))).toNatClampNeg) (dm_len S1 (a0 + 20)) then (let S26 := tm_cp S1 a1 (dm_g S1 (a0 + 20)) (0 : Int32).toNatClampNeg (i2 <<< (i3 &&& 31)).toNatClampNeg (Int32.ofNat (dm_len S1 (a0 + 20))).toNatClampNeg
    some ((), S26)) else none) else none else none)) else bif dm_ok S1 5 a0 then (if dm_g S1 a0 0 < 0 then none else
    (bif tm_cb ((dm_g S1 a0 0).toNatClampNeg) then if (Int32.ofNat (tm_sl ((dm_g S1 a0 0).toNatClampNeg - 920))) < 0 then none else if (i2 <<< (i3 &&& 31)) < 0 then none else if (0 : Int32) < 0 then none else bif dm_ok S1 4 a1 && Nat.ble ((i2 <<< (i3 &&& 31)).toNatClampNeg + (Int32.ofNat (tm_sl ((dm_g S1 a0 0).toNatClampNeg - 920))).toNatClampNeg) (dm_len S1 a1) then (bif tm_cb (a0 + 20) then (bif Nat.ble ((0 : Int32).toNatClampNeg + (Int32.ofNat (tm_sl ((dm_g S1 a0 0).toNatClampNeg - 920))).toNatClampNeg) (tm_sl ((a0 + 20) - 920)) then (let S15 := tm_cp S1 a1 (tm_sb ((a0 + 20) - 920)) (0 : Int32).toNatClampNeg (i2 <<< (i3 &&& 31)).toNatClampNeg (Int32.ofNat (tm_sl ((dm_g S1 a0 0).toNatClampNeg - 920))).toNatClampNeg
    some ((), S15)) else none) else bif dm_ok S1 4 (a0 + 20) && Nat.ble ((0 : Int32).toNatClampNeg + (Int32.ofNat (tm_sl ((dm_g S1 a0 0).toNatClampNeg - 920))).toNatClampNeg) (dm_len S1 (a0 + 20)) then (let S16 := tm_cp S1 a1 (dm_g S1 (a0 + 20)) (0 : Int32).toNatClampNeg (i2 <<< (i3 &&& 31)).toNatClampNeg (Int32.ofNat (tm_sl ((dm_g S1 a0 0).toNatClampNeg - 920))).toNatClampNeg
    some ((), S16)) else none) else none else bif Nat.beq ((dm_g S1 a0 0).toNatClampNeg) 950 then if (Int32.ofNat X.1) < 0 then none else if (i2 <<< (i3 &&& 31)) < 0 then none else if (0 : Int32) < 0 then none else bif dm_ok S1 4 a1 && Nat.ble ((i2 <<< (i3 &&& 31)).toNatClampNeg + (Int32.ofNat X.1).toNatClampNeg) (dm_len S1 a1) then (bif tm_cb (a0 + 20) then (bif Nat.ble ((0 : Int32).toNatClampNeg + (Int32.ofNat X.1).toNatClampNeg) (tm_sl ((a0 + 20) - 920)) then (let S17 := tm_cp S1 a1 (tm_sb ((a0 + 20) - 920)) (0 : Int32).toNatClampNeg (i2 <<< (i3 &&& 31)).toNatClampNeg (Int32.ofNat X.1).toNatClampNeg
    some ((), S17)) else none) else bif dm_ok S1 4 (a0 + 20) && Nat.ble ((0 : Int32).toNatClampNeg + (Int32.ofNat X.1).toNatClampNeg) (dm_len S1 (a0 + 20)) then (let S18 := tm_cp S1 a1 (dm_g S1 (a0 + 20)) (0 : Int32).toNatClampNeg (i2 <<< (i3 &&& 31)).toNatClampNeg (Int32.ofNat X.1).toNatClampNeg
    some ((), S18)) else none) else none else bif dm_ok S1 2 ((dm_g S1 a0 0).toNatClampNeg) || dm_ok S1 4 ((dm_g S1 a0 0).toNatClampNeg) then if (Int32.ofNat (dm_len S1 ((dm_g S1 a0 0).toNatClampNeg))) < 0 then none else if (i2 <<< (i3 &&& 31)) < 0 then none else if (0 : Int32) < 0 then none else bif dm_ok S1 4 a1 && Nat.ble ((i2 <<< (i3 &&& 31)).toNatClampNeg + (Int32.ofNat (dm_len S1 ((dm_g S1 a0 0).toNatClampNeg))).toNatClampNeg) (dm_len S1 a1) then (bif tm_cb (a0 + 20) then (bif Nat.ble ((0 : Int32).toNatClampNeg + (Int32.ofNat (dm_len S1 ((dm_g S1 a0 0).toNatClampNeg))).toNatClampNeg) (tm_sl ((a0 + 20) - 920)) then (let S19 := tm_cp S1 a1 (tm_sb ((a0 + 20) - 920)) (0 : Int32).toNatClampNeg (i2 <<< (i3 &&& 31)).toNatClampNeg (Int32.ofNat (dm_len S1 ((dm_g S1 a0 0).toNatClampNeg))).toNatClampNeg
    some ((), S19)) else none) else bif dm_ok S1 4 (a0 + 20) && Nat.ble ((0 : Int32).toNatClampNeg + (Int32.ofNat (dm_len S1 ((dm_g S1 a0 0).toNatClampNeg))).toNatClampNeg) (dm_len S1 (a0 + 20)) then (let S20 := tm_cp S1 a1 (dm_g S1 (a0 + 20)) (0 : Int32).toNatClampNeg (i2 <<< (i3 &&& 31)).toNatClampNeg (Int32.ofNat (dm_len S1 ((dm_g S1 a0 0).toNatClampNeg))).toNatClampNeg
    some ((), S20)) else none) else none else none)) else none) else bif dm_ok S1 5 a0 then (if dm_g S1 a0 0 < 0 then none else
    bif tm_cs a0 then ((bif tm_cb (a0 + 20) then if (Int32.ofNat (tm_sl ((a0 + 20) - 920))) < 0 then none else if (i2 <<< (i3 &&& 31)) < 0 then none else if (0 : Int32) < 0 then none else bif dm_ok S1 4 a1 && Nat.ble ((i2 <<< (i3 &&& 31)).toNatClampNeg + (Int32.ofNat (tm_sl ((a0 + 20) - 920))).toNatClampNeg) (dm_len S1 a1) then (bif tm_cb ((dm_g S1 a0 0).toNatClampNeg) then (bif Nat.ble ((0 : Int32).toNatClampNeg + (Int32.ofNat (tm_sl ((a0 + 20) - 920))).toNatClampNeg) (tm_sl (((dm_g S1 a0 0).toNatClampNeg) - 920)) then (let S9 := tm_cp S1 a1 (tm_sb (((dm_g S1 a0 0).toNatClampNeg) - 920)) (0 : Int32).toNatClampNeg (i2 <<< (i3 &&& 31)).toNatClampNeg (Int32.ofNat (tm_sl ((a0 + 20) - 920))).toNatClampNeg
    some ((), S9)) else none) else bif dm_ok S1 4 ((dm_g S1 a0 0).toNatClampNeg) && Nat.ble ((0 : Int32).toNatClampNeg + (Int32.ofNat (tm_sl ((a0 + 20) - 920))).toNatClampNeg) (dm_len S1 ((dm_g S1 a0 0).toNatClampNeg)) then (let S10 := tm_cp S1 a1 (dm_g S1 ((dm_g S1 a0 0).toNatClampNeg)) (0 : Int32).toNatClampNeg (i2 <<< (i3 &&& 31)).toNatClampNeg (Int32.ofNat (tm_sl ((a0 + 20) - 920))).toNatClampNeg
    some ((), S10)) else none) else none else bif Nat.beq (a0 + 20) 950 then if (Int32.ofNat X.1) < 0 then none else if (i2 <<< (i3 &&& 31)) < 0 then none else if (0 : Int32) < 0 then none else bif dm_ok S1 4 a1 && Nat.ble ((i2 <<< (i3 &&& 31)).toNatClampNeg + (Int32.ofNat X.1).toNatClampNeg) (dm_len S1 a1) then (bif tm_cb ((dm_g S1 a0 0).toNatClampNeg) then (bif Nat.ble ((0 : Int32).toNatClampNeg + (Int32.ofNat X.1).toNatClampNeg) (tm_sl (((dm_g S1 a0 0).toNatClampNeg) - 920)) then (let S11 := tm_cp S1 a1 (tm_sb (((dm_g S1 a0 0).toNatClampNeg) - 920)) (0 : Int32).toNatClampNeg (i2 <<< (i3 &&& 31)).toNatClampNeg (Int32.ofNat X.1).toNatClampNeg
    some ((), S11)) else none) else bif dm_ok S1 4 ((dm_g S1 a0 0).toNatClampNeg) && Nat.ble ((0 : Int32).toNatClampNeg + (Int32.ofNat X.1).toNatClampNeg) (dm_len S1 ((dm_g S1 a0 0).toNatClampNeg)) then (let S12 := tm_cp S1 a1 (dm_g S1 ((dm_g S1 a0 0).toNatClampNeg)) (0 : Int32).toNatClampNeg (i2 <<< (i3 &&& 31)).toNatClampNeg (Int32.ofNat X.1).toNatClampNeg
    some ((), S12)) else none) else none else bif dm_ok S1 2 (a0 + 20) || dm_ok S1 4 (a0 + 20) then if (Int32.ofNat (dm_len S1 (a0 + 20))) < 0 then none else if (i2 <<< (i3 &&& 31)) < 0 then none else if (0 : Int32) < 0 then none else bif dm_ok S1 4 a1 && Nat.ble ((i2 <<< (i3 &&& 31)).toNatClampNeg + (Int32.ofNat (dm_len S1 (a0 + 20))).toNatClampNeg) (dm_len S1 a1) then (bif tm_cb ((dm_g S1 a0 0).toNatClampNeg) then (bif Nat.ble ((0 : Int32).toNatClampNeg + (Int32.ofNat (dm_len S1 (a0 + 20))).toNatClampNeg) (tm_sl (((dm_g S1 a0 0).toNatClampNeg) - 920)) then (let S13 := tm_cp S1 a1 (tm_sb (((dm_g S1 a0 0).toNatClampNeg) - 920)) (0 : Int32).toNatClampNeg (i2 <<< (i3 &&& 31)).toNatClampNeg (Int32.ofNat (dm_len S1 (a0 + 20))).toNatClampNeg
    some ((), S13)) else none) else bif dm_ok S1 4 ((dm_g S1 a0 0).toNatClampNeg) && Nat.ble ((0 : Int32).toNatClampNeg + (Int32.ofNat (dm_len S1 (a0 + 20))).toNatClampNeg) (dm_len S1 ((dm_g S1 a0 0).toNatClampNeg)) then (let S14 := tm_cp S1 a1 (dm_g S1 ((dm_g S1 a0 0).toNatClampNeg)) (0 : Int32).toNatClampNeg (i2 <<< (i3 &&& 31)).toNatClampNeg (Int32.ofNat (dm_len S1 (a0 + 20))).toNatClampNeg
    some ((), S14)) else none) else none else none)) else bif dm_ok S1 5 a0 then (if dm_g S1 a0 0 < 0 then none else
    (bif tm_cb ((dm_g S1 a0 0).toNatClampNeg) then if (Int32.ofNat (tm_sl ((dm_g S1 a0 0).toNatClampNeg - 920))) < 0 then none else if (i2 <<< (i3 &&& 31)) < 0 then none else if (0 : Int32) < 0 then none else bif dm_ok S1 4 a1 && Nat.ble ((i2 <<< (i3 &&& 31)).toNatClampNeg + (Int32.ofNat (tm_sl ((dm_g S1 a0 0).toNatClampNeg - 920))).toNatClampNeg) (dm_len S1 a1) then (bif tm_cb ((dm_g S1 a0 0).toNatClampNeg) then (bif Nat.ble ((0 : Int32).toNatClampNeg + (Int32.ofNat (tm_sl ((dm_g S1 a0 0).toNatClampNeg - 920))).toNatClampNeg) (tm_sl (((dm_g S1 a0 0).toNatClampNeg) - 920)) then (let S3 := tm_cp S1 a1 (tm_sb (((dm_g S1 a0 0).toNatClampNeg) - 920)) (0 : Int32).toNatClampNeg (i2 <<< (i3 &&& 31)).toNatClampNeg (Int32.ofNat (tm_sl ((dm_g S1 a0 0).toNatClampNeg - 920))).toNatClampNeg
    some ((), S3)) else none) else bif dm_ok S1 4 ((dm_g S1 a0 0).toNatClampNeg) && Nat.ble ((0 : Int32).toNatClampNeg + (Int32.ofNat (tm_sl ((dm_g S1 a0 0).toNatClampNeg - 920))).toNatClampNeg) (dm_len S1 ((dm_g S1 a0 0).toNatClampNeg)) then (let S4 := tm_cp S1 a1 (dm_g S1 ((dm_g S1 a0 0).toNatClampNeg)) (0 : Int32).toNatClampNeg (i2 <<< (i3 &&& 31)).toNatClampNeg (Int32.ofNat (tm_sl ((dm_g S1 a0 0).toNatClampNeg - 920))).toNatClampNeg
    some ((), S4)) else none) else none else bif Nat.beq ((dm_g S1 a0 0).toNatClampNeg) 950 then if (Int32.ofNat X.1) < 0 then none else if (i2 <<< (i3 &&& 31)) < 0 then none else if (0 : Int32) < 0 then none else bif dm_ok S1 4 a1 && Nat.ble ((i2 <<< (i3 &&& 31)).toNatClampNeg + (Int32.ofNat X.1).toNatClampNeg) (dm_len S1 a1) then (bif tm_cb ((dm_g S1 a0 0).toNatClampNeg) then (bif Nat.ble ((0 : Int32).toNatClampNeg + (Int32.ofNat X.1).toNatClampNeg) (tm_sl (((dm_g S1 a0 0).toNatClampNeg) - 920)) then (let S5 := tm_cp S1 a1 (tm_sb (((dm_g S1 a0 0).toNatClampNeg) - 920)) (0 : Int32).toNatClampNeg (i2 <<< (i3 &&& 31)).toNatClampNeg (Int32.ofNat X.1).toNatClampNeg
    some ((), S5)) else none) else bif dm_ok S1 4 ((dm_g S1 a0 0).toNatClampNeg) && Nat.ble ((0 : Int32).toNatClampNeg + (Int32.ofNat X.1).toNatClampNeg) (dm_len S1 ((dm_g S1 a0 0).toNatClampNeg)) then (let S6 := tm_cp S1 a1 (dm_g S1 ((dm_g S1 a0 0).toNatClampNeg)) (0 : Int32).toNatClampNeg (i2 <<< (i3 &&& 31)).toNatClampNeg (Int32.ofNat X.1).toNatClampNeg
    some ((), S6)) else none) else none else bif dm_ok S1 2 ((dm_g S1 a0 0).toNatClampNeg) || dm_ok S1 4 ((dm_g S1 a0 0).toNatClampNeg) then if (Int32.ofNat (dm_len S1 ((dm_g S1 a0 0).toNatClampNeg))) < 0 then none else if (i2 <<< (i3 &&& 31)) < 0 then none else if (0 : Int32) < 0 then none else bif dm_ok S1 4 a1 && Nat.ble ((i2 <<< (i3 &&& 31)).toNatClampNeg + (Int32.ofNat (dm_len S1 ((dm_g S1 a0 0).toNatClampNeg))).toNatClampNeg) (dm_len S1 a1) then (bif tm_cb ((dm_g S1 a0 0).toNatClampNeg) then (bif Nat.ble ((0 : Int32).toNatClampNeg + (Int32.ofNat (dm_len S1 ((dm_g S1 a0 0).toNatClampNeg))).toNatClampNeg) (tm_sl (((dm_g S1 a0 0).toNatClampNeg) - 920)) then (let S7 := tm_cp S1 a1 (tm_sb (((dm_g S1 a0 0).toNatClampNeg) - 920)) (0 : Int32).toNatClampNeg (i2 <<< (i3 &&& 31)).toNatClampNeg (Int32.ofNat (dm_len S1 ((dm_g S1 a0 0).toNatClampNeg))).toNatClampNeg
    some ((), S7)) else none) else bif dm_ok S1 4 ((dm_g S1 a0 0).toNatClampNeg) && Nat.ble ((0 : Int32).toNatClampNeg + (Int32.ofNat (dm_len S1 ((dm_g S1 a0 0).toNatClampNeg))).toNatClampNeg) (dm_len S1 ((dm_g S1 a0 0).toNatClampNeg)) then (let S8 := tm_cp S1 a1 (dm_g S1 ((dm_g S1 a0 0).toNatClampNeg)) (0 : Int32).toNatClampNeg (i2 <<< (i3 &&& 31)).toNatClampNeg (Int32.ofNat (dm_len S1 ((dm_g S1 a0 0).toNatClampNeg))).toNatClampNeg
    some ((), S8)) else none) else none else none)) else none) else none
  else
    bif tm_cs a0 then (bif tm_cs a0 then ((bif tm_cb (a0 + 20) then none else bif Nat.beq (a0 + 20) 950 then none else bif dm_ok S1 2 (a0 + 20) || dm_ok S1 4 (a0 + 20) then none else none)) else bif dm_ok S1 5 a0 then (if dm_g S1 a0 0 < 0 then none else
    (bif tm_cb ((dm_g S1 a0 0).toNatClampNeg) then none else bif Nat.beq ((dm_g S1 a0 0).toNatClampNeg) 950 then none else bif dm_ok S1 2 ((dm_g S1 a0 0).toNatClampNeg) || dm_ok S1 4 ((dm_g S1 a0 0).toNatClampNeg) then none else none)) else none) else bif dm_ok S1 5 a0 then (if dm_g S1 a0 0 < 0 then none else
    bif tm_cs a0 then ((bif tm_cb (a0 + 20) then none else bif Nat.beq (a0 + 20) 950 then none else bif dm_ok S1 2 (a0 + 20) || dm_ok S1 4 (a0 + 20) then none else none)) else bif dm_ok S1 5 a0 then (if dm_g S1 a0 0 < 0 then none else
    (bif tm_cb ((dm_g S1 a0 0).toNatClampNeg) then none else bif Nat.beq ((dm_g S1 a0 0).toNatClampNeg) 950 then none else bif dm_ok S1 2 ((dm_g S1 a0 0).toNatClampNeg) || dm_ok S1 4 ((dm_g S1 a0 0).toNatClampNeg) then none else none)) else none) else none)) else none
def ec_T_getBytes (X : tm_X) (N : Nat) : dm_Cl := fun _ as S kk => am_sa as (fun a0 w0 => am_sa w0 (fun a1 w1 => am_s1 w1 (fun i2 w2 => am_s1 w2 (fun i3 w3 => am_st0 w3 (dm_bi (e_T_getBytes X N a0 a1 i2 i3 S) (fun v S => kk none S))))))
def dtT_getBytes : List (Nat × Instr × Nat) := [(0, .aload_n 0, 1), (1, .invokevirtual 335, 3), (4, .iload_n 3, 1), (5, .if_icmp .ne 23, 3), (8, .aload_n 0, 1), (9, .getfield 9, 3), (12, .iconst 0, 1), (13, .aload_n 1, 1), (14, .iload_n 2, 1), (15, .iload_n 3, 1), (16, .ishl, 1), (17, .aload_n 0, 1), (18, .getfield 9, 3), (21, .arraylength, 1), (22, .invokestatic 212, 3), (25, .goto 18, 3), (28, .aload_n 0, 1), (29, .getfield 9, 3), (32, .iconst 0, 1), (33, .aload_n 1, 1), (34, .iload_n 2, 1), (35, .aload_n 0, 1), (36, .getfield 9, 3), (39, .arraylength, 1), (40, .invokestatic 106, 3), (43, .return_, 1)]
def eoC_T_getBytes (X : tm_X) (N : Nat) : am_Orc := am_o0
def eoD_T_getBytes (X : tm_X) (N : Nat) : dm_Orc := (dm_oc 28 (ec_T_coder X N) dm_o0)
set_option maxRecDepth 100000 in
theorem dtok_T_getBytes : tm_tok 26 dtT_getBytes := by
  unfold tm_tok
  decide +kernel
set_option maxHeartbeats 4000000 in
set_option maxRecDepth 100000 in
theorem em_T_getBytes {l : Launch} {al : Nat → Nat} {dC : Nat → ClassId} {dI : Nat → Nat → Nat} {aC : Nat → ClassId} {aV : Nat → Nat} {x0 x1 : Nat} (hy : am_Hy l al) (hA : dm_Al al x0 x1) (X : tm_X) (N : Nat) (a0 : Nat) (a1 : Nat) (i2 : Int32) (i3 : Int32) (S : dm_S) (r : (Unit × dm_S)) (hf : e_T_getBytes X N a0 a1 i2 i3 S = some r) : tm_Met l al dC dI aC aV x0 x1 X 26 [.ref a0, .ref a1, .int i2, .int i3] S (none) r.2 :=
  tm_met (tab := dtT_getBytes) (oC := eoC_T_getBytes X N) (oD := eoD_T_getBytes X N) (ret := dm_rv') (g := r) (by decide) hA dtok_T_getBytes am_os0 (tm_os1 (es_T_coder hy hA X N) tm_os0) dm_rv'_inv (Nat.le_of_ble_eq_true rfl) (fun At cl wk => by
    skip
    exact cl dm_C0 dm_u0 400 0 _ _ S hf)
theorem es_T_getBytes {l : Launch} {al : Nat → Nat} {dC : Nat → ClassId} {dI : Nat → Nat → Nat} {aC : Nat → ClassId} {aV : Nat → Nat} {x0 x1 : Nat} (hy : am_Hy l al) (hA : dm_Al al x0 x1) (X : tm_X) (N : Nat) : tm_CS l al dC dI aC aV x0 x1 X 26 (ec_T_getBytes X N) := by
  intro γ as S kk g hc0
  obtain ⟨a0, w0, e_0, hc1⟩ := am_sa_some hc0
  obtain ⟨a1, w1, e_1, hc2⟩ := am_sa_some hc1
  obtain ⟨i2, w2, e_2, hc3⟩ := am_s1_some hc2
  obtain ⟨i3, w3, e_3, hc4⟩ := am_s1_some hc3
  obtain ⟨e_4, hc⟩ := am_st0_some hc4
  subst e_4
  subst e_3
  subst e_2
  subst e_1
  subst e_0
  obtain ⟨q, e1, e2⟩ := dm_bi_some hc
  exact ⟨_, _, em_T_getBytes hy hA X N a0 a1 i2 i3 S _ e1, e2⟩

def e_T_putStr (X : tm_X) (N : Nat) (a0 : Nat) (i1 : Int32) (a2 : Nat) (S : dm_S) : Option (Unit × dm_S) :=
  bif dm_ok S 6 a0 then dm_bi (e_T_inflIf X N a0 a2 S) (fun _ S1 =>
  bif tm_cs a0 then (none) else bif dm_ok S1 6 a0 then (if dm_g S1 a0 0 < 0 then none else
  bif tm_cs a0 then (none) else bif dm_ok S1 6 a0 then bif tm_cs a2 || dm_ok S1 5 a2 then dm_bi (e_T_getBytes X N a2 ((dm_g S1 a0 0).toNatClampNeg) i1 (dm_g S1 a0 1) S1) (fun _ S2 =>
  some ((), S2)) else none else none) else none) else none
def ec_T_putStr (X : tm_X) (N : Nat) : dm_Cl := fun _ as S kk => am_sa as (fun a0 w0 => am_s1 w0 (fun i1 w1 => am_sa w1 (fun a2 w2 => am_st0 w2 (dm_bi (e_T_putStr X N a0 i1 a2 S) (fun v S => kk none S)))))
def dtT_putStr : List (Nat × Instr × Nat) := [(0, .aload_n 0, 1), (1, .aload_n 2, 1), (2, .invokevirtual 397, 3), (5, .aload_n 2, 1), (6, .aload_n 0, 1), (7, .getfield 15, 3), (10, .iload_n 1, 1), (11, .aload_n 0, 1), (12, .getfield 22, 3), (15, .invokevirtual 399, 3), (18, .return_, 1)]
def eoC_T_putStr (X : tm_X) (N : Nat) : am_Orc := am_o0
def eoD_T_putStr (X : tm_X) (N : Nat) : dm_Orc := (dm_oc 25 (ec_T_inflIf X N) (dm_oc 26 (ec_T_getBytes X N) dm_o0))
set_option maxRecDepth 100000 in
theorem dtok_T_putStr : tm_tok 24 dtT_putStr := by
  unfold tm_tok
  decide +kernel
set_option maxHeartbeats 4000000 in
set_option maxRecDepth 100000 in
theorem em_T_putStr {l : Launch} {al : Nat → Nat} {dC : Nat → ClassId} {dI : Nat → Nat → Nat} {aC : Nat → ClassId} {aV : Nat → Nat} {x0 x1 : Nat} (hy : am_Hy l al) (hA : dm_Al al x0 x1) (X : tm_X) (N : Nat) (a0 : Nat) (i1 : Int32) (a2 : Nat) (S : dm_S) (r : (Unit × dm_S)) (hf : e_T_putStr X N a0 i1 a2 S = some r) : tm_Met l al dC dI aC aV x0 x1 X 24 [.ref a0, .int i1, .ref a2] S (none) r.2 :=
  tm_met (tab := dtT_putStr) (oC := eoC_T_putStr X N) (oD := eoD_T_putStr X N) (ret := dm_rv') (g := r) (by decide) hA dtok_T_putStr am_os0 (tm_os1 (es_T_inflIf hy hA X N) (tm_os1 (es_T_getBytes hy hA X N) tm_os0)) dm_rv'_inv (Nat.le_of_ble_eq_true rfl) (fun At cl wk => by
    skip
    exact cl dm_C0 dm_u0 400 0 _ _ S hf)
theorem es_T_putStr {l : Launch} {al : Nat → Nat} {dC : Nat → ClassId} {dI : Nat → Nat → Nat} {aC : Nat → ClassId} {aV : Nat → Nat} {x0 x1 : Nat} (hy : am_Hy l al) (hA : dm_Al al x0 x1) (X : tm_X) (N : Nat) : tm_CS l al dC dI aC aV x0 x1 X 24 (ec_T_putStr X N) := by
  intro γ as S kk g hc0
  obtain ⟨a0, w0, e_0, hc1⟩ := am_sa_some hc0
  obtain ⟨i1, w1, e_1, hc2⟩ := am_s1_some hc1
  obtain ⟨a2, w2, e_2, hc3⟩ := am_sa_some hc2
  obtain ⟨e_3, hc⟩ := am_st0_some hc3
  subst e_3
  subst e_2
  subst e_1
  subst e_0
  obtain ⟨q, e1, e2⟩ := dm_bi_some hc
  exact ⟨_, _, em_T_putStr hy hA X N a0 i1 a2 S _ e1, e2⟩

def e_T_ASBappS (X : tm_X) (N : Nat) (a0 : Nat) (a1 : Nat) (S : dm_S) : Option (Nat × dm_S) :=
  bif tm_cs a1 || dm_ok S 5 a1 then dm_bi (e_T_strLen X N a1 S) (fun x2 S1 =>
  bif tm_cs a0 then (none) else bif dm_ok S1 6 a0 then bif dm_ok S1 6 a0 then dm_bi (e_T_ensure X N a0 ((dm_g S1 a0 3) + x2) S1) (fun _ S3 =>
  bif tm_cs a0 then (none) else bif dm_ok S3 6 a0 then bif dm_ok S3 6 a0 then dm_bi (e_T_putStr X N a0 (dm_g S3 a0 3) a1 S3) (fun _ S4 =>
  bif tm_cs a0 then (none) else bif dm_ok S4 6 a0 then bif dm_ok S4 6 a0 && true then (let S5 := dm_wr S4 a0 3 ((dm_g S4 a0 3) + x2)
  some (a0, S5)) else none else none) else none else none) else none else none) else none
def ec_T_ASBappS (X : tm_X) (N : Nat) : dm_Cl := fun _ as S kk => am_sa as (fun a0 w0 => am_sa w0 (fun a1 w1 => am_st0 w1 (dm_bi (e_T_ASBappS X N a0 a1 S) (fun v S => kk (some (.ref v)) S))))
def dtT_ASBappS : List (Nat × Instr × Nat) := [(0, .aload_n 1, 1), (1, .ifnonnull 8, 3), (9, .aload_n 1, 1), (10, .invokevirtual 32, 3), (13, .istore_n 2, 1), (14, .aload_n 0, 1), (15, .aload_n 0, 1), (16, .getfield 79, 3), (19, .iload_n 2, 1), (20, .iadd, 1), (21, .invokevirtual 100, 3), (24, .aload_n 0, 1), (25, .aload_n 0, 1), (26, .getfield 79, 3), (29, .aload_n 1, 1), (30, .invokevirtual 208, 3), (33, .aload_n 0, 1), (34, .dup, 1), (35, .getfield 79, 3), (38, .iload_n 2, 1), (39, .iadd, 1), (40, .putfield 79, 3), (43, .aload_n 0, 1), (44, .areturn, 1)]
def eoC_T_ASBappS (X : tm_X) (N : Nat) : am_Orc := am_o0
def eoD_T_ASBappS (X : tm_X) (N : Nat) : dm_Orc := (dm_oc 27 (ec_T_strLen X N) (dm_oc 18 (ec_T_ensure X N) (dm_oc 24 (ec_T_putStr X N) dm_o0)))
set_option maxRecDepth 100000 in
theorem dtok_T_ASBappS : tm_tok 15 dtT_ASBappS := by
  unfold tm_tok
  decide +kernel
set_option maxHeartbeats 4000000 in
set_option maxRecDepth 100000 in
theorem em_T_ASBappS {l : Launch} {al : Nat → Nat} {dC : Nat → ClassId} {dI : Nat → Nat → Nat} {aC : Nat → ClassId} {aV : Nat → Nat} {x0 x1 : Nat} (hy : am_Hy l al) (hA : dm_Al al x0 x1) (X : tm_X) (N : Nat) (a0 : Nat) (a1 : Nat) (S : dm_S) (r : (Nat × dm_S)) (hf : e_T_ASBappS X N a0 a1 S = some r) : tm_Met l al dC dI aC aV x0 x1 X 15 [.ref a0, .ref a1] S (some (.ref r.1)) r.2 :=
  tm_met (tab := dtT_ASBappS) (oC := eoC_T_ASBappS X N) (oD := eoD_T_ASBappS X N) (ret := dm_rr) (g := r) (by decide) hA dtok_T_ASBappS am_os0 (tm_os1 (es_T_strLen hy hA X N) (tm_os1 (es_T_ensure hy hA X N) (tm_os1 (es_T_putStr hy hA X N) tm_os0))) dm_rr_inv (Nat.le_of_ble_eq_true rfl) (fun At cl wk => by
    skip
    exact cl dm_C0 dm_u0 400 0 _ _ S hf)
theorem es_T_ASBappS {l : Launch} {al : Nat → Nat} {dC : Nat → ClassId} {dI : Nat → Nat → Nat} {aC : Nat → ClassId} {aV : Nat → Nat} {x0 x1 : Nat} (hy : am_Hy l al) (hA : dm_Al al x0 x1) (X : tm_X) (N : Nat) : tm_CS l al dC dI aC aV x0 x1 X 15 (ec_T_ASBappS X N) := by
  intro γ as S kk g hc0
  obtain ⟨a0, w0, e_0, hc1⟩ := am_sa_some hc0
  obtain ⟨a1, w1, e_1, hc2⟩ := am_sa_some hc1
  obtain ⟨e_2, hc⟩ := am_st0_some hc2
  subst e_2
  subst e_1
  subst e_0
  obtain ⟨q, e1, e2⟩ := dm_bi_some hc
  exact ⟨_, _, em_T_ASBappS hy hA X N a0 a1 S _ e1, e2⟩

def e_T_SBappS (X : tm_X) (N : Nat) (a0 : Nat) (a1 : Nat) (S : dm_S) : Option (Nat × dm_S) :=
  bif dm_ok S 6 a0 then dm_bi (e_T_ASBappS X N a0 a1 S) (fun b2 S1 =>
  some (a0, S1)) else none
def ec_T_SBappS (X : tm_X) (N : Nat) : dm_Cl := fun _ as S kk => am_sa as (fun a0 w0 => am_sa w0 (fun a1 w1 => am_st0 w1 (dm_bi (e_T_SBappS X N a0 a1 S) (fun v S => kk (some (.ref v)) S))))
def dtT_SBappS : List (Nat × Instr × Nat) := [(0, .aload_n 0, 1), (1, .aload_n 1, 1), (2, .invokespecial 29, 3), (5, .pop, 1), (6, .aload_n 0, 1), (7, .areturn, 1)]
def eoC_T_SBappS (X : tm_X) (N : Nat) : am_Orc := am_o0
def eoD_T_SBappS (X : tm_X) (N : Nat) : dm_Orc := (dm_oc 15 (ec_T_ASBappS X N) dm_o0)
set_option maxRecDepth 100000 in
theorem dtok_T_SBappS : tm_tok 12 dtT_SBappS := by
  unfold tm_tok
  decide +kernel
set_option maxHeartbeats 4000000 in
set_option maxRecDepth 100000 in
theorem em_T_SBappS {l : Launch} {al : Nat → Nat} {dC : Nat → ClassId} {dI : Nat → Nat → Nat} {aC : Nat → ClassId} {aV : Nat → Nat} {x0 x1 : Nat} (hy : am_Hy l al) (hA : dm_Al al x0 x1) (X : tm_X) (N : Nat) (a0 : Nat) (a1 : Nat) (S : dm_S) (r : (Nat × dm_S)) (hf : e_T_SBappS X N a0 a1 S = some r) : tm_Met l al dC dI aC aV x0 x1 X 12 [.ref a0, .ref a1] S (some (.ref r.1)) r.2 :=
  tm_met (tab := dtT_SBappS) (oC := eoC_T_SBappS X N) (oD := eoD_T_SBappS X N) (ret := dm_rr) (g := r) (by decide) hA dtok_T_SBappS am_os0 (tm_os1 (es_T_ASBappS hy hA X N) tm_os0) dm_rr_inv (Nat.le_of_ble_eq_true rfl) (fun At cl wk => by
    skip
    exact cl dm_C0 dm_u0 400 0 _ _ S hf)
theorem es_T_SBappS {l : Launch} {al : Nat → Nat} {dC : Nat → ClassId} {dI : Nat → Nat → Nat} {aC : Nat → ClassId} {aV : Nat → Nat} {x0 x1 : Nat} (hy : am_Hy l al) (hA : dm_Al al x0 x1) (X : tm_X) (N : Nat) : tm_CS l al dC dI aC aV x0 x1 X 12 (ec_T_SBappS X N) := by
  intro γ as S kk g hc0
  obtain ⟨a0, w0, e_0, hc1⟩ := am_sa_some hc0
  obtain ⟨a1, w1, e_1, hc2⟩ := am_sa_some hc1
  obtain ⟨e_2, hc⟩ := am_st0_some hc2
  subst e_2
  subst e_1
  subst e_0
  obtain ⟨q, e1, e2⟩ := dm_bi_some hc
  exact ⟨_, _, em_T_SBappS hy hA X N a0 a1 S _ e1, e2⟩
