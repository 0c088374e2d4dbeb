def e_T_chkLen (X : tm_X) (N : Nat) (i0 : Int32) (i1 : Int32) (S : dm_S) : Option (Unit × dm_S) :=
  (if i0 ≤ i1 then
    some ((), S)
  else
    none)
def ec_T_chkLen (X : tm_X) (N : Nat) : dm_Cl := fun _ as S kk => am_s1 as (fun i0 w0 => am_s1 w0 (fun i1 w1 => am_st0 w1 (dm_bi (e_T_chkLen X N i0 i1 S) (fun v S => kk none S))))
def dtT_chkLen : List (Nat × Instr × Nat) := [(0, .iload_n 1, 1), (1, .iload_n 0, 1), (2, .if_icmp .ge 35, 3), (5, .new 43, 3), (8, .dup, 1), (9, .new 45, 3), (12, .dup, 1), (13, .invokespecial 47, 3), (37, .return_, 1)]
def eoC_T_chkLen (X : tm_X) (N : Nat) : am_Orc := am_o0
def eoD_T_chkLen (X : tm_X) (N : Nat) : dm_Orc := dm_o0
set_option maxRecDepth 100000 in
theorem dtok_T_chkLen : tm_tok 41 dtT_chkLen := by
  unfold tm_tok
  decide +kernel
set_option maxHeartbeats 4000000 in
set_option maxRecDepth 100000 in
theorem em_T_chkLen {l : Launch} {al : Nat → Nat} {dC : Nat → ClassId} {dI : Nat → Nat → Nat} {aC : Nat → ClassId} {aV : Nat → Nat} {x0 x1 : Nat} (hy : am_Hy l al) (hA : dm_Al al x0 x1) (X : tm_X) (N : Nat) (i0 : Int32) (i1 : Int32) (S : dm_S) (r : (Unit × dm_S)) (hf : e_T_chkLen X N i0 i1 S = some r) : tm_Met l al dC dI aC aV x0 x1 X 41 [.int i0, .int i1] S (none) r.2 :=
  tm_met (tab := dtT_chkLen) (oC := eoC_T_chkLen X N) (oD := eoD_T_chkLen X N) (ret := dm_rv') (g := r) (by decide) hA dtok_T_chkLen am_os0 tm_os0 dm_rv'_inv (Nat.le_of_ble_eq_true rfl) (fun At cl wk => by
    skip
    exact cl dm_C0 dm_u0 400 0 _ _ S hf)
theorem es_T_chkLen {l : Launch} {al : Nat → Nat} {dC : Nat → ClassId} {dI : Nat → Nat → Nat} {aC : Nat → ClassId} {aV : Nat → Nat} {x0 x1 : Nat} (hy : am_Hy l al) (hA : dm_Al al x0 x1) (X : tm_X) (N : Nat) : tm_CS l al dC dI aC aV x0 x1 X 41 (ec_T_chkLen X N) := by
  intro γ as S kk g hc0
  obtain ⟨i0, w0, e_0, hc1⟩ := am_s1_some hc0
  obtain ⟨i1, w1, e_1, hc2⟩ := am_s1_some hc1
  obtain ⟨e_2, hc⟩ := am_st0_some hc2
  subst e_2
  subst e_1
  subst e_0
  obtain ⟨q, e1, e2⟩ := dm_bi_some hc
  exact ⟨_, _, em_T_chkLen hy hA X N i0 i1 S _ e1, e2⟩

def e_T_copyRangeB (X : tm_X) (N : Nat) (a0 : Nat) (i1 : Int32) (i2 : Int32) (S : dm_S) : Option (Nat × dm_S) :=
  dm_bi (e_T_chkLen X N i1 i2 S) (fun _ S1 =>
  if (i2 - i1) < 0 then none else bif Nat.ble (i2 - i1).toNatClampNeg 100000 then (let S2 := dm_nw S1 (4, 7, (i2 - i1).toNatClampNeg) (fun _ => 0) (i2 - i1).toNatClampNeg
  (bif tm_cb a0 then dm_bi (e_T_min X N ((Int32.ofNat (tm_sl (a0 - 920))) - i1) (i2 - i1) S2) (fun x4 S3 =>
  if x4 < 0 then none else if (0 : Int32) < 0 then none else if i1 < 0 then none else bif dm_ok S3 4 (dm_n S1) && Nat.ble ((0 : Int32).toNatClampNeg + x4.toNatClampNeg) (dm_len S3 (dm_n S1)) then (bif tm_cb a0 then (bif Nat.ble (i1.toNatClampNeg + x4.toNatClampNeg) (tm_sl (a0 - 920)) then (let S5 := tm_cp S3 (dm_n S1) (tm_sb (a0 - 920)) i1.toNatClampNeg (0 : Int32).toNatClampNeg x4.toNatClampNeg
  some (dm_n S1, S5)) else none) else bif dm_ok S3 4 a0 && Nat.ble (i1.toNatClampNeg + x4.toNatClampNeg) (dm_len S3 a0) then (let S6 := tm_cp S3 (dm_n S1) (dm_g S3 a0) i1.toNatClampNeg (0 : Int32).toNatClampNeg x4.toNatClampNeg
  some (dm_n S1, S6)) else none) else none) else bif Nat.beq a0 950 then dm_bi (e_T_min X N ((Int32.ofNat X.1) - i1) (i2 - i1) S2) (fun x8 S7 =>
  if x8 < 0 then none else if (0 : Int32) < 0 then none else if i1 < 0 then none else bif dm_ok S7 4 (dm_n S1) && Nat.ble ((0 : Int32).toNatClampNeg + x8.toNatClampNeg) (dm_len S7 (dm_n S1)) then (bif tm_cb a0 then (bif Nat.ble (i1.toNatClampNeg + x8.toNatClampNeg) (tm_sl (a0 - 920)) then (let S9 := tm_cp S7 (dm_n S1) (tm_sb (a0 - 920)) i1.toNatClampNeg (0 : Int32).toNatClampNeg x8.toNatClampNeg
  some (dm_n S1, S9)) else none) else bif dm_ok S7 4 a0 && Nat.ble (i1.toNatClampNeg + x8.toNatClampNeg) (dm_len S7 a0) then (let S10 := tm_cp S7 (dm_n S1) (dm_g S7 a0) i1.toNatClampNeg (0 : Int32).toNatClampNeg x8.toNatClampNeg
  some (dm_n S1, S10)) else none) else none) else bif dm_ok S2 2 a0 || dm_ok S2 4 a0 then dm_bi (e_T_min X N ((Int32.ofNat (dm_len S2 a0)) - i1) (i2 - i1) S2) (fun x12 S11 =>
  if x12 < 0 then none else if (0 : Int32) < 0 then none else if i1 < 0 then none else bif dm_ok S11 4 (dm_n S1) && Nat.ble ((0 : Int32).toNatClampNeg + x12.toNatClampNeg) (dm_len S11 (dm_n S1)) then (bif tm_cb a0 then (bif Nat.ble (i1.toNatClampNeg + x12.toNatClampNeg) (tm_sl (a0 - 920)) then (let S13 := tm_cp S11 (dm_n S1) (tm_sb (a0 - 920)) i1.toNatClampNeg (0 : Int32).toNatClampNeg x12.toNatClampNeg
  some (dm_n S1, S13)) else none) else bif dm_ok S11 4 a0 && Nat.ble (i1.toNatClampNeg + x12.toNatClampNeg) (dm_len S11 a0) then (let S14 := tm_cp S11 (dm_n S1) (dm_g S11 a0) i1.toNatClampNeg (0 : Int32).toNatClampNeg x12.toNatClampNeg
  some (dm_n S1, S14)) else none) else none) else none)) else none)
def ec_T_copyRangeB (X : tm_X) (N : Nat) : dm_Cl := fun _ as S kk => am_sa as (fun a0 w0 => am_s1 w0 (fun i1 w1 => am_s1 w1 (fun i2 w2 => am_st0 w2 (dm_bi (e_T_copyRangeB X N a0 i1 i2 S) (fun v S => kk (some (.ref v)) S)))))
def dtT_copyRangeB : List (Nat × Instr × Nat) := [(0, .iload_n 1, 1), (1, .iload_n 2, 1), (2, .invokestatic 343, 3), (5, .iload_n 2, 1), (6, .iload_n 1, 1), (7, .isub, 1), (8, .istore_n 3, 1), (9, .iload_n 3, 1), (10, .newarray .byte, 2), (12, .astore 4, 2), (14, .aload_n 0, 1), (15, .iload_n 1, 1), (16, .aload 4, 2), (18, .iconst 0, 1), (19, .aload_n 0, 1), (20, .arraylength, 1), (21, .iload_n 1, 1), (22, .isub, 1), (23, .iload_n 3, 1), (24, .invokestatic 304, 3), (27, .invokestatic 150, 3), (30, .aload 4, 2), (32, .areturn, 1)]
def eoC_T_copyRangeB (X : tm_X) (N : Nat) : am_Orc := am_o0
def eoD_T_copyRangeB (X : tm_X) (N : Nat) : dm_Orc := (dm_oc 41 (ec_T_chkLen X N) (dm_oc 22 (ec_T_min X N) dm_o0))
set_option maxRecDepth 100000 in
theorem dtok_T_copyRangeB : tm_tok 40 dtT_copyRangeB := by
  unfold tm_tok
  decide +kernel
set_option maxHeartbeats 4000000 in
set_option maxRecDepth 100000 in
theorem em_T_copyRangeB {l : Launch} {al : Nat → Nat} {dC : Nat → ClassId} {dI : Nat → Nat → Nat} {aC : Nat → ClassId} {aV : Nat → Nat} {x0 x1 : Nat} (hy : am_Hy l al) (hA : dm_Al al x0 x1) (X : tm_X) (N : Nat) (a0 : Nat) (i1 : Int32) (i2 : Int32) (S : dm_S) (r : (Nat × dm_S)) (hf : e_T_copyRangeB X N a0 i1 i2 S = some r) : tm_Met l al dC dI aC aV x0 x1 X 40 [.ref a0, .int i1, .int i2] S (some (.ref r.1)) r.2 :=
  tm_met (tab := dtT_copyRangeB) (oC := eoC_T_copyRangeB X N) (oD := eoD_T_copyRangeB X N) (ret := dm_rr) (g := r) (by decide) hA dtok_T_copyRangeB am_os0 (tm_os1 (es_T_chkLen hy hA X N) (tm_os1 (es_T_min hy hA X N) tm_os0)) dm_rr_inv (Nat.le_of_ble_eq_true rfl) (fun At cl wk => by
    skip
    exact cl dm_C0 dm_u0 400 0 _ _ S hf)
theorem es_T_copyRangeB {l : Launch} {al : Nat → Nat} {dC : Nat → ClassId} {dI : Nat → Nat → Nat} {aC : Nat → ClassId} {aV : Nat → Nat} {x0 x1 : Nat} (hy : am_Hy l al) (hA : dm_Al al x0 x1) (X : tm_X) (N : Nat) : tm_CS l al dC dI aC aV x0 x1 X 40 (ec_T_copyRangeB X N) := by
  intro γ as S kk g hc0
  obtain ⟨a0, w0, e_0, hc1⟩ := am_sa_some hc0
  obtain ⟨i1, w1, e_1, hc2⟩ := am_s1_some hc1
  obtain ⟨i2, w2, e_2, hc3⟩ := am_s1_some hc2
  obtain ⟨e_3, hc⟩ := am_st0_some hc3
  subst e_3
  subst e_2
  subst e_1
  subst e_0
  obtain ⟨q, e1, e2⟩ := dm_bi_some hc
  exact ⟨_, _, em_T_copyRangeB hy hA X N a0 i1 i2 S _ e1, e2⟩

def e_T_copyRange (X : tm_X) (N : Nat) (a0 : Nat) (i1 : Int32) (i2 : Int32) (S : dm_S) : Option (Nat × dm_S) :=
  (if i1 = 0 then
    (bif tm_cb a0 then (if i2 = (Int32.ofNat (tm_sl (a0 - 920))) then
      bif dm_ok S 4 a0 && Nat.blt (dm_n S + 2000) dm_bg then (let S3 := dm_nw S (4, 7, dm_len S a0) (dm_g S a0) (dm_len S a0)
      bif dm_ok S3 4 (dm_n S) && true then some (dm_n S, S3) else none) else none
    else
      dm_bi (e_T_copyRangeB X N a0 i1 i2 S) (fun b5 S4 =>
      some (b5, S4))) else bif Nat.beq a0 950 then (if i2 = (Int32.ofNat X.1) then
      bif dm_ok S 4 a0 && Nat.blt (dm_n S + 2000) dm_bg then (let S6 := dm_nw S (4, 7, dm_len S a0) (dm_g S a0) (dm_len S a0)
      bif dm_ok S6 4 (dm_n S) && true then some (dm_n S, S6) else none) else none
    else
      dm_bi (e_T_copyRangeB X N a0 i1 i2 S) (fun b8 S7 =>
      some (b8, S7))) else bif dm_ok S 2 a0 || dm_ok S 4 a0 then (if i2 = (Int32.ofNat (dm_len S a0)) then
      bif dm_ok S 4 a0 && Nat.blt (dm_n S + 2000) dm_bg then (let S9 := dm_nw S (4, 7, dm_len S a0) (dm_g S a0) (dm_len S a0)
      bif dm_ok S9 4 (dm_n S) && true then some (dm_n S, S9) else none) else none
    else
      dm_bi (e_T_copyRangeB X N a0 i1 i2 S) (fun b11 S10 =>
      some (b11, S10))) else none)
  else
    dm_bi (e_T_copyRangeB X N a0 i1 i2 S) (fun b2 S1 =>
    some (b2, S1)))
def ec_T_copyRange (X : tm_X) (N : Nat) : dm_Cl := fun _ as S kk => am_sa as (fun a0 w0 => am_s1 w0 (fun i1 w1 => am_s1 w1 (fun i2 w2 => am_st0 w2 (dm_bi (e_T_copyRange X N a0 i1 i2 S) (fun v S => kk (some (.ref v)) S)))))
def dtT_copyRange : List (Nat × Instr × Nat) := [(0, .iload_n 1, 1), (1, .ifCond .ne 9, 3), (4, .iload_n 2, 1), (5, .aload_n 0, 1), (6, .arraylength, 1), (7, .if_icmp .eq 10, 3), (10, .aload_n 0, 1), (11, .iload_n 1, 1), (12, .iload_n 2, 1), (13, .invokestatic 339, 3), (16, .areturn, 1), (17, .aload_n 0, 1), (18, .invokevirtual 310, 3), (21, .checkcast 311, 3), (24, .areturn, 1)]
def eoC_T_copyRange (X : tm_X) (N : Nat) : am_Orc := am_o0
def eoD_T_copyRange (X : tm_X) (N : Nat) : dm_Orc := (dm_oc 40 (ec_T_copyRangeB X N) dm_o0)
set_option maxRecDepth 100000 in
theorem dtok_T_copyRange : tm_tok 39 dtT_copyRange := by
  unfold tm_tok
  decide +kernel
set_option maxHeartbeats 4000000 in
set_option maxRecDepth 100000 in
theorem em_T_copyRange {l : Launch} {al : Nat → Nat} {dC : Nat → ClassId} {dI : Nat → Nat → Nat} {aC : Nat → ClassId} {aV : Nat → Nat} {x0 x1 : Nat} (hy : am_Hy l al) (hA : dm_Al al x0 x1) (X : tm_X) (N : Nat) (a0 : Nat) (i1 : Int32) (i2 : Int32) (S : dm_S) (r : (Nat × dm_S)) (hf : e_T_copyRange X N a0 i1 i2 S = some r) : tm_Met l al dC dI aC aV x0 x1 X 39 [.ref a0, .int i1, .int i2] S (some (.ref r.1)) r.2 :=
  tm_met (tab := dtT_copyRange) (oC := eoC_T_copyRange X N) (oD := eoD_T_copyRange X N) (ret := dm_rr) (g := r) (by decide) hA dtok_T_copyRange am_os0 (tm_os1 (es_T_copyRangeB hy hA X N) tm_os0) dm_rr_inv (Nat.le_of_ble_eq_true rfl) (fun At cl wk => by
    skip
    exact cl dm_C0 dm_u0 400 0 _ _ S hf)
theorem es_T_copyRange {l : Launch} {al : Nat → Nat} {dC : Nat → ClassId} {dI : Nat → Nat → Nat} {aC : Nat → ClassId} {aV : Nat → Nat} {x0 x1 : Nat} (hy : am_Hy l al) (hA : dm_Al al x0 x1) (X : tm_X) (N : Nat) : tm_CS l al dC dI aC aV x0 x1 X 39 (ec_T_copyRange X N) := by
  intro γ as S kk g hc0
  obtain ⟨a0, w0, e_0, hc1⟩ := am_sa_some hc0
  obtain ⟨i1, w1, e_1, hc2⟩ := am_s1_some hc1
  obtain ⟨i2, w2, e_2, hc3⟩ := am_s1_some hc2
  obtain ⟨e_3, hc⟩ := am_st0_some hc3
  subst e_3
  subst e_2
  subst e_1
  subst e_0
  obtain ⟨q, e1, e2⟩ := dm_bi_some hc
  exact ⟨_, _, em_T_copyRange hy hA X N a0 i1 i2 S _ e1, e2⟩

def e_T_strInit2 (X : tm_X) (N : Nat) (a0 : Nat) (a1 : Nat) (S : dm_S) : Option (Unit × dm_S) :=
  bif dm_ok S 5 a0 || dm_ok S 6 a0 then bif dm_ok S 6 a1 then dm_bi (e_T_getVal X N a1 S) (fun b2 S1 =>
  bif dm_ok S1 6 a1 then dm_bi (e_T_sbLen X N a1 S1) (fun x4 S3 =>
  bif dm_ok S3 6 a1 then dm_bi (e_T_isLat X N a1 S3) (fun x6 S5 =>
  (if x6 = 0 then
    (if (1 : Int32) = 0 then
      bif dm_ok S5 5 a0 && decide ((1 : Int32) = 0) then (let S7 := dm_wr S5 a0 1 (1 : Int32)
      dm_bi (e_T_copyRange X N b2 (0 : Int32) (x4 <<< ((1 : Int32) &&& 31)) S7) (fun b9 S8 =>
      bif dm_ok S8 5 a0 && dm_ok S8 4 b9 && Nat.blt b9 dm_bg then (let S10 := dm_wr S8 a0 0 (am_z ((b9 : Nat) : Int))
      some ((), S10)) else none)) else none
    else
      none)
  else
    bif dm_ok S5 5 a0 && decide ((0 : Int32) = 0) then (let S11 := dm_wr S5 a0 1 (0 : Int32)
    dm_bi (e_T_copyRange X N b2 (0 : Int32) x4 S11) (fun b13 S12 =>
    bif dm_ok S12 5 a0 && dm_ok S12 4 b13 && Nat.blt b13 dm_bg then (let S14 := dm_wr S12 a0 0 (am_z ((b13 : Nat) : Int))
    some ((), S14)) else none)) else none)) else none) else none) else none else none
def ec_T_strInit2 (X : tm_X) (N : Nat) : dm_Cl := fun _ as S kk => am_sa as (fun a0 w0 => am_sa w0 (fun a1 w1 => tm_nl w1 (fun w2 => am_st0 w2 (dm_bi (e_T_strInit2 X N a0 a1 S) (fun v S => kk none S)))))
def dtT_strInit2 : List (Nat × Instr × Nat) := [(0, .aload_n 0, 1), (1, .invokespecial 1, 3), (4, .aload_n 1, 1), (5, .invokevirtual 552, 3), (8, .astore_n 3, 1), (9, .aload_n 1, 1), (10, .invokevirtual 549, 3), (13, .istore 4, 2), (15, .aload_n 1, 1), (16, .invokevirtual 1047, 3), (19, .ifCond .eq 22, 3), (22, .aload_n 0, 1), (23, .iconst 0, 1), (24, .putfield 15, 3), (27, .aload_n 0, 1), (28, .aload_n 3, 1), (29, .iconst 0, 1), (30, .iload 4, 2), (32, .invokestatic 54, 3), (35, .putfield 9, 3), (38, .goto 59, 3), (41, .getstatic 38, 3), (44, .ifCond .eq 35, 3), (47, .aload_n 1, 1), (48, .getfield 1048, 3), (51, .ifCond .eq 28, 3), (54, .aload_n 0, 1), (55, .aload_n 3, 1), (56, .iconst 0, 1), (57, .iload 4, 2), (59, .invokestatic 1051, 3), (79, .aload_n 0, 1), (80, .iconst 1, 1), (81, .putfield 15, 3), (84, .aload_n 0, 1), (85, .aload_n 3, 1), (86, .iconst 0, 1), (87, .iload 4, 2), (89, .iconst 1, 1), (90, .ishl, 1), (91, .invokestatic 54, 3), (94, .putfield 9, 3), (97, .return_, 1)]
def eoC_T_strInit2 (X : tm_X) (N : Nat) : am_Orc := am_o0
def eoD_T_strInit2 (X : tm_X) (N : Nat) : dm_Orc := (dm_oc 36 (ec_T_getVal X N) (dm_oc 38 (ec_T_sbLen X N) (dm_oc 31 (ec_T_isLat X N) (dm_oc 39 (ec_T_copyRange X N) dm_o0))))
set_option maxRecDepth 100000 in
theorem dtok_T_strInit2 : tm_tok 35 dtT_strInit2 := by
  unfold tm_tok
  decide +kernel
set_option maxHeartbeats 4000000 in
set_option maxRecDepth 100000 in
theorem em_T_strInit2 {l : Launch} {al : Nat → Nat} {dC : Nat → ClassId} {dI : Nat → Nat → Nat} {aC : Nat → ClassId} {aV : Nat → Nat} {x0 x1 : Nat} (hy : am_Hy l al) (hA : dm_Al al x0 x1) (X : tm_X) (N : Nat) (a0 : Nat) (a1 : Nat) (S : dm_S) (r : (Unit × dm_S)) (hf : e_T_strInit2 X N a0 a1 S = some r) : tm_Met l al dC dI aC aV x0 x1 X 35 [.ref a0, .ref a1, .null] S (none) r.2 :=
  tm_met (tab := dtT_strInit2) (oC := eoC_T_strInit2 X N) (oD := eoD_T_strInit2 X N) (ret := dm_rv') (g := r) (by decide) hA dtok_T_strInit2 am_os0 (tm_os1 (es_T_getVal hy hA X N) (tm_os1 (es_T_sbLen hy hA X N) (tm_os1 (es_T_isLat hy hA X N) (tm_os1 (es_T_copyRange hy hA X N) tm_os0)))) dm_rv'_inv (Nat.le_of_ble_eq_true rfl) (fun At cl wk => by
    skip
    exact cl dm_C0 dm_u0 400 0 _ _ S hf)
theorem es_T_strInit2 {l : Launch} {al : Nat → Nat} {dC : Nat → ClassId} {dI : Nat → Nat → Nat} {aC : Nat → ClassId} {aV : Nat → Nat} {x0 x1 : Nat} (hy : am_Hy l al) (hA : dm_Al al x0 x1) (X : tm_X) (N : Nat) : tm_CS l al dC dI aC aV x0 x1 X 35 (ec_T_strInit2 X N) := by
  intro γ as S kk g hc0
  obtain ⟨a0, w0, e_0, hc1⟩ := am_sa_some hc0
  obtain ⟨a1, w1, e_1, hc2⟩ := am_sa_some hc1
  obtain ⟨w2, e_2, hc3⟩ := tm_nl_some hc2
  obtain ⟨e_3, hc⟩ := am_st0_some hc3
  subst e_3
  subst e_2
  subst e_1
  subst e_0
  obtain ⟨q, e1, e2⟩ := dm_bi_some hc
  exact ⟨_, _, em_T_strInit2 hy hA X N a0 a1 S _ e1, e2⟩

def e_T_strInit (X : tm_X) (N : Nat) (a0 : Nat) (a1 : Nat) (S : dm_S) : Option (Unit × dm_S) :=
  bif tm_r4 S 35 [.ref a0, .ref a1, .null] then dm_bi (e_T_strInit2 X N a0 a1 S) (fun _ S1 =>
  some ((), S1)) else none
def ec_T_strInit (X : tm_X) (N : Nat) : dm_Cl := fun _ as S kk => am_sa as (fun a0 w0 => am_sa w0 (fun a1 w1 => am_st0 w1 (dm_bi (e_T_strInit X N a0 a1 S) (fun v S => kk none S))))
def dtT_strInit : List (Nat × Instr × Nat) := [(0, .aload_n 0, 1), (1, .aload_n 1, 1), (2, .aconst_null, 1), (3, .invokespecial 489, 3), (6, .return_, 1)]
def eoC_T_strInit (X : tm_X) (N : Nat) : am_Orc := am_o0
def eoD_T_strInit (X : tm_X) (N : Nat) : dm_Orc := (dm_oc 35 (ec_T_strInit2 X N) dm_o0)
set_option maxRecDepth 100000 in
theorem dtok_T_strInit : tm_tok 34 dtT_strInit := by
  unfold tm_tok
  decide +kernel
set_option maxHeartbeats 4000000 in
set_option maxRecDepth 100000 in
theorem em_T_strInit {l : Launch} {al : Nat → Nat} {dC : Nat → ClassId} {dI : Nat → Nat → Nat} {aC : Nat → ClassId} {aV : Nat → Nat} {x0 x1 : Nat} (hy : am_Hy l al) (hA : dm_Al al x0 x1) (X : tm_X) (N : Nat) (a0 : Nat) (a1 : Nat) (S : dm_S) (r : (Unit × dm_S)) (hf : e_T_strInit X N a0 a1 S = some r) : tm_Met l al dC dI aC aV x0 x1 X 34 [.ref a0, .ref a1] S (none) r.2 :=
  tm_met (tab := dtT_strInit) (oC := eoC_T_strInit X N) (oD := eoD_T_strInit X N) (ret := dm_rv') (g := r) (by decide) hA dtok_T_strInit am_os0 (tm_os1 (es_T_strInit2 hy hA X N) tm_os0) dm_rv'_inv (Nat.le_of_ble_eq_true rfl) (fun At cl wk => by
    skip
    exact cl dm_C0 dm_u0 400 0 _ _ S hf)
theorem es_T_strInit {l : Launch} {al : Nat → Nat} {dC : Nat → ClassId} {dI : Nat → Nat → Nat} {aC : Nat → ClassId} {aV : Nat → Nat} {x0 x1 : Nat} (hy : am_Hy l al) (hA : dm_Al al x0 x1) (X : tm_X) (N : Nat) : tm_CS l al dC dI aC aV x0 x1 X 34 (ec_T_strInit X N) := by
  intro γ as S kk g hc0
  obtain ⟨a0, w0, e_0, hc1⟩ := am_sa_some hc0
  obtain ⟨a1, w1, e_1, hc2⟩ := am_sa_some hc1
  obtain ⟨e_2, hc⟩ := am_st0_some hc2
  subst e_2
  subst e_1
  subst e_0
  obtain ⟨q, e1, e2⟩ := dm_bi_some hc
  exact ⟨_, _, em_T_strInit hy hA X N a0 a1 S _ e1, e2⟩

def e_T_toStr (X : tm_X) (N : Nat) (a0 : Nat) (S : dm_S) : Option (Nat × dm_S) :=
  bif Nat.blt (dm_n S + 2000) dm_bg then (let S1 := dm_nw S (5, 11, 4) (fun j => if j = 0 then am_z (-1) else 0) 4
  bif tm_r4 S1 34 [.ref (dm_n S), .ref a0] then dm_bi (e_T_strInit X N (dm_n S) a0 S1) (fun _ S2 =>
  some (dm_n S, S2)) else none) else none
def ec_T_toStr (X : tm_X) (N : Nat) : dm_Cl := fun _ as S kk => am_sa as (fun a0 w0 => am_st0 w0 (dm_bi (e_T_toStr X N a0 S) (fun v S => kk (some (.ref v)) S)))
def dtT_toStr : List (Nat × Instr × Nat) := [(0, .new 18, 3), (3, .dup, 1), (4, .aload_n 0, 1), (5, .invokespecial 137, 3), (8, .areturn, 1)]
def eoC_T_toStr (X : tm_X) (N : Nat) : am_Orc := am_o0
def eoD_T_toStr (X : tm_X) (N : Nat) : dm_Orc := (dm_oc 34 (ec_T_strInit X N) dm_o0)
set_option maxRecDepth 100000 in
theorem dtok_T_toStr : tm_tok 33 dtT_toStr := by
  unfold tm_tok
  decide +kernel
set_option maxHeartbeats 4000000 in
set_option maxRecDepth 100000 in
theorem em_T_toStr {l : Launch} {al : Nat → Nat} {dC : Nat → ClassId} {dI : Nat → Nat → Nat} {aC : Nat → ClassId} {aV : Nat → Nat} {x0 x1 : Nat} (hy : am_Hy l al) (hA : dm_Al al x0 x1) (X : tm_X) (N : Nat) (a0 : Nat) (S : dm_S) (r : (Nat × dm_S)) (hf : e_T_toStr X N a0 S = some r) : tm_Met l al dC dI aC aV x0 x1 X 33 [.ref a0] S (some (.ref r.1)) r.2 :=
  tm_met (tab := dtT_toStr) (oC := eoC_T_toStr X N) (oD := eoD_T_toStr X N) (ret := dm_rr) (g := r) (by decide) hA dtok_T_toStr am_os0 (tm_os1 (es_T_strInit hy hA X N) tm_os0) dm_rr_inv (Nat.le_of_ble_eq_true rfl) (fun At cl wk => by
    skip
    exact cl dm_C0 dm_u0 400 0 _ _ S hf)
theorem es_T_toStr {l : Launch} {al : Nat → Nat} {dC : Nat → ClassId} {dI : Nat → Nat → Nat} {aC : Nat → ClassId} {aV : Nat → Nat} {x0 x1 : Nat} (hy : am_Hy l al) (hA : dm_Al al x0 x1) (X : tm_X) (N : Nat) : tm_CS l al dC dI aC aV x0 x1 X 33 (ec_T_toStr X N) := by
  intro γ as S kk g hc0
  obtain ⟨a0, w0, e_0, hc1⟩ := am_sa_some hc0
  obtain ⟨e_1, hc⟩ := am_st0_some hc1
  subst e_1
  subst e_0
  obtain ⟨q, e1, e2⟩ := dm_bi_some hc
  exact ⟨_, _, em_T_toStr hy hA X N a0 S _ e1, e2⟩
