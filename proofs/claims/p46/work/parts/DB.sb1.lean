def e_T_ASBinit (X : tm_X) (N : Nat) (a0 : Nat) (i1 : Int32) (S : dm_S) : Option (Unit × dm_S) :=
  bif dm_ok S 5 a0 || dm_ok S 6 a0 then (if (1 : Int32) = 0 then
    none
  else
    if i1 < 0 then none else bif Nat.ble i1.toNatClampNeg 100000 then (let S1 := dm_nw S (4, 7, i1.toNatClampNeg) (fun _ => 0) i1.toNatClampNeg
    bif dm_ok S1 6 a0 && dm_ok S1 4 (dm_n S) && Nat.blt (dm_n S) dm_bg then (let S2 := dm_wr S1 a0 0 (am_z ((dm_n S : Nat) : Int))
    bif dm_ok S2 6 a0 && decide ((0 : Int32) = 0) then (let S3 := dm_wr S2 a0 1 (0 : Int32)
    some ((), S3)) else none) else none) else none) else none
def ec_T_ASBinit (X : tm_X) (N : Nat) : dm_Cl := fun _ as S kk => am_sa as (fun a0 w0 => am_s1 w0 (fun i1 w1 => am_st0 w1 (dm_bi (e_T_ASBinit X N a0 i1 S) (fun v S => kk none S))))
def dtT_ASBinit : List (Nat × Instr × Nat) := [(0, .aload_n 0, 1), (1, .invokespecial 3, 3), (4, .getstatic 18, 3), (7, .ifCond .eq 18, 3), (10, .aload_n 0, 1), (11, .iload_n 1, 1), (12, .newarray .byte, 2), (14, .putfield 15, 3), (17, .aload_n 0, 1), (18, .iconst 0, 1), (19, .putfield 22, 3), (22, .goto 16, 3), (25, .aload_n 0, 1), (26, .iload_n 1, 1), (27, .invokestatic 26, 3), (30, .putfield 15, 3), (33, .aload_n 0, 1), (34, .iconst 1, 1), (35, .putfield 22, 3), (38, .return_, 1)]
def eoC_T_ASBinit (X : tm_X) (N : Nat) : am_Orc := am_o0
def eoD_T_ASBinit (X : tm_X) (N : Nat) : dm_Orc := dm_o0
set_option maxRecDepth 100000 in
theorem dtok_T_ASBinit : tm_tok 11 dtT_ASBinit := by
  unfold tm_tok
  decide +kernel
set_option maxHeartbeats 4000000 in
set_option maxRecDepth 100000 in
theorem em_T_ASBinit {l : Launch} {al : Nat → Nat} {dC : Nat → ClassId} {dI : Nat → Nat → Nat} {aC : Nat → ClassId} {aV : Nat → Nat} {x0 x1 : Nat} (hy : am_Hy l al) (hA : dm_Al al x0 x1) (X : tm_X) (N : Nat) (a0 : Nat) (i1 : Int32) (S : dm_S) (r : (Unit × dm_S)) (hf : e_T_ASBinit X N a0 i1 S = some r) : tm_Met l al dC dI aC aV x0 x1 X 11 [.ref a0, .int i1] S (none) r.2 :=
  tm_met (tab := dtT_ASBinit) (oC := eoC_T_ASBinit X N) (oD := eoD_T_ASBinit X N) (ret := dm_rv') (g := r) (by decide) hA dtok_T_ASBinit am_os0 tm_os0 dm_rv'_inv (Nat.le_of_ble_eq_true rfl) (fun At cl wk => by
    skip
    exact cl dm_C0 dm_u0 400 0 _ _ S hf)
theorem es_T_ASBinit {l : Launch} {al : Nat → Nat} {dC : Nat → ClassId} {dI : Nat → Nat → Nat} {aC : Nat → ClassId} {aV : Nat → Nat} {x0 x1 : Nat} (hy : am_Hy l al) (hA : dm_Al al x0 x1) (X : tm_X) (N : Nat) : tm_CS l al dC dI aC aV x0 x1 X 11 (ec_T_ASBinit X N) := by
  intro γ as S kk g hc0
  obtain ⟨a0, w0, e_0, hc1⟩ := am_sa_some hc0
  obtain ⟨i1, w1, e_1, hc2⟩ := am_s1_some hc1
  obtain ⟨e_2, hc⟩ := am_st0_some hc2
  subst e_2
  subst e_1
  subst e_0
  obtain ⟨q, e1, e2⟩ := dm_bi_some hc
  exact ⟨_, _, em_T_ASBinit hy hA X N a0 i1 S _ e1, e2⟩

def e_T_SBinit (X : tm_X) (N : Nat) (a0 : Nat) (S : dm_S) : Option (Unit × dm_S) :=
  bif tm_r4 S 11 [.ref a0, .int (16 : Int32)] then dm_bi (e_T_ASBinit X N a0 (16 : Int32) S) (fun _ S1 =>
  some ((), S1)) else none
def ec_T_SBinit (X : tm_X) (N : Nat) : dm_Cl := fun _ as S kk => am_sa as (fun a0 w0 => am_st0 w0 (dm_bi (e_T_SBinit X N a0 S) (fun v S => kk none S)))
def dtT_SBinit : List (Nat × Instr × Nat) := [(0, .aload_n 0, 1), (1, .bipush 16, 2), (3, .invokespecial 1, 3), (6, .return_, 1)]
def eoC_T_SBinit (X : tm_X) (N : Nat) : am_Orc := am_o0
def eoD_T_SBinit (X : tm_X) (N : Nat) : dm_Orc := (dm_oc 11 (ec_T_ASBinit X N) dm_o0)
set_option maxRecDepth 100000 in
theorem dtok_T_SBinit : tm_tok 10 dtT_SBinit := by
  unfold tm_tok
  decide +kernel
set_option maxHeartbeats 4000000 in
set_option maxRecDepth 100000 in
theorem em_T_SBinit {l : Launch} {al : Nat → Nat} {dC : Nat → ClassId} {dI : Nat → Nat → Nat} {aC : Nat → ClassId} {aV : Nat → Nat} {x0 x1 : Nat} (hy : am_Hy l al) (hA : dm_Al al x0 x1) (X : tm_X) (N : Nat) (a0 : Nat) (S : dm_S) (r : (Unit × dm_S)) (hf : e_T_SBinit X N a0 S = some r) : tm_Met l al dC dI aC aV x0 x1 X 10 [.ref a0] S (none) r.2 :=
  tm_met (tab := dtT_SBinit) (oC := eoC_T_SBinit X N) (oD := eoD_T_SBinit X N) (ret := dm_rv') (g := r) (by decide) hA dtok_T_SBinit am_os0 (tm_os1 (es_T_ASBinit hy hA X N) tm_os0) dm_rv'_inv (Nat.le_of_ble_eq_true rfl) (fun At cl wk => by
    skip
    exact cl dm_C0 dm_u0 400 0 _ _ S hf)
theorem es_T_SBinit {l : Launch} {al : Nat → Nat} {dC : Nat → ClassId} {dI : Nat → Nat → Nat} {aC : Nat → ClassId} {aV : Nat → Nat} {x0 x1 : Nat} (hy : am_Hy l al) (hA : dm_Al al x0 x1) (X : tm_X) (N : Nat) : tm_CS l al dC dI aC aV x0 x1 X 10 (ec_T_SBinit X N) := by
  intro γ as S kk g hc0
  obtain ⟨a0, w0, e_0, hc1⟩ := am_sa_some hc0
  obtain ⟨e_1, hc⟩ := am_st0_some hc1
  subst e_1
  subst e_0
  obtain ⟨q, e1, e2⟩ := dm_bi_some hc
  exact ⟨_, _, em_T_SBinit hy hA X N a0 S _ e1, e2⟩

def e_T_coder (X : tm_X) (N : Nat) (a0 : Nat) (S : dm_S) : Option (Int32 × dm_S) :=
  (if (1 : Int32) = 0 then
    bif tm_ri 28 (1 : Int32) then some ((1 : Int32), S) else none
  else
    bif tm_cs a0 then (bif tm_ri 28 (0 : Int32) then some ((0 : Int32), S) else none) else bif dm_ok S 5 a0 then bif tm_ri 28 (dm_g S a0 1) then some (dm_g S a0 1, S) else none else none)
def ec_T_coder (X : tm_X) (N : Nat) : dm_Cl := fun _ as S kk => am_sa as (fun a0 w0 => am_st0 w0 (dm_bi (e_T_coder X N a0 S) (fun v S => kk (some (.int v)) S)))
def dtT_coder : List (Nat × Instr × Nat) := [(0, .getstatic 38, 3), (3, .ifCond .eq 10, 3), (6, .aload_n 0, 1), (7, .getfield 15, 3), (10, .goto 4, 3), (13, .iconst 1, 1), (14, .ireturn, 1)]
def eoC_T_coder (X : tm_X) (N : Nat) : am_Orc := am_o0
def eoD_T_coder (X : tm_X) (N : Nat) : dm_Orc := dm_o0
set_option maxRecDepth 100000 in
theorem dtok_T_coder : tm_tok 28 dtT_coder := by
  unfold tm_tok
  decide +kernel
set_option maxHeartbeats 4000000 in
set_option maxRecDepth 100000 in
theorem em_T_coder {l : Launch} {al : Nat → Nat} {dC : Nat → ClassId} {dI : Nat → Nat → Nat} {aC : Nat → ClassId} {aV : Nat → Nat} {x0 x1 : Nat} (hy : am_Hy l al) (hA : dm_Al al x0 x1) (X : tm_X) (N : Nat) (a0 : Nat) (S : dm_S) (r : (Int32 × dm_S)) (hf : e_T_coder X N a0 S = some r) : tm_Met l al dC dI aC aV x0 x1 X 28 [.ref a0] S (some (.int r.1)) r.2 :=
  tm_met (tab := dtT_coder) (oC := eoC_T_coder X N) (oD := eoD_T_coder X N) (ret := dm_ri) (g := r) (by decide) hA dtok_T_coder am_os0 tm_os0 dm_ri_inv (Nat.le_of_ble_eq_true rfl) (fun At cl wk => by
    skip
    exact cl dm_C0 dm_u0 400 0 _ _ S hf)
theorem es_T_coder {l : Launch} {al : Nat → Nat} {dC : Nat → ClassId} {dI : Nat → Nat → Nat} {aC : Nat → ClassId} {aV : Nat → Nat} {x0 x1 : Nat} (hy : am_Hy l al) (hA : dm_Al al x0 x1) (X : tm_X) (N : Nat) : tm_CS l al dC dI aC aV x0 x1 X 28 (ec_T_coder X N) := by
  intro γ as S kk g hc0
  obtain ⟨a0, w0, e_0, hc1⟩ := am_sa_some hc0
  obtain ⟨e_1, hc⟩ := am_st0_some hc1
  subst e_1
  subst e_0
  obtain ⟨q, e1, e2⟩ := dm_bi_some hc
  exact ⟨_, _, em_T_coder hy hA X N a0 S _ e1, e2⟩

def e_T_strLen (X : tm_X) (N : Nat) (a0 : Nat) (S : dm_S) : Option (Int32 × dm_S) :=
  bif tm_cs a0 then ((bif tm_cb (a0 + 20) then bif tm_cs a0 || dm_ok S 5 a0 then dm_bi (e_T_coder X N a0 S) (fun x8 S7 =>
  bif tm_ri 27 ((Int32.ofNat (tm_sl ((a0 + 20) - 920))) >>> (x8 &&& 31)) then some ((Int32.ofNat (tm_sl ((a0 + 20) - 920))) >>> (x8 &&& 31), S7) else none) else none else bif Nat.beq (a0 + 20) 950 then bif tm_cs a0 || dm_ok S 5 a0 then dm_bi (e_T_coder X N a0 S) (fun x10 S9 =>
  bif tm_ri 27 ((Int32.ofNat X.1) >>> (x10 &&& 31)) then some ((Int32.ofNat X.1) >>> (x10 &&& 31), S9) else none) else none else bif dm_ok S 2 (a0 + 20) || dm_ok S 4 (a0 + 20) then bif tm_cs a0 || dm_ok S 5 a0 then dm_bi (e_T_coder X N a0 S) (fun x12 S11 =>
  bif tm_ri 27 ((Int32.ofNat (dm_len S (a0 + 20))) >>> (x12 &&& 31)) then some ((Int32.ofNat (dm_len S (a0 + 20))) >>> (x12 &&& 31), S11) else none) else none else none)) else bif dm_ok S 5 a0 then (if dm_g S a0 0 < 0 then none else
  (bif tm_cb ((dm_g S a0 0).toNatClampNeg) then bif tm_cs a0 || dm_ok S 5 a0 then dm_bi (e_T_coder X N a0 S) (fun x2 S1 =>
  bif tm_ri 27 ((Int32.ofNat (tm_sl ((dm_g S a0 0).toNatClampNeg - 920))) >>> (x2 &&& 31)) then some ((Int32.ofNat (tm_sl ((dm_g S a0 0).toNatClampNeg - 920))) >>> (x2 &&& 31), S1) else none) else none else bif Nat.beq ((dm_g S a0 0).toNatClampNeg) 950 then bif tm_cs a0 || dm_ok S 5 a0 then dm_bi (e_T_coder X N a0 S) (fun x4 S3 =>
  bif tm_ri 27 ((Int32.ofNat X.1) >>> (x4 &&& 31)) then some ((Int32.ofNat X.1) >>> (x4 &&& 31), S3) else none) else none else bif dm_ok S 2 ((dm_g S a0 0).toNatClampNeg) || dm_ok S 4 ((dm_g S a0 0).toNatClampNeg) then bif tm_cs a0 || dm_ok S 5 a0 then dm_bi (e_T_coder X N a0 S) (fun x6 S5 =>
  bif tm_ri 27 ((Int32.ofNat (dm_len S ((dm_g S a0 0).toNatClampNeg))) >>> (x6 &&& 31)) then some ((Int32.ofNat (dm_len S ((dm_g S a0 0).toNatClampNeg))) >>> (x6 &&& 31), S5) else none) else none else none)) else none
def ec_T_strLen (X : tm_X) (N : Nat) : dm_Cl := fun _ as S kk => am_sa as (fun a0 w0 => am_st0 w0 (dm_bi (e_T_strLen X N a0 S) (fun v S => kk (some (.int v)) S)))
def dtT_strLen : List (Nat × Instr × Nat) := [(0, .aload_n 0, 1), (1, .getfield 9, 3), (4, .arraylength, 1), (5, .aload_n 0, 1), (6, .invokevirtual 335, 3), (9, .ishr, 1), (10, .ireturn, 1)]
def eoC_T_strLen (X : tm_X) (N : Nat) : am_Orc := am_o0
def eoD_T_strLen (X : tm_X) (N : Nat) : dm_Orc := (dm_oc 28 (ec_T_coder X N) dm_o0)
set_option maxRecDepth 100000 in
theorem dtok_T_strLen : tm_tok 27 dtT_strLen := by
  unfold tm_tok
  decide +kernel
set_option maxHeartbeats 4000000 in
set_option maxRecDepth 100000 in
theorem em_T_strLen {l : Launch} {al : Nat → Nat} {dC : Nat → ClassId} {dI : Nat → Nat → Nat} {aC : Nat → ClassId} {aV : Nat → Nat} {x0 x1 : Nat} (hy : am_Hy l al) (hA : dm_Al al x0 x1) (X : tm_X) (N : Nat) (a0 : Nat) (S : dm_S) (r : (Int32 × dm_S)) (hf : e_T_strLen X N a0 S = some r) : tm_Met l al dC dI aC aV x0 x1 X 27 [.ref a0] S (some (.int r.1)) r.2 :=
  tm_met (tab := dtT_strLen) (oC := eoC_T_strLen X N) (oD := eoD_T_strLen X N) (ret := dm_ri) (g := r) (by decide) hA dtok_T_strLen am_os0 (tm_os1 (es_T_coder hy hA X N) tm_os0) dm_ri_inv (Nat.le_of_ble_eq_true rfl) (fun At cl wk => by
    skip
    exact cl dm_C0 dm_u0 400 0 _ _ S hf)
theorem es_T_strLen {l : Launch} {al : Nat → Nat} {dC : Nat → ClassId} {dI : Nat → Nat → Nat} {aC : Nat → ClassId} {aV : Nat → Nat} {x0 x1 : Nat} (hy : am_Hy l al) (hA : dm_Al al x0 x1) (X : tm_X) (N : Nat) : tm_CS l al dC dI aC aV x0 x1 X 27 (ec_T_strLen X N) := by
  intro γ as S kk g hc0
  obtain ⟨a0, w0, e_0, hc1⟩ := am_sa_some hc0
  obtain ⟨e_1, hc⟩ := am_st0_some hc1
  subst e_1
  subst e_0
  obtain ⟨q, e1, e2⟩ := dm_bi_some hc
  exact ⟨_, _, em_T_strLen hy hA X N a0 S _ e1, e2⟩

def e_T_max (X : tm_X) (N : Nat) (i0 : Int32) (i1 : Int32) (S : dm_S) : Option (Int32 × dm_S) :=
  (if i0 < i1 then
    bif tm_ri 21 i1 then some (i1, S) else none
  else
    bif tm_ri 21 i0 then some (i0, S) else none)
def ec_T_max (X : tm_X) (N : Nat) : dm_Cl := fun _ as S kk => am_s1 as (fun i0 w0 => am_s1 w0 (fun i1 w1 => am_st0 w1 (dm_bi (e_T_max X N i0 i1 S) (fun v S => kk (some (.int v)) S))))
def dtT_max : List (Nat × Instr × Nat) := [(0, .iload_n 0, 1), (1, .iload_n 1, 1), (2, .if_icmp .lt 7, 3), (5, .iload_n 0, 1), (6, .goto 4, 3), (9, .iload_n 1, 1), (10, .ireturn, 1)]
def eoC_T_max (X : tm_X) (N : Nat) : am_Orc := am_o0
def eoD_T_max (X : tm_X) (N : Nat) : dm_Orc := dm_o0
set_option maxRecDepth 100000 in
theorem dtok_T_max : tm_tok 21 dtT_max := by
  unfold tm_tok
  decide +kernel
set_option maxHeartbeats 4000000 in
set_option maxRecDepth 100000 in
theorem em_T_max {l : Launch} {al : Nat → Nat} {dC : Nat → ClassId} {dI : Nat → Nat → Nat} {aC : Nat → ClassId} {aV : Nat → Nat} {x0 x1 : Nat} (hy : am_Hy l al) (hA : dm_Al al x0 x1) (X : tm_X) (N : Nat) (i0 : Int32) (i1 : Int32) (S : dm_S) (r : (Int32 × dm_S)) (hf : e_T_max X N i0 i1 S = some r) : tm_Met l al dC dI aC aV x0 x1 X 21 [.int i0, .int i1] S (some (.int r.1)) r.2 :=
  tm_met (tab := dtT_max) (oC := eoC_T_max X N) (oD := eoD_T_max X N) (ret := dm_ri) (g := r) (by decide) hA dtok_T_max am_os0 tm_os0 dm_ri_inv (Nat.le_of_ble_eq_true rfl) (fun At cl wk => by
    skip
    exact cl dm_C0 dm_u0 400 0 _ _ S hf)
theorem es_T_max {l : Launch} {al : Nat → Nat} {dC : Nat → ClassId} {dI : Nat → Nat → Nat} {aC : Nat → ClassId} {aV : Nat → Nat} {x0 x1 : Nat} (hy : am_Hy l al) (hA : dm_Al al x0 x1) (X : tm_X) (N : Nat) : tm_CS l al dC dI aC aV x0 x1 X 21 (ec_T_max X N) := by
  intro γ as S kk g hc0
  obtain ⟨i0, w0, e_0, hc1⟩ := am_s1_some hc0
  obtain ⟨i1, w1, e_1, hc2⟩ := am_s1_some hc1
  obtain ⟨e_2, hc⟩ := am_st0_some hc2
  subst e_2
  subst e_1
  subst e_0
  obtain ⟨q, e1, e2⟩ := dm_bi_some hc
  exact ⟨_, _, em_T_max hy hA X N i0 i1 S _ e1, e2⟩

def e_T_newLen (X : tm_X) (N : Nat) (i0 : Int32) (i1 : Int32) (i2 : Int32) (S : dm_S) : Option (Int32 × dm_S) :=
  dm_bi (e_T_max X N i1 i2 S) (fun x2 S1 =>
  (if (i0 + x2) ≤ (0 : Int32) then
    none
  else
    (if (2147483639 : Int32) < (i0 + x2) then
      none
    else
      bif tm_ri 20 (i0 + x2) then some (i0 + x2, S1) else none)))
def ec_T_newLen (X : tm_X) (N : Nat) : dm_Cl := fun _ as S kk => am_s1 as (fun i0 w0 => am_s1 w0 (fun i1 w1 => am_s1 w1 (fun i2 w2 => am_st0 w2 (dm_bi (e_T_newLen X N i0 i1 i2 S) (fun v S => kk (some (.int v)) S)))))
def dtT_newLen : List (Nat × Instr × Nat) := [(0, .iload_n 0, 1), (1, .iload_n 1, 1), (2, .iload_n 2, 1), (3, .invokestatic 194, 3), (6, .iadd, 1), (7, .istore_n 3, 1), (8, .iconst 0, 1), (9, .iload_n 3, 1), (10, .if_icmp .ge 11, 3), (13, .iload_n 3, 1), (14, .ldc 200, 2), (16, .if_icmp .gt 5, 3), (19, .iload_n 3, 1), (20, .ireturn, 1), (21, .iload_n 0, 1), (22, .iload_n 1, 1), (23, .invokestatic 201, 3), (26, .ireturn, 1)]
def eoC_T_newLen (X : tm_X) (N : Nat) : am_Orc := am_o0
def eoD_T_newLen (X : tm_X) (N : Nat) : dm_Orc := (dm_oc 21 (ec_T_max X N) dm_o0)
set_option maxRecDepth 100000 in
theorem dtok_T_newLen : tm_tok 20 dtT_newLen := by
  unfold tm_tok
  decide +kernel
set_option maxHeartbeats 4000000 in
set_option maxRecDepth 100000 in
theorem em_T_newLen {l : Launch} {al : Nat → Nat} {dC : Nat → ClassId} {dI : Nat → Nat → Nat} {aC : Nat → ClassId} {aV : Nat → Nat} {x0 x1 : Nat} (hy : am_Hy l al) (hA : dm_Al al x0 x1) (X : tm_X) (N : Nat) (i0 : Int32) (i1 : Int32) (i2 : Int32) (S : dm_S) (r : (Int32 × dm_S)) (hf : e_T_newLen X N i0 i1 i2 S = some r) : tm_Met l al dC dI aC aV x0 x1 X 20 [.int i0, .int i1, .int i2] S (some (.int r.1)) r.2 :=
  tm_met (tab := dtT_newLen) (oC := eoC_T_newLen X N) (oD := eoD_T_newLen X N) (ret := dm_ri) (g := r) (by decide) hA dtok_T_newLen am_os0 (tm_os1 (es_T_max hy hA X N) tm_os0) dm_ri_inv (Nat.le_of_ble_eq_true rfl) (fun At cl wk => by
    skip
    exact cl dm_C0 dm_u0 400 0 _ _ S hf)
theorem es_T_newLen {l : Launch} {al : Nat → Nat} {dC : Nat → ClassId} {dI : Nat → Nat → Nat} {aC : Nat → ClassId} {aV : Nat → Nat} {x0 x1 : Nat} (hy : am_Hy l al) (hA : dm_Al al x0 x1) (X : tm_X) (N : Nat) : tm_CS l al dC dI aC aV x0 x1 X 20 (ec_T_newLen X N) := by
  intro γ as S kk g hc0
  obtain ⟨i0, w0, e_0, hc1⟩ := am_s1_some hc0
  obtain ⟨i1, w1, e_1, hc2⟩ := am_s1_some hc1
  obtain ⟨i2, w2, e_2, hc3⟩ := am_s1_some hc2
  obtain ⟨e_3, hc⟩ := am_st0_some hc3
  subst e_3
  subst e_2
  subst e_1
  subst e_0
  obtain ⟨q, e1, e2⟩ := dm_bi_some hc
  exact ⟨_, _, em_T_newLen hy hA X N i0 i1 i2 S _ e1, e2⟩

def e_T_newCap (X : tm_X) (N : Nat) (a0 : Nat) (i1 : Int32) (S : dm_S) : Option (Int32 × dm_S) :=
  bif tm_cs a0 then (none) else bif dm_ok S 6 a0 then (if dm_g S a0 0 < 0 then none else
  (bif tm_cb ((dm_g S a0 0).toNatClampNeg) then bif tm_cs a0 then (none) else bif dm_ok S 6 a0 then bif tm_cs a0 then (none) else bif dm_ok S 6 a0 then dm_bi (e_T_newLen X N (Int32.ofNat (tm_sl ((dm_g S a0 0).toNatClampNeg - 920))) ((i1 <<< ((dm_g S a0 1) &&& 31)) - (Int32.ofNat (tm_sl ((dm_g S a0 0).toNatClampNeg - 920)))) ((Int32.ofNat (tm_sl ((dm_g S a0 0).toNatClampNeg - 920))) + ((2 : Int32) <<< ((dm_g S a0 1) &&& 31))) S) (fun x2 S1 =>
  (if x2 = (2147483647 : Int32) then
    none
  else
    bif tm_cs a0 then (none) else bif dm_ok S1 6 a0 then bif tm_ri 19 (x2 >>> ((dm_g S1 a0 1) &&& 31)) then some (x2 >>> ((dm_g S1 a0 1) &&& 31), S1) else none else none)) else none else none else bif Nat.beq ((dm_g S a0 0).toNatClampNeg) 950 then bif tm_cs a0 then (none) else bif dm_ok S 6 a0 then bif tm_cs a0 then (none) else bif dm_ok S 6 a0 then dm_bi (e_T_newLen X N (Int32.ofNat X.1) ((i1 <<< ((dm_g S a0 1) &&& 31)) - (Int32.ofNat X.1)) ((Int32.ofNat X.1) + ((2 : Int32) <<< ((dm_g S a0 1) &&& 31))) S) (fun x4 S3 =>
  (if x4 = (2147483647 : Int32) then
    none
  else
    bif tm_cs a0 then (none) else bif dm_ok S3 6 a0 then bif tm_ri 19 (x4 >>> ((dm_g S3 a0 1) &&& 31)) then some (x4 >>> ((dm_g S3 a0 1) &&& 31), S3) else none else none)) else none else none else bif dm_ok S 2 ((dm_g S a0 0).toNatClampNeg) || dm_ok S 4 ((dm_g S a0 0).toNatClampNeg) then bif tm_cs a0 then (none) else bif dm_ok S 6 a0 then bif tm_cs a0 then (none) else bif dm_ok S 6 a0 then dm_bi (e_T_newLen X N (Int32.ofNat (dm_len S ((dm_g S a0 0).toNatClampNeg))) ((i1 <<< ((dm_g S a0 1) &&& 31)) - (Int32.ofNat (dm_len S ((dm_g S a0 0).toNatClampNeg)))) ((Int32.ofNat (dm_len S ((dm_g S a0 0).toNatClampNeg))) + ((2 : Int32) <<< ((dm_g S a0 1) &&& 31))) S) (fun x6 S5 =>
  (if x6 = (2147483647 : Int32) then
    none
  else
    bif tm_cs a0 then (none) else bif dm_ok S5 6 a0 then bif tm_ri 19 (x6 >>> ((dm_g S5 a0 1) &&& 31)) then some (x6 >>> ((dm_g S5 a0 1) &&& 31), S5) else none else none)) else none else none else none)) else none
def ec_T_newCap (X : tm_X) (N : Nat) : dm_Cl := fun _ as S kk => am_sa as (fun a0 w0 => am_s1 w0 (fun i1 w1 => am_st0 w1 (dm_bi (e_T_newCap X N a0 i1 S) (fun v S => kk (some (.int v)) S))))
def dtT_newCap : List (Nat × Instr × Nat) := [(0, .aload_n 0, 1), (1, .getfield 15, 3), (4, .arraylength, 1), (5, .istore_n 2, 1), (6, .iload_n 1, 1), (7, .aload_n 0, 1), (8, .getfield 22, 3), (11, .ishl, 1), (12, .istore_n 3, 1), (13, .iload_n 3, 1), (14, .iload_n 2, 1), (15, .isub, 1), (16, .istore 4, 2), (18, .iload_n 2, 1), (19, .iload 4, 2), (21, .iload_n 2, 1), (22, .iconst 2, 1), (23, .aload_n 0, 1), (24, .getfield 22, 3), (27, .ishl, 1), (28, .iadd, 1), (29, .invokestatic 114, 3), (32, .istore 5, 2), (34, .iload 5, 2), (36, .ldc 39, 2), (38, .if_icmp .ne 13, 3), (41, .new 120, 3), (44, .dup, 1), (45, .ldc 122, 2), (47, .invokespecial 124, 3), (50, .athrow, 1), (51, .iload 5, 2), (53, .aload_n 0, 1), (54, .getfield 22, 3), (57, .ishr, 1), (58, .ireturn, 1)]
def eoC_T_newCap (X : tm_X) (N : Nat) : am_Orc := am_o0
def eoD_T_newCap (X : tm_X) (N : Nat) : dm_Orc := (dm_oc 20 (ec_T_newLen X N) dm_o0)
set_option maxRecDepth 100000 in
theorem dtok_T_newCap : tm_tok 19 dtT_newCap := by
  unfold tm_tok
  decide +kernel
set_option maxHeartbeats 4000000 in
set_option maxRecDepth 100000 in
theorem em_T_newCap {l : Launch} {al : Nat → Nat} {dC : Nat → ClassId} {dI : Nat → Nat → Nat} {aC : Nat → ClassId} {aV : Nat → Nat} {x0 x1 : Nat} (hy : am_Hy l al) (hA : dm_Al al x0 x1) (X : tm_X) (N : Nat) (a0 : Nat) (i1 : Int32) (S : dm_S) (r : (Int32 × dm_S)) (hf : e_T_newCap X N a0 i1 S = some r) : tm_Met l al dC dI aC aV x0 x1 X 19 [.ref a0, .int i1] S (some (.int r.1)) r.2 :=
  tm_met (tab := dtT_newCap) (oC := eoC_T_newCap X N) (oD := eoD_T_newCap X N) (ret := dm_ri) (g := r) (by decide) hA dtok_T_newCap am_os0 (tm_os1 (es_T_newLen hy hA X N) tm_os0) dm_ri_inv (Nat.le_of_ble_eq_true rfl) (fun At cl wk => by
    skip
    exact cl dm_C0 dm_u0 400 0 _ _ S hf)
theorem es_T_newCap {l : Launch} {al : Nat → Nat} {dC : Nat → ClassId} {dI : Nat → Nat → Nat} {aC : Nat → ClassId} {aV : Nat → Nat} {x0 x1 : Nat} (hy : am_Hy l al) (hA : dm_Al al x0 x1) (X : tm_X) (N : Nat) : tm_CS l al dC dI aC aV x0 x1 X 19 (ec_T_newCap X N) := by
  intro γ as S kk g hc0
  obtain ⟨a0, w0, e_0, hc1⟩ := am_sa_some hc0
  obtain ⟨i1, w1, e_1, hc2⟩ := am_s1_some hc1
  obtain ⟨e_2, hc⟩ := am_st0_some hc2
  subst e_2
  subst e_1
  subst e_0
  obtain ⟨q, e1, e2⟩ := dm_bi_some hc
  exact ⟨_, _, em_T_newCap hy hA X N a0 i1 S _ e1, e2⟩

def e_T_min (X : tm_X) (N : Nat) (i0 : Int32) (i1 : Int32) (S : dm_S) : Option (Int32 × dm_S) :=
  (if i1 < i0 then
    bif tm_ri 22 i1 then some (i1, S) else none
  else
    bif tm_ri 22 i0 then some (i0, S) else none)
def ec_T_min (X : tm_X) (N : Nat) : dm_Cl := fun _ as S kk => am_s1 as (fun i0 w0 => am_s1 w0 (fun i1 w1 => am_st0 w1 (dm_bi (e_T_min X N i0 i1 S) (fun v S => kk (some (.int v)) S))))
def dtT_min : List (Nat × Instr × Nat) := [(0, .iload_n 0, 1), (1, .iload_n 1, 1), (2, .if_icmp .gt 7, 3), (5, .iload_n 0, 1), (6, .goto 4, 3), (9, .iload_n 1, 1), (10, .ireturn, 1)]
def eoC_T_min (X : tm_X) (N : Nat) : am_Orc := am_o0
def eoD_T_min (X : tm_X) (N : Nat) : dm_Orc := dm_o0
set_option maxRecDepth 100000 in
theorem dtok_T_min : tm_tok 22 dtT_min := by
  unfold tm_tok
  decide +kernel
set_option maxHeartbeats 4000000 in
set_option maxRecDepth 100000 in
theorem em_T_min {l : Launch} {al : Nat → Nat} {dC : Nat → ClassId} {dI : Nat → Nat → Nat} {aC : Nat → ClassId} {aV : Nat → Nat} {x0 x1 : Nat} (hy : am_Hy l al) (hA : dm_Al al x0 x1) (X : tm_X) (N : Nat) (i0 : Int32) (i1 : Int32) (S : dm_S) (r : (Int32 × dm_S)) (hf : e_T_min X N i0 i1 S = some r) : tm_Met l al dC dI aC aV x0 x1 X 22 [.int i0, .int i1] S (some (.int r.1)) r.2 :=
  tm_met (tab := dtT_min) (oC := eoC_T_min X N) (oD := eoD_T_min X N) (ret := dm_ri) (g := r) (by decide) hA dtok_T_min am_os0 tm_os0 dm_ri_inv (Nat.le_of_ble_eq_true rfl) (fun At cl wk => by
    skip
    exact cl dm_C0 dm_u0 400 0 _ _ S hf)
theorem es_T_min {l : Launch} {al : Nat → Nat} {dC : Nat → ClassId} {dI : Nat → Nat → Nat} {aC : Nat → ClassId} {aV : Nat → Nat} {x0 x1 : Nat} (hy : am_Hy l al) (hA : dm_Al al x0 x1) (X : tm_X) (N : Nat) : tm_CS l al dC dI aC aV x0 x1 X 22 (ec_T_min X N) := by
  intro γ as S kk g hc0
  obtain ⟨i0, w0, e_0, hc1⟩ := am_s1_some hc0
  obtain ⟨i1, w1, e_1, hc2⟩ := am_s1_some hc1
  obtain ⟨e_2, hc⟩ := am_st0_some hc2
  subst e_2
  subst e_1
  subst e_0
  obtain ⟨q, e1, e2⟩ := dm_bi_some hc
  exact ⟨_, _, em_T_min hy hA X N i0 i1 S _ e1, e2⟩
