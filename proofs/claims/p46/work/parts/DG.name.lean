def e_T_name (X : tm_X) (N : Nat) (i0 : Int32) (i1 : Int32) (S : dm_S) : Option (Nat × dm_S) :=
  bif Nat.blt (dm_n S + 2000) dm_bg then (let S1 := dm_nw S (6, 12, 4) (fun j => if j = 0 then am_z (-1) else 0) 4
  bif tm_r4 S1 10 [.ref (dm_n S)] then dm_bi (e_T_SBinit X N (dm_n S) S1) (fun _ S2 =>
  (if i0 = 0 then
    bif dm_ok S2 6 (dm_n S) then dm_bi (e_T_SBappS X N (dm_n S) 902 S2) (fun b4 S3 =>
    bif dm_ok S3 6 b4 then dm_bi (e_T_SBappC X N b4 (((((Int8.ofInt (97)).toInt32) + i1).toUInt32 % 65536).toInt32) S3) (fun b6 S5 =>
    bif dm_ok S5 6 b6 then dm_bi (e_T_toStr X N b6 S5) (fun b8 S7 =>
    some (b8, S7)) else none) else none) else none
  else
    bif dm_ok S2 6 (dm_n S) then dm_bi (e_T_SBappS X N (dm_n S) 901 S2) (fun b10 S9 =>
    bif dm_ok S9 6 b10 then dm_bi (e_T_SBappC X N b10 (((((Int8.ofInt (97)).toInt32) + i1).toUInt32 % 65536).toInt32) S9) (fun b12 S11 =>
    bif dm_ok S11 6 b12 then dm_bi (e_T_toStr X N b12 S11) (fun b14 S13 =>
    some (b14, S13)) else none) else none) else none)) else none) else none
def ec_T_name (X : tm_X) (N : Nat) : dm_Cl := fun _ as S kk => am_s1 as (fun i0 w0 => am_s1 w0 (fun i1 w1 => am_st0 w1 (dm_bi (e_T_name X N i0 i1 S) (fun v S => kk (some (.ref v)) S))))
def dtT_name : List (Nat × Instr × Nat) := [(0, .new 14, 3), (3, .dup, 1), (4, .invokespecial 16, 3), (7, .iload_n 0, 1), (8, .ifCond .eq 8, 3), (11, .ldc 47, 2), (13, .goto 5, 3), (16, .ldc 49, 2), (18, .invokevirtual 17, 3), (21, .bipush 97, 2), (23, .iload_n 1, 1), (24, .iadd, 1), (25, .i2c, 1), (26, .invokevirtual 51, 3), (29, .invokevirtual 23, 3), (32, .areturn, 1)]
def eoC_T_name (X : tm_X) (N : Nat) : am_Orc := am_o0
def eoD_T_name (X : tm_X) (N : Nat) : dm_Orc := (dm_oc 10 (ec_T_SBinit X N) (dm_oc 12 (ec_T_SBappS X N) (dm_oc 14 (ec_T_SBappC X N) (dm_oc 33 (ec_T_toStr X N) dm_o0))))
set_option maxRecDepth 100000 in
theorem dtok_T_name : tm_tok 6 dtT_name := by
  unfold tm_tok
  decide +kernel
set_option maxHeartbeats 4000000 in
set_option maxRecDepth 100000 in
theorem em_T_name {l : Launch} {al : Nat → Nat} {dC : Nat → ClassId} {dI : Nat → Nat → Nat} {aC : Nat → ClassId} {aV : Nat → Nat} {x0 x1 : Nat} (hy : am_Hy l al) (hA : dm_Al al x0 x1) (X : tm_X) (N : Nat) (i0 : Int32) (i1 : Int32) (S : dm_S) (r : (Nat × dm_S)) (hf : e_T_name X N i0 i1 S = some r) : tm_Met l al dC dI aC aV x0 x1 X 6 [.int i0, .int i1] S (some (.ref r.1)) r.2 :=
  tm_met (tab := dtT_name) (oC := eoC_T_name X N) (oD := eoD_T_name X N) (ret := dm_rr) (g := r) (by decide) hA dtok_T_name am_os0 (tm_os1 (es_T_SBinit hy hA X N) (tm_os1 (es_T_SBappS hy hA X N) (tm_os1 (es_T_SBappC hy hA X N) (tm_os1 (es_T_toStr hy hA X N) tm_os0)))) dm_rr_inv (Nat.le_of_ble_eq_true rfl) (fun At cl wk => by
    skip
    exact cl dm_C0 dm_u0 400 0 _ _ S hf)
theorem es_T_name {l : Launch} {al : Nat → Nat} {dC : Nat → ClassId} {dI : Nat → Nat → Nat} {aC : Nat → ClassId} {aV : Nat → Nat} {x0 x1 : Nat} (hy : am_Hy l al) (hA : dm_Al al x0 x1) (X : tm_X) (N : Nat) : tm_CS l al dC dI aC aV x0 x1 X 6 (ec_T_name X N) := by
  intro γ as S kk g hc0
  obtain ⟨i0, w0, e_0, hc1⟩ := am_s1_some hc0
  obtain ⟨i1, w1, e_1, hc2⟩ := am_s1_some hc1
  obtain ⟨e_2, hc⟩ := am_st0_some hc2
  subst e_2
  subst e_1
  subst e_0
  obtain ⟨q, e1, e2⟩ := dm_bi_some hc
  exact ⟨_, _, em_T_name hy hA X N i0 i1 S _ e1, e2⟩

def e_T_strLat (X : tm_X) (N : Nat) (a0 : Nat) (S : dm_S) : Option (Int32 × dm_S) :=
  (if (1 : Int32) = 0 then
    bif tm_ri 43 (0 : Int32) then some ((0 : Int32), S) else none
  else
    bif tm_cs a0 then ((if (0 : Int32) = 0 then
      bif tm_ri 43 (1 : Int32) then some ((1 : Int32), S) else none
    else
      bif tm_ri 43 (0 : Int32) then some ((0 : Int32), S) else none)) else bif dm_ok S 5 a0 then (if (dm_g S a0 1) = 0 then
      bif tm_ri 43 (1 : Int32) then some ((1 : Int32), S) else none
    else
      bif tm_ri 43 (0 : Int32) then some ((0 : Int32), S) else none) else none)
def ec_T_strLat (X : tm_X) (N : Nat) : dm_Cl := fun _ as S kk => am_sa as (fun a0 w0 => am_st0 w0 (dm_bi (e_T_strLat X N a0 S) (fun v S => kk (some (.int v)) S)))
def dtT_strLat : List (Nat × Instr × Nat) := [(0, .getstatic 38, 3), (3, .ifCond .eq 14, 3), (6, .aload_n 0, 1), (7, .getfield 15, 3), (10, .ifCond .ne 7, 3), (13, .iconst 1, 1), (14, .goto 4, 3), (17, .iconst 0, 1), (18, .ireturn, 1)]
def eoC_T_strLat (X : tm_X) (N : Nat) : am_Orc := am_o0
def eoD_T_strLat (X : tm_X) (N : Nat) : dm_Orc := dm_o0
set_option maxRecDepth 100000 in
theorem dtok_T_strLat : tm_tok 43 dtT_strLat := by
  unfold tm_tok
  decide +kernel
set_option maxHeartbeats 4000000 in
set_option maxRecDepth 100000 in
theorem em_T_strLat {l : Launch} {al : Nat → Nat} {dC : Nat → ClassId} {dI : Nat → Nat → Nat} {aC : Nat → ClassId} {aV : Nat → Nat} {x0 x1 : Nat} (hy : am_Hy l al) (hA : dm_Al al x0 x1) (X : tm_X) (N : Nat) (a0 : Nat) (S : dm_S) (r : (Int32 × dm_S)) (hf : e_T_strLat X N a0 S = some r) : tm_Met l al dC dI aC aV x0 x1 X 43 [.ref a0] S (some (.int r.1)) r.2 :=
  tm_met (tab := dtT_strLat) (oC := eoC_T_strLat X N) (oD := eoD_T_strLat X N) (ret := dm_ri) (g := r) (by decide) hA dtok_T_strLat am_os0 tm_os0 dm_ri_inv (Nat.le_of_ble_eq_true rfl) (fun At cl wk => by
    skip
    exact cl dm_C0 dm_u0 400 0 _ _ S hf)
theorem es_T_strLat {l : Launch} {al : Nat → Nat} {dC : Nat → ClassId} {dI : Nat → Nat → Nat} {aC : Nat → ClassId} {aV : Nat → Nat} {x0 x1 : Nat} (hy : am_Hy l al) (hA : dm_Al al x0 x1) (X : tm_X) (N : Nat) : tm_CS l al dC dI aC aV x0 x1 X 43 (ec_T_strLat X N) := by
  intro γ as S kk g hc0
  obtain ⟨a0, w0, e_0, hc1⟩ := am_sa_some hc0
  obtain ⟨e_1, hc⟩ := am_st0_some hc1
  subst e_1
  subst e_0
  obtain ⟨q, e1, e2⟩ := dm_bi_some hc
  exact ⟨_, _, em_T_strLat hy hA X N a0 S _ e1, e2⟩
