def e_T_isLat (X : tm_X) (N : Nat) (a0 : Nat) (S : dm_S) : Option (Int32 × dm_S) :=
  (if (1 : Int32) = 0 then
    bif tm_ri 31 (0 : Int32) then some ((0 : Int32), S) else none
  else
    bif tm_cs a0 then (none) else bif dm_ok S 6 a0 then (if (dm_g S a0 1) = 0 then
      bif tm_ri 31 (1 : Int32) then some ((1 : Int32), S) else none
    else
      bif tm_ri 31 (0 : Int32) then some ((0 : Int32), S) else none) else none)
def ec_T_isLat (X : tm_X) (N : Nat) : dm_Cl := fun _ as S kk => am_sa as (fun a0 w0 => am_st0 w0 (dm_bi (e_T_isLat X N a0 S) (fun v S => kk (some (.int v)) S)))
def dtT_isLat : List (Nat × Instr × Nat) := [(0, .getstatic 18, 3), (3, .ifCond .eq 14, 3), (6, .aload_n 0, 1), (7, .getfield 22, 3), (10, .ifCond .ne 7, 3), (13, .iconst 1, 1), (14, .goto 4, 3), (17, .iconst 0, 1), (18, .ireturn, 1)]
def eoC_T_isLat (X : tm_X) (N : Nat) : am_Orc := am_o0
def eoD_T_isLat (X : tm_X) (N : Nat) : dm_Orc := dm_o0
set_option maxRecDepth 100000 in
theorem dtok_T_isLat : tm_tok 31 dtT_isLat := by
  unfold tm_tok
  decide +kernel
set_option maxHeartbeats 4000000 in
set_option maxRecDepth 100000 in
theorem em_T_isLat {l : Launch} {al : Nat → Nat} {dC : Nat → ClassId} {dI : Nat → Nat → Nat} {aC : Nat → ClassId} {aV : Nat → Nat} {x0 x1 : Nat} (hy : am_Hy l al) (hA : dm_Al al x0 x1) (X : tm_X) (N : Nat) (a0 : Nat) (S : dm_S) (r : (Int32 × dm_S)) (hf : e_T_isLat X N a0 S = some r) : tm_Met l al dC dI aC aV x0 x1 X 31 [.ref a0] S (some (.int r.1)) r.2 :=
  tm_met (tab := dtT_isLat) (oC := eoC_T_isLat X N) (oD := eoD_T_isLat X N) (ret := dm_ri) (g := r) (by decide) hA dtok_T_isLat am_os0 tm_os0 dm_ri_inv (Nat.le_of_ble_eq_true rfl) (fun At cl wk => by
    skip
    exact cl dm_C0 dm_u0 400 0 _ _ S hf)
theorem es_T_isLat {l : Launch} {al : Nat → Nat} {dC : Nat → ClassId} {dI : Nat → Nat → Nat} {aC : Nat → ClassId} {aV : Nat → Nat} {x0 x1 : Nat} (hy : am_Hy l al) (hA : dm_Al al x0 x1) (X : tm_X) (N : Nat) : tm_CS l al dC dI aC aV x0 x1 X 31 (ec_T_isLat X N) := by
  intro γ as S kk g hc0
  obtain ⟨a0, w0, e_0, hc1⟩ := am_sa_some hc0
  obtain ⟨e_1, hc⟩ := am_st0_some hc1
  subst e_1
  subst e_0
  obtain ⟨q, e1, e2⟩ := dm_bi_some hc
  exact ⟨_, _, em_T_isLat hy hA X N a0 S _ e1, e2⟩

def e_T_canEnc (X : tm_X) (N : Nat) (i0 : Int32) (S : dm_S) : Option (Int32 × dm_S) :=
  (if (255 : Int32) < i0 then
    bif tm_ri 32 (0 : Int32) then some ((0 : Int32), S) else none
  else
    bif tm_ri 32 (1 : Int32) then some ((1 : Int32), S) else none)
def ec_T_canEnc (X : tm_X) (N : Nat) : dm_Cl := fun _ as S kk => am_s1 as (fun i0 w0 => am_st0 w0 (dm_bi (e_T_canEnc X N i0 S) (fun v S => kk (some (.int v)) S)))
def dtT_canEnc : List (Nat × Instr × Nat) := [(0, .iload_n 0, 1), (1, .sipush 255, 3), (4, .if_icmp .gt 7, 3), (7, .iconst 1, 1), (8, .goto 4, 3), (11, .iconst 0, 1), (12, .ireturn, 1)]
def eoC_T_canEnc (X : tm_X) (N : Nat) : am_Orc := am_o0
def eoD_T_canEnc (X : tm_X) (N : Nat) : dm_Orc := dm_o0
set_option maxRecDepth 100000 in
theorem dtok_T_canEnc : tm_tok 32 dtT_canEnc := by
  unfold tm_tok
  decide +kernel
set_option maxHeartbeats 4000000 in
set_option maxRecDepth 100000 in
theorem em_T_canEnc {l : Launch} {al : Nat → Nat} {dC : Nat → ClassId} {dI : Nat → Nat → Nat} {aC : Nat → ClassId} {aV : Nat → Nat} {x0 x1 : Nat} (hy : am_Hy l al) (hA : dm_Al al x0 x1) (X : tm_X) (N : Nat) (i0 : Int32) (S : dm_S) (r : (Int32 × dm_S)) (hf : e_T_canEnc X N i0 S = some r) : tm_Met l al dC dI aC aV x0 x1 X 32 [.int i0] S (some (.int r.1)) r.2 :=
  tm_met (tab := dtT_canEnc) (oC := eoC_T_canEnc X N) (oD := eoD_T_canEnc X N) (ret := dm_ri) (g := r) (by decide) hA dtok_T_canEnc am_os0 tm_os0 dm_ri_inv (Nat.le_of_ble_eq_true rfl) (fun At cl wk => by
    skip
    exact cl dm_C0 dm_u0 400 0 _ _ S hf)
theorem es_T_canEnc {l : Launch} {al : Nat → Nat} {dC : Nat → ClassId} {dI : Nat → Nat → Nat} {aC : Nat → ClassId} {aV : Nat → Nat} {x0 x1 : Nat} (hy : am_Hy l al) (hA : dm_Al al x0 x1) (X : tm_X) (N : Nat) : tm_CS l al dC dI aC aV x0 x1 X 32 (ec_T_canEnc X N) := by
  intro γ as S kk g hc0
  obtain ⟨i0, w0, e_0, hc1⟩ := am_s1_some hc0
  obtain ⟨e_1, hc⟩ := am_st0_some hc1
  subst e_1
  subst e_0
  obtain ⟨q, e1, e2⟩ := dm_bi_some hc
  exact ⟨_, _, em_T_canEnc hy hA X N i0 S _ e1, e2⟩

def e_T_ASBappC (X : tm_X) (N : Nat) (a0 : Nat) (i1 : Int32) (S : dm_S) : Option (Nat × dm_S) :=
  bif tm_cs a0 then (none) else bif dm_ok S 6 a0 then bif dm_ok S 6 a0 then dm_bi (e_T_ensure X N a0 ((dm_g S a0 3) + (1 : Int32)) S) (fun _ S1 =>
  bif dm_ok S1 6 a0 then dm_bi (e_T_isLat X N a0 S1) (fun x3 S2 =>
  (if x3 = 0 then
    bif dm_ok S2 6 a0 then dm_bi (e_T_isLat X N a0 S2) (fun x5 S4 =>
    (if x5 = 0 then
      bif tm_cs a0 then (none) else bif dm_ok S4 6 a0 then (if dm_g S4 a0 0 < 0 then none else
      bif tm_cs a0 then (none) else bif dm_ok S4 6 a0 then bif dm_ok S4 6 a0 && true then (let S6 := dm_wr S4 a0 3 ((dm_g S4 a0 3) + (1 : Int32))
      none) else none else none) else none
    else
      none)) else none
  else
    dm_bi (e_T_canEnc X N i1 S2) (fun x8 S7 =>
    (if x8 = 0 then
      bif dm_ok S7 6 a0 then dm_bi (e_T_isLat X N a0 S7) (fun x10 S9 =>
      (if x10 = 0 then
        bif tm_cs a0 then (none) else bif dm_ok S9 6 a0 then (if dm_g S9 a0 0 < 0 then none else
        bif tm_cs a0 then (none) else bif dm_ok S9 6 a0 then bif dm_ok S9 6 a0 && true then (let S11 := dm_wr S9 a0 3 ((dm_g S9 a0 3) + (1 : Int32))
        none) else none else none) else none
      else
        none)) else none
    else
      bif tm_cs a0 then (none) else bif dm_ok S7 6 a0 then (if dm_g S7 a0 0 < 0 then none else
      bif tm_cs a0 then (none) else bif dm_ok S7 6 a0 then bif dm_ok S7 6 a0 && true then (let S12 := dm_wr S7 a0 3 ((dm_g S7 a0 3) + (1 : Int32))
      bif dm_ok S12 4 ((dm_g S7 a0 0).toNatClampNeg) && am_in (dm_g S7 a0 3) (dm_len S12 ((dm_g S7 a0 0).toNatClampNeg)) then (let S13 := dm_wr S12 ((dm_g S7 a0 0).toNatClampNeg) (dm_g S7 a0 3).toNatClampNeg (tm_b i1)
      some (a0, S13)) else none) else none else none) else none)))) else none) else none else none
def ec_T_ASBappC (X : tm_X) (N : Nat) : dm_Cl := fun _ as S kk => am_sa as (fun a0 w0 => am_s1 w0 (fun i1 w1 => am_st0 w1 (dm_bi (e_T_ASBappC X N a0 i1 S) (fun v S => kk (some (.ref v)) S))))
def dtT_ASBappC : List (Nat × Instr × Nat) := [(0, .aload_n 0, 1), (1, .aload_n 0, 1), (2, .getfield 79, 3), (5, .iconst 1, 1), (6, .iadd, 1), (7, .invokevirtual 100, 3), (10, .aload_n 0, 1), (11, .invokevirtual 83, 3), (14, .ifCond .eq 31, 3), (17, .iload_n 1, 1), (18, .invokestatic 191, 3), (21, .ifCond .eq 24, 3), (24, .aload_n 0, 1), (25, .getfield 15, 3), (28, .aload_n 0, 1), (29, .dup, 1), (30, .getfield 79, 3), (33, .dup_x1, 1), (34, .iconst 1, 1), (35, .iadd, 1), (36, .putfield 79, 3), (39, .iload_n 1, 1), (40, .i2b, 1), (41, .bastore, 1), (42, .goto 33, 3), (45, .aload_n 0, 1), (46, .invokevirtual 83, 3), (49, .ifCond .eq 7, 3), (52, .aload_n 0, 1), (53, .invokevirtual 195, 3), (56, .aload_n 0, 1), (57, .getfield 15, 3), (60, .aload_n 0, 1), (61, .dup, 1), (62, .getfield 79, 3), (65, .dup_x1, 1), (66, .iconst 1, 1), (67, .iadd, 1), (68, .putfield 79, 3), (71, .iload_n 1, 1), (72, .invokestatic 197, 3), (75, .aload_n 0, 1), (76, .areturn, 1)]
def eoC_T_ASBappC (X : tm_X) (N : Nat) : am_Orc := am_o0
def eoD_T_ASBappC (X : tm_X) (N : Nat) : dm_Orc := (dm_oc 18 (ec_T_ensure X N) (dm_oc 31 (ec_T_isLat X N) (dm_oc 32 (ec_T_canEnc X N) dm_o0)))
set_option maxRecDepth 100000 in
theorem dtok_T_ASBappC : tm_tok 17 dtT_ASBappC := by
  unfold tm_tok
  decide +kernel
set_option maxHeartbeats 4000000 in
set_option maxRecDepth 100000 in
theorem em_T_ASBappC {l : Launch} {al : Nat → Nat} {dC : Nat → ClassId} {dI : Nat → Nat → Nat} {aC : Nat → ClassId} {aV : Nat → Nat} {x0 x1 : Nat} (hy : am_Hy l al) (hA : dm_Al al x0 x1) (X : tm_X) (N : Nat) (a0 : Nat) (i1 : Int32) (S : dm_S) (r : (Nat × dm_S)) (hf : e_T_ASBappC X N a0 i1 S = some r) : tm_Met l al dC dI aC aV x0 x1 X 17 [.ref a0, .int i1] S (some (.ref r.1)) r.2 :=
  tm_met (tab := dtT_ASBappC) (oC := eoC_T_ASBappC X N) (oD := eoD_T_ASBappC X N) (ret := dm_rr) (g := r) (by decide) hA dtok_T_ASBappC am_os0 (tm_os1 (es_T_ensure hy hA X N) (tm_os1 (es_T_isLat hy hA X N) (tm_os1 (es_T_canEnc hy hA X N) tm_os0))) dm_rr_inv (Nat.le_of_ble_eq_true rfl) (fun At cl wk => by
    skip
    exact cl dm_C0 dm_u0 400 0 _ _ S hf)
theorem es_T_ASBappC {l : Launch} {al : Nat → Nat} {dC : Nat → ClassId} {dI : Nat → Nat → Nat} {aC : Nat → ClassId} {aV : Nat → Nat} {x0 x1 : Nat} (hy : am_Hy l al) (hA : dm_Al al x0 x1) (X : tm_X) (N : Nat) : tm_CS l al dC dI aC aV x0 x1 X 17 (ec_T_ASBappC X N) := by
  intro γ as S kk g hc0
  obtain ⟨a0, w0, e_0, hc1⟩ := am_sa_some hc0
  obtain ⟨i1, w1, e_1, hc2⟩ := am_s1_some hc1
  obtain ⟨e_2, hc⟩ := am_st0_some hc2
  subst e_2
  subst e_1
  subst e_0
  obtain ⟨q, e1, e2⟩ := dm_bi_some hc
  exact ⟨_, _, em_T_ASBappC hy hA X N a0 i1 S _ e1, e2⟩

def e_T_SBappC (X : tm_X) (N : Nat) (a0 : Nat) (i1 : Int32) (S : dm_S) : Option (Nat × dm_S) :=
  bif dm_ok S 6 a0 then dm_bi (e_T_ASBappC X N a0 i1 S) (fun b2 S1 =>
  some (a0, S1)) else none
def ec_T_SBappC (X : tm_X) (N : Nat) : dm_Cl := fun _ as S kk => am_sa as (fun a0 w0 => am_s1 w0 (fun i1 w1 => am_st0 w1 (dm_bi (e_T_SBappC X N a0 i1 S) (fun v S => kk (some (.ref v)) S))))
def dtT_SBappC : List (Nat × Instr × Nat) := [(0, .aload_n 0, 1), (1, .iload_n 1, 1), (2, .invokespecial 50, 3), (5, .pop, 1), (6, .aload_n 0, 1), (7, .areturn, 1)]
def eoC_T_SBappC (X : tm_X) (N : Nat) : am_Orc := am_o0
def eoD_T_SBappC (X : tm_X) (N : Nat) : dm_Orc := (dm_oc 17 (ec_T_ASBappC X N) dm_o0)
set_option maxRecDepth 100000 in
theorem dtok_T_SBappC : tm_tok 14 dtT_SBappC := by
  unfold tm_tok
  decide +kernel
set_option maxHeartbeats 4000000 in
set_option maxRecDepth 100000 in
theorem em_T_SBappC {l : Launch} {al : Nat → Nat} {dC : Nat → ClassId} {dI : Nat → Nat → Nat} {aC : Nat → ClassId} {aV : Nat → Nat} {x0 x1 : Nat} (hy : am_Hy l al) (hA : dm_Al al x0 x1) (X : tm_X) (N : Nat) (a0 : Nat) (i1 : Int32) (S : dm_S) (r : (Nat × dm_S)) (hf : e_T_SBappC X N a0 i1 S = some r) : tm_Met l al dC dI aC aV x0 x1 X 14 [.ref a0, .int i1] S (some (.ref r.1)) r.2 :=
  tm_met (tab := dtT_SBappC) (oC := eoC_T_SBappC X N) (oD := eoD_T_SBappC X N) (ret := dm_rr) (g := r) (by decide) hA dtok_T_SBappC am_os0 (tm_os1 (es_T_ASBappC hy hA X N) tm_os0) dm_rr_inv (Nat.le_of_ble_eq_true rfl) (fun At cl wk => by
    skip
    exact cl dm_C0 dm_u0 400 0 _ _ S hf)
theorem es_T_SBappC {l : Launch} {al : Nat → Nat} {dC : Nat → ClassId} {dI : Nat → Nat → Nat} {aC : Nat → ClassId} {aV : Nat → Nat} {x0 x1 : Nat} (hy : am_Hy l al) (hA : dm_Al al x0 x1) (X : tm_X) (N : Nat) : tm_CS l al dC dI aC aV x0 x1 X 14 (ec_T_SBappC X N) := by
  intro γ as S kk g hc0
  obtain ⟨a0, w0, e_0, hc1⟩ := am_sa_some hc0
  obtain ⟨i1, w1, e_1, hc2⟩ := am_s1_some hc1
  obtain ⟨e_2, hc⟩ := am_st0_some hc2
  subst e_2
  subst e_1
  subst e_0
  obtain ⟨q, e1, e2⟩ := dm_bi_some hc
  exact ⟨_, _, em_T_SBappC hy hA X N a0 i1 S _ e1, e2⟩

def e_T_getVal (X : tm_X) (N : Nat) (a0 : Nat) (S : dm_S) : Option (Nat × dm_S) :=
  bif tm_cs a0 then (none) else bif dm_ok S 6 a0 then (if dm_g S a0 0 < 0 then none else
  some ((dm_g S a0 0).toNatClampNeg, S)) else none
def ec_T_getVal (X : tm_X) (N : Nat) : dm_Cl := fun _ as S kk => am_sa as (fun a0 w0 => am_st0 w0 (dm_bi (e_T_getVal X N a0 S) (fun v S => kk (some (.ref v)) S)))
def dtT_getVal : List (Nat × Instr × Nat) := [(0, .aload_n 0, 1), (1, .getfield 15, 3), (4, .areturn, 1)]
def eoC_T_getVal (X : tm_X) (N : Nat) : am_Orc := am_o0
def eoD_T_getVal (X : tm_X) (N : Nat) : dm_Orc := dm_o0
set_option maxRecDepth 100000 in
theorem dtok_T_getVal : tm_tok 36 dtT_getVal := by
  unfold tm_tok
  decide +kernel
set_option maxHeartbeats 4000000 in
set_option maxRecDepth 100000 in
theorem em_T_getVal {l : Launch} {al : Nat → Nat} {dC : Nat → ClassId} {dI : Nat → Nat → Nat} {aC : Nat → ClassId} {aV : Nat → Nat} {x0 x1 : Nat} (hy : am_Hy l al) (hA : dm_Al al x0 x1) (X : tm_X) (N : Nat) (a0 : Nat) (S : dm_S) (r : (Nat × dm_S)) (hf : e_T_getVal X N a0 S = some r) : tm_Met l al dC dI aC aV x0 x1 X 36 [.ref a0] S (some (.ref r.1)) r.2 :=
  tm_met (tab := dtT_getVal) (oC := eoC_T_getVal X N) (oD := eoD_T_getVal X N) (ret := dm_rr) (g := r) (by decide) hA dtok_T_getVal am_os0 tm_os0 dm_rr_inv (Nat.le_of_ble_eq_true rfl) (fun At cl wk => by
    skip
    exact cl dm_C0 dm_u0 400 0 _ _ S hf)
theorem es_T_getVal {l : Launch} {al : Nat → Nat} {dC : Nat → ClassId} {dI : Nat → Nat → Nat} {aC : Nat → ClassId} {aV : Nat → Nat} {x0 x1 : Nat} (hy : am_Hy l al) (hA : dm_Al al x0 x1) (X : tm_X) (N : Nat) : tm_CS l al dC dI aC aV x0 x1 X 36 (ec_T_getVal X N) := by
  intro γ as S kk g hc0
  obtain ⟨a0, w0, e_0, hc1⟩ := am_sa_some hc0
  obtain ⟨e_1, hc⟩ := am_st0_some hc1
  subst e_1
  subst e_0
  obtain ⟨q, e1, e2⟩ := dm_bi_some hc
  exact ⟨_, _, em_T_getVal hy hA X N a0 S _ e1, e2⟩

def e_T_asbLen (X : tm_X) (N : Nat) (a0 : Nat) (S : dm_S) : Option (Int32 × dm_S) :=
  bif tm_cs a0 then (none) else bif dm_ok S 6 a0 then bif tm_ri 37 (dm_g S a0 3) then some (dm_g S a0 3, S) else none else none
def ec_T_asbLen (X : tm_X) (N : Nat) : dm_Cl := fun _ as S kk => am_sa as (fun a0 w0 => am_st0 w0 (dm_bi (e_T_asbLen X N a0 S) (fun v S => kk (some (.int v)) S)))
def dtT_asbLen : List (Nat × Instr × Nat) := [(0, .aload_n 0, 1), (1, .getfield 79, 3), (4, .ireturn, 1)]
def eoC_T_asbLen (X : tm_X) (N : Nat) : am_Orc := am_o0
def eoD_T_asbLen (X : tm_X) (N : Nat) : dm_Orc := dm_o0
set_option maxRecDepth 100000 in
theorem dtok_T_asbLen : tm_tok 37 dtT_asbLen := by
  unfold tm_tok
  decide +kernel
set_option maxHeartbeats 4000000 in
set_option maxRecDepth 100000 in
theorem em_T_asbLen {l : Launch} {al : Nat → Nat} {dC : Nat → ClassId} {dI : Nat → Nat → Nat} {aC : Nat → ClassId} {aV : Nat → Nat} {x0 x1 : Nat} (hy : am_Hy l al) (hA : dm_Al al x0 x1) (X : tm_X) (N : Nat) (a0 : Nat) (S : dm_S) (r : (Int32 × dm_S)) (hf : e_T_asbLen X N a0 S = some r) : tm_Met l al dC dI aC aV x0 x1 X 37 [.ref a0] S (some (.int r.1)) r.2 :=
  tm_met (tab := dtT_asbLen) (oC := eoC_T_asbLen X N) (oD := eoD_T_asbLen X N) (ret := dm_ri) (g := r) (by decide) hA dtok_T_asbLen am_os0 tm_os0 dm_ri_inv (Nat.le_of_ble_eq_true rfl) (fun At cl wk => by
    skip
    exact cl dm_C0 dm_u0 400 0 _ _ S hf)
theorem es_T_asbLen {l : Launch} {al : Nat → Nat} {dC : Nat → ClassId} {dI : Nat → Nat → Nat} {aC : Nat → ClassId} {aV : Nat → Nat} {x0 x1 : Nat} (hy : am_Hy l al) (hA : dm_Al al x0 x1) (X : tm_X) (N : Nat) : tm_CS l al dC dI aC aV x0 x1 X 37 (ec_T_asbLen X N) := by
  intro γ as S kk g hc0
  obtain ⟨a0, w0, e_0, hc1⟩ := am_sa_some hc0
  obtain ⟨e_1, hc⟩ := am_st0_some hc1
  subst e_1
  subst e_0
  obtain ⟨q, e1, e2⟩ := dm_bi_some hc
  exact ⟨_, _, em_T_asbLen hy hA X N a0 S _ e1, e2⟩

def e_T_sbLen (X : tm_X) (N : Nat) (a0 : Nat) (S : dm_S) : Option (Int32 × dm_S) :=
  bif dm_ok S 6 a0 then dm_bi (e_T_asbLen X N a0 S) (fun x2 S1 =>
  bif tm_ri 38 x2 then some (x2, S1) else none) else none
def ec_T_sbLen (X : tm_X) (N : Nat) : dm_Cl := fun _ as S kk => am_sa as (fun a0 w0 => am_st0 w0 (dm_bi (e_T_sbLen X N a0 S) (fun v S => kk (some (.int v)) S)))
def dtT_sbLen : List (Nat × Instr × Nat) := [(0, .aload_n 0, 1), (1, .invokespecial 343, 3), (4, .ireturn, 1)]
def eoC_T_sbLen (X : tm_X) (N : Nat) : am_Orc := am_o0
def eoD_T_sbLen (X : tm_X) (N : Nat) : dm_Orc := (dm_oc 37 (ec_T_asbLen X N) dm_o0)
set_option maxRecDepth 100000 in
theorem dtok_T_sbLen : tm_tok 38 dtT_sbLen := by
  unfold tm_tok
  decide +kernel
set_option maxHeartbeats 4000000 in
set_option maxRecDepth 100000 in
theorem em_T_sbLen {l : Launch} {al : Nat → Nat} {dC : Nat → ClassId} {dI : Nat → Nat → Nat} {aC : Nat → ClassId} {aV : Nat → Nat} {x0 x1 : Nat} (hy : am_Hy l al) (hA : dm_Al al x0 x1) (X : tm_X) (N : Nat) (a0 : Nat) (S : dm_S) (r : (Int32 × dm_S)) (hf : e_T_sbLen X N a0 S = some r) : tm_Met l al dC dI aC aV x0 x1 X 38 [.ref a0] S (some (.int r.1)) r.2 :=
  tm_met (tab := dtT_sbLen) (oC := eoC_T_sbLen X N) (oD := eoD_T_sbLen X N) (ret := dm_ri) (g := r) (by decide) hA dtok_T_sbLen am_os0 (tm_os1 (es_T_asbLen hy hA X N) tm_os0) dm_ri_inv (Nat.le_of_ble_eq_true rfl) (fun At cl wk => by
    skip
    exact cl dm_C0 dm_u0 400 0 _ _ S hf)
theorem es_T_sbLen {l : Launch} {al : Nat → Nat} {dC : Nat → ClassId} {dI : Nat → Nat → Nat} {aC : Nat → ClassId} {aV : Nat → Nat} {x0 x1 : Nat} (hy : am_Hy l al) (hA : dm_Al al x0 x1) (X : tm_X) (N : Nat) : tm_CS l al dC dI aC aV x0 x1 X 38 (ec_T_sbLen X N) := by
  intro γ as S kk g hc0
  obtain ⟨a0, w0, e_0, hc1⟩ := am_sa_some hc0
  obtain ⟨e_1, hc⟩ := am_st0_some hc1
  subst e_1
  subst e_0
  obtain ⟨q, e1, e2⟩ := dm_bi_some hc
  exact ⟨_, _, em_T_sbLen hy hA X N a0 S _ e1, e2⟩
