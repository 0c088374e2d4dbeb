def e_T_in (X : tm_X) (N : Nat) (i0 : Int32) (i1 : Int32) (S : dm_S) : Option (Int32 × dm_S) :=
  if i1 = 0 then none else bif tm_ri 0 ((i0 &&& (2147483647 : Int32)) - (i0 &&& (2147483647 : Int32)) / i1 * i1) then some ((i0 &&& (2147483647 : Int32)) - (i0 &&& (2147483647 : Int32)) / i1 * i1, S) else none
def ec_T_in (X : tm_X) (N : Nat) : dm_Cl := fun _ as S kk => am_s1 as (fun i0 w0 => am_s1 w0 (fun i1 w1 => am_st0 w1 (dm_bi (e_T_in X N i0 i1 S) (fun v S => kk (some (.int v)) S))))
def dtT_in : List (Nat × Instr × Nat) := [(0, .iload_n 0, 1), (1, .ldc 7, 2), (3, .iand, 1), (4, .iload_n 1, 1), (5, .irem, 1), (6, .ireturn, 1)]
def eoC_T_in (X : tm_X) (N : Nat) : am_Orc := am_o0
def eoD_T_in (X : tm_X) (N : Nat) : dm_Orc := dm_o0
set_option maxRecDepth 100000 in
theorem dtok_T_in : tm_tok 0 dtT_in := by
  unfold tm_tok
  decide +kernel
set_option maxHeartbeats 4000000 in
set_option maxRecDepth 100000 in
theorem em_T_in {l : Launch} {al : Nat → Nat} {dC : Nat → ClassId} {dI : Nat → Nat → Nat} {aC : Nat → ClassId} {aV : Nat → Nat} {x0 x1 : Nat} (hy : am_Hy l al) (hA : dm_Al al x0 x1) (X : tm_X) (N : Nat) (i0 : Int32) (i1 : Int32) (S : dm_S) (r : (Int32 × dm_S)) (hf : e_T_in X N i0 i1 S = some r) : tm_Met l al dC dI aC aV x0 x1 X 0 [.int i0, .int i1] S (some (.int r.1)) r.2 :=
  tm_met (tab := dtT_in) (oC := eoC_T_in X N) (oD := eoD_T_in X N) (ret := dm_ri) (g := r) (by decide) hA dtok_T_in am_os0 tm_os0 dm_ri_inv (Nat.le_of_ble_eq_true rfl) (fun At cl wk => by
    skip
    exact cl dm_C0 dm_u0 400 0 _ _ S hf)
theorem es_T_in {l : Launch} {al : Nat → Nat} {dC : Nat → ClassId} {dI : Nat → Nat → Nat} {aC : Nat → ClassId} {aV : Nat → Nat} {x0 x1 : Nat} (hy : am_Hy l al) (hA : dm_Al al x0 x1) (X : tm_X) (N : Nat) : tm_CS l al dC dI aC aV x0 x1 X 0 (ec_T_in X N) := by
  intro γ as S kk g hc0
  obtain ⟨i0, w0, e_0, hc1⟩ := am_s1_some hc0
  obtain ⟨i1, w1, e_1, hc2⟩ := am_s1_some hc1
  obtain ⟨e_2, hc⟩ := am_st0_some hc2
  subst e_2
  subst e_1
  subst e_0
  obtain ⟨q, e1, e2⟩ := dm_bi_some hc
  exact ⟨_, _, em_T_in hy hA X N i0 i1 S _ e1, e2⟩

def e_T_cell (X : tm_X) (N : Nat) (a0 : Nat) (i1 : Int32) (S : dm_S) : Option (Int32 × dm_S) :=
  (bif tm_cb a0 then (if (Int32.ofNat (tm_sl (a0 - 920))) ≤ i1 then
    bif tm_ri 1 (0 : Int32) then some ((0 : Int32), S) else none
  else
    (bif Nat.beq a0 950 then (bif am_in i1 X.1 then bif tm_ri 1 (X.2 i1.toNatClampNeg) then some (X.2 i1.toNatClampNeg, S) else none else none) else bif dm_ok S 2 a0 && am_in i1 (dm_len S a0) then bif tm_ri 1 (dm_g S a0 i1.toNatClampNeg) then some (dm_g S a0 i1.toNatClampNeg, S) else none else none)) else bif Nat.beq a0 950 then (if (Int32.ofNat X.1) ≤ i1 then
    bif tm_ri 1 (0 : Int32) then some ((0 : Int32), S) else none
  else
    (bif Nat.beq a0 950 then (bif am_in i1 X.1 then bif tm_ri 1 (X.2 i1.toNatClampNeg) then some (X.2 i1.toNatClampNeg, S) else none else none) else bif dm_ok S 2 a0 && am_in i1 (dm_len S a0) then bif tm_ri 1 (dm_g S a0 i1.toNatClampNeg) then some (dm_g S a0 i1.toNatClampNeg, S) else none else none)) else bif dm_ok S 2 a0 || dm_ok S 4 a0 then (if (Int32.ofNat (dm_len S a0)) ≤ i1 then
    bif tm_ri 1 (0 : Int32) then some ((0 : Int32), S) else none
  else
    (bif Nat.beq a0 950 then (bif am_in i1 X.1 then bif tm_ri 1 (X.2 i1.toNatClampNeg) then some (X.2 i1.toNatClampNeg, S) else none else none) else bif dm_ok S 2 a0 && am_in i1 (dm_len S a0) then bif tm_ri 1 (dm_g S a0 i1.toNatClampNeg) then some (dm_g S a0 i1.toNatClampNeg, S) else none else none)) else none)
def ec_T_cell (X : tm_X) (N : Nat) : dm_Cl := fun _ as S kk => am_sa as (fun a0 w0 => am_s1 w0 (fun i1 w1 => am_st0 w1 (dm_bi (e_T_cell X N a0 i1 S) (fun v S => kk (some (.int v)) S))))
def dtT_cell : List (Nat × Instr × Nat) := [(0, .iload_n 1, 1), (1, .aload_n 0, 1), (2, .arraylength, 1), (3, .if_icmp .ge 9, 3), (6, .aload_n 0, 1), (7, .iload_n 1, 1), (8, .iaload, 1), (9, .goto 4, 3), (12, .iconst 0, 1), (13, .ireturn, 1)]
def eoC_T_cell (X : tm_X) (N : Nat) : am_Orc := am_o0
def eoD_T_cell (X : tm_X) (N : Nat) : dm_Orc := dm_o0
set_option maxRecDepth 100000 in
theorem dtok_T_cell : tm_tok 1 dtT_cell := by
  unfold tm_tok
  decide +kernel
set_option maxHeartbeats 4000000 in
set_option maxRecDepth 100000 in
theorem em_T_cell {l : Launch} {al : Nat → Nat} {dC : Nat → ClassId} {dI : Nat → Nat → Nat} {aC : Nat → ClassId} {aV : Nat → Nat} {x0 x1 : Nat} (hy : am_Hy l al) (hA : dm_Al al x0 x1) (X : tm_X) (N : Nat) (a0 : Nat) (i1 : Int32) (S : dm_S) (r : (Int32 × dm_S)) (hf : e_T_cell X N a0 i1 S = some r) : tm_Met l al dC dI aC aV x0 x1 X 1 [.ref a0, .int i1] S (some (.int r.1)) r.2 :=
  tm_met (tab := dtT_cell) (oC := eoC_T_cell X N) (oD := eoD_T_cell X N) (ret := dm_ri) (g := r) (by decide) hA dtok_T_cell am_os0 tm_os0 dm_ri_inv (Nat.le_of_ble_eq_true rfl) (fun At cl wk => by
    skip
    exact cl dm_C0 dm_u0 400 0 _ _ S hf)
theorem es_T_cell {l : Launch} {al : Nat → Nat} {dC : Nat → ClassId} {dI : Nat → Nat → Nat} {aC : Nat → ClassId} {aV : Nat → Nat} {x0 x1 : Nat} (hy : am_Hy l al) (hA : dm_Al al x0 x1) (X : tm_X) (N : Nat) : tm_CS l al dC dI aC aV x0 x1 X 1 (ec_T_cell X N) := by
  intro γ as S kk g hc0
  obtain ⟨a0, w0, e_0, hc1⟩ := am_sa_some hc0
  obtain ⟨i1, w1, e_1, hc2⟩ := am_s1_some hc1
  obtain ⟨e_2, hc⟩ := am_st0_some hc2
  subst e_2
  subst e_1
  subst e_0
  obtain ⟨q, e1, e2⟩ := dm_bi_some hc
  exact ⟨_, _, em_T_cell hy hA X N a0 i1 S _ e1, e2⟩

def e_T_sessions (X : tm_X) (N : Nat) (a0 : Nat) (S : dm_S) : Option (Int32 × dm_S) :=
  dm_bi (e_T_cell X N a0 (0 : Int32) S) (fun x2 S1 =>
  dm_bi (e_T_in X N x2 (3 : Int32) S1) (fun x4 S3 =>
  bif tm_ri 2 ((1 : Int32) + x4) then some ((1 : Int32) + x4, S3) else none))
def ec_T_sessions (X : tm_X) (N : Nat) : dm_Cl := fun _ as S kk => am_sa as (fun a0 w0 => am_st0 w0 (dm_bi (e_T_sessions X N a0 S) (fun v S => kk (some (.int v)) S)))
def dtT_sessions : List (Nat × Instr × Nat) := [(0, .iconst 1, 1), (1, .aload_n 0, 1), (2, .iconst 0, 1), (3, .invokestatic 37, 3), (6, .iconst 3, 1), (7, .invokestatic 43, 3), (10, .iadd, 1), (11, .ireturn, 1)]
def eoC_T_sessions (X : tm_X) (N : Nat) : am_Orc := am_o0
def eoD_T_sessions (X : tm_X) (N : Nat) : dm_Orc := (dm_oc 1 (ec_T_cell X N) (dm_oc 0 (ec_T_in X N) dm_o0))
set_option maxRecDepth 100000 in
theorem dtok_T_sessions : tm_tok 2 dtT_sessions := by
  unfold tm_tok
  decide +kernel
set_option maxHeartbeats 4000000 in
set_option maxRecDepth 100000 in
theorem em_T_sessions {l : Launch} {al : Nat → Nat} {dC : Nat → ClassId} {dI : Nat → Nat → Nat} {aC : Nat → ClassId} {aV : Nat → Nat} {x0 x1 : Nat} (hy : am_Hy l al) (hA : dm_Al al x0 x1) (X : tm_X) (N : Nat) (a0 : Nat) (S : dm_S) (r : (Int32 × dm_S)) (hf : e_T_sessions X N a0 S = some r) : tm_Met l al dC dI aC aV x0 x1 X 2 [.ref a0] S (some (.int r.1)) r.2 :=
  tm_met (tab := dtT_sessions) (oC := eoC_T_sessions X N) (oD := eoD_T_sessions X N) (ret := dm_ri) (g := r) (by decide) hA dtok_T_sessions am_os0 (tm_os1 (es_T_cell hy hA X N) (tm_os1 (es_T_in hy hA X N) tm_os0)) dm_ri_inv (Nat.le_of_ble_eq_true rfl) (fun At cl wk => by
    skip
    exact cl dm_C0 dm_u0 400 0 _ _ S hf)
theorem es_T_sessions {l : Launch} {al : Nat → Nat} {dC : Nat → ClassId} {dI : Nat → Nat → Nat} {aC : Nat → ClassId} {aV : Nat → Nat} {x0 x1 : Nat} (hy : am_Hy l al) (hA : dm_Al al x0 x1) (X : tm_X) (N : Nat) : tm_CS l al dC dI aC aV x0 x1 X 2 (ec_T_sessions X N) := by
  intro γ as S kk g hc0
  obtain ⟨a0, w0, e_0, hc1⟩ := am_sa_some hc0
  obtain ⟨e_1, hc⟩ := am_st0_some hc1
  subst e_1
  subst e_0
  obtain ⟨q, e1, e2⟩ := dm_bi_some hc
  exact ⟨_, _, em_T_sessions hy hA X N a0 S _ e1, e2⟩

def e_T_users (X : tm_X) (N : Nat) (a0 : Nat) (S : dm_S) : Option (Int32 × dm_S) :=
  dm_bi (e_T_cell X N a0 (0 : Int32) S) (fun x2 S1 =>
  if (4 : Int32) = 0 then none else dm_bi (e_T_in X N (x2 / (4 : Int32)) (4 : Int32) S1) (fun x4 S3 =>
  bif tm_ri 3 ((2 : Int32) + x4) then some ((2 : Int32) + x4, S3) else none))
def ec_T_users (X : tm_X) (N : Nat) : dm_Cl := fun _ as S kk => am_sa as (fun a0 w0 => am_st0 w0 (dm_bi (e_T_users X N a0 S) (fun v S => kk (some (.int v)) S)))
def dtT_users : List (Nat × Instr × Nat) := [(0, .iconst 2, 1), (1, .aload_n 0, 1), (2, .iconst 0, 1), (3, .invokestatic 37, 3), (6, .iconst 4, 1), (7, .idiv, 1), (8, .iconst 4, 1), (9, .invokestatic 43, 3), (12, .iadd, 1), (13, .ireturn, 1)]
def eoC_T_users (X : tm_X) (N : Nat) : am_Orc := am_o0
def eoD_T_users (X : tm_X) (N : Nat) : dm_Orc := (dm_oc 1 (ec_T_cell X N) (dm_oc 0 (ec_T_in X N) dm_o0))
set_option maxRecDepth 100000 in
theorem dtok_T_users : tm_tok 3 dtT_users := by
  unfold tm_tok
  decide +kernel
set_option maxHeartbeats 4000000 in
set_option maxRecDepth 100000 in
theorem em_T_users {l : Launch} {al : Nat → Nat} {dC : Nat → ClassId} {dI : Nat → Nat → Nat} {aC : Nat → ClassId} {aV : Nat → Nat} {x0 x1 : Nat} (hy : am_Hy l al) (hA : dm_Al al x0 x1) (X : tm_X) (N : Nat) (a0 : Nat) (S : dm_S) (r : (Int32 × dm_S)) (hf : e_T_users X N a0 S = some r) : tm_Met l al dC dI aC aV x0 x1 X 3 [.ref a0] S (some (.int r.1)) r.2 :=
  tm_met (tab := dtT_users) (oC := eoC_T_users X N) (oD := eoD_T_users X N) (ret := dm_ri) (g := r) (by decide) hA dtok_T_users am_os0 (tm_os1 (es_T_cell hy hA X N) (tm_os1 (es_T_in hy hA X N) tm_os0)) dm_ri_inv (Nat.le_of_ble_eq_true rfl) (fun At cl wk => by
    skip
    exact cl dm_C0 dm_u0 400 0 _ _ S hf)
theorem es_T_users {l : Launch} {al : Nat → Nat} {dC : Nat → ClassId} {dI : Nat → Nat → Nat} {aC : Nat → ClassId} {aV : Nat → Nat} {x0 x1 : Nat} (hy : am_Hy l al) (hA : dm_Al al x0 x1) (X : tm_X) (N : Nat) : tm_CS l al dC dI aC aV x0 x1 X 3 (ec_T_users X N) := by
  intro γ as S kk g hc0
  obtain ⟨a0, w0, e_0, hc1⟩ := am_sa_some hc0
  obtain ⟨e_1, hc⟩ := am_st0_some hc1
  subst e_1
  subst e_0
  obtain ⟨q, e1, e2⟩ := dm_bi_some hc
  exact ⟨_, _, em_T_users hy hA X N a0 S _ e1, e2⟩

def e_T_size (X : tm_X) (N : Nat) (a0 : Nat) (i1 : Int32) (i2 : Int32) (i3 : Int32) (S : dm_S) : Option (Int32 × dm_S) :=
  (if i1 = 0 then
    dm_bi (e_T_cell X N a0 (1 : Int32) S) (fun x2 S1 =>
    (if i3 = 0 then
      dm_bi (e_T_in X N (x2 >>> (((4 : Int32) * i2) &&& 31)) (9 : Int32) S1) (fun x6 S5 =>
      bif tm_ri 4 ((2 : Int32) + x6) then some ((2 : Int32) + x6, S5) else none)
    else
      if (16 : Int32) = 0 then none else dm_bi (e_T_in X N ((x2 >>> (((4 : Int32) * i2) &&& 31)) / (16 : Int32)) (4 : Int32) S1) (fun x4 S3 =>
      bif tm_ri 4 ((1 : Int32) + x4) then some ((1 : Int32) + x4, S3) else none)))
  else
    dm_bi (e_T_cell X N a0 (2 : Int32) S) (fun x8 S7 =>
    (if i3 = 0 then
      dm_bi (e_T_in X N (x8 >>> (((4 : Int32) * i2) &&& 31)) (9 : Int32) S7) (fun x12 S11 =>
      bif tm_ri 4 ((2 : Int32) + x12) then some ((2 : Int32) + x12, S11) else none)
    else
      if (16 : Int32) = 0 then none else dm_bi (e_T_in X N ((x8 >>> (((4 : Int32) * i2) &&& 31)) / (16 : Int32)) (4 : Int32) S7) (fun x10 S9 =>
      bif tm_ri 4 ((1 : Int32) + x10) then some ((1 : Int32) + x10, S9) else none))))
def ec_T_size (X : tm_X) (N : Nat) : dm_Cl := fun _ as S kk => am_sa as (fun a0 w0 => am_s1 w0 (fun i1 w1 => am_s1 w1 (fun i2 w2 => am_s1 w2 (fun i3 w3 => am_st0 w3 (dm_bi (e_T_size X N a0 i1 i2 i3 S) (fun v S => kk (some (.int v)) S))))))
def dtT_size : List (Nat × Instr × Nat) := [(0, .aload_n 0, 1), (1, .iload_n 1, 1), (2, .ifCond .eq 7, 3), (5, .iconst 2, 1), (6, .goto 4, 3), (9, .iconst 1, 1), (10, .invokestatic 37, 3), (13, .iconst 4, 1), (14, .iload_n 2, 1), (15, .imul, 1), (16, .ishr, 1), (17, .istore 4, 2), (19, .iload_n 3, 1), (20, .ifCond .ne 15, 3), (23, .iconst 2, 1), (24, .iload 4, 2), (26, .bipush 9, 2), (28, .invokestatic 43, 3), (31, .iadd, 1), (32, .goto 14, 3), (35, .iconst 1, 1), (36, .iload 4, 2), (38, .bipush 16, 2), (40, .idiv, 1), (41, .iconst 4, 1), (42, .invokestatic 43, 3), (45, .iadd, 1), (46, .ireturn, 1)]
def eoC_T_size (X : tm_X) (N : Nat) : am_Orc := am_o0
def eoD_T_size (X : tm_X) (N : Nat) : dm_Orc := (dm_oc 1 (ec_T_cell X N) (dm_oc 0 (ec_T_in X N) dm_o0))
set_option maxRecDepth 100000 in
theorem dtok_T_size : tm_tok 4 dtT_size := by
  unfold tm_tok
  decide +kernel
set_option maxHeartbeats 4000000 in
set_option maxRecDepth 100000 in
theorem em_T_size {l : Launch} {al : Nat → Nat} {dC : Nat → ClassId} {dI : Nat → Nat → Nat} {aC : Nat → ClassId} {aV : Nat → Nat} {x0 x1 : Nat} (hy : am_Hy l al) (hA : dm_Al al x0 x1) (X : tm_X) (N : Nat) (a0 : Nat) (i1 : Int32) (i2 : Int32) (i3 : Int32) (S : dm_S) (r : (Int32 × dm_S)) (hf : e_T_size X N a0 i1 i2 i3 S = some r) : tm_Met l al dC dI aC aV x0 x1 X 4 [.ref a0, .int i1, .int i2, .int i3] S (some (.int r.1)) r.2 :=
  tm_met (tab := dtT_size) (oC := eoC_T_size X N) (oD := eoD_T_size X N) (ret := dm_ri) (g := r) (by decide) hA dtok_T_size am_os0 (tm_os1 (es_T_cell hy hA X N) (tm_os1 (es_T_in hy hA X N) tm_os0)) dm_ri_inv (Nat.le_of_ble_eq_true rfl) (fun At cl wk => by
    skip
    exact cl dm_C0 dm_u0 400 0 _ _ S hf)
theorem es_T_size {l : Launch} {al : Nat → Nat} {dC : Nat → ClassId} {dI : Nat → Nat → Nat} {aC : Nat → ClassId} {aV : Nat → Nat} {x0 x1 : Nat} (hy : am_Hy l al) (hA : dm_Al al x0 x1) (X : tm_X) (N : Nat) : tm_CS l al dC dI aC aV x0 x1 X 4 (ec_T_size X N) := by
  intro γ as S kk g hc0
  obtain ⟨a0, w0, e_0, hc1⟩ := am_sa_some hc0
  obtain ⟨i1, w1, e_1, hc2⟩ := am_s1_some hc1
  obtain ⟨i2, w2, e_2, hc3⟩ := am_s1_some hc2
  obtain ⟨i3, w3, e_3, hc4⟩ := am_s1_some hc3
  obtain ⟨e_4, hc⟩ := am_st0_some hc4
  subst e_4
  subst e_3
  subst e_2
  subst e_1
  subst e_0
  obtain ⟨q, e1, e2⟩ := dm_bi_some hc
  exact ⟨_, _, em_T_size hy hA X N a0 i1 i2 i3 S _ e1, e2⟩

def e_T_setting (X : tm_X) (N : Nat) (a0 : Nat) (i1 : Int32) (S : dm_S) : Option (Int32 × dm_S) :=
  (if i1 = 0 then
    dm_bi (e_T_cell X N a0 (3 : Int32) S) (fun x6 S5 =>
    dm_bi (e_T_in X N x6 (12 : Int32) S5) (fun x8 S7 =>
    bif tm_ri 5 ((1 : Int32) + x8) then some ((1 : Int32) + x8, S7) else none))
  else
    dm_bi (e_T_cell X N a0 (3 : Int32) S) (fun x2 S1 =>
    if (16 : Int32) = 0 then none else dm_bi (e_T_in X N (x2 / (16 : Int32)) (2 : Int32) S1) (fun x4 S3 =>
    bif tm_ri 5 x4 then some (x4, S3) else none)))
def ec_T_setting (X : tm_X) (N : Nat) : dm_Cl := fun _ as S kk => am_sa as (fun a0 w0 => am_s1 w0 (fun i1 w1 => am_st0 w1 (dm_bi (e_T_setting X N a0 i1 S) (fun v S => kk (some (.int v)) S))))
def dtT_setting : List (Nat × Instr × Nat) := [(0, .iload_n 1, 1), (1, .ifCond .ne 18, 3), (4, .iconst 1, 1), (5, .aload_n 0, 1), (6, .iconst 3, 1), (7, .invokestatic 37, 3), (10, .bipush 12, 2), (12, .invokestatic 43, 3), (15, .iadd, 1), (16, .goto 15, 3), (19, .aload_n 0, 1), (20, .iconst 3, 1), (21, .invokestatic 37, 3), (24, .bipush 16, 2), (26, .idiv, 1), (27, .iconst 2, 1), (28, .invokestatic 43, 3), (31, .ireturn, 1)]
def eoC_T_setting (X : tm_X) (N : Nat) : am_Orc := am_o0
def eoD_T_setting (X : tm_X) (N : Nat) : dm_Orc := (dm_oc 1 (ec_T_cell X N) (dm_oc 0 (ec_T_in X N) dm_o0))
set_option maxRecDepth 100000 in
theorem dtok_T_setting : tm_tok 5 dtT_setting := by
  unfold tm_tok
  decide +kernel
set_option maxHeartbeats 4000000 in
set_option maxRecDepth 100000 in
theorem em_T_setting {l : Launch} {al : Nat → Nat} {dC : Nat → ClassId} {dI : Nat → Nat → Nat} {aC : Nat → ClassId} {aV : Nat → Nat} {x0 x1 : Nat} (hy : am_Hy l al) (hA : dm_Al al x0 x1) (X : tm_X) (N : Nat) (a0 : Nat) (i1 : Int32) (S : dm_S) (r : (Int32 × dm_S)) (hf : e_T_setting X N a0 i1 S = some r) : tm_Met l al dC dI aC aV x0 x1 X 5 [.ref a0, .int i1] S (some (.int r.1)) r.2 :=
  tm_met (tab := dtT_setting) (oC := eoC_T_setting X N) (oD := eoD_T_setting X N) (ret := dm_ri) (g := r) (by decide) hA dtok_T_setting am_os0 (tm_os1 (es_T_cell hy hA X N) (tm_os1 (es_T_in hy hA X N) tm_os0)) dm_ri_inv (Nat.le_of_ble_eq_true rfl) (fun At cl wk => by
    skip
    exact cl dm_C0 dm_u0 400 0 _ _ S hf)
theorem es_T_setting {l : Launch} {al : Nat → Nat} {dC : Nat → ClassId} {dI : Nat → Nat → Nat} {aC : Nat → ClassId} {aV : Nat → Nat} {x0 x1 : Nat} (hy : am_Hy l al) (hA : dm_Al al x0 x1) (X : tm_X) (N : Nat) : tm_CS l al dC dI aC aV x0 x1 X 5 (ec_T_setting X N) := by
  intro γ as S kk g hc0
  obtain ⟨a0, w0, e_0, hc1⟩ := am_sa_some hc0
  obtain ⟨i1, w1, e_1, hc2⟩ := am_s1_some hc1
  obtain ⟨e_2, hc⟩ := am_st0_some hc2
  subst e_2
  subst e_1
  subst e_0
  obtain ⟨q, e1, e2⟩ := dm_bi_some hc
  exact ⟨_, _, em_T_setting hy hA X N a0 i1 S _ e1, e2⟩
