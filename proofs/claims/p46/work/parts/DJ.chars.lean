def e_T_latChar (X : tm_X) (N : Nat) (a0 : Nat) (i1 : Int32) (S : dm_S) : Option (Int32 × dm_S) :=
  (bif tm_cb a0 then dm_bi (e_T_chkIdx X N i1 (Int32.ofNat (tm_sl (a0 - 920))) S) (fun _ S1 =>
  (bif Nat.beq a0 940 || Nat.beq a0 941 then (bif am_in i1 100 then bif tm_ri 44 ((((tm_dg (a0 - 940) i1.toNatClampNeg) &&& ((Int16.ofInt (255)).toInt32)).toUInt32 % 65536).toInt32) then some ((((tm_dg (a0 - 940) i1.toNatClampNeg) &&& ((Int16.ofInt (255)).toInt32)).toUInt32 % 65536).toInt32, S1) else none else none) else bif dm_ok S1 4 a0 && am_in i1 (dm_len S1 a0) then bif tm_ri 44 ((((tm_b (dm_g S1 a0 i1.toNatClampNeg)) &&& ((Int16.ofInt (255)).toInt32)).toUInt32 % 65536).toInt32) then some ((((tm_b (dm_g S1 a0 i1.toNatClampNeg)) &&& ((Int16.ofInt (255)).toInt32)).toUInt32 % 65536).toInt32, S1) else none else none)) else bif Nat.beq a0 950 then dm_bi (e_T_chkIdx X N i1 (Int32.ofNat X.1) S) (fun _ S2 =>
  (bif Nat.beq a0 940 || Nat.beq a0 941 then (bif am_in i1 100 then bif tm_ri 44 ((((tm_dg (a0 - 940) i1.toNatClampNeg) &&& ((Int16.ofInt (255)).toInt32)).toUInt32 % 65536).toInt32) then some ((((tm_dg (a0 - 940) i1.toNatClampNeg) &&& ((Int16.ofInt (255)).toInt32)).toUInt32 % 65536).toInt32, S2) else none else none) else bif dm_ok S2 4 a0 && am_in i1 (dm_len S2 a0) then bif tm_ri 44 ((((tm_b (dm_g S2 a0 i1.toNatClampNeg)) &&& ((Int16.ofInt (255)).toInt32)).toUInt32 % 65536).toInt32) then some ((((tm_b (dm_g S2 a0 i1.toNatClampNeg)) &&& ((Int16.ofInt (255)).toInt32)).toUInt32 % 65536).toInt32, S2) else none else none)) else bif dm_ok S 2 a0 || dm_ok S 4 a0 then dm_bi (e_T_chkIdx X N i1 (Int32.ofNat (dm_len S a0)) S) (fun _ S3 =>
  (bif Nat.beq a0 940 || Nat.beq a0 941 then (bif am_in i1 100 then bif tm_ri 44 ((((tm_dg (a0 - 940) i1.toNatClampNeg) &&& ((Int16.ofInt (255)).toInt32)).toUInt32 % 65536).toInt32) then some ((((tm_dg (a0 - 940) i1.toNatClampNeg) &&& ((Int16.ofInt (255)).toInt32)).toUInt32 % 65536).toInt32, S3) else none else none) else bif dm_ok S3 4 a0 && am_in i1 (dm_len S3 a0) then bif tm_ri 44 ((((tm_b (dm_g S3 a0 i1.toNatClampNeg)) &&& ((Int16.ofInt (255)).toInt32)).toUInt32 % 65536).toInt32) then some ((((tm_b (dm_g S3 a0 i1.toNatClampNeg)) &&& ((Int16.ofInt (255)).toInt32)).toUInt32 % 65536).toInt32, S3) else none else none)) else none)
def ec_T_latChar (X : tm_X) (N : Nat) : dm_Cl := fun _ as S kk => am_sa as (fun a0 w0 => am_s1 w0 (fun i1 w1 => am_st0 w1 (dm_bi (e_T_latChar X N a0 i1 S) (fun v S => kk (some (.int v)) S))))
def dtT_latChar : List (Nat × Instr × Nat) := [(0, .iload_n 1, 1), (1, .aload_n 0, 1), (2, .arraylength, 1), (3, .invokestatic 9, 3), (6, .aload_n 0, 1), (7, .iload_n 1, 1), (8, .baload, 1), (9, .sipush 255, 3), (12, .iand, 1), (13, .i2c, 1), (14, .ireturn, 1)]
def eoC_T_latChar (X : tm_X) (N : Nat) : am_Orc := am_o0
def eoD_T_latChar (X : tm_X) (N : Nat) : dm_Orc := (dm_oc 45 (ec_T_chkIdx X N) dm_o0)
set_option maxRecDepth 100000 in
theorem dtok_T_latChar : tm_tok 44 dtT_latChar := by
  unfold tm_tok
  decide +kernel
set_option maxHeartbeats 4000000 in
set_option maxRecDepth 100000 in
theorem em_T_latChar {l : Launch} {al : Nat → Nat} {dC : Nat → ClassId} {dI : Nat → Nat → Nat} {aC : Nat → ClassId} {aV : Nat → Nat} {x0 x1 : Nat} (hy : am_Hy l al) (hA : dm_Al al x0 x1) (X : tm_X) (N : Nat) (a0 : Nat) (i1 : Int32) (S : dm_S) (r : (Int32 × dm_S)) (hf : e_T_latChar X N a0 i1 S = some r) : tm_Met l al dC dI aC aV x0 x1 X 44 [.ref a0, .int i1] S (some (.int r.1)) r.2 :=
  tm_met (tab := dtT_latChar) (oC := eoC_T_latChar X N) (oD := eoD_T_latChar X N) (ret := dm_ri) (g := r) (by decide) hA dtok_T_latChar am_os0 (tm_os1 (es_T_chkIdx hy hA X N) tm_os0) dm_ri_inv (Nat.le_of_ble_eq_true rfl) (fun At cl wk => by
    skip
    exact cl dm_C0 dm_u0 400 0 _ _ S hf)
theorem es_T_latChar {l : Launch} {al : Nat → Nat} {dC : Nat → ClassId} {dI : Nat → Nat → Nat} {aC : Nat → ClassId} {aV : Nat → Nat} {x0 x1 : Nat} (hy : am_Hy l al) (hA : dm_Al al x0 x1) (X : tm_X) (N : Nat) : tm_CS l al dC dI aC aV x0 x1 X 44 (ec_T_latChar X N) := by
  intro γ as S kk g hc0
  obtain ⟨a0, w0, e_0, hc1⟩ := am_sa_some hc0
  obtain ⟨i1, w1, e_1, hc2⟩ := am_s1_some hc1
  obtain ⟨e_2, hc⟩ := am_st0_some hc2
  subst e_2
  subst e_1
  subst e_0
  obtain ⟨q, e1, e2⟩ := dm_bi_some hc
  exact ⟨_, _, em_T_latChar hy hA X N a0 i1 S _ e1, e2⟩

def e_T_charAt (X : tm_X) (N : Nat) (a0 : Nat) (i1 : Int32) (S : dm_S) : Option (Int32 × dm_S) :=
  bif tm_cs a0 || dm_ok S 5 a0 then dm_bi (e_T_strLat X N a0 S) (fun x2 S1 =>
  (if x2 = 0 then
    bif tm_cs a0 then (none) else bif dm_ok S1 5 a0 then (if dm_g S1 a0 0 < 0 then none else
    none) else none
  else
    bif tm_cs a0 then (dm_bi (e_T_latChar X N (a0 + 20) i1 S1) (fun x6 S5 =>
    bif tm_ri 42 x6 then some (x6, S5) else none)) else bif dm_ok S1 5 a0 then (if dm_g S1 a0 0 < 0 then none else
    dm_bi (e_T_latChar X N ((dm_g S1 a0 0).toNatClampNeg) i1 S1) (fun x4 S3 =>
    bif tm_ri 42 x4 then some (x4, S3) else none)) else none)) else none
def ec_T_charAt (X : tm_X) (N : Nat) : dm_Cl := fun _ as S kk => am_sa as (fun a0 w0 => am_s1 w0 (fun i1 w1 => am_st0 w1 (dm_bi (e_T_charAt X N a0 i1 S) (fun v S => kk (some (.int v)) S))))
def dtT_charAt : List (Nat × Instr × Nat) := [(0, .aload_n 0, 1), (1, .invokevirtual 492, 3), (4, .ifCond .eq 12, 3), (7, .aload_n 0, 1), (8, .getfield 9, 3), (11, .iload_n 1, 1), (12, .invokestatic 495, 3), (15, .ireturn, 1), (16, .aload_n 0, 1), (17, .getfield 9, 3), (20, .iload_n 1, 1), (21, .invokestatic 498, 3)]
def eoC_T_charAt (X : tm_X) (N : Nat) : am_Orc := am_o0
def eoD_T_charAt (X : tm_X) (N : Nat) : dm_Orc := (dm_oc 43 (ec_T_strLat X N) (dm_oc 44 (ec_T_latChar X N) dm_o0))
set_option maxRecDepth 100000 in
theorem dtok_T_charAt : tm_tok 42 dtT_charAt := by
  unfold tm_tok
  decide +kernel
set_option maxHeartbeats 4000000 in
set_option maxRecDepth 100000 in
theorem em_T_charAt {l : Launch} {al : Nat → Nat} {dC : Nat → ClassId} {dI : Nat → Nat → Nat} {aC : Nat → ClassId} {aV : Nat → Nat} {x0 x1 : Nat} (hy : am_Hy l al) (hA : dm_Al al x0 x1) (X : tm_X) (N : Nat) (a0 : Nat) (i1 : Int32) (S : dm_S) (r : (Int32 × dm_S)) (hf : e_T_charAt X N a0 i1 S = some r) : tm_Met l al dC dI aC aV x0 x1 X 42 [.ref a0, .int i1] S (some (.int r.1)) r.2 :=
  tm_met (tab := dtT_charAt) (oC := eoC_T_charAt X N) (oD := eoD_T_charAt X N) (ret := dm_ri) (g := r) (by decide) hA dtok_T_charAt am_os0 (tm_os1 (es_T_strLat hy hA X N) (tm_os1 (es_T_latChar hy hA X N) tm_os0)) dm_ri_inv (Nat.le_of_ble_eq_true rfl) (fun At cl wk => by
    skip
    exact cl dm_C0 dm_u0 400 0 _ _ S hf)
theorem es_T_charAt {l : Launch} {al : Nat → Nat} {dC : Nat → ClassId} {dI : Nat → Nat → Nat} {aC : Nat → ClassId} {aV : Nat → Nat} {x0 x1 : Nat} (hy : am_Hy l al) (hA : dm_Al al x0 x1) (X : tm_X) (N : Nat) : tm_CS l al dC dI aC aV x0 x1 X 42 (ec_T_charAt X N) := by
  intro γ as S kk g hc0
  obtain ⟨a0, w0, e_0, hc1⟩ := am_sa_some hc0
  obtain ⟨i1, w1, e_1, hc2⟩ := am_s1_some hc1
  obtain ⟨e_2, hc⟩ := am_st0_some hc2
  subst e_2
  subst e_1
  subst e_0
  obtain ⟨q, e1, e2⟩ := dm_bi_some hc
  exact ⟨_, _, em_T_charAt hy hA X N a0 i1 S _ e1, e2⟩

def el_T_statements_4 (X : tm_X) (N : Nat) : Nat → Nat → Int32 → Int32 → dm_S → Option (Int32 × dm_S)
  | 0, _, _, _, _ => none
  | n + 1, a0, i1, i2, S =>
    bif tm_cs a0 || dm_ok S 5 a0 then dm_bi (e_T_strLen X N a0 S) (fun x2 S1 =>
    (if x2 ≤ i2 then
      bif tm_ri 8 i1 then some (i1, S1) else none
    else
      bif tm_cs a0 || dm_ok S1 5 a0 then dm_bi (e_T_charAt X N a0 i2 S1) (fun x4 S3 =>
      (if x4 = ((Int8.ofInt (59)).toInt32) then
        el_T_statements_4 X N n a0 (i1 + (1 : Int32)) (i2 + (1 : Int32)) S3
      else
        el_T_statements_4 X N n a0 (i1 + (0 : Int32)) (i2 + (1 : Int32)) S3)) else none)) else none
def e_T_statements (X : tm_X) (N : Nat) (a0 : Nat) (S : dm_S) : Option (Int32 × dm_S) :=
  el_T_statements_4 X N N a0 (0 : Int32) (0 : Int32) S
def ec_T_statements (X : tm_X) (N : Nat) : dm_Cl := fun _ as S kk => am_sa as (fun a0 w0 => am_st0 w0 (dm_bi (e_T_statements X N a0 S) (fun v S => kk (some (.int v)) S)))
def dtT_statements : List (Nat × Instr × Nat) := [(0, .iconst 0, 1), (1, .istore_n 1, 1), (2, .iconst 0, 1), (3, .istore_n 2, 1), (4, .iload_n 2, 1), (5, .aload_n 0, 1), (6, .invokevirtual 8, 3), (9, .if_icmp .ge 27, 3), (12, .iload_n 1, 1), (13, .aload_n 0, 1), (14, .iload_n 2, 1), (15, .invokevirtual 27, 3), (18, .bipush 59, 2), (20, .if_icmp .ne 7, 3), (23, .iconst 1, 1), (24, .goto 4, 3), (27, .iconst 0, 1), (28, .iadd, 1), (29, .istore_n 1, 1), (30, .iinc 2 1, 3), (33, .goto (-29), 3), (36, .iload_n 1, 1), (37, .ireturn, 1)]
def eoC_T_statements (X : tm_X) (N : Nat) : am_Orc := am_o0
def eoD_T_statements (X : tm_X) (N : Nat) : dm_Orc := (dm_oc 27 (ec_T_strLen X N) (dm_oc 42 (ec_T_charAt X N) dm_o0))
set_option maxRecDepth 100000 in
theorem dtok_T_statements : tm_tok 8 dtT_statements := by
  unfold tm_tok
  decide +kernel
set_option maxHeartbeats 4000000 in
set_option maxRecDepth 100000 in
theorem em_T_statements {l : Launch} {al : Nat → Nat} {dC : Nat → ClassId} {dI : Nat → Nat → Nat} {aC : Nat → ClassId} {aV : Nat → Nat} {x0 x1 : Nat} (hy : am_Hy l al) (hA : dm_Al al x0 x1) (X : tm_X) (N : Nat) (a0 : Nat) (S : dm_S) (r : (Int32 × dm_S)) (hf : e_T_statements X N a0 S = some r) : tm_Met l al dC dI aC aV x0 x1 X 8 [.ref a0] S (some (.int r.1)) r.2 :=
  tm_met (tab := dtT_statements) (oC := eoC_T_statements X N) (oD := eoD_T_statements X N) (ret := dm_ri) (g := r) (by decide) hA dtok_T_statements am_os0 (tm_os1 (es_T_strLen hy hA X N) (tm_os1 (es_T_charAt hy hA X N) tm_os0)) dm_ri_inv (Nat.le_of_ble_eq_true rfl) (fun At cl wk => by
    have A4 : ∀ n : Nat, ∀ a0 : Nat, ∀ i1 : Int32, ∀ i2 : Int32, ∀ h, el_T_statements_4 X N n a0 i1 i2 h = some r → At 4 [(0, .ref a0), (1, .int i1), (2, .int i2)] [] h := by
      intro n
      induction n with
      | zero => intro a0 i1 i2 h hr; cases hr
      | succ n ih =>
        intro a0 i1 i2 h hr
        exact cl (dm_C1 4 (fun ρ st S => am_lda ρ 0 (fun a0 => am_ldi ρ 1 (fun i1 => am_ldi ρ 2 (fun i2 => am_st0 st (el_T_statements_4 X N n a0 i1 i2 S))))) dm_C0) (dm_u1 (fun ρ st S hc => by
        obtain ⟨a0, m_a0, hc⟩ := am_lda_some hc
        obtain ⟨i1, m_i1, hc⟩ := am_ldi_some hc
        obtain ⟨i2, m_i2, hc⟩ := am_ldi_some hc
        obtain ⟨rfl, hc⟩ := am_st0_some hc
        exact wk 4 ρ [(0, .ref a0), (1, .int i1), (2, .int i2)] _ S (am_m1 m_a0 (am_m1 m_i1 (am_m1 m_i2 am_m0))) (ih a0 i1 i2 S hc)) dm_u0) 400 4 _ _ h hr
    exact cl (dm_C1 4 (fun ρ st S => am_lda ρ 0 (fun a0 => am_ldi ρ 1 (fun i1 => am_ldi ρ 2 (fun i2 => am_st0 st (el_T_statements_4 X N N a0 i1 i2 S))))) dm_C0) (dm_u1 (fun ρ st S hc => by
        obtain ⟨a0, m_a0, hc⟩ := am_lda_some hc
        obtain ⟨i1, m_i1, hc⟩ := am_ldi_some hc
        obtain ⟨i2, m_i2, hc⟩ := am_ldi_some hc
        obtain ⟨rfl, hc⟩ := am_st0_some hc
        exact wk 4 ρ [(0, .ref a0), (1, .int i1), (2, .int i2)] _ S (am_m1 m_a0 (am_m1 m_i1 (am_m1 m_i2 am_m0))) (A4 N a0 i1 i2 S hc)) dm_u0) 400 0 _ _ S hf)
theorem es_T_statements {l : Launch} {al : Nat → Nat} {dC : Nat → ClassId} {dI : Nat → Nat → Nat} {aC : Nat → ClassId} {aV : Nat → Nat} {x0 x1 : Nat} (hy : am_Hy l al) (hA : dm_Al al x0 x1) (X : tm_X) (N : Nat) : tm_CS l al dC dI aC aV x0 x1 X 8 (ec_T_statements X N) := by
  intro γ as S kk g hc0
  obtain ⟨a0, w0, e_0, hc1⟩ := am_sa_some hc0
  obtain ⟨e_1, hc⟩ := am_st0_some hc1
  subst e_1
  subst e_0
  obtain ⟨q, e1, e2⟩ := dm_bi_some hc
  exact ⟨_, _, em_T_statements hy hA X N a0 S _ e1, e2⟩
