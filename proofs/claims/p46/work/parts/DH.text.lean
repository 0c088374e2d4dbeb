def el_T_text_110 (X : tm_X) (N : Nat) : Nat → Nat → Nat → Int32 → dm_S → Option (Nat × dm_S)
  | 0, _, _, _, _ => none
  | n + 1, a0, a1, i2, S =>
    dm_bi (e_T_users X N a0 S) (fun x2 S1 =>
    (if x2 ≤ i2 then
      bif Nat.blt (dm_n S1 + 2000) dm_bg then (let S3 := dm_nw S1 (6, 12, 4) (fun j => if j = 0 then am_z (-1) else 0) 4
      bif tm_r4 S3 10 [.ref (dm_n S1)] then dm_bi (e_T_SBinit X N (dm_n S1) S3) (fun _ S4 =>
      bif dm_ok S4 6 (dm_n S1) then dm_bi (e_T_SBappS X N (dm_n S1) a1 S4) (fun b6 S5 =>
      bif dm_ok S5 6 b6 then dm_bi (e_T_SBappS X N b6 907 S5) (fun b8 S7 =>
      dm_bi (e_T_setting X N a0 (1 : Int32) S7) (fun x10 S9 =>
      bif dm_ok S9 6 b8 then dm_bi (e_T_SBappI X N b8 x10 S9) (fun b12 S11 =>
      bif dm_ok S11 6 b12 then dm_bi (e_T_SBappS X N b12 904 S11) (fun b14 S13 =>
      bif dm_ok S13 6 b14 then dm_bi (e_T_toStr X N b14 S13) (fun b16 S15 =>
      some (b16, S15)) else none) else none) else none)) else none) else none) else none) else none
    else
      bif Nat.blt (dm_n S1 + 2000) dm_bg then (let S17 := dm_nw S1 (6, 12, 4) (fun j => if j = 0 then am_z (-1) else 0) 4
      bif tm_r4 S17 10 [.ref (dm_n S1)] then dm_bi (e_T_SBinit X N (dm_n S1) S17) (fun _ S18 =>
      bif dm_ok S18 6 (dm_n S1) then dm_bi (e_T_SBappS X N (dm_n S1) a1 S18) (fun b20 S19 =>
      bif dm_ok S19 6 b20 then dm_bi (e_T_SBappS X N b20 906 S19) (fun b22 S21 =>
      dm_bi (e_T_name X N (1 : Int32) i2 S21) (fun b24 S23 =>
      bif dm_ok S23 6 b22 then dm_bi (e_T_SBappS X N b22 b24 S23) (fun b26 S25 =>
      bif dm_ok S25 6 b26 then dm_bi (e_T_SBappS X N b26 900 S25) (fun b28 S27 =>
      dm_bi (e_T_size X N a0 (1 : Int32) i2 (0 : Int32) S27) (fun x30 S29 =>
      bif dm_ok S29 6 b28 then dm_bi (e_T_SBappI X N b28 x30 S29) (fun b32 S31 =>
      bif dm_ok S31 6 b32 then dm_bi (e_T_SBappS X N b32 900 S31) (fun b34 S33 =>
      dm_bi (e_T_size X N a0 (1 : Int32) i2 (1 : Int32) S33) (fun x36 S35 =>
      bif dm_ok S35 6 b34 then dm_bi (e_T_SBappI X N b34 x36 S35) (fun b38 S37 =>
      bif dm_ok S37 6 b38 then dm_bi (e_T_SBappS X N b38 904 S37) (fun b40 S39 =>
      bif dm_ok S39 6 b40 then dm_bi (e_T_toStr X N b40 S39) (fun b42 S41 =>
      el_T_text_110 X N n a0 b42 (i2 + (1 : Int32)) S41) else none) else none) else none)) else none) else none)) else none) else none)) else none) else none) else none) else none))
def el_T_text_31 (X : tm_X) (N : Nat) : Nat → Nat → Nat → Int32 → dm_S → Option (Nat × dm_S)
  | 0, _, _, _, _ => none
  | n + 1, a0, a1, i2, S =>
    dm_bi (e_T_sessions X N a0 S) (fun x2 S1 =>
    (if x2 ≤ i2 then
      el_T_text_110 X N N a0 a1 (0 : Int32) S1
    else
      bif Nat.blt (dm_n S1 + 2000) dm_bg then (let S3 := dm_nw S1 (6, 12, 4) (fun j => if j = 0 then am_z (-1) else 0) 4
      bif tm_r4 S3 10 [.ref (dm_n S1)] then dm_bi (e_T_SBinit X N (dm_n S1) S3) (fun _ S4 =>
      bif dm_ok S4 6 (dm_n S1) then dm_bi (e_T_SBappS X N (dm_n S1) a1 S4) (fun b6 S5 =>
      bif dm_ok S5 6 b6 then dm_bi (e_T_SBappS X N b6 905 S5) (fun b8 S7 =>
      dm_bi (e_T_name X N (0 : Int32) i2 S7) (fun b10 S9 =>
      bif dm_ok S9 6 b8 then dm_bi (e_T_SBappS X N b8 b10 S9) (fun b12 S11 =>
      bif dm_ok S11 6 b12 then dm_bi (e_T_SBappS X N b12 900 S11) (fun b14 S13 =>
      dm_bi (e_T_size X N a0 (0 : Int32) i2 (0 : Int32) S13) (fun x16 S15 =>
      bif dm_ok S15 6 b14 then dm_bi (e_T_SBappI X N b14 x16 S15) (fun b18 S17 =>
      bif dm_ok S17 6 b18 then dm_bi (e_T_SBappS X N b18 900 S17) (fun b20 S19 =>
      dm_bi (e_T_size X N a0 (0 : Int32) i2 (1 : Int32) S19) (fun x22 S21 =>
      bif dm_ok S21 6 b20 then dm_bi (e_T_SBappI X N b20 x22 S21) (fun b24 S23 =>
      bif dm_ok S23 6 b24 then dm_bi (e_T_SBappS X N b24 904 S23) (fun b26 S25 =>
      bif dm_ok S25 6 b26 then dm_bi (e_T_toStr X N b26 S25) (fun b28 S27 =>
      el_T_text_31 X N n a0 b28 (i2 + (1 : Int32)) S27) else none) else none) else none)) else none) else none)) else none) else none)) else none) else none) else none) else none))
def e_T_text (X : tm_X) (N : Nat) (a0 : Nat) (S : dm_S) : Option (Nat × dm_S) :=
  bif Nat.blt (dm_n S + 2000) dm_bg then (let S1 := dm_nw S (6, 12, 4) (fun j => if j = 0 then am_z (-1) else 0) 4
  bif tm_r4 S1 10 [.ref (dm_n S)] then dm_bi (e_T_SBinit X N (dm_n S) S1) (fun _ S2 =>
  bif dm_ok S2 6 (dm_n S) then dm_bi (e_T_SBappS X N (dm_n S) 903 S2) (fun b4 S3 =>
  dm_bi (e_T_setting X N a0 (0 : Int32) S3) (fun x6 S5 =>
  bif dm_ok S5 6 b4 then dm_bi (e_T_SBappI X N b4 x6 S5) (fun b8 S7 =>
  bif dm_ok S7 6 b8 then dm_bi (e_T_SBappS X N b8 904 S7) (fun b10 S9 =>
  bif dm_ok S9 6 b10 then dm_bi (e_T_toStr X N b10 S9) (fun b12 S11 =>
  el_T_text_31 X N N a0 b12 (0 : Int32) S11) else none) else none) else none)) else none) else none) else none
def ec_T_text (X : tm_X) (N : Nat) : dm_Cl := fun _ as S kk => am_sa as (fun a0 w0 => am_st0 w0 (dm_bi (e_T_text X N a0 S) (fun v S => kk (some (.ref v)) S)))
def dtT_text : List (Nat × Instr × Nat) := [(0, .new 14, 3), (3, .dup, 1), (4, .invokespecial 16, 3), (7, .ldc 54, 2), (9, .invokevirtual 17, 3), (12, .aload_n 0, 1), (13, .iconst 0, 1), (14, .invokestatic 56, 3), (17, .invokevirtual 59, 3), (20, .ldc 62, 2), (22, .invokevirtual 17, 3), (25, .invokevirtual 23, 3), (28, .astore_n 1, 1), (29, .iconst 0, 1), (30, .istore_n 2, 1), (31, .iload_n 2, 1), (32, .aload_n 0, 1), (33, .invokestatic 64, 3), (36, .if_icmp .ge 72, 3), (39, .new 14, 3), (42, .dup, 1), (43, .invokespecial 16, 3), (46, .aload_n 1, 1), (47, .invokevirtual 17, 3), (50, .ldc 68, 2), (52, .invokevirtual 17, 3), (55, .iconst 0, 1), (56, .iload_n 2, 1), (57, .invokestatic 70, 3), (60, .invokevirtual 17, 3), (63, .ldc 21, 2), (65, .invokevirtual 17, 3), (68, .aload_n 0, 1), (69, .iconst 0, 1), (70, .iload_n 2, 1), (71, .iconst 0, 1), (72, .invokestatic 74, 3), (75, .invokevirtual 59, 3), (78, .ldc 21, 2), (80, .invokevirtual 17, 3), (83, .aload_n 0, 1), (84, .iconst 0, 1), (85, .iload_n 2, 1), (86, .iconst 1, 1), (87, .invokestatic 74, 3), (90, .invokevirtual 59, 3), (93, .ldc 62, 2), (95, .invokevirtual 17, 3), (98, .invokevirtual 23, 3), (101, .astore_n 1, 1), (102, .iinc 2 1, 3), (105, .goto (-74), 3), (108, .iconst 0, 1), (109, .istore_n 2, 1), (110, .iload_n 2, 1), (111, .aload_n 0, 1), (112, .invokestatic 78, 3), (115, .if_icmp .ge 72, 3), (118, .new 14, 3), (121, .dup, 1), (122, .invokespecial 16, 3), (125, .aload_n 1, 1), (126, .invokevirtual 17, 3), (129, .ldc 81, 2), (131, .invokevirtual 17, 3), (134, .iconst 1, 1), (135, .iload_n 2, 1), (136, .invokestatic 70, 3), (139, .invokevirtual 17, 3), (142, .ldc 21, 2), (144, .invokevirtual 17, 3), (147, .aload_n 0, 1), (148, .iconst 1, 1), (149, .iload_n 2, 1), (150, .iconst 0, 1), (151, .invokestatic 74, 3), (154, .invokevirtual 59, 3), (157, .ldc 21, 2), (159, .invokevirtual 17, 3), (162, .aload_n 0, 1), (163, .iconst 1, 1), (164, .iload_n 2, 1), (165, .iconst 1, 1), (166, .invokestatic 74, 3), (169, .invokevirtual 59, 3), (172, .ldc 62, 2), (174, .invokevirtual 17, 3), (177, .invokevirtual 23, 3), (180, .astore_n 1, 1), (181, .iinc 2 1, 3), (184, .goto (-74), 3), (187, .new 14, 3), (190, .dup, 1), (191, .invokespecial 16, 3), (194, .aload_n 1, 1), (195, .invokevirtual 17, 3), (198, .ldc 83, 2), (200, .invokevirtual 17, 3), (203, .aload_n 0, 1), (204, .iconst 1, 1), (205, .invokestatic 56, 3), (208, .invokevirtual 59, 3), (211, .ldc 62, 2), (213, .invokevirtual 17, 3), (216, .invokevirtual 23, 3), (219, .areturn, 1)]
def eoC_T_text (X : tm_X) (N : Nat) : am_Orc := am_o0
def eoD_T_text (X : tm_X) (N : Nat) : dm_Orc := (dm_oc 10 (ec_T_SBinit X N) (dm_oc 12 (ec_T_SBappS X N) (dm_oc 5 (ec_T_setting X N) (dm_oc 13 (ec_T_SBappI X N) (dm_oc 33 (ec_T_toStr X N) (dm_oc 2 (ec_T_sessions X N) (dm_oc 6 (ec_T_name X N) (dm_oc 4 (ec_T_size X N) (dm_oc 3 (ec_T_users X N) dm_o0)))))))))
set_option maxRecDepth 100000 in
theorem dtok_T_text : tm_tok 7 dtT_text := by
  unfold tm_tok
  decide +kernel
set_option maxHeartbeats 4000000 in
set_option maxRecDepth 100000 in
theorem em_T_text {l : Launch} {al : Nat → Nat} {dC : Nat → ClassId} {dI : Nat → Nat → Nat} {aC : Nat → ClassId} {aV : Nat → Nat} {x0 x1 : Nat} (hy : am_Hy l al) (hA : dm_Al al x0 x1) (X : tm_X) (N : Nat) (a0 : Nat) (S : dm_S) (r : (Nat × dm_S)) (hf : e_T_text X N a0 S = some r) : tm_Met l al dC dI aC aV x0 x1 X 7 [.ref a0] S (some (.ref r.1)) r.2 :=
  tm_met (tab := dtT_text) (oC := eoC_T_text X N) (oD := eoD_T_text X N) (ret := dm_rr) (g := r) (by decide) hA dtok_T_text am_os0 (tm_os1 (es_T_SBinit hy hA X N) (tm_os1 (es_T_SBappS hy hA X N) (tm_os1 (es_T_setting hy hA X N) (tm_os1 (es_T_SBappI hy hA X N) (tm_os1 (es_T_toStr hy hA X N) (tm_os1 (es_T_sessions hy hA X N) (tm_os1 (es_T_name hy hA X N) (tm_os1 (es_T_size hy hA X N) (tm_os1 (es_T_users hy hA X N) tm_os0))))))))) dm_rr_inv (Nat.le_of_ble_eq_true rfl) (fun At cl wk => by
    have A110 : ∀ n : Nat, ∀ a0 : Nat, ∀ a1 : Nat, ∀ i2 : Int32, ∀ h, el_T_text_110 X N n a0 a1 i2 h = some r → At 110 [(0, .ref a0), (1, .ref a1), (2, .int i2)] [] h := by
      intro n
      induction n with
      | zero => intro a0 a1 i2 h hr; cases hr
      | succ n ih =>
        intro a0 a1 i2 h hr
        exact cl (dm_C1 110 (fun ρ st S => am_lda ρ 0 (fun a0 => am_lda ρ 1 (fun a1 => am_ldi ρ 2 (fun i2 => am_st0 st (el_T_text_110 X N n a0 a1 i2 S))))) dm_C0) (dm_u1 (fun ρ st S hc => by
        obtain ⟨a0, m_a0, hc⟩ := am_lda_some hc
        obtain ⟨a1, m_a1, hc⟩ := am_lda_some hc
        obtain ⟨i2, m_i2, hc⟩ := am_ldi_some hc
        obtain ⟨rfl, hc⟩ := am_st0_some hc
        exact wk 110 ρ [(0, .ref a0), (1, .ref a1), (2, .int i2)] _ S (am_m1 m_a0 (am_m1 m_a1 (am_m1 m_i2 am_m0))) (ih a0 a1 i2 S hc)) dm_u0) 400 110 _ _ h hr
    have A31 : ∀ n : Nat, ∀ a0 : Nat, ∀ a1 : Nat, ∀ i2 : Int32, ∀ h, el_T_text_31 X N n a0 a1 i2 h = some r → At 31 [(0, .ref a0), (1, .ref a1), (2, .int i2)] [] h := by
      intro n
      induction n with
      | zero => intro a0 a1 i2 h hr; cases hr
      | succ n ih =>
        intro a0 a1 i2 h hr
        exact cl (dm_C1 31 (fun ρ st S => am_lda ρ 0 (fun a0 => am_lda ρ 1 (fun a1 => am_ldi ρ 2 (fun i2 => am_st0 st (el_T_text_31 X N n a0 a1 i2 S))))) (dm_C1 110 (fun ρ st S => am_lda ρ 0 (fun a0 => am_lda ρ 1 (fun a1 => am_ldi ρ 2 (fun i2 => am_st0 st (el_T_text_110 X N N a0 a1 i2 S))))) dm_C0)) (dm_u1 (fun ρ st S hc => by
        obtain ⟨a0, m_a0, hc⟩ := am_lda_some hc
        obtain ⟨a1, m_a1, hc⟩ := am_lda_some hc
        obtain ⟨i2, m_i2, hc⟩ := am_ldi_some hc
        obtain ⟨rfl, hc⟩ := am_st0_some hc
        exact wk 31 ρ [(0, .ref a0), (1, .ref a1), (2, .int i2)] _ S (am_m1 m_a0 (am_m1 m_a1 (am_m1 m_i2 am_m0))) (ih a0 a1 i2 S hc)) (dm_u1 (fun ρ st S hc => by
        obtain ⟨a0, m_a0, hc⟩ := am_lda_some hc
        obtain ⟨a1, m_a1, hc⟩ := am_lda_some hc
        obtain ⟨i2, m_i2, hc⟩ := am_ldi_some hc
        obtain ⟨rfl, hc⟩ := am_st0_some hc
        exact wk 110 ρ [(0, .ref a0), (1, .ref a1), (2, .int i2)] _ S (am_m1 m_a0 (am_m1 m_a1 (am_m1 m_i2 am_m0))) (A110 N a0 a1 i2 S hc)) dm_u0)) 400 31 _ _ h hr
    exact cl (dm_C1 31 (fun ρ st S => am_lda ρ 0 (fun a0 => am_lda ρ 1 (fun a1 => am_ldi ρ 2 (fun i2 => am_st0 st (el_T_text_31 X N N a0 a1 i2 S))))) dm_C0) (dm_u1 (fun ρ st S hc => by
        obtain ⟨a0, m_a0, hc⟩ := am_lda_some hc
        obtain ⟨a1, m_a1, hc⟩ := am_lda_some hc
        obtain ⟨i2, m_i2, hc⟩ := am_ldi_some hc
        obtain ⟨rfl, hc⟩ := am_st0_some hc
        exact wk 31 ρ [(0, .ref a0), (1, .ref a1), (2, .int i2)] _ S (am_m1 m_a0 (am_m1 m_a1 (am_m1 m_i2 am_m0))) (A31 N a0 a1 i2 S hc)) dm_u0) 400 0 _ _ S hf)
theorem es_T_text {l : Launch} {al : Nat → Nat} {dC : Nat → ClassId} {dI : Nat → Nat → Nat} {aC : Nat → ClassId} {aV : Nat → Nat} {x0 x1 : Nat} (hy : am_Hy l al) (hA : dm_Al al x0 x1) (X : tm_X) (N : Nat) : tm_CS l al dC dI aC aV x0 x1 X 7 (ec_T_text X N) := by
  intro γ as S kk g hc0
  obtain ⟨a0, w0, e_0, hc1⟩ := am_sa_some hc0
  obtain ⟨e_1, hc⟩ := am_st0_some hc1
  subst e_1
  subst e_0
  obtain ⟨q, e1, e2⟩ := dm_bi_some hc
  exact ⟨_, _, em_T_text hy hA X N a0 S _ e1, e2⟩
