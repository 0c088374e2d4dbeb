def el_L_screen_31 (N : Nat) : Nat → Int32 → Int32 → Nat → Int32 → dm_S → Option (Nat × dm_S)
  | 0, _, _, _, _, _ => none
  | n + 1, i1, i2, a3, i4, S =>
    (if i2 ≤ i4 then
      some (a3, S)
    else
      am_bt (f_X9_event N i1 i4 (0 : Int32) (dm_h S)) (fun _ => none) (fun x3 S2 =>
      let S1 := dm_sh S S2
      (if x3 = 0 then
        am_bt (f_X9_event N i1 i4 (1 : Int32) (dm_h S1)) (fun _ => none) (fun x13 S12 =>
        let S11 := dm_sh S1 S12
        bif dm_ok S11 1 a3 then dm_bi (e_X10_typed N a3 x13 S11) (fun _ S14 =>
        el_L_screen_31 N n i1 i2 a3 (i4 + (1 : Int32)) S14) else none)
      else
        am_bt (f_X9_event N i1 i4 (1 : Int32) (dm_h S1)) (fun _ => none) (fun x6 S5 =>
        let S4 := dm_sh S1 S5
        am_bt (f_X9_event N i1 i4 (2 : Int32) (dm_h S4)) (fun _ => none) (fun x9 S8 =>
        let S7 := dm_sh S4 S8
        bif dm_ok S7 1 a3 then dm_bi (e_X10_sized N a3 x6 x9 S7) (fun _ S10 =>
        el_L_screen_31 N n i1 i2 a3 (i4 + (1 : Int32)) S10) else none)))))
def e_L_screen (N : Nat) (i1 : Int32) (i2 : Int32) (S : dm_S) : Option (Nat × dm_S) :=
  bif Nat.blt (dm_n S + 2000) dm_bg then (let S1 := dm_sc S
  am_bt (f_X9_session N i1 (0 : Int32) (dm_h S1)) (fun _ => none) (fun x4 S3 =>
  let S2 := dm_sh S1 S3
  bif dm_ok S2 1 (dm_n S) then (let S5 := dm_wr S2 (dm_n S) 3 x4
  am_bt (f_X9_session N i1 (1 : Int32) (dm_h S5)) (fun _ => none) (fun x8 S7 =>
  let S6 := dm_sh S5 S7
  bif dm_ok S6 1 (dm_n S) then dm_bi (e_X10_blank N (dm_n S) x8 S6) (fun _ S9 =>
  el_L_screen_31 N N i1 i2 (dm_n S) (0 : Int32) S9) else none)) else none)) else none
def ec_L_screen (N : Nat) : dm_Cl := fun _ as S kk => am_sa as (fun z w0 => bif Nat.beq z 0 then am_s1 w0 (fun i1 w1 => am_s1 w1 (fun i2 w2 => am_st0 w2 (dm_bi (e_L_screen N i1 i2 S) (fun v S => kk (some (.ref v)) S)))) else none)
def dtL_screen : List (Nat × Instr × Nat) := [(0, .new 155, 3), (7, .astore_n 3, 1), (8, .aload_n 3, 1), (9, .aload_n 0, 1), (10, .iload_n 1, 1), (11, .iconst 0, 1), (12, .invokevirtual 108, 3), (15, .putfield 158, 3), (18, .aload_n 3, 1), (19, .aload_n 0, 1), (20, .iload_n 1, 1), (21, .iconst 1, 1), (22, .invokevirtual 108, 3), (25, .invokevirtual 162, 3), (28, .iconst 0, 1), (29, .istore 4, 2), (31, .iload 4, 2), (33, .iload_n 2, 1), (34, .if_icmp .ge 55, 3), (37, .aload_n 0, 1), (38, .iload_n 1, 1), (39, .iload 4, 2), (41, .iconst 0, 1), (42, .invokevirtual 166, 3), (45, .ifCond .ne 18, 3), (48, .aload_n 3, 1), (49, .aload_n 0, 1), (50, .iload_n 1, 1), (51, .iload 4, 2), (53, .iconst 1, 1), (54, .invokevirtual 166, 3), (57, .invokevirtual 169, 3), (60, .goto 23, 3), (63, .aload_n 3, 1), (64, .aload_n 0, 1), (65, .iload_n 1, 1), (66, .iload 4, 2), (68, .iconst 1, 1), (69, .invokevirtual 166, 3), (72, .aload_n 0, 1), (73, .iload_n 1, 1), (74, .iload 4, 2), (76, .iconst 2, 1), (77, .invokevirtual 166, 3), (80, .invokevirtual 172, 3), (83, .iinc 4 1, 3), (86, .goto (-55), 3), (89, .aload_n 3, 1), (90, .areturn, 1)]
def eoC_L_screen (N : Nat) : am_Orc := (am_oc 60 (c_X9_session N) (am_oc 61 (c_X9_event N) am_o0))
def eoD_L_screen (N : Nat) : dm_Orc := (dm_oc 0 (ec_X10_blank N) (dm_oc 4 (ec_X10_typed N) (dm_oc 5 (ec_X10_sized N) dm_o0)))
set_option maxRecDepth 100000 in
theorem dtok_L_screen : dm_tok 6 dtL_screen := by
  unfold dm_tok
  decide +kernel
set_option maxHeartbeats 4000000 in
set_option maxRecDepth 100000 in
theorem em_L_screen {l : Launch} {al : Nat → Nat} {dC : Nat → ClassId} {dI : Nat → Nat → Nat} {aC : Nat → ClassId} {aV : Nat → Nat} {x0 x1 : Nat} (hy : am_Hy l al) (hA : dm_Al al x0 x1) (N : Nat) (i1 : Int32) (i2 : Int32) (S : dm_S) (r : (Nat × dm_S)) (hf : e_L_screen N i1 i2 S = some r) : dm_Met l al dC dI aC aV x0 x1 6 [.ref 0, .int i1, .int i2] S (some (.ref r.1)) r.2 :=
  dm_met (tab := dtL_screen) (oC := eoC_L_screen N) (oD := eoD_L_screen N) (ret := dm_rr) (g := r) (by decide) hA dtok_L_screen (am_os1 (s_X9_session hy N) (am_os1 (s_X9_event hy N) am_os0)) (dm_os1 (es_X10_blank hy hA N) (dm_os1 (es_X10_typed hy hA N) (dm_os1 (es_X10_sized hy hA N) dm_os0))) dm_rr_inv (Nat.le_of_ble_eq_true rfl) (fun At cl wk => by
    have A31 : ∀ n : Nat, ∀ i1 : Int32, ∀ i2 : Int32, ∀ a3 : Nat, ∀ i4 : Int32, ∀ h, el_L_screen_31 N n i1 i2 a3 i4 h = some r → At 31 [(0, .ref 0), (1, .int i1), (2, .int i2), (3, .ref a3), (4, .int i4)] [] h := by
      intro n
      induction n with
      | zero => intro i1 i2 a3 i4 h hr; cases hr
      | succ n ih =>
        intro i1 i2 a3 i4 h hr
        exact cl (dm_C1 31 (fun ρ st S => am_lda ρ 0 (fun z => bif Nat.beq z 0 then am_ldi ρ 1 (fun i1 => am_ldi ρ 2 (fun i2 => am_lda ρ 3 (fun a3 => am_ldi ρ 4 (fun i4 => am_st0 st (el_L_screen_31 N n i1 i2 a3 i4 S))))) else none)) dm_C0) (dm_u1 (fun ρ st S hc => by
        obtain ⟨z, m_a0, hc⟩ := am_lda_some hc
        obtain ⟨hz, hc⟩ := am_bif hc
        cases Nat.eq_of_beq_eq_true hz
        obtain ⟨i1, m_i1, hc⟩ := am_ldi_some hc
        obtain ⟨i2, m_i2, hc⟩ := am_ldi_some hc
        obtain ⟨a3, m_a3, hc⟩ := am_lda_some hc
        obtain ⟨i4, m_i4, hc⟩ := am_ldi_some hc
        obtain ⟨rfl, hc⟩ := am_st0_some hc
        exact wk 31 ρ [(0, .ref 0), (1, .int i1), (2, .int i2), (3, .ref a3), (4, .int i4)] _ S (am_m1 m_a0 (am_m1 m_i1 (am_m1 m_i2 (am_m1 m_a3 (am_m1 m_i4 am_m0))))) (ih i1 i2 a3 i4 S hc)) dm_u0) 400 31 _ _ h hr
    exact cl (dm_C1 31 (fun ρ st S => am_lda ρ 0 (fun z => bif Nat.beq z 0 then am_ldi ρ 1 (fun i1 => am_ldi ρ 2 (fun i2 => am_lda ρ 3 (fun a3 => am_ldi ρ 4 (fun i4 => am_st0 st (el_L_screen_31 N N i1 i2 a3 i4 S))))) else none)) dm_C0) (dm_u1 (fun ρ st S hc => by
        obtain ⟨z, m_a0, hc⟩ := am_lda_some hc
        obtain ⟨hz, hc⟩ := am_bif hc
        cases Nat.eq_of_beq_eq_true hz
        obtain ⟨i1, m_i1, hc⟩ := am_ldi_some hc
        obtain ⟨i2, m_i2, hc⟩ := am_ldi_some hc
        obtain ⟨a3, m_a3, hc⟩ := am_lda_some hc
        obtain ⟨i4, m_i4, hc⟩ := am_ldi_some hc
        obtain ⟨rfl, hc⟩ := am_st0_some hc
        exact wk 31 ρ [(0, .ref 0), (1, .int i1), (2, .int i2), (3, .ref a3), (4, .int i4)] _ S (am_m1 m_a0 (am_m1 m_i1 (am_m1 m_i2 (am_m1 m_a3 (am_m1 m_i4 am_m0))))) (A31 N i1 i2 a3 i4 S hc)) dm_u0) 400 0 _ _ S hf)
theorem es_L_screen {l : Launch} {al : Nat → Nat} {dC : Nat → ClassId} {dI : Nat → Nat → Nat} {aC : Nat → ClassId} {aV : Nat → Nat} {x0 x1 : Nat} (hy : am_Hy l al) (hA : dm_Al al x0 x1) (N : Nat) : dm_CS l al dC dI aC aV x0 x1 6 (ec_L_screen N) := by
  intro γ as S kk g hc0
  obtain ⟨z0, w0, e_0, hcz0⟩ := am_sa_some hc0
  obtain ⟨hz0, hc1⟩ := am_bif hcz0
  cases Nat.eq_of_beq_eq_true hz0
  obtain ⟨i1, w1, e_1, hc2⟩ := am_s1_some hc1
  obtain ⟨i2, w2, e_2, hc3⟩ := am_s1_some hc2
  obtain ⟨e_3, hc⟩ := am_st0_some hc3
  subst e_3
  subst e_2
  subst e_1
  subst e_0
  obtain ⟨q, e1, e2⟩ := dm_bi_some hc
  exact ⟨_, _, em_L_screen hy hA N i1 i2 S _ e1, e2⟩

def el_L_isUnlike_52 (N : Nat) (K22 : Int32 → Int32 → Int32 → Nat → Nat → Int32 → Int32 → dm_S → Option (Int32 × dm_S)) : Nat → Int32 → Int32 → Int32 → Nat → Nat → Int32 → Int32 → Int32 → dm_S → Option (Int32 × dm_S)
  | 0, _, _, _, _, _, _, _, _, _ => none
  | n + 1, i1, i2, i3, a4, a5, i6, i7, i8, S =>
    bif dm_ok S 1 a4 then (if (dm_g S a4 3) ≤ i8 then
      K22 i1 i2 i3 a4 a5 i6 (i7 + (1 : Int32)) S
    else
      bif dm_ok S 1 a5 then (if (dm_g S a5 3) ≤ i8 then
        K22 i1 i2 i3 a4 a5 i6 (i7 + (1 : Int32)) S
      else
        (if 0 ≤ i6 then
          K22 i1 i2 i3 a4 a5 i6 (i7 + (1 : Int32)) S
        else
          bif dm_ok S 1 a4 then (if dm_g S a4 0 < 0 then none else
          bif dm_ok S 3 ((dm_g S a4 0).toNatClampNeg) && am_in i7 (dm_len S ((dm_g S a4 0).toNatClampNeg)) then (if dm_g S ((dm_g S a4 0).toNatClampNeg) i7.toNatClampNeg < 0 then none else
          bif dm_ok S 2 ((dm_g S ((dm_g S a4 0).toNatClampNeg) i7.toNatClampNeg).toNatClampNeg) && am_in i8 (dm_len S ((dm_g S ((dm_g S a4 0).toNatClampNeg) i7.toNatClampNeg).toNatClampNeg)) then bif dm_ok S 1 a5 then (if dm_g S a5 0 < 0 then none else
          bif dm_ok S 3 ((dm_g S a5 0).toNatClampNeg) && am_in i7 (dm_len S ((dm_g S a5 0).toNatClampNeg)) then (if dm_g S ((dm_g S a5 0).toNatClampNeg) i7.toNatClampNeg < 0 then none else
          bif dm_ok S 2 ((dm_g S ((dm_g S a5 0).toNatClampNeg) i7.toNatClampNeg).toNatClampNeg) && am_in i8 (dm_len S ((dm_g S ((dm_g S a5 0).toNatClampNeg) i7.toNatClampNeg).toNatClampNeg)) then (if (dm_g S ((dm_g S ((dm_g S a4 0).toNatClampNeg) i7.toNatClampNeg).toNatClampNeg) i8.toNatClampNeg) = (dm_g S ((dm_g S ((dm_g S a5 0).toNatClampNeg) i7.toNatClampNeg).toNatClampNeg) i8.toNatClampNeg) then
            el_L_isUnlike_52 N K22 n i1 i2 i3 a4 a5 i6 i7 (i8 + (1 : Int32)) S
          else
            el_L_isUnlike_52 N K22 n i1 i2 i3 a4 a5 (((16 : Int32) * i7) + i8) i7 (i8 + (1 : Int32)) S) else none) else none) else none else none) else none) else none)) else none) else none
def el_L_isUnlike_22 (N : Nat) : Nat → Int32 → Int32 → Int32 → Nat → Nat → Int32 → Int32 → dm_S → Option (Int32 × dm_S)
  | 0, _, _, _, _, _, _, _, _ => none
  | n + 1, i1, i2, i3, a4, a5, i6, i7, S =>
    bif dm_ok S 1 a4 then (if dm_g S a4 0 < 0 then none else
    bif dm_ok S 2 ((dm_g S a4 0).toNatClampNeg) || dm_ok S 3 ((dm_g S a4 0).toNatClampNeg) then (if (Int32.ofNat (dm_len S ((dm_g S a4 0).toNatClampNeg))) ≤ i7 then
      am_bt (f_X9_firstDifference N i1 i2 i3 (dm_h S)) (fun _ => none) (fun x3 S2 =>
      let S1 := dm_sh S S2
      (if x3 = i6 then
        if (1 : Int32) &&& 1 = (1 : Int32) then some ((1 : Int32), S1) else none
      else
        if (0 : Int32) &&& 1 = (0 : Int32) then some ((0 : Int32), S1) else none))
    else
      bif dm_ok S 1 a5 then (if dm_g S a5 0 < 0 then none else
      bif dm_ok S 2 ((dm_g S a5 0).toNatClampNeg) || dm_ok S 3 ((dm_g S a5 0).toNatClampNeg) then (if (Int32.ofNat (dm_len S ((dm_g S a5 0).toNatClampNeg))) ≤ i7 then
        am_bt (f_X9_firstDifference N i1 i2 i3 (dm_h S)) (fun _ => none) (fun x6 S5 =>
        let S4 := dm_sh S S5
        (if x6 = i6 then
          if (1 : Int32) &&& 1 = (1 : Int32) then some ((1 : Int32), S4) else none
        else
          if (0 : Int32) &&& 1 = (0 : Int32) then some ((0 : Int32), S4) else none))
      else
        (if 0 ≤ i6 then
          am_bt (f_X9_firstDifference N i1 i2 i3 (dm_h S)) (fun _ => none) (fun x9 S8 =>
          let S7 := dm_sh S S8
          (if x9 = i6 then
            if (1 : Int32) &&& 1 = (1 : Int32) then some ((1 : Int32), S7) else none
          else
            if (0 : Int32) &&& 1 = (0 : Int32) then some ((0 : Int32), S7) else none))
        else
          el_L_isUnlike_52 N (el_L_isUnlike_22 N n) N i1 i2 i3 a4 a5 i6 i7 (0 : Int32) S)) else none) else none) else none) else none
def e_L_isUnlike (N : Nat) (i1 : Int32) (i2 : Int32) (i3 : Int32) (S : dm_S) : Option (Int32 × dm_S) :=
  dm_bi (e_L_screen N i1 i2 S) (fun b2 S1 =>
  dm_bi (e_L_screen N i1 i3 S1) (fun b4 S3 =>
  el_L_isUnlike_22 N N i1 i2 i3 b2 b4 (-1 : Int32) (0 : Int32) S3))
def ec_L_isUnlike (N : Nat) : dm_Cl := fun _ as S kk => am_sa as (fun z w0 => bif Nat.beq z 0 then am_s1 w0 (fun i1 w1 => am_s1 w1 (fun i2 w2 => am_s1 w2 (fun i3 w3 => am_st0 w3 (dm_bi (e_L_isUnlike N i1 i2 i3 S) (fun v S => kk (some (.int v)) S))))) else none)
def dtL_isUnlike : List (Nat × Instr × Nat) := [(0, .aload_n 0, 1), (1, .iload_n 1, 1), (2, .iload_n 2, 1), (3, .invokestatic 176, 3), (6, .astore 4, 2), (8, .aload_n 0, 1), (9, .iload_n 1, 1), (10, .iload_n 3, 1), (11, .invokestatic 176, 3), (14, .astore 5, 2), (16, .iconst (-1), 1), (17, .istore 6, 2), (19, .iconst 0, 1), (20, .istore 7, 2), (22, .iload 7, 2), (24, .aload 4, 2), (26, .getfield 182, 3), (29, .arraylength, 1), (30, .if_icmp .ge 94, 3), (33, .iload 7, 2), (35, .aload 5, 2), (37, .getfield 182, 3), (40, .arraylength, 1), (41, .if_icmp .ge 83, 3), (44, .iload 6, 2), (46, .ifCond .ge 78, 3), (49, .iconst 0, 1), (50, .istore 8, 2), (52, .iload 8, 2), (54, .aload 4, 2), (56, .getfield 158, 3), (59, .if_icmp .ge 59, 3), (62, .iload 8, 2), (64, .aload 5, 2), (66, .getfield 158, 3), (69, .if_icmp .ge 49, 3), (72, .iload 6, 2), (74, .ifCond .ge 44, 3), (77, .aload 4, 2), (79, .getfield 182, 3), (82, .iload 7, 2), (84, .aaload, 1), (85, .iload 8, 2), (87, .iaload, 1), (88, .aload 5, 2), (90, .getfield 182, 3), (93, .iload 7, 2), (95, .aaload, 1), (96, .iload 8, 2), (98, .iaload, 1), (99, .if_icmp .eq 13, 3), (102, .bipush 16, 2), (104, .iload 7, 2), (106, .imul, 1), (107, .iload 8, 2), (109, .iadd, 1), (110, .istore 6, 2), (112, .iinc 8 1, 3), (115, .goto (-63), 3), (118, .iinc 7 1, 3), (121, .goto (-99), 3), (124, .aload_n 0, 1), (125, .iload_n 1, 1), (126, .iload_n 2, 1), (127, .iload_n 3, 1), (128, .invokevirtual 226, 3), (131, .iload 6, 2), (133, .if_icmp .ne 7, 3), (136, .iconst 1, 1), (137, .goto 4, 3), (140, .iconst 0, 1), (141, .ireturn, 1)]
def eoC_L_isUnlike (N : Nat) : am_Orc := (am_oc 68 (c_X9_firstDifference N) am_o0)
def eoD_L_isUnlike (N : Nat) : dm_Orc := (dm_oc 6 (ec_L_screen N) dm_o0)
set_option maxRecDepth 100000 in
theorem dtok_L_isUnlike : dm_tok 9 dtL_isUnlike := by
  unfold dm_tok
  decide +kernel
set_option maxHeartbeats 4000000 in
set_option maxRecDepth 100000 in
theorem em_L_isUnlike {l : Launch} {al : Nat → Nat} {dC : Nat → ClassId} {dI : Nat → Nat → Nat} {aC : Nat → ClassId} {aV : Nat → Nat} {x0 x1 : Nat} (hy : am_Hy l al) (hA : dm_Al al x0 x1) (N : Nat) (i1 : Int32) (i2 : Int32) (i3 : Int32) (S : dm_S) (r : (Int32 × dm_S)) (hf : e_L_isUnlike N i1 i2 i3 S = some r) : dm_Met l al dC dI aC aV x0 x1 9 [.ref 0, .int i1, .int i2, .int i3] S (some (.int r.1)) r.2 :=
  dm_met (tab := dtL_isUnlike) (oC := eoC_L_isUnlike N) (oD := eoD_L_isUnlike N) (ret := dm_ri) (g := r) (by decide) hA dtok_L_isUnlike (am_os1 (s_X9_firstDifference hy N) am_os0) (dm_os1 (es_L_screen hy hA N) dm_os0) dm_ri_inv (Nat.le_of_ble_eq_true rfl) (fun At cl wk => by
    have A52 : ∀ (K22 : Int32 → Int32 → Int32 → Nat → Nat → Int32 → Int32 → dm_S → Option (Int32 × dm_S)), (∀ i1 : Int32, ∀ i2 : Int32, ∀ i3 : Int32, ∀ a4 : Nat, ∀ a5 : Nat, ∀ i6 : Int32, ∀ i7 : Int32, ∀ h, K22 i1 i2 i3 a4 a5 i6 i7 h = some r → At 22 [(0, .ref 0), (1, .int i1), (2, .int i2), (3, .int i3), (4, .ref a4), (5, .ref a5), (6, .int i6), (7, .int i7)] [] h) → ∀ n : Nat, ∀ i1 : Int32, ∀ i2 : Int32, ∀ i3 : Int32, ∀ a4 : Nat, ∀ a5 : Nat, ∀ i6 : Int32, ∀ i7 : Int32, ∀ i8 : Int32, ∀ h, el_L_isUnlike_52 N K22 n i1 i2 i3 a4 a5 i6 i7 i8 h = some r → At 52 [(0, .ref 0), (1, .int i1), (2, .int i2), (3, .int i3), (4, .ref a4), (5, .ref a5), (6, .int i6), (7, .int i7), (8, .int i8)] [] h := by
      intro K22 hK22 n
      induction n with
      | zero => intro i1 i2 i3 a4 a5 i6 i7 i8 h hr; cases hr
      | succ n ih =>
        intro i1 i2 i3 a4 a5 i6 i7 i8 h hr
        exact cl (dm_C1 22 (fun ρ st S => am_lda ρ 0 (fun z => bif Nat.beq z 0 then am_ldi ρ 1 (fun i1 => am_ldi ρ 2 (fun i2 => am_ldi ρ 3 (fun i3 => am_lda ρ 4 (fun a4 => am_lda ρ 5 (fun a5 => am_ldi ρ 6 (fun i6 => am_ldi ρ 7 (fun i7 => am_st0 st (K22 i1 i2 i3 a4 a5 i6 i7 S)))))))) else none)) (dm_C1 52 (fun ρ st S => am_lda ρ 0 (fun z => bif Nat.beq z 0 then am_ldi ρ 1 (fun i1 => am_ldi ρ 2 (fun i2 => am_ldi ρ 3 (fun i3 => am_lda ρ 4 (fun a4 => am_lda ρ 5 (fun a5 => am_ldi ρ 6 (fun i6 => am_ldi ρ 7 (fun i7 => am_ldi ρ 8 (fun i8 => am_st0 st (el_L_isUnlike_52 N K22 n i1 i2 i3 a4 a5 i6 i7 i8 S))))))))) else none)) dm_C0)) (dm_u1 (fun ρ st S hc => by
        obtain ⟨z, m_a0, hc⟩ := am_lda_some hc
        obtain ⟨hz, hc⟩ := am_bif hc
        cases Nat.eq_of_beq_eq_true hz
        obtain ⟨i1, m_i1, hc⟩ := am_ldi_some hc
        obtain ⟨i2, m_i2, hc⟩ := am_ldi_some hc
        obtain ⟨i3, m_i3, hc⟩ := am_ldi_some hc
        obtain ⟨a4, m_a4, hc⟩ := am_lda_some hc
        obtain ⟨a5, m_a5, hc⟩ := am_lda_some hc
        obtain ⟨i6, m_i6, hc⟩ := am_ldi_some hc
        obtain ⟨i7, m_i7, hc⟩ := am_ldi_some hc
        obtain ⟨rfl, hc⟩ := am_st0_some hc
        exact wk 22 ρ [(0, .ref 0), (1, .int i1), (2, .int i2), (3, .int i3), (4, .ref a4), (5, .ref a5), (6, .int i6), (7, .int i7)] _ S (am_m1 m_a0 (am_m1 m_i1 (am_m1 m_i2 (am_m1 m_i3 (am_m1 m_a4 (am_m1 m_a5 (am_m1 m_i6 (am_m1 m_i7 am_m0)))))))) (hK22 i1 i2 i3 a4 a5 i6 i7 S hc)) (dm_u1 (fun ρ st S hc => by
        obtain ⟨z, m_a0, hc⟩ := am_lda_some hc
        obtain ⟨hz, hc⟩ := am_bif hc
        cases Nat.eq_of_beq_eq_true hz
        obtain ⟨i1, m_i1, hc⟩ := am_ldi_some hc
        obtain ⟨i2, m_i2, hc⟩ := am_ldi_some hc
        obtain ⟨i3, m_i3, hc⟩ := am_ldi_some hc
        obtain ⟨a4, m_a4, hc⟩ := am_lda_some hc
        obtain ⟨a5, m_a5, hc⟩ := am_lda_some hc
        obtain ⟨i6, m_i6, hc⟩ := am_ldi_some hc
        obtain ⟨i7, m_i7, hc⟩ := am_ldi_some hc
        obtain ⟨i8, m_i8, hc⟩ := am_ldi_some hc
        obtain ⟨rfl, hc⟩ := am_st0_some hc
        exact wk 52 ρ [(0, .ref 0), (1, .int i1), (2, .int i2), (3, .int i3), (4, .ref a4), (5, .ref a5), (6, .int i6), (7, .int i7), (8, .int i8)] _ S (am_m1 m_a0 (am_m1 m_i1 (am_m1 m_i2 (am_m1 m_i3 (am_m1 m_a4 (am_m1 m_a5 (am_m1 m_i6 (am_m1 m_i7 (am_m1 m_i8 am_m0))))))))) (ih i1 i2 i3 a4 a5 i6 i7 i8 S hc)) dm_u0)) 400 52 _ _ h hr
    have A22 : ∀ n : Nat, ∀ i1 : Int32, ∀ i2 : Int32, ∀ i3 : Int32, ∀ a4 : Nat, ∀ a5 : Nat, ∀ i6 : Int32, ∀ i7 : Int32, ∀ h, el_L_isUnlike_22 N n i1 i2 i3 a4 a5 i6 i7 h = some r → At 22 [(0, .ref 0), (1, .int i1), (2, .int i2), (3, .int i3), (4, .ref a4), (5, .ref a5), (6, .int i6), (7, .int i7)] [] h := by
      intro n
      induction n with
      | zero => intro i1 i2 i3 a4 a5 i6 i7 h hr; cases hr
      | succ n ih =>
        intro i1 i2 i3 a4 a5 i6 i7 h hr
        exact cl (dm_C1 52 (fun ρ st S => am_lda ρ 0 (fun z => bif Nat.beq z 0 then am_ldi ρ 1 (fun i1 => am_ldi ρ 2 (fun i2 => am_ldi ρ 3 (fun i3 => am_lda ρ 4 (fun a4 => am_lda ρ 5 (fun a5 => am_ldi ρ 6 (fun i6 => am_ldi ρ 7 (fun i7 => am_ldi ρ 8 (fun i8 => am_st0 st (el_L_isUnlike_52 N (el_L_isUnlike_22 N n) N i1 i2 i3 a4 a5 i6 i7 i8 S))))))))) else none)) dm_C0) (dm_u1 (fun ρ st S hc => by
        obtain ⟨z, m_a0, hc⟩ := am_lda_some hc
        obtain ⟨hz, hc⟩ := am_bif hc
        cases Nat.eq_of_beq_eq_true hz
        obtain ⟨i1, m_i1, hc⟩ := am_ldi_some hc
        obtain ⟨i2, m_i2, hc⟩ := am_ldi_some hc
        obtain ⟨i3, m_i3, hc⟩ := am_ldi_some hc
        obtain ⟨a4, m_a4, hc⟩ := am_lda_some hc
        obtain ⟨a5, m_a5, hc⟩ := am_lda_some hc
        obtain ⟨i6, m_i6, hc⟩ := am_ldi_some hc
        obtain ⟨i7, m_i7, hc⟩ := am_ldi_some hc
        obtain ⟨i8, m_i8, hc⟩ := am_ldi_some hc
        obtain ⟨rfl, hc⟩ := am_st0_some hc
        exact wk 52 ρ [(0, .ref 0), (1, .int i1), (2, .int i2), (3, .int i3), (4, .ref a4), (5, .ref a5), (6, .int i6), (7, .int i7), (8, .int i8)] _ S (am_m1 m_a0 (am_m1 m_i1 (am_m1 m_i2 (am_m1 m_i3 (am_m1 m_a4 (am_m1 m_a5 (am_m1 m_i6 (am_m1 m_i7 (am_m1 m_i8 am_m0))))))))) (A52 (el_L_isUnlike_22 N n) ih N i1 i2 i3 a4 a5 i6 i7 i8 S hc)) dm_u0) 400 22 _ _ h hr
    exact cl (dm_C1 22 (fun ρ st S => am_lda ρ 0 (fun z => bif Nat.beq z 0 then am_ldi ρ 1 (fun i1 => am_ldi ρ 2 (fun i2 => am_ldi ρ 3 (fun i3 => am_lda ρ 4 (fun a4 => am_lda ρ 5 (fun a5 => am_ldi ρ 6 (fun i6 => am_ldi ρ 7 (fun i7 => am_st0 st (el_L_isUnlike_22 N N i1 i2 i3 a4 a5 i6 i7 S)))))))) else none)) dm_C0) (dm_u1 (fun ρ st S hc => by
        obtain ⟨z, m_a0, hc⟩ := am_lda_some hc
        obtain ⟨hz, hc⟩ := am_bif hc
        cases Nat.eq_of_beq_eq_true hz
        obtain ⟨i1, m_i1, hc⟩ := am_ldi_some hc
        obtain ⟨i2, m_i2, hc⟩ := am_ldi_some hc
        obtain ⟨i3, m_i3, hc⟩ := am_ldi_some hc
        obtain ⟨a4, m_a4, hc⟩ := am_lda_some hc
        obtain ⟨a5, m_a5, hc⟩ := am_lda_some hc
        obtain ⟨i6, m_i6, hc⟩ := am_ldi_some hc
        obtain ⟨i7, m_i7, hc⟩ := am_ldi_some hc
        obtain ⟨rfl, hc⟩ := am_st0_some hc
        exact wk 22 ρ [(0, .ref 0), (1, .int i1), (2, .int i2), (3, .int i3), (4, .ref a4), (5, .ref a5), (6, .int i6), (7, .int i7)] _ S (am_m1 m_a0 (am_m1 m_i1 (am_m1 m_i2 (am_m1 m_i3 (am_m1 m_a4 (am_m1 m_a5 (am_m1 m_i6 (am_m1 m_i7 am_m0)))))))) (A22 N i1 i2 i3 a4 a5 i6 i7 S hc)) dm_u0) 400 0 _ _ S hf)
theorem es_L_isUnlike {l : Launch} {al : Nat → Nat} {dC : Nat → ClassId} {dI : Nat → Nat → Nat} {aC : Nat → ClassId} {aV : Nat → Nat} {x0 x1 : Nat} (hy : am_Hy l al) (hA : dm_Al al x0 x1) (N : Nat) : dm_CS l al dC dI aC aV x0 x1 9 (ec_L_isUnlike N) := by
  intro γ as S kk g hc0
  obtain ⟨z0, w0, e_0, hcz0⟩ := am_sa_some hc0
  obtain ⟨hz0, hc1⟩ := am_bif hcz0
  cases Nat.eq_of_beq_eq_true hz0
  obtain ⟨i1, w1, e_1, hc2⟩ := am_s1_some hc1
  obtain ⟨i2, w2, e_2, hc3⟩ := am_s1_some hc2
  obtain ⟨i3, w3, e_3, hc4⟩ := am_s1_some hc3
  obtain ⟨e_4, hc⟩ := am_st0_some hc4
  subst e_4
  subst e_3
  subst e_2
  subst e_1
  subst e_0
  obtain ⟨q, e1, e2⟩ := dm_bi_some hc
  exact ⟨_, _, em_L_isUnlike hy hA N i1 i2 i3 S _ e1, e2⟩
