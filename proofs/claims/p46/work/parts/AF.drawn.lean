def el_L_isDrawn_111 (N : Nat) (K98 : Int32 → Int32 → Nat → Int32 → Int32 → dm_S → Option (Int32 × dm_S)) : Nat → Int32 → Int32 → Nat → Int32 → Int32 → Int32 → dm_S → Option (Int32 × dm_S)
  | 0, _, _, _, _, _, _, _ => none
  | n + 1, i1, i2, a3, i4, i5, i6, S =>
    bif dm_ok S 1 a3 then (if (dm_g S a3 3) ≤ i6 then
      bif dm_ok S 1 a3 then am_bt (f_X9_at N i1 i2 i5 (dm_g S a3 3) (dm_h S)) (fun _ => none) (fun x3 S2 =>
      let S1 := dm_sh S S2
      (if x3 = (-1 : Int32) then
        K98 i1 i2 a3 i4 (i5 + (1 : Int32)) S1
      else
        if (0 : Int32) &&& 1 = (0 : Int32) then some ((0 : Int32), S1) else none)) else none
    else
      am_bt (f_X9_at N i1 i2 i5 i6 (dm_h S)) (fun _ => none) (fun x6 S5 =>
      let S4 := dm_sh S S5
      bif dm_ok S4 1 a3 then (if dm_g S4 a3 0 < 0 then none else
      bif dm_ok S4 3 ((dm_g S4 a3 0).toNatClampNeg) && am_in i5 (dm_len S4 ((dm_g S4 a3 0).toNatClampNeg)) then (if dm_g S4 ((dm_g S4 a3 0).toNatClampNeg) i5.toNatClampNeg < 0 then none else
      bif dm_ok S4 2 ((dm_g S4 ((dm_g S4 a3 0).toNatClampNeg) i5.toNatClampNeg).toNatClampNeg) && am_in i6 (dm_len S4 ((dm_g S4 ((dm_g S4 a3 0).toNatClampNeg) i5.toNatClampNeg).toNatClampNeg)) then (if x6 = (dm_g S4 ((dm_g S4 ((dm_g S4 a3 0).toNatClampNeg) i5.toNatClampNeg).toNatClampNeg) i6.toNatClampNeg) then
        bif dm_ok S4 1 a3 then (if dm_g S4 a3 0 < 0 then none else
        bif dm_ok S4 3 ((dm_g S4 a3 0).toNatClampNeg) && am_in i5 (dm_len S4 ((dm_g S4 a3 0).toNatClampNeg)) then (if dm_g S4 ((dm_g S4 a3 0).toNatClampNeg) i5.toNatClampNeg < 0 then none else
        bif dm_ok S4 2 ((dm_g S4 ((dm_g S4 a3 0).toNatClampNeg) i5.toNatClampNeg).toNatClampNeg) && am_in i6 (dm_len S4 ((dm_g S4 ((dm_g S4 a3 0).toNatClampNeg) i5.toNatClampNeg).toNatClampNeg)) then (if (dm_g S4 ((dm_g S4 ((dm_g S4 a3 0).toNatClampNeg) i5.toNatClampNeg).toNatClampNeg) i6.toNatClampNeg) = (27 : Int32) then
          el_L_isDrawn_111 N K98 n i1 i2 a3 (i4 + (0 : Int32)) i5 (i6 + (1 : Int32)) S4
        else
          el_L_isDrawn_111 N K98 n i1 i2 a3 (i4 + (1 : Int32)) i5 (i6 + (1 : Int32)) S4) else none) else none) else none
      else
        if (0 : Int32) &&& 1 = (0 : Int32) then some ((0 : Int32), S4) else none) else none) else none) else none)) else none
def el_L_isDrawn_215 (N : Nat) (K203 : Int32 → Int32 → Nat → Int32 → Int32 → dm_S → Option (Int32 × dm_S)) : Nat → Int32 → Int32 → Nat → Int32 → Int32 → Int32 → dm_S → Option (Int32 × dm_S)
  | 0, _, _, _, _, _, _, _ => none
  | n + 1, i1, i2, a3, i4, i5, i6, S =>
    (if (16 : Int32) ≤ i6 then
      K203 i1 i2 a3 i4 (i5 + (1 : Int32)) S
    else
      am_bt (f_X9_above N i1 i2 i5 i6 (dm_h S)) (fun _ => none) (fun x3 S2 =>
      let S1 := dm_sh S S2
      bif dm_ok S1 1 a3 then (if dm_g S1 a3 4 < 0 then none else
      bif dm_ok S1 3 ((dm_g S1 a3 4).toNatClampNeg) && am_in i5 (dm_len S1 ((dm_g S1 a3 4).toNatClampNeg)) then (if dm_g S1 ((dm_g S1 a3 4).toNatClampNeg) i5.toNatClampNeg < 0 then none else
      bif dm_ok S1 2 ((dm_g S1 ((dm_g S1 a3 4).toNatClampNeg) i5.toNatClampNeg).toNatClampNeg) || dm_ok S1 3 ((dm_g S1 ((dm_g S1 a3 4).toNatClampNeg) i5.toNatClampNeg).toNatClampNeg) then (if (Int32.ofNat (dm_len S1 ((dm_g S1 ((dm_g S1 a3 4).toNatClampNeg) i5.toNatClampNeg).toNatClampNeg))) ≤ i6 then
        (if x3 = (27 : Int32) then
          el_L_isDrawn_215 N K203 n i1 i2 a3 i4 i5 (i6 + (1 : Int32)) S1
        else
          if (0 : Int32) &&& 1 = (0 : Int32) then some ((0 : Int32), S1) else none)
      else
        bif dm_ok S1 1 a3 then (if dm_g S1 a3 4 < 0 then none else
        bif dm_ok S1 3 ((dm_g S1 a3 4).toNatClampNeg) && am_in i5 (dm_len S1 ((dm_g S1 a3 4).toNatClampNeg)) then (if dm_g S1 ((dm_g S1 a3 4).toNatClampNeg) i5.toNatClampNeg < 0 then none else
        bif dm_ok S1 2 ((dm_g S1 ((dm_g S1 a3 4).toNatClampNeg) i5.toNatClampNeg).toNatClampNeg) && am_in i6 (dm_len S1 ((dm_g S1 ((dm_g S1 a3 4).toNatClampNeg) i5.toNatClampNeg).toNatClampNeg)) then (if x3 = (dm_g S1 ((dm_g S1 ((dm_g S1 a3 4).toNatClampNeg) i5.toNatClampNeg).toNatClampNeg) i6.toNatClampNeg) then
          el_L_isDrawn_215 N K203 n i1 i2 a3 i4 i5 (i6 + (1 : Int32)) S1
        else
          if (0 : Int32) &&& 1 = (0 : Int32) then some ((0 : Int32), S1) else none) else none) else none) else none) else none) else none) else none))
def el_L_isDrawn_203 (N : Nat) : Nat → Int32 → Int32 → Nat → Int32 → Int32 → dm_S → Option (Int32 × dm_S)
  | 0, _, _, _, _, _, _ => none
  | n + 1, i1, i2, a3, i4, i5, S =>
    bif dm_ok S 1 a3 then (if (dm_g S a3 5) ≤ i5 then
      bif dm_ok S 1 a3 then (if dm_g S a3 0 < 0 then none else
      bif dm_ok S 2 ((dm_g S a3 0).toNatClampNeg) || dm_ok S 3 ((dm_g S a3 0).toNatClampNeg) then am_bt (f_X9_at N i1 i2 (Int32.ofNat (dm_len S ((dm_g S a3 0).toNatClampNeg))) (0 : Int32) (dm_h S)) (fun _ => none) (fun x3 S2 =>
      let S1 := dm_sh S S2
      (if x3 = (-1 : Int32) then
        bif dm_ok S1 1 a3 then am_bt (f_X9_above N i1 i2 (dm_g S1 a3 5) (0 : Int32) (dm_h S1)) (fun _ => none) (fun x6 S5 =>
        let S4 := dm_sh S1 S5
        (if x6 = (-1 : Int32) then
          am_bt (f_X9_fullness N i1 i2 (dm_h S4)) (fun _ => none) (fun y9 S8 =>
          let S7 := dm_sh S4 S8
          bif dm_ok S7 1 a3 then bif dm_ok S7 1 a3 then (if dm_g S7 a3 0 < 0 then none else
          bif dm_ok S7 2 ((dm_g S7 a3 0).toNatClampNeg) || dm_ok S7 3 ((dm_g S7 a3 0).toNatClampNeg) then if FP.fdiv (FP.i2f i4) (FP.i2f ((dm_g S7 a3 3) * (Int32.ofNat (dm_len S7 ((dm_g S7 a3 0).toNatClampNeg))))) &&& 0x7fffffff ≤ 0x7f800000 then (if (Op.cmpValue (FP.fcmp y9 (FP.fdiv (FP.i2f i4) (FP.i2f ((dm_g S7 a3 3) * (Int32.ofNat (dm_len S7 ((dm_g S7 a3 0).toNatClampNeg))))))) .l) = 0 then
            if (1 : Int32) &&& 1 = (1 : Int32) then some ((1 : Int32), S7) else none
          else
            if (0 : Int32) &&& 1 = (0 : Int32) then some ((0 : Int32), S7) else none) else none else none) else none else none)
        else
          if (0 : Int32) &&& 1 = (0 : Int32) then some ((0 : Int32), S4) else none)) else none
      else
        if (0 : Int32) &&& 1 = (0 : Int32) then some ((0 : Int32), S1) else none)) else none) else none
    else
      el_L_isDrawn_215 N (el_L_isDrawn_203 N n) N i1 i2 a3 i4 i5 (0 : Int32) S) else none
def el_L_isDrawn_98 (N : Nat) : Nat → Int32 → Int32 → Nat → Int32 → Int32 → dm_S → Option (Int32 × dm_S)
  | 0, _, _, _, _, _, _ => none
  | n + 1, i1, i2, a3, i4, i5, S =>
    bif dm_ok S 1 a3 then (if dm_g S a3 0 < 0 then none else
    bif dm_ok S 2 ((dm_g S a3 0).toNatClampNeg) || dm_ok S 3 ((dm_g S a3 0).toNatClampNeg) then (if (Int32.ofNat (dm_len S ((dm_g S a3 0).toNatClampNeg))) ≤ i5 then
      el_L_isDrawn_203 N N i1 i2 a3 i4 (0 : Int32) S
    else
      el_L_isDrawn_111 N (el_L_isDrawn_98 N n) N i1 i2 a3 i4 i5 (0 : Int32) S) else none) else none
def e_L_isDrawn (N : Nat) (i1 : Int32) (i2 : Int32) (S : dm_S) : Option (Int32 × dm_S) :=
  dm_bi (e_L_screen N i1 i2 S) (fun b2 S1 =>
  am_bt (f_X9_screen N i1 i2 (0 : Int32) (dm_h S1)) (fun _ => none) (fun x5 S4 =>
  let S3 := dm_sh S1 S4
  bif dm_ok S3 1 b2 then (if x5 = (dm_g S3 b2 3) then
    am_bt (f_X9_screen N i1 i2 (1 : Int32) (dm_h S3)) (fun _ => none) (fun x8 S7 =>
    let S6 := dm_sh S3 S7
    bif dm_ok S6 1 b2 then (if dm_g S6 b2 0 < 0 then none else
    bif dm_ok S6 2 ((dm_g S6 b2 0).toNatClampNeg) || dm_ok S6 3 ((dm_g S6 b2 0).toNatClampNeg) then (if x8 = (Int32.ofNat (dm_len S6 ((dm_g S6 b2 0).toNatClampNeg))) then
      am_bt (f_X9_screen N i1 i2 (2 : Int32) (dm_h S6)) (fun _ => none) (fun x11 S10 =>
      let S9 := dm_sh S6 S10
      bif dm_ok S9 1 b2 then (if x11 = (dm_g S9 b2 1) then
        am_bt (f_X9_screen N i1 i2 (3 : Int32) (dm_h S9)) (fun _ => none) (fun x14 S13 =>
        let S12 := dm_sh S9 S13
        bif dm_ok S12 1 b2 then (if x14 = (dm_g S12 b2 2) then
          am_bt (f_X9_screen N i1 i2 (4 : Int32) (dm_h S12)) (fun _ => none) (fun x17 S16 =>
          let S15 := dm_sh S12 S16
          bif dm_ok S15 1 b2 then (if x17 = (dm_g S15 b2 5) then
            am_bt (f_X9_screen N i1 i2 (5 : Int32) (dm_h S15)) (fun _ => none) (fun x20 S19 =>
            let S18 := dm_sh S15 S19
            (if x20 = (-2 : Int32) then
              el_L_isDrawn_98 N N i1 i2 b2 (0 : Int32) (0 : Int32) S18
            else
              if (0 : Int32) &&& 1 = (0 : Int32) then some ((0 : Int32), S18) else none))
          else
            if (0 : Int32) &&& 1 = (0 : Int32) then some ((0 : Int32), S15) else none) else none)
        else
          if (0 : Int32) &&& 1 = (0 : Int32) then some ((0 : Int32), S12) else none) else none)
      else
        if (0 : Int32) &&& 1 = (0 : Int32) then some ((0 : Int32), S9) else none) else none)
    else
      if (0 : Int32) &&& 1 = (0 : Int32) then some ((0 : Int32), S6) else none) else none) else none)
  else
    if (0 : Int32) &&& 1 = (0 : Int32) then some ((0 : Int32), S3) else none) else none))
def ec_L_isDrawn (N : Nat) : dm_Cl := fun _ as S kk => am_sa as (fun z w0 => bif Nat.beq z 0 then am_s1 w0 (fun i1 w1 => am_s1 w1 (fun i2 w2 => am_st0 w2 (dm_bi (e_L_isDrawn N i1 i2 S) (fun v S => kk (some (.int v)) S)))) else none)
def dtL_isDrawn : List (Nat × Instr × Nat) := [(0, .aload_n 0, 1), (1, .iload_n 1, 1), (2, .iload_n 2, 1), (3, .invokestatic 176, 3), (6, .astore_n 3, 1), (7, .aload_n 0, 1), (8, .iload_n 1, 1), (9, .iload_n 2, 1), (10, .iconst 0, 1), (11, .invokevirtual 180, 3), (14, .aload_n 3, 1), (15, .getfield 158, 3), (18, .if_icmp .ne 72, 3), (21, .aload_n 0, 1), (22, .iload_n 1, 1), (23, .iload_n 2, 1), (24, .iconst 1, 1), (25, .invokevirtual 180, 3), (28, .aload_n 3, 1), (29, .getfield 182, 3), (32, .arraylength, 1), (33, .if_icmp .ne 57, 3), (36, .aload_n 0, 1), (37, .iload_n 1, 1), (38, .iload_n 2, 1), (39, .iconst 2, 1), (40, .invokevirtual 180, 3), (43, .aload_n 3, 1), (44, .getfield 186, 3), (47, .if_icmp .ne 43, 3), (50, .aload_n 0, 1), (51, .iload_n 1, 1), (52, .iload_n 2, 1), (53, .iconst 3, 1), (54, .invokevirtual 180, 3), (57, .aload_n 3, 1), (58, .getfield 189, 3), (61, .if_icmp .ne 29, 3), (64, .aload_n 0, 1), (65, .iload_n 1, 1), (66, .iload_n 2, 1), (67, .iconst 4, 1), (68, .invokevirtual 180, 3), (71, .aload_n 3, 1), (72, .getfield 192, 3), (75, .if_icmp .ne 15, 3), (78, .aload_n 0, 1), (79, .iload_n 1, 1), (80, .iload_n 2, 1), (81, .iconst 5, 1), (82, .invokevirtual 180, 3), (85, .bipush (-2), 2), (87, .if_icmp .eq 5, 3), (90, .iconst 0, 1), (91, .ireturn, 1), (92, .iconst 0, 1), (93, .istore 4, 2), (95, .iconst 0, 1), (96, .istore 5, 2), (98, .iload 5, 2), (100, .aload_n 3, 1), (101, .getfield 182, 3), (104, .arraylength, 1), (105, .if_icmp .ge 95, 3), (108, .iconst 0, 1), (109, .istore 6, 2), (111, .iload 6, 2), (113, .aload_n 3, 1), (114, .getfield 158, 3), (117, .if_icmp .ge 59, 3), (120, .aload_n 0, 1), (121, .iload_n 1, 1), (122, .iload_n 2, 1), (123, .iload 5, 2), (125, .iload 6, 2), (127, .invokevirtual 195, 3), (130, .aload_n 3, 1), (131, .getfield 182, 3), (134, .iload 5, 2), (136, .aaload, 1), (137, .iload 6, 2), (139, .iaload, 1), (140, .if_icmp .eq 5, 3), (143, .iconst 0, 1), (144, .ireturn, 1), (145, .iload 4, 2), (147, .aload_n 3, 1), (148, .getfield 182, 3), (151, .iload 5, 2), (153, .aaload, 1), (154, .iload 6, 2), (156, .iaload, 1), (157, .bipush 27, 2), (159, .if_icmp .ne 7, 3), (162, .iconst 0, 1), (163, .goto 4, 3), (166, .iconst 1, 1), (167, .iadd, 1), (168, .istore 4, 2), (170, .iinc 6 1, 3), (173, .goto (-62), 3), (176, .aload_n 0, 1), (177, .iload_n 1, 1), (178, .iload_n 2, 1), (179, .iload 5, 2), (181, .aload_n 3, 1), (182, .getfield 158, 3), (185, .invokevirtual 195, 3), (188, .iconst (-1), 1), (189, .if_icmp .eq 5, 3), (192, .iconst 0, 1), (193, .ireturn, 1), (194, .iinc 5 1, 3), (197, .goto (-99), 3), (200, .iconst 0, 1), (201, .istore 5, 2), (203, .iload 5, 2), (205, .aload_n 3, 1), (206, .getfield 192, 3), (209, .if_icmp .ge 68, 3), (212, .iconst 0, 1), (213, .istore 6, 2), (215, .iload 6, 2), (217, .bipush 16, 2), (219, .if_icmp .ge 52, 3), (222, .aload_n 0, 1), (223, .iload_n 1, 1), (224, .iload_n 2, 1), (225, .iload 5, 2), (227, .iload 6, 2), (229, .invokevirtual 199, 3), (232, .iload 6, 2), (234, .aload_n 3, 1), (235, .getfield 202, 3), (238, .iload 5, 2), (240, .aaload, 1), (241, .arraylength, 1), (242, .if_icmp .ge 16, 3), (245, .aload_n 3, 1), (246, .getfield 202, 3), (249, .iload 5, 2), (251, .aaload, 1), (252, .iload 6, 2), (254, .iaload, 1), (255, .goto 5, 3), (258, .bipush 27, 2), (260, .if_icmp .eq 5, 3), (263, .iconst 0, 1), (264, .ireturn, 1), (265, .iinc 6 1, 3), (268, .goto (-53), 3), (271, .iinc 5 1, 3), (274, .goto (-71), 3), (277, .aload_n 0, 1), (278, .iload_n 1, 1), (279, .iload_n 2, 1), (280, .aload_n 3, 1), (281, .getfield 182, 3), (284, .arraylength, 1), (285, .iconst 0, 1), (286, .invokevirtual 195, 3), (289, .iconst (-1), 1), (290, .if_icmp .ne 47, 3), (293, .aload_n 0, 1), (294, .iload_n 1, 1), (295, .iload_n 2, 1), (296, .aload_n 3, 1), (297, .getfield 192, 3), (300, .iconst 0, 1), (301, .invokevirtual 199, 3), (304, .iconst (-1), 1), (305, .if_icmp .ne 32, 3), (308, .aload_n 0, 1), (309, .iload_n 1, 1), (310, .iload_n 2, 1), (311, .invokevirtual 205, 3), (314, .iload 4, 2), (316, .i2f, 1), (317, .aload_n 3, 1), (318, .getfield 158, 3), (321, .aload_n 3, 1), (322, .getfield 182, 3), (325, .arraylength, 1), (326, .imul, 1), (327, .i2f, 1), (328, .fdiv, 1), (329, .fcmp .l, 1), (330, .ifCond .ne 7, 3), (333, .iconst 1, 1), (334, .goto 4, 3), (337, .iconst 0, 1), (338, .ireturn, 1)]
def eoC_L_isDrawn (N : Nat) : am_Orc := (am_oc 62 (c_X9_screen N) (am_oc 63 (c_X9_at N) (am_oc 64 (c_X9_above N) (am_oc 69 (c_X9_fullness N) am_o0))))
def eoD_L_isDrawn (N : Nat) : dm_Orc := (dm_oc 6 (ec_L_screen N) dm_o0)
set_option maxRecDepth 100000 in
theorem dtok_L_isDrawn : dm_tok 7 dtL_isDrawn := by
  unfold dm_tok
  decide +kernel
set_option maxHeartbeats 4000000 in
set_option maxRecDepth 100000 in
theorem em_L_isDrawn {l : Launch} {al : Nat → Nat} {dC : Nat → ClassId} {dI : Nat → Nat → Nat} {aC : Nat → ClassId} {aV : Nat → Nat} {x0 x1 : Nat} (hy : am_Hy l al) (hA : dm_Al al x0 x1) (N : Nat) (i1 : Int32) (i2 : Int32) (S : dm_S) (r : (Int32 × dm_S)) (hf : e_L_isDrawn N i1 i2 S = some r) : dm_Met l al dC dI aC aV x0 x1 7 [.ref 0, .int i1, .int i2] S (some (.int r.1)) r.2 :=
  dm_met (tab := dtL_isDrawn) (oC := eoC_L_isDrawn N) (oD := eoD_L_isDrawn N) (ret := dm_ri) (g := r) (by decide) hA dtok_L_isDrawn (am_os1 (s_X9_screen hy N) (am_os1 (s_X9_at hy N) (am_os1 (s_X9_above hy N) (am_os1 (s_X9_fullness hy N) am_os0)))) (dm_os1 (es_L_screen hy hA N) dm_os0) dm_ri_inv (Nat.le_of_ble_eq_true rfl) (fun At cl wk => by
    have A111 : ∀ (K98 : Int32 → Int32 → Nat → Int32 → Int32 → dm_S → Option (Int32 × dm_S)), (∀ i1 : Int32, ∀ i2 : Int32, ∀ a3 : Nat, ∀ i4 : Int32, ∀ i5 : Int32, ∀ h, K98 i1 i2 a3 i4 i5 h = some r → At 98 [(0, .ref 0), (1, .int i1), (2, .int i2), (3, .ref a3), (4, .int i4), (5, .int i5)] [] h) → ∀ n : Nat, ∀ i1 : Int32, ∀ i2 : Int32, ∀ a3 : Nat, ∀ i4 : Int32, ∀ i5 : Int32, ∀ i6 : Int32, ∀ h, el_L_isDrawn_111 N K98 n i1 i2 a3 i4 i5 i6 h = some r → At 111 [(0, .ref 0), (1, .int i1), (2, .int i2), (3, .ref a3), (4, .int i4), (5, .int i5), (6, .int i6)] [] h := by
      intro K98 hK98 n
      induction n with
      | zero => intro i1 i2 a3 i4 i5 i6 h hr; cases hr
      | succ n ih =>
        intro i1 i2 a3 i4 i5 i6 h hr
        exact cl (dm_C1 98 (fun ρ st S => am_lda ρ 0 (fun z => bif Nat.beq z 0 then am_ldi ρ 1 (fun i1 => am_ldi ρ 2 (fun i2 => am_lda ρ 3 (fun a3 => am_ldi ρ 4 (fun i4 => am_ldi ρ 5 (fun i5 => am_st0 st (K98 i1 i2 a3 i4 i5 S)))))) else none)) (dm_C1 111 (fun ρ st S => am_lda ρ 0 (fun z => bif Nat.beq z 0 then am_ldi ρ 1 (fun i1 => am_ldi ρ 2 (fun i2 => am_lda ρ 3 (fun a3 => am_ldi ρ 4 (fun i4 => am_ldi ρ 5 (fun i5 => am_ldi ρ 6 (fun i6 => am_st0 st (el_L_isDrawn_111 N K98 n i1 i2 a3 i4 i5 i6 S))))))) else none)) dm_C0)) (dm_u1 (fun ρ st S hc => by
        obtain ⟨z, m_a0, hc⟩ := am_lda_some hc
        obtain ⟨hz, hc⟩ := am_bif hc
        cases Nat.eq_of_beq_eq_true hz
        obtain ⟨i1, m_i1, hc⟩ := am_ldi_some hc
        obtain ⟨i2, m_i2, hc⟩ := am_ldi_some hc
        obtain ⟨a3, m_a3, hc⟩ := am_lda_some hc
        obtain ⟨i4, m_i4, hc⟩ := am_ldi_some hc
        obtain ⟨i5, m_i5, hc⟩ := am_ldi_some hc
        obtain ⟨rfl, hc⟩ := am_st0_some hc
        exact wk 98 ρ [(0, .ref 0), (1, .int i1), (2, .int i2), (3, .ref a3), (4, .int i4), (5, .int i5)] _ S (am_m1 m_a0 (am_m1 m_i1 (am_m1 m_i2 (am_m1 m_a3 (am_m1 m_i4 (am_m1 m_i5 am_m0)))))) (hK98 i1 i2 a3 i4 i5 S hc)) (dm_u1 (fun ρ st S hc => by
        obtain ⟨z, m_a0, hc⟩ := am_lda_some hc
        obtain ⟨hz, hc⟩ := am_bif hc
        cases Nat.eq_of_beq_eq_true hz
        obtain ⟨i1, m_i1, hc⟩ := am_ldi_some hc
        obtain ⟨i2, m_i2, hc⟩ := am_ldi_some hc
        obtain ⟨a3, m_a3, hc⟩ := am_lda_some hc
        obtain ⟨i4, m_i4, hc⟩ := am_ldi_some hc
        obtain ⟨i5, m_i5, hc⟩ := am_ldi_some hc
        obtain ⟨i6, m_i6, hc⟩ := am_ldi_some hc
        obtain ⟨rfl, hc⟩ := am_st0_some hc
        exact wk 111 ρ [(0, .ref 0), (1, .int i1), (2, .int i2), (3, .ref a3), (4, .int i4), (5, .int i5), (6, .int i6)] _ S (am_m1 m_a0 (am_m1 m_i1 (am_m1 m_i2 (am_m1 m_a3 (am_m1 m_i4 (am_m1 m_i5 (am_m1 m_i6 am_m0))))))) (ih i1 i2 a3 i4 i5 i6 S hc)) dm_u0)) 400 111 _ _ h hr
    have A215 : ∀ (K203 : Int32 → Int32 → Nat → Int32 → Int32 → dm_S → Option (Int32 × dm_S)), (∀ i1 : Int32, ∀ i2 : Int32, ∀ a3 : Nat, ∀ i4 : Int32, ∀ i5 : Int32, ∀ h, K203 i1 i2 a3 i4 i5 h = some r → At 203 [(0, .ref 0), (1, .int i1), (2, .int i2), (3, .ref a3), (4, .int i4), (5, .int i5)] [] h) → ∀ n : Nat, ∀ i1 : Int32, ∀ i2 : Int32, ∀ a3 : Nat, ∀ i4 : Int32, ∀ i5 : Int32, ∀ i6 : Int32, ∀ h, el_L_isDrawn_215 N K203 n i1 i2 a3 i4 i5 i6 h = some r → At 215 [(0, .ref 0), (1, .int i1), (2, .int i2), (3, .ref a3), (4, .int i4), (5, .int i5), (6, .int i6)] [] h := by
      intro K203 hK203 n
      induction n with
      | zero => intro i1 i2 a3 i4 i5 i6 h hr; cases hr
      | succ n ih =>
        intro i1 i2 a3 i4 i5 i6 h hr
        exact cl (dm_C1 203 (fun ρ st S => am_lda ρ 0 (fun z => bif Nat.beq z 0 then am_ldi ρ 1 (fun i1 => am_ldi ρ 2 (fun i2 => am_lda ρ 3 (fun a3 => am_ldi ρ 4 (fun i4 => am_ldi ρ 5 (fun i5 => am_st0 st (K203 i1 i2 a3 i4 i5 S)))))) else none)) (dm_C1 215 (fun ρ st S => am_lda ρ 0 (fun z => bif Nat.beq z 0 then am_ldi ρ 1 (fun i1 => am_ldi ρ 2 (fun i2 => am_lda ρ 3 (fun a3 => am_ldi ρ 4 (fun i4 => am_ldi ρ 5 (fun i5 => am_ldi ρ 6 (fun i6 => am_st0 st (el_L_isDrawn_215 N K203 n i1 i2 a3 i4 i5 i6 S))))))) else none)) dm_C0)) (dm_u1 (fun ρ st S hc => by
        obtain ⟨z, m_a0, hc⟩ := am_lda_some hc
        obtain ⟨hz, hc⟩ := am_bif hc
        cases Nat.eq_of_beq_eq_true hz
        obtain ⟨i1, m_i1, hc⟩ := am_ldi_some hc
        obtain ⟨i2, m_i2, hc⟩ := am_ldi_some hc
        obtain ⟨a3, m_a3, hc⟩ := am_lda_some hc
        obtain ⟨i4, m_i4, hc⟩ := am_ldi_some hc
        obtain ⟨i5, m_i5, hc⟩ := am_ldi_some hc
        obtain ⟨rfl, hc⟩ := am_st0_some hc
        exact wk 203 ρ [(0, .ref 0), (1, .int i1), (2, .int i2), (3, .ref a3), (4, .int i4), (5, .int i5)] _ S (am_m1 m_a0 (am_m1 m_i1 (am_m1 m_i2 (am_m1 m_a3 (am_m1 m_i4 (am_m1 m_i5 am_m0)))))) (hK203 i1 i2 a3 i4 i5 S hc)) (dm_u1 (fun ρ st S hc => by
        obtain ⟨z, m_a0, hc⟩ := am_lda_some hc
        obtain ⟨hz, hc⟩ := am_bif hc
        cases Nat.eq_of_beq_eq_true hz
        obtain ⟨i1, m_i1, hc⟩ := am_ldi_some hc
        obtain ⟨i2, m_i2, hc⟩ := am_ldi_some hc
        obtain ⟨a3, m_a3, hc⟩ := am_lda_some hc
        obtain ⟨i4, m_i4, hc⟩ := am_ldi_some hc
        obtain ⟨i5, m_i5, hc⟩ := am_ldi_some hc
        obtain ⟨i6, m_i6, hc⟩ := am_ldi_some hc
        obtain ⟨rfl, hc⟩ := am_st0_some hc
        exact wk 215 ρ [(0, .ref 0), (1, .int i1), (2, .int i2), (3, .ref a3), (4, .int i4), (5, .int i5), (6, .int i6)] _ S (am_m1 m_a0 (am_m1 m_i1 (am_m1 m_i2 (am_m1 m_a3 (am_m1 m_i4 (am_m1 m_i5 (am_m1 m_i6 am_m0))))))) (ih i1 i2 a3 i4 i5 i6 S hc)) dm_u0)) 400 215 _ _ h hr
    have A203 : ∀ n : Nat, ∀ i1 : Int32, ∀ i2 : Int32, ∀ a3 : Nat, ∀ i4 : Int32, ∀ i5 : Int32, ∀ h, el_L_isDrawn_203 N n i1 i2 a3 i4 i5 h = some r → At 203 [(0, .ref 0), (1, .int i1), (2, .int i2), (3, .ref a3), (4, .int i4), (5, .int i5)] [] h := by
      intro n
      induction n with
      | zero => intro i1 i2 a3 i4 i5 h hr; cases hr
      | succ n ih =>
        intro i1 i2 a3 i4 i5 h hr
        exact cl (dm_C1 215 (fun ρ st S => am_lda ρ 0 (fun z => bif Nat.beq z 0 then am_ldi ρ 1 (fun i1 => am_ldi ρ 2 (fun i2 => am_lda ρ 3 (fun a3 => am_ldi ρ 4 (fun i4 => am_ldi ρ 5 (fun i5 => am_ldi ρ 6 (fun i6 => am_st0 st (el_L_isDrawn_215 N (el_L_isDrawn_203 N n) N i1 i2 a3 i4 i5 i6 S))))))) else none)) dm_C0) (dm_u1 (fun ρ st S hc => by
        obtain ⟨z, m_a0, hc⟩ := am_lda_some hc
        obtain ⟨hz, hc⟩ := am_bif hc
        cases Nat.eq_of_beq_eq_true hz
        obtain ⟨i1, m_i1, hc⟩ := am_ldi_some hc
        obtain ⟨i2, m_i2, hc⟩ := am_ldi_some hc
        obtain ⟨a3, m_a3, hc⟩ := am_lda_some hc
        obtain ⟨i4, m_i4, hc⟩ := am_ldi_some hc
        obtain ⟨i5, m_i5, hc⟩ := am_ldi_some hc
        obtain ⟨i6, m_i6, hc⟩ := am_ldi_some hc
        obtain ⟨rfl, hc⟩ := am_st0_some hc
        exact wk 215 ρ [(0, .ref 0), (1, .int i1), (2, .int i2), (3, .ref a3), (4, .int i4), (5, .int i5), (6, .int i6)] _ S (am_m1 m_a0 (am_m1 m_i1 (am_m1 m_i2 (am_m1 m_a3 (am_m1 m_i4 (am_m1 m_i5 (am_m1 m_i6 am_m0))))))) (A215 (el_L_isDrawn_203 N n) ih N i1 i2 a3 i4 i5 i6 S hc)) dm_u0) 400 203 _ _ h hr
    have A98 : ∀ n : Nat, ∀ i1 : Int32, ∀ i2 : Int32, ∀ a3 : Nat, ∀ i4 : Int32, ∀ i5 : Int32, ∀ h, el_L_isDrawn_98 N n i1 i2 a3 i4 i5 h = some r → At 98 [(0, .ref 0), (1, .int i1), (2, .int i2), (3, .ref a3), (4, .int i4), (5, .int i5)] [] h := by
      intro n
      induction n with
      | zero => intro i1 i2 a3 i4 i5 h hr; cases hr
      | succ n ih =>
        intro i1 i2 a3 i4 i5 h hr
        exact cl (dm_C1 111 (fun ρ st S => am_lda ρ 0 (fun z => bif Nat.beq z 0 then am_ldi ρ 1 (fun i1 => am_ldi ρ 2 (fun i2 => am_lda ρ 3 (fun a3 => am_ldi ρ 4 (fun i4 => am_ldi ρ 5 (fun i5 => am_ldi ρ 6 (fun i6 => am_st0 st (el_L_isDrawn_111 N (el_L_isDrawn_98 N n) N i1 i2 a3 i4 i5 i6 S))))))) else none)) (dm_C1 203 (fun ρ st S => am_lda ρ 0 (fun z => bif Nat.beq z 0 then am_ldi ρ 1 (fun i1 => am_ldi ρ 2 (fun i2 => am_lda ρ 3 (fun a3 => am_ldi ρ 4 (fun i4 => am_ldi ρ 5 (fun i5 => am_st0 st (el_L_isDrawn_203 N N i1 i2 a3 i4 i5 S)))))) else none)) dm_C0)) (dm_u1 (fun ρ st S hc => by
        obtain ⟨z, m_a0, hc⟩ := am_lda_some hc
        obtain ⟨hz, hc⟩ := am_bif hc
        cases Nat.eq_of_beq_eq_true hz
        obtain ⟨i1, m_i1, hc⟩ := am_ldi_some hc
        obtain ⟨i2, m_i2, hc⟩ := am_ldi_some hc
        obtain ⟨a3, m_a3, hc⟩ := am_lda_some hc
        obtain ⟨i4, m_i4, hc⟩ := am_ldi_some hc
        obtain ⟨i5, m_i5, hc⟩ := am_ldi_some hc
        obtain ⟨i6, m_i6, hc⟩ := am_ldi_some hc
        obtain ⟨rfl, hc⟩ := am_st0_some hc
        exact wk 111 ρ [(0, .ref 0), (1, .int i1), (2, .int i2), (3, .ref a3), (4, .int i4), (5, .int i5), (6, .int i6)] _ S (am_m1 m_a0 (am_m1 m_i1 (am_m1 m_i2 (am_m1 m_a3 (am_m1 m_i4 (am_m1 m_i5 (am_m1 m_i6 am_m0))))))) (A111 (el_L_isDrawn_98 N n) ih N i1 i2 a3 i4 i5 i6 S hc)) (dm_u1 (fun ρ st S hc => by
        obtain ⟨z, m_a0, hc⟩ := am_lda_some hc
        obtain ⟨hz, hc⟩ := am_bif hc
        cases Nat.eq_of_beq_eq_true hz
        obtain ⟨i1, m_i1, hc⟩ := am_ldi_some hc
        obtain ⟨i2, m_i2, hc⟩ := am_ldi_some hc
        obtain ⟨a3, m_a3, hc⟩ := am_lda_some hc
        obtain ⟨i4, m_i4, hc⟩ := am_ldi_some hc
        obtain ⟨i5, m_i5, hc⟩ := am_ldi_some hc
        obtain ⟨rfl, hc⟩ := am_st0_some hc
        exact wk 203 ρ [(0, .ref 0), (1, .int i1), (2, .int i2), (3, .ref a3), (4, .int i4), (5, .int i5)] _ S (am_m1 m_a0 (am_m1 m_i1 (am_m1 m_i2 (am_m1 m_a3 (am_m1 m_i4 (am_m1 m_i5 am_m0)))))) (A203 N i1 i2 a3 i4 i5 S hc)) dm_u0)) 400 98 _ _ h hr
    exact cl (dm_C1 98 (fun ρ st S => am_lda ρ 0 (fun z => bif Nat.beq z 0 then am_ldi ρ 1 (fun i1 => am_ldi ρ 2 (fun i2 => am_lda ρ 3 (fun a3 => am_ldi ρ 4 (fun i4 => am_ldi ρ 5 (fun i5 => am_st0 st (el_L_isDrawn_98 N N i1 i2 a3 i4 i5 S)))))) else none)) dm_C0) (dm_u1 (fun ρ st S hc => by
        obtain ⟨z, m_a0, hc⟩ := am_lda_some hc
        obtain ⟨hz, hc⟩ := am_bif hc
        cases Nat.eq_of_beq_eq_true hz
        obtain ⟨i1, m_i1, hc⟩ := am_ldi_some hc
        obtain ⟨i2, m_i2, hc⟩ := am_ldi_some hc
        obtain ⟨a3, m_a3, hc⟩ := am_lda_some hc
        obtain ⟨i4, m_i4, hc⟩ := am_ldi_some hc
        obtain ⟨i5, m_i5, hc⟩ := am_ldi_some hc
        obtain ⟨rfl, hc⟩ := am_st0_some hc
        exact wk 98 ρ [(0, .ref 0), (1, .int i1), (2, .int i2), (3, .ref a3), (4, .int i4), (5, .int i5)] _ S (am_m1 m_a0 (am_m1 m_i1 (am_m1 m_i2 (am_m1 m_a3 (am_m1 m_i4 (am_m1 m_i5 am_m0)))))) (A98 N i1 i2 a3 i4 i5 S hc)) dm_u0) 400 0 _ _ S hf)
theorem es_L_isDrawn {l : Launch} {al : Nat → Nat} {dC : Nat → ClassId} {dI : Nat → Nat → Nat} {aC : Nat → ClassId} {aV : Nat → Nat} {x0 x1 : Nat} (hy : am_Hy l al) (hA : dm_Al al x0 x1) (N : Nat) : dm_CS l al dC dI aC aV x0 x1 7 (ec_L_isDrawn N) := by
  intro γ as S kk g hc0
  obtain ⟨z0, w0, e_0, hcz0⟩ := am_sa_some hc0
  obtain ⟨hz0, hc1⟩ := am_bif hcz0
  cases Nat.eq_of_beq_eq_true hz0
  obtain ⟨i1, w1, e_1, hc2⟩ := am_s1_some hc1
  obtain ⟨i2, w2, e_2, hc3⟩ := am_s1_some hc2
  obtain ⟨e_3, hc⟩ := am_st0_some hc3
  subst e_3
  subst e_2
  subst e_1
  subst e_0
  obtain ⟨q, e1, e2⟩ := dm_bi_some hc
  exact ⟨_, _, em_L_isDrawn hy hA N i1 i2 S _ e1, e2⟩
