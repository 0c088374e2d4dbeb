def el_T_put_53 (X : tm_X) (N : Nat) (K37 : Nat → Int32 → dm_S → Option (Unit × dm_S)) : Nat → Nat → Int32 → Nat → Int32 → dm_S → Option (Unit × dm_S)
  | 0, _, _, _, _, _ => none
  | n + 1, a2, i3, a4, i5, S =>
    (if ((Int8.ofInt (20)).toInt32) ≤ i5 then
      (bif Nat.beq a4 950 then (bif am_in (0 : Int32) X.1 then (bif Nat.beq a4 950 then (bif am_in (1 : Int32) X.1 then (bif Nat.beq a4 950 then (bif am_in (2 : Int32) X.1 then (bif Nat.beq a4 950 then (bif am_in (3 : Int32) X.1 then (bif Nat.beq a4 950 then (bif am_in (4 : Int32) X.1 then am_bi (f_X9_feed N (X.2 0) (X.2 1) (X.2 2) (X.2 3) (X.2 4) (dm_h S)) (fun x3 S2 =>
      let S1 := dm_sh S S2
      K37 a2 (i3 + (20 : Int32)) S1) else none) else bif dm_ok S 2 a4 && am_in (4 : Int32) (dm_len S a4) then am_bi (f_X9_feed N (X.2 0) (X.2 1) (X.2 2) (X.2 3) (dm_g S a4 4) (dm_h S)) (fun x6 S5 =>
      let S4 := dm_sh S S5
      K37 a2 (i3 + (20 : Int32)) S4) else none) else none) else bif dm_ok S 2 a4 && am_in (3 : Int32) (dm_len S a4) then (bif Nat.beq a4 950 then (bif am_in (4 : Int32) X.1 then am_bi (f_X9_feed N (X.2 0) (X.2 1) (X.2 2) (dm_g S a4 3) (X.2 4) (dm_h S)) (fun x9 S8 =>
      let S7 := dm_sh S S8
      K37 a2 (i3 + (20 : Int32)) S7) else none) else bif dm_ok S 2 a4 && am_in (4 : Int32) (dm_len S a4) then am_bi (f_X9_feed N (X.2 0) (X.2 1) (X.2 2) (dm_g S a4 3) (dm_g S a4 4) (dm_h S)) (fun x12 S11 =>
      let S10 := dm_sh S S11
      K37 a2 (i3 + (20 : Int32)) S10) else none) else none) else none) else bif dm_ok S 2 a4 && am_in (2 : Int32) (dm_len S a4) then (bif Nat.beq a4 950 then (bif am_in (3 : Int32) X.1 then (bif Nat.beq a4 950 then (bif am_in (4 : Int32) X.1 then am_bi (f_X9_feed N (X.2 0) (X.2 1) (dm_g S a4 2) (X.2 3) (X.2 4) (dm_h S)) (fun x15 S14 =>
      let S13 := dm_sh S S14
      K37 a2 (i3 + (20 : Int32)) S13) else none) else bif dm_ok S 2 a4 && am_in (4 : Int32) (dm_len S a4) then am_bi (f_X9_feed N (X.2 0) (X.2 1) (dm_g S a4 2) (X.2 3) (dm_g S a4 4) (dm_h S)) (fun x18 S17 =>
      let S16 := dm_sh S S17
      K37 a2 (i3 + (20 : Int32)) S16) else none) else none) else bif dm_ok S 2 a4 && am_in (3 : Int32) (dm_len S a4) then (bif Nat.beq a4 950 then (bif am_in (4 : Int32) X.1 then am_bi (f_X9_feed N (X.2 0) (X.2 1) (dm_g S a4 2) (dm_g S a4 3) (X.2 4) (dm_h S)) (fun x21 S20 =>
      let S19 := dm_sh S S20
      K37 a2 (i3 + (20 : Int32)) S19) else none) else bif dm_ok S 2 a4 && am_in (4 : Int32) (dm_len S a4) then am_bi (f_X9_feed N (X.2 0) (X.2 1) (dm_g S a4 2) (dm_g S a4 3) (dm_g S a4 4) (dm_h S)) (fun x24 S23 =>
      let S22 := dm_sh S S23
      K37 a2 (i3 + (20 : Int32)) S22) else none) else none) else none) else none) else bif dm_ok S 2 a4 && am_in (1 : Int32) (dm_len S a4) then (bif Nat.beq a4 950 then (bif am_in (2 : Int32) X.1 then (bif Nat.beq a4 950 then (bif am_in (3 : Int32) X.1 then (bif Nat.beq a4 950 then (bif am_in (4 : Int32) X.1 then am_bi (f_X9_feed N (X.2 0) (dm_g S a4 1) (X.2 2) (X.2 3) (X.2 4) (dm_h S)) (fun x27 S26 =>
      let S25 := dm_sh S S26
      K37 a2 (i3 + (20 : Int32)) S25) else none) else bif dm_ok S 2 a4 && am_in (4 : Int32) (dm_len S a4) then am_bi (f_X9_feed N (X.2 0) (dm_g S a4 1) (X.2 2) (X.2 3) (dm_g S a4 4) (dm_h S)) (fun x30 S29 =>
      let S28 := dm_sh S S29
      K37 a2 (i3 + (20 : Int32)) S28) else none) else none) else bif dm_ok S 2 a4 && am_in (3 : Int32) (dm_len S a4) then (bif Nat.beq a4 950 then (bif am_in (4 : Int32) X.1 then am_bi (f_X9_feed N (X.2 0) (dm_g S a4 1) (X.2 2) (dm_g S a4 3) (X.2 4) (dm_h S)) (fun x33 S32 =>
      let S31 := dm_sh S S32
      K37 a2 (i3 + (20 : Int32)) S31) else none) else bif dm_ok S 2 a4 && am_in (4 : Int32) (dm_len S a4) then am_bi (f_X9_feed N (X.2 0) (dm_g S a4 1) (X.2 2) (dm_g S a4 3) (dm_g S a4 4) (dm_h S)) (fun x36 S35 =>
      let S34 := dm_sh S S35
      K37 a2 (i3 + (20 : Int32)) S34) else none) else none) else none) else bif dm_ok S 2 a4 && am_in (2 : Int32) (dm_len S a4) then (bif Nat.beq a4 950 then (bif am_in (3 : Int32) X.1 then (bif Nat.beq a4 950 then (bif am_in (4 : Int32) X.1 then am_bi (f_X9_feed N (X.2 0) (dm_g S a4 1) (dm_g S a4 2) (X.2 3) (X.2 4) (dm_h S)) (fun x39 S38 =>
      let S37 := dm_sh S S38
      K37 a2 (i3 + (20 : Int32)) S37) else none) else bif dm_ok S 2 a4 && am_in (4 : Int32) (dm_len S a4) then am_bi (f_X9_feed N (X.2 0) (dm_g S a4 1) (dm_g S a4 2) (X.2 3) (dm_g S a4 4) (dm_h S)) (fun x42 S41 =>
      let S40 := dm_sh S S41
      K37 a2 (i3 + (20 : Int32)) S40) else none) else none) else bif dm_ok S 2 a4 && am_in (3 : Int32) (dm_len S a4) then (bif Nat.beq a4 950 then (bif am_in (4 : Int32) X.1 then am_bi (f_X9_feed N (X.2 0) (dm_g S a4 1) (dm_g S a4 2) (dm_g S a4 3) (X.2 4) (dm_h S)) (fun x45 S44 =>
      let S43 := dm_sh S S44
      K37 a2 (i3 + (20 : Int32)) S43) else none) else bif dm_ok S 2 a4 && am_in (4 : Int32) (dm_len S a4) then am_bi (f_X9_feed N (X.2 0) (dm_g S a4 1) (dm_g S a4 2) (dm_g S a4 3) (dm_g S a4 4) (dm_h S)) (fun x48 S47 =>
      let S46 := dm_sh S S47
      K37 a2 (i3 + (20 : Int32)) S46) else none) else none) else none) else none) else none) else bif dm_ok S 2 a4 && am_in (0 : Int32) (dm_len S a4) then (bif Nat.beq a4 950 then (bif am_in (1 : Int32) X.1 then (bif Nat.beq a4 950 then (bif am_in (2 : Int32) X.1 then (bif Nat.beq a4 950 then (bif am_in (3 : Int32) X.1 then (bif Nat.beq a4 950 then (bif am_in (4 : Int32) X.1 then am_bi (f_X9_feed N (dm_g S a4 0) (X.2 1) (X.2 2) (X.2 3) (X.2 4) (dm_h S)) (fun x51 S50 =>
      let S49 := dm_sh S S50
      K37 a2 (i3 + (20 : Int32)) S49) else none) else bif dm_ok S 2 a4 && am_in (4 : Int32) (dm_len S a4) then am_bi (f_X9_feed N (dm_g S a4 0) (X.2 1) (X.2 2) (X.2 3) (dm_g S a4 4) (dm_h S)) (fun x54 S53 =>
      let S52 := dm_sh S S53
      K37 a2 (i3 + (20 : Int32)) S52) else none) else none) else bif dm_ok S 2 a4 && am_in (3 : Int32) (dm_len S a4) then (bif Nat.beq a4 950 then (bif am_in (4 : Int32) X.1 then am_bi (f_X9_feed N (dm_g S a4 0) (X.2 1) (X.2 2) (dm_g S a4 3) (X.2 4) (dm_h S)) (fun x57 S56 =>
      let S55 := dm_sh S S56
      K37 a2 (i3 + (20 : Int32)) S55) else none) else bif dm_ok S 2 a4 && am_in (4 : Int32) (dm_len S a4) then am_bi (f_X9_feed N (dm_g S a4 0) (X.2 1) (X.2 2) (dm_g S a4 3) (dm_g S a4 4) (dm_h S)) (fun x60 S59 =>
      let S58 := dm_sh S S59
      K37 a2 (i3 + (20 : Int32)) S58) else none) else none) else none) else bif dm_ok S 2 a4 && am_in (2 : Int32) (dm_len S a4) then (bif Nat.beq a4 950 then (bif am_in (3 : Int32) X.1 then (bif Nat.beq a4 950 then (bif am_in (4 : Int32) X.1 then am_bi (f_X9_feed N (dm_g S a4 0) (X.2 1) (dm_g S a4 2) (X.2 3) (X.2 4) (dm_h S)) (fun x63 S62 =>
      let S61 := dm_sh S S62
      K37 a2 (i3 + (20 : Int32)) S61) else none) else bif dm_ok S 2 a4 && am_in (4 : Int32) (dm_len S a4) then am_bi (f_X9_feed N (dm_g S a4 0) (X.2 1) (dm_g S a4 2) (X.2 3) (dm_g S a4 4) (dm_h S)) (fun x66 S65 =>
      let S64 := dm_sh S S65
      K37 a2 (i3 + (20 : Int32)) S64) else none) else none) else bif dm_ok S 2 a4 && am_in (3 : Int32) (dm_len S a4) then (bif Nat.beq a4 950 then (bif am_in (4 : Int32) X.1 then am_bi (f_X9_feed N (dm_g S a4 0) (X.2 1) (dm_g S a4 2) (dm_g S a4 3) (X.2 4) (dm_h S)) (fun x69 S68 =>
      let S67 := dm_sh S S68
      K37 a2 (i3 + (20 : Int32)) S67) else none) else bif dm_ok S 2 a4 && am_in (4 : Int32) (dm_len S a4) then am_bi (f_X9_feed N (dm_g S a4 0) (X.2 1) (dm_g S a4 2) (dm_g S a4 3) (dm_g S a4 4) (dm_h S)) (fun x72 S71 =>
      let S70 := dm_sh S S71
      K37 a2 (i3 + (20 : Int32)) S70) else none) else none) else none) else none) else bif dm_ok S 2 a4 && am_in (1 : Int32) (dm_len S a4) then (bif Nat.beq a4 950 then (bif am_in (2 : Int32) X.1 then (bif Nat.beq a4 950 then (bif am_in (3 : Int32) X.1 then (bif Nat.beq a4 950 then (bif am_in (4 : Int32) X.1 then am_bi (f_X9_feed N (dm_g S a4 0) (dm_g S a4 1) (X.2 2) (X.2 3) (X.2 4) (dm_h S)) (fun x75 S74 =>
      let S73 := dm_sh S S74
      K37 a2 (i3 + (20 : Int32)) S73) else none) else bif dm_ok S 2 a4 && am_in (4 : Int32) (dm_len S a4) then am_bi (f_X9_feed N (dm_g S a4 0) (dm_g S a4 1) (X.2 2) (X.2 3) (dm_g S a4 4) (dm_h S)) (fun x78 S77 =>
      let S76 := dm_sh S S77
      K37 a2 (i3 + (20 : Int32)) S76) else none) else none) else bif dm_ok S 2 a4 && am_in (3 : Int32) (dm_len S a4) then (bif Nat.beq a4 950 then (bif am_in (4 : Int32) X.1 then am_bi (f_X9_feed N (dm_g S a4 0) (dm_g S a4 1) (X.2 2) (dm_g S a4 3) (X.2 4) (dm_h S)) (fun x81 S80 =>
      let S79 := dm_sh S S80
      K37 a2 (i3 + (20 : Int32)) S79) else none) else bif dm_ok S 2 a4 && am_in (4 : Int32) (dm_len S a4) then am_bi (f_X9_feed N (dm_g S a4 0) (dm_g S a4 1) (X.2 2) (dm_g S a4 3) (dm_g S a4 4) (dm_h S)) (fun x84 S83 =>
      let S82 := dm_sh S S83
      K37 a2 (i3 + (20 : Int32)) S82) else none) else none) else none) else bif dm_ok S 2 a4 && am_in (2 : Int32) (dm_len S a4) then (bif Nat.beq a4 950 then (bif am_in (3 : Int32) X.1 then (bif Nat.beq a4 950 then (bif am_in (4 : Int32) X.1 then am_bi (f_X9_feed N (dm_g S a4 0) (dm_g S a4 1) (dm_g S a4 2) (X.2 3) (X.2 4) (dm_h S)) (fun x87 S86 =>
      let S85 := dm_sh S S86
      K37 a2 (i3 + (20 : Int32)) S85) else none) else bif dm_ok S 2 a4 && am_in (4 : Int32) (dm_len S a4) then am_bi (f_X9_feed N (dm_g S a4 0) (dm_g S a4 1) (dm_g S a4 2) (X.2 3) (dm_g S a4 4) (dm_h S)) (fun x90 S89 =>
      let S88 := dm_sh S S89
      K37 a2 (i3 + (20 : Int32)) S88) else none) else none) else bif dm_ok S 2 a4 && am_in (3 : Int32) (dm_len S a4) then (bif Nat.beq a4 950 then (bif am_in (4 : Int32) X.1 then am_bi (f_X9_feed N (dm_g S a4 0) (dm_g S a4 1) (dm_g S a4 2) (dm_g S a4 3) (X.2 4) (dm_h S)) (fun x93 S92 =>
      let S91 := dm_sh S S92
      K37 a2 (i3 + (20 : Int32)) S91) else none) else bif dm_ok S 2 a4 && am_in (4 : Int32) (dm_len S a4) then am_bi (f_X9_feed N (dm_g S a4 0) (dm_g S a4 1) (dm_g S a4 2) (dm_g S a4 3) (dm_g S a4 4) (dm_h S)) (fun x96 S95 =>
      let S94 := dm_sh S S95
      K37 a2 (i3 + (20 : Int32)) S94) else none) else none) else none) else none) else none)
    else
      if (4 : Int32) = 0 then none else (bif Nat.beq a4 950 then (bif am_in (i5 / (4 : Int32)) X.1 then bif tm_cs a2 || dm_ok S 5 a2 then dm_bi (e_T_charAt X N a2 (i3 + i5) S) (fun x98 S97 =>
      if (4 : Int32) = 0 then none else bif dm_ok S97 2 a4 && am_in (i5 / (4 : Int32)) (dm_len S97 a4) then (let S99 := dm_wr S97 a4 (i5 / (4 : Int32)).toNatClampNeg ((X.2 (i5 / (4 : Int32)).toNatClampNeg) ||| (x98 <<< ((((Int8.ofInt (24)).toInt32) - (((Int8.ofInt (8)).toInt32) * (i5 - i5 / (4 : Int32) * (4 : Int32)))) &&& 31)))
      el_T_put_53 X N K37 n a2 i3 a4 (i5 + (1 : Int32)) S99) else none) else none else none) else bif dm_ok S 2 a4 && am_in (i5 / (4 : Int32)) (dm_len S a4) then bif tm_cs a2 || dm_ok S 5 a2 then dm_bi (e_T_charAt X N a2 (i3 + i5) S) (fun x101 S100 =>
      if (4 : Int32) = 0 then none else bif dm_ok S100 2 a4 && am_in (i5 / (4 : Int32)) (dm_len S100 a4) then (let S102 := dm_wr S100 a4 (i5 / (4 : Int32)).toNatClampNeg ((dm_g S a4 (i5 / (4 : Int32)).toNatClampNeg) ||| (x101 <<< ((((Int8.ofInt (24)).toInt32) - (((Int8.ofInt (8)).toInt32) * (i5 - i5 / (4 : Int32) * (4 : Int32)))) &&& 31)))
      el_T_put_53 X N K37 n a2 i3 a4 (i5 + (1 : Int32)) S102) else none) else none else none))
def el_T_put_37 (X : tm_X) (N : Nat) : Nat → Nat → Int32 → dm_S → Option (Unit × dm_S)
  | 0, _, _, _ => none
  | n + 1, a2, i3, S =>
    bif tm_cs a2 || dm_ok S 5 a2 then dm_bi (e_T_strLen X N a2 S) (fun x2 S1 =>
    (if x2 ≤ i3 then
      some ((), S1)
    else
      if (5 : Int32) < 0 then none else bif Nat.ble (5 : Int32).toNatClampNeg 100000 then (let S3 := dm_nw S1 (2, 0, (5 : Int32).toNatClampNeg) (fun _ => 0) (5 : Int32).toNatClampNeg
      el_T_put_53 X N (el_T_put_37 X N n) N a2 i3 (dm_n S1) (0 : Int32) S3) else none)) else none
def el_T_put_2 (X : tm_X) (N : Nat) : Nat → Nat → dm_S → Option (Unit × dm_S)
  | 0, _, _ => none
  | n + 1, a2, S =>
    bif tm_cs a2 || dm_ok S 5 a2 then dm_bi (e_T_strLen X N a2 S) (fun x2 S1 =>
    if ((Int8.ofInt (20)).toInt32) = 0 then none else (if (x2 - x2 / ((Int8.ofInt (20)).toInt32) * ((Int8.ofInt (20)).toInt32)) = 0 then
      el_T_put_37 X N N a2 (0 : Int32) S1
    else
      bif Nat.blt (dm_n S1 + 2000) dm_bg then (let S3 := dm_nw S1 (6, 12, 4) (fun j => if j = 0 then am_z (-1) else 0) 4
      bif tm_r4 S3 10 [.ref (dm_n S1)] then dm_bi (e_T_SBinit X N (dm_n S1) S3) (fun _ S4 =>
      bif dm_ok S4 6 (dm_n S1) then dm_bi (e_T_SBappS X N (dm_n S1) a2 S4) (fun b6 S5 =>
      bif dm_ok S5 6 b6 then dm_bi (e_T_SBappS X N b6 900 S5) (fun b8 S7 =>
      bif dm_ok S7 6 b8 then dm_bi (e_T_toStr X N b8 S7) (fun b10 S9 =>
      el_T_put_2 X N n b10 S9) else none) else none) else none) else none) else none)) else none
def e_T_put (X : tm_X) (N : Nat) (a1 : Nat) (S : dm_S) : Option (Unit × dm_S) :=
  el_T_put_2 X N N a1 S
def ec_T_put (X : tm_X) (N : Nat) : dm_Cl := fun _ as S kk => am_sa as (fun z w0 => bif Nat.beq z 0 then am_sa w0 (fun a1 w1 => am_st0 w1 (dm_bi (e_T_put X N a1 S) (fun v S => kk none S))) else none)
def dtT_put : List (Nat × Instr × Nat) := [(0, .aload_n 1, 1), (1, .astore_n 2, 1), (2, .aload_n 2, 1), (3, .invokevirtual 8, 3), (6, .bipush 20, 2), (8, .irem, 1), (9, .ifCond .eq 26, 3), (12, .new 14, 3), (15, .dup, 1), (16, .invokespecial 16, 3), (19, .aload_n 2, 1), (20, .invokevirtual 17, 3), (23, .ldc 21, 2), (25, .invokevirtual 17, 3), (28, .invokevirtual 23, 3), (31, .astore_n 2, 1), (32, .goto (-30), 3), (35, .iconst 0, 1), (36, .istore_n 3, 1), (37, .iload_n 3, 1), (38, .aload_n 2, 1), (39, .invokevirtual 8, 3), (42, .if_icmp .ge 84, 3), (45, .iconst 5, 1), (46, .newarray .int, 2), (48, .astore 4, 2), (50, .iconst 0, 1), (51, .istore 5, 2), (53, .iload 5, 2), (55, .bipush 20, 2), (57, .if_icmp .ge 38, 3), (60, .aload 4, 2), (62, .iload 5, 2), (64, .iconst 4, 1), (65, .idiv, 1), (66, .dup2, 1), (67, .iaload, 1), (68, .aload_n 2, 1), (69, .iload_n 3, 1), (70, .iload 5, 2), (72, .iadd, 1), (73, .invokevirtual 27, 3), (76, .bipush 24, 2), (78, .bipush 8, 2), (80, .iload 5, 2), (82, .iconst 4, 1), (83, .irem, 1), (84, .imul, 1), (85, .isub, 1), (86, .ishl, 1), (87, .ior, 1), (88, .iastore, 1), (89, .iinc 5 1, 3), (92, .goto (-39), 3), (95, .aload_n 0, 1), (96, .aload 4, 2), (98, .iconst 0, 1), (99, .iaload, 1), (100, .aload 4, 2), (102, .iconst 1, 1), (103, .iaload, 1), (104, .aload 4, 2), (106, .iconst 2, 1), (107, .iaload, 1), (108, .aload 4, 2), (110, .iconst 3, 1), (111, .iaload, 1), (112, .aload 4, 2), (114, .iconst 4, 1), (115, .iaload, 1), (116, .invokevirtual 31, 3), (119, .pop, 1), (120, .iinc 3 20, 3), (123, .goto (-86), 3), (126, .return_, 1)]
def eoC_T_put (X : tm_X) (N : Nat) : am_Orc := (am_oc 57 (c_X9_feed N) am_o0)
def eoD_T_put (X : tm_X) (N : Nat) : dm_Orc := (dm_oc 27 (ec_T_strLen X N) (dm_oc 10 (ec_T_SBinit X N) (dm_oc 12 (ec_T_SBappS X N) (dm_oc 33 (ec_T_toStr X N) (dm_oc 42 (ec_T_charAt X N) dm_o0)))))
set_option maxRecDepth 100000 in
theorem dtok_T_put : tm_tok 9 dtT_put := by
  unfold tm_tok
  decide +kernel
set_option maxHeartbeats 4000000 in
set_option maxRecDepth 100000 in
theorem em_T_put {l : Launch} {al : Nat → Nat} {dC : Nat → ClassId} {dI : Nat → Nat → Nat} {aC : Nat → ClassId} {aV : Nat → Nat} {x0 x1 : Nat} (hy : am_Hy l al) (hA : dm_Al al x0 x1) (X : tm_X) (N : Nat) (a1 : Nat) (S : dm_S) (r : (Unit × dm_S)) (hf : e_T_put X N a1 S = some r) : tm_Met l al dC dI aC aV x0 x1 X 9 [.ref 0, .ref a1] S (none) r.2 :=
  tm_met (tab := dtT_put) (oC := eoC_T_put X N) (oD := eoD_T_put X N) (ret := dm_rv') (g := r) (by decide) hA dtok_T_put (am_os1 (s_X9_feed hy N) am_os0) (tm_os1 (es_T_strLen hy hA X N) (tm_os1 (es_T_SBinit hy hA X N) (tm_os1 (es_T_SBappS hy hA X N) (tm_os1 (es_T_toStr hy hA X N) (tm_os1 (es_T_charAt hy hA X N) tm_os0))))) dm_rv'_inv (Nat.le_of_ble_eq_true rfl) (fun At cl wk => by
    have A53 : ∀ (K37 : Nat → Int32 → dm_S → Option (Unit × dm_S)), (∀ a2 : Nat, ∀ i3 : Int32, ∀ h, K37 a2 i3 h = some r → At 37 [(0, .ref 0), (2, .ref a2), (3, .int i3)] [] h) → ∀ n : Nat, ∀ a2 : Nat, ∀ i3 : Int32, ∀ a4 : Nat, ∀ i5 : Int32, ∀ h, el_T_put_53 X N K37 n a2 i3 a4 i5 h = some r → At 53 [(0, .ref 0), (2, .ref a2), (3, .int i3), (4, .ref a4), (5, .int i5)] [] h := by
      intro K37 hK37 n
      induction n with
      | zero => intro a2 i3 a4 i5 h hr; cases hr
      | succ n ih =>
        intro a2 i3 a4 i5 h hr
        exact cl (dm_C1 37 (fun ρ st S => am_lda ρ 0 (fun z => bif Nat.beq z 0 then am_lda ρ 2 (fun a2 => am_ldi ρ 3 (fun i3 => am_st0 st (K37 a2 i3 S))) else none)) (dm_C1 53 (fun ρ st S => am_lda ρ 0 (fun z => bif Nat.beq z 0 then am_lda ρ 2 (fun a2 => am_ldi ρ 3 (fun i3 => am_lda ρ 4 (fun a4 => am_ldi ρ 5 (fun i5 => am_st0 st (el_T_put_53 X N K37 n a2 i3 a4 i5 S))))) else none)) dm_C0)) (dm_u1 (fun ρ st S hc => by
        obtain ⟨z, m_a0, hc⟩ := am_lda_some hc
        obtain ⟨hz, hc⟩ := am_bif hc
        cases Nat.eq_of_beq_eq_true hz
        obtain ⟨a2, m_a2, hc⟩ := am_lda_some hc
        obtain ⟨i3, m_i3, hc⟩ := am_ldi_some hc
        obtain ⟨rfl, hc⟩ := am_st0_some hc
        exact wk 37 ρ [(0, .ref 0), (2, .ref a2), (3, .int i3)] _ S (am_m1 m_a0 (am_m1 m_a2 (am_m1 m_i3 am_m0))) (hK37 a2 i3 S hc)) (dm_u1 (fun ρ st S hc => by
        obtain ⟨z, m_a0, hc⟩ := am_lda_some hc
        obtain ⟨hz, hc⟩ := am_bif hc
        cases Nat.eq_of_beq_eq_true hz
        obtain ⟨a2, m_a2, hc⟩ := am_lda_some hc
        obtain ⟨i3, m_i3, hc⟩ := am_ldi_some hc
        obtain ⟨a4, m_a4, hc⟩ := am_lda_some hc
        obtain ⟨i5, m_i5, hc⟩ := am_ldi_some hc
        obtain ⟨rfl, hc⟩ := am_st0_some hc
        exact wk 53 ρ [(0, .ref 0), (2, .ref a2), (3, .int i3), (4, .ref a4), (5, .int i5)] _ S (am_m1 m_a0 (am_m1 m_a2 (am_m1 m_i3 (am_m1 m_a4 (am_m1 m_i5 am_m0))))) (ih a2 i3 a4 i5 S hc)) dm_u0)) 400 53 _ _ h hr
    have A37 : ∀ n : Nat, ∀ a2 : Nat, ∀ i3 : Int32, ∀ h, el_T_put_37 X N n a2 i3 h = some r → At 37 [(0, .ref 0), (2, .ref a2), (3, .int i3)] [] h := by
      intro n
      induction n with
      | zero => intro a2 i3 h hr; cases hr
      | succ n ih =>
        intro a2 i3 h hr
        exact cl (dm_C1 53 (fun ρ st S => am_lda ρ 0 (fun z => bif Nat.beq z 0 then am_lda ρ 2 (fun a2 => am_ldi ρ 3 (fun i3 => am_lda ρ 4 (fun a4 => am_ldi ρ 5 (fun i5 => am_st0 st (el_T_put_53 X N (el_T_put_37 X N n) N a2 i3 a4 i5 S))))) else none)) dm_C0) (dm_u1 (fun ρ st S hc => by
        obtain ⟨z, m_a0, hc⟩ := am_lda_some hc
        obtain ⟨hz, hc⟩ := am_bif hc
        cases Nat.eq_of_beq_eq_true hz
        obtain ⟨a2, m_a2, hc⟩ := am_lda_some hc
        obtain ⟨i3, m_i3, hc⟩ := am_ldi_some hc
        obtain ⟨a4, m_a4, hc⟩ := am_lda_some hc
        obtain ⟨i5, m_i5, hc⟩ := am_ldi_some hc
        obtain ⟨rfl, hc⟩ := am_st0_some hc
        exact wk 53 ρ [(0, .ref 0), (2, .ref a2), (3, .int i3), (4, .ref a4), (5, .int i5)] _ S (am_m1 m_a0 (am_m1 m_a2 (am_m1 m_i3 (am_m1 m_a4 (am_m1 m_i5 am_m0))))) (A53 (el_T_put_37 X N n) ih N a2 i3 a4 i5 S hc)) dm_u0) 400 37 _ _ h hr
    have A2 : ∀ n : Nat, ∀ a2 : Nat, ∀ h, el_T_put_2 X N n a2 h = some r → At 2 [(0, .ref 0), (2, .ref a2)] [] h := by
      intro n
      induction n with
      | zero => intro a2 h hr; cases hr
      | succ n ih =>
        intro a2 h hr
        exact cl (dm_C1 2 (fun ρ st S => am_lda ρ 0 (fun z => bif Nat.beq z 0 then am_lda ρ 2 (fun a2 => am_st0 st (el_T_put_2 X N n a2 S)) else none)) (dm_C1 37 (fun ρ st S => am_lda ρ 0 (fun z => bif Nat.beq z 0 then am_lda ρ 2 (fun a2 => am_ldi ρ 3 (fun i3 => am_st0 st (el_T_put_37 X N N a2 i3 S))) else none)) dm_C0)) (dm_u1 (fun ρ st S hc => by
        obtain ⟨z, m_a0, hc⟩ := am_lda_some hc
        obtain ⟨hz, hc⟩ := am_bif hc
        cases Nat.eq_of_beq_eq_true hz
        obtain ⟨a2, m_a2, hc⟩ := am_lda_some hc
        obtain ⟨rfl, hc⟩ := am_st0_some hc
        exact wk 2 ρ [(0, .ref 0), (2, .ref a2)] _ S (am_m1 m_a0 (am_m1 m_a2 am_m0)) (ih a2 S hc)) (dm_u1 (fun ρ st S hc => by
        obtain ⟨z, m_a0, hc⟩ := am_lda_some hc
        obtain ⟨hz, hc⟩ := am_bif hc
        cases Nat.eq_of_beq_eq_true hz
        obtain ⟨a2, m_a2, hc⟩ := am_lda_some hc
        obtain ⟨i3, m_i3, hc⟩ := am_ldi_some hc
        obtain ⟨rfl, hc⟩ := am_st0_some hc
        exact wk 37 ρ [(0, .ref 0), (2, .ref a2), (3, .int i3)] _ S (am_m1 m_a0 (am_m1 m_a2 (am_m1 m_i3 am_m0))) (A37 N a2 i3 S hc)) dm_u0)) 400 2 _ _ h hr
    exact cl (dm_C1 2 (fun ρ st S => am_lda ρ 0 (fun z => bif Nat.beq z 0 then am_lda ρ 2 (fun a2 => am_st0 st (el_T_put_2 X N N a2 S)) else none)) dm_C0) (dm_u1 (fun ρ st S hc => by
        obtain ⟨z, m_a0, hc⟩ := am_lda_some hc
        obtain ⟨hz, hc⟩ := am_bif hc
        cases Nat.eq_of_beq_eq_true hz
        obtain ⟨a2, m_a2, hc⟩ := am_lda_some hc
        obtain ⟨rfl, hc⟩ := am_st0_some hc
        exact wk 2 ρ [(0, .ref 0), (2, .ref a2)] _ S (am_m1 m_a0 (am_m1 m_a2 am_m0)) (A2 N a2 S hc)) dm_u0) 400 0 _ _ S hf)
theorem es_T_put {l : Launch} {al : Nat → Nat} {dC : Nat → ClassId} {dI : Nat → Nat → Nat} {aC : Nat → ClassId} {aV : Nat → Nat} {x0 x1 : Nat} (hy : am_Hy l al) (hA : dm_Al al x0 x1) (X : tm_X) (N : Nat) : tm_CS l al dC dI aC aV x0 x1 X 9 (ec_T_put X N) := by
  intro γ as S kk g hc0
  obtain ⟨z0, w0, e_0, hcz0⟩ := am_sa_some hc0
  obtain ⟨hz0, hc1⟩ := am_bif hcz0
  cases Nat.eq_of_beq_eq_true hz0
  obtain ⟨a1, w1, e_1, hc2⟩ := am_sa_some hc1
  obtain ⟨e_2, hc⟩ := am_st0_some hc2
  subst e_2
  subst e_1
  subst e_0
  obtain ⟨q, e1, e2⟩ := dm_bi_some hc
  exact ⟨_, _, em_T_put hy hA X N a1 S _ e1, e2⟩
