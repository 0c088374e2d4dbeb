def el_L_isSeen_186 (N : Nat) (K165 : Int32 → Nat → Int32 → Int32 → Int32 → dm_S → Option (Int32 × dm_S)) : Nat → Int32 → Nat → Int32 → Int32 → Int32 → Int32 → Int32 → dm_S → Option (Int32 × dm_S)
  | 0, _, _, _, _, _, _, _, _ => none
  | n + 1, i1, a3, i5, i6, i7, i8, i9, S =>
    am_bt (f_X9_user N i1 (0 : Int32) (dm_h S)) (fun _ => none) (fun x3 S2 =>
    let S1 := dm_sh S S2
    (if x3 ≤ i9 then
      am_bi (f_X9_outputAt N i6 (dm_h S1)) (fun x6 S5 =>
      let S4 := dm_sh S1 S5
      (if x6 = (10 : Int32) then
        K165 i1 a3 i5 (i6 + (1 : Int32)) (i7 + (1 : Int32)) S4
      else
        if (0 : Int32) &&& 1 = (0 : Int32) then some ((0 : Int32), S4) else none))
    else
      bif dm_ok S1 1 a3 then (if (dm_g S1 a3 5) ≤ i8 then
        bif dm_ok S1 1 a3 then bif dm_ok S1 1 a3 then (if dm_g S1 a3 0 < 0 then none else
        bif dm_ok S1 2 ((dm_g S1 a3 0).toNatClampNeg) || dm_ok S1 3 ((dm_g S1 a3 0).toNatClampNeg) then (if (Int32.ofNat (dm_len S1 ((dm_g S1 a3 0).toNatClampNeg))) ≤ (i8 - (dm_g S1 a3 5)) then
          if (0 : Int32) < 0 then none else bif Nat.ble (0 : Int32).toNatClampNeg 100000 then (let S7 := dm_nw S1 (2, 0, (0 : Int32).toNatClampNeg) (fun _ => 0) (0 : Int32).toNatClampNeg
          bif dm_ok S7 2 (dm_n S1) || dm_ok S7 3 (dm_n S1) then (if (Int32.ofNat (dm_len S7 (dm_n S1))) ≤ i9 then
            am_bt (f_X9_shown N i1 i7 i9 (dm_h S7)) (fun _ => none) (fun x10 S9 =>
            let S8 := dm_sh S7 S9
            (if x10 = (27 : Int32) then
              am_bi (f_X9_outputAt N i6 (dm_h S8)) (fun x13 S12 =>
              let S11 := dm_sh S8 S12
              (if (27 : Int32) = (27 : Int32) then
                (if x13 = (32 : Int32) then
                  el_L_isSeen_186 N K165 n i1 a3 i5 (i6 + (1 : Int32)) i7 i8 (i9 + (1 : Int32)) S11
                else
                  if (0 : Int32) &&& 1 = (0 : Int32) then some ((0 : Int32), S11) else none)
              else
                (if x13 = ((96 : Int32) + (27 : Int32)) then
                  el_L_isSeen_186 N K165 n i1 a3 i5 (i6 + (1 : Int32)) i7 i8 (i9 + (1 : Int32)) S11
                else
                  if (0 : Int32) &&& 1 = (0 : Int32) then some ((0 : Int32), S11) else none)))
            else
              if (0 : Int32) &&& 1 = (0 : Int32) then some ((0 : Int32), S8) else none))
          else
            bif dm_ok S7 2 (dm_n S1) && am_in i9 (dm_len S7 (dm_n S1)) then am_bt (f_X9_shown N i1 i7 i9 (dm_h S7)) (fun _ => none) (fun x16 S15 =>
            let S14 := dm_sh S7 S15
            (if x16 = (dm_g S7 (dm_n S1) i9.toNatClampNeg) then
              am_bi (f_X9_outputAt N i6 (dm_h S14)) (fun x19 S18 =>
              let S17 := dm_sh S14 S18
              (if (dm_g S7 (dm_n S1) i9.toNatClampNeg) = (27 : Int32) then
                (if x19 = (32 : Int32) then
                  el_L_isSeen_186 N K165 n i1 a3 i5 (i6 + (1 : Int32)) i7 i8 (i9 + (1 : Int32)) S17
                else
                  if (0 : Int32) &&& 1 = (0 : Int32) then some ((0 : Int32), S17) else none)
              else
                (if x19 = ((96 : Int32) + (dm_g S7 (dm_n S1) i9.toNatClampNeg)) then
                  el_L_isSeen_186 N K165 n i1 a3 i5 (i6 + (1 : Int32)) i7 i8 (i9 + (1 : Int32)) S17
                else
                  if (0 : Int32) &&& 1 = (0 : Int32) then some ((0 : Int32), S17) else none)))
            else
              if (0 : Int32) &&& 1 = (0 : Int32) then some ((0 : Int32), S14) else none)) else none) else none) else none
        else
          bif dm_ok S1 1 a3 then (if dm_g S1 a3 0 < 0 then none else
          bif dm_ok S1 1 a3 then bif dm_ok S1 3 ((dm_g S1 a3 0).toNatClampNeg) && am_in (i8 - (dm_g S1 a3 5)) (dm_len S1 ((dm_g S1 a3 0).toNatClampNeg)) then (if dm_g S1 ((dm_g S1 a3 0).toNatClampNeg) (i8 - (dm_g S1 a3 5)).toNatClampNeg < 0 then none else
          bif dm_ok S1 2 ((dm_g S1 ((dm_g S1 a3 0).toNatClampNeg) (i8 - (dm_g S1 a3 5)).toNatClampNeg).toNatClampNeg) || dm_ok S1 3 ((dm_g S1 ((dm_g S1 a3 0).toNatClampNeg) (i8 - (dm_g S1 a3 5)).toNatClampNeg).toNatClampNeg) then (if (Int32.ofNat (dm_len S1 ((dm_g S1 ((dm_g S1 a3 0).toNatClampNeg) (i8 - (dm_g S1 a3 5)).toNatClampNeg).toNatClampNeg))) ≤ i9 then
            am_bt (f_X9_shown N i1 i7 i9 (dm_h S1)) (fun _ => none) (fun x22 S21 =>
            let S20 := dm_sh S1 S21
            (if x22 = (27 : Int32) then
              am_bi (f_X9_outputAt N i6 (dm_h S20)) (fun x25 S24 =>
              let S23 := dm_sh S20 S24
              (if (27 : Int32) = (27 : Int32) then
                (if x25 = (32 : Int32) then
                  el_L_isSeen_186 N K165 n i1 a3 i5 (i6 + (1 : Int32)) i7 i8 (i9 + (1 : Int32)) S23
                else
                  if (0 : Int32) &&& 1 = (0 : Int32) then some ((0 : Int32), S23) else none)
              else
                (if x25 = ((96 : Int32) + (27 : Int32)) then
                  el_L_isSeen_186 N K165 n i1 a3 i5 (i6 + (1 : Int32)) i7 i8 (i9 + (1 : Int32)) S23
                else
                  if (0 : Int32) &&& 1 = (0 : Int32) then some ((0 : Int32), S23) else none)))
            else
              if (0 : Int32) &&& 1 = (0 : Int32) then some ((0 : Int32), S20) else none))
          else
            bif dm_ok S1 2 ((dm_g S1 ((dm_g S1 a3 0).toNatClampNeg) (i8 - (dm_g S1 a3 5)).toNatClampNeg).toNatClampNeg) && am_in i9 (dm_len S1 ((dm_g S1 ((dm_g S1 a3 0).toNatClampNeg) (i8 - (dm_g S1 a3 5)).toNatClampNeg).toNatClampNeg)) then am_bt (f_X9_shown N i1 i7 i9 (dm_h S1)) (fun _ => none) (fun x28 S27 =>
            let S26 := dm_sh S1 S27
            (if x28 = (dm_g S1 ((dm_g S1 ((dm_g S1 a3 0).toNatClampNeg) (i8 - (dm_g S1 a3 5)).toNatClampNeg).toNatClampNeg) i9.toNatClampNeg) then
              am_bi (f_X9_outputAt N i6 (dm_h S26)) (fun x31 S30 =>
              let S29 := dm_sh S26 S30
              (if (dm_g S1 ((dm_g S1 ((dm_g S1 a3 0).toNatClampNeg) (i8 - (dm_g S1 a3 5)).toNatClampNeg).toNatClampNeg) i9.toNatClampNeg) = (27 : Int32) then
                (if x31 = (32 : Int32) then
                  el_L_isSeen_186 N K165 n i1 a3 i5 (i6 + (1 : Int32)) i7 i8 (i9 + (1 : Int32)) S29
                else
                  if (0 : Int32) &&& 1 = (0 : Int32) then some ((0 : Int32), S29) else none)
              else
                (if x31 = ((96 : Int32) + (dm_g S1 ((dm_g S1 ((dm_g S1 a3 0).toNatClampNeg) (i8 - (dm_g S1 a3 5)).toNatClampNeg).toNatClampNeg) i9.toNatClampNeg)) then
                  el_L_isSeen_186 N K165 n i1 a3 i5 (i6 + (1 : Int32)) i7 i8 (i9 + (1 : Int32)) S29
                else
                  if (0 : Int32) &&& 1 = (0 : Int32) then some ((0 : Int32), S29) else none)))
            else
              if (0 : Int32) &&& 1 = (0 : Int32) then some ((0 : Int32), S26) else none)) else none) else none) else none else none) else none) else none) else none else none
      else
        bif dm_ok S1 1 a3 then (if dm_g S1 a3 4 < 0 then none else
        bif dm_ok S1 3 ((dm_g S1 a3 4).toNatClampNeg) && am_in i8 (dm_len S1 ((dm_g S1 a3 4).toNatClampNeg)) then (if dm_g S1 ((dm_g S1 a3 4).toNatClampNeg) i8.toNatClampNeg < 0 then none else
        bif dm_ok S1 2 ((dm_g S1 ((dm_g S1 a3 4).toNatClampNeg) i8.toNatClampNeg).toNatClampNeg) || dm_ok S1 3 ((dm_g S1 ((dm_g S1 a3 4).toNatClampNeg) i8.toNatClampNeg).toNatClampNeg) then (if (Int32.ofNat (dm_len S1 ((dm_g S1 ((dm_g S1 a3 4).toNatClampNeg) i8.toNatClampNeg).toNatClampNeg))) ≤ i9 then
          am_bt (f_X9_shown N i1 i7 i9 (dm_h S1)) (fun _ => none) (fun x34 S33 =>
          let S32 := dm_sh S1 S33
          (if x34 = (27 : Int32) then
            am_bi (f_X9_outputAt N i6 (dm_h S32)) (fun x37 S36 =>
            let S35 := dm_sh S32 S36
            (if (27 : Int32) = (27 : Int32) then
              (if x37 = (32 : Int32) then
                el_L_isSeen_186 N K165 n i1 a3 i5 (i6 + (1 : Int32)) i7 i8 (i9 + (1 : Int32)) S35
              else
                if (0 : Int32) &&& 1 = (0 : Int32) then some ((0 : Int32), S35) else none)
            else
              (if x37 = ((96 : Int32) + (27 : Int32)) then
                el_L_isSeen_186 N K165 n i1 a3 i5 (i6 + (1 : Int32)) i7 i8 (i9 + (1 : Int32)) S35
              else
                if (0 : Int32) &&& 1 = (0 : Int32) then some ((0 : Int32), S35) else none)))
          else
            if (0 : Int32) &&& 1 = (0 : Int32) then some ((0 : Int32), S32) else none))
        else
          bif dm_ok S1 2 ((dm_g S1 ((dm_g S1 a3 4).toNatClampNeg) i8.toNatClampNeg).toNatClampNeg) && am_in i9 (dm_len S1 ((dm_g S1 ((dm_g S1 a3 4).toNatClampNeg) i8.toNatClampNeg).toNatClampNeg)) then am_bt (f_X9_shown N i1 i7 i9 (dm_h S1)) (fun _ => none) (fun x40 S39 =>
          let S38 := dm_sh S1 S39
          (if x40 = (dm_g S1 ((dm_g S1 ((dm_g S1 a3 4).toNatClampNeg) i8.toNatClampNeg).toNatClampNeg) i9.toNatClampNeg) then
            am_bi (f_X9_outputAt N i6 (dm_h S38)) (fun x43 S42 =>
            let S41 := dm_sh S38 S42
            (if (dm_g S1 ((dm_g S1 ((dm_g S1 a3 4).toNatClampNeg) i8.toNatClampNeg).toNatClampNeg) i9.toNatClampNeg) = (27 : Int32) then
              (if x43 = (32 : Int32) then
                el_L_isSeen_186 N K165 n i1 a3 i5 (i6 + (1 : Int32)) i7 i8 (i9 + (1 : Int32)) S41
              else
                if (0 : Int32) &&& 1 = (0 : Int32) then some ((0 : Int32), S41) else none)
            else
              (if x43 = ((96 : Int32) + (dm_g S1 ((dm_g S1 ((dm_g S1 a3 4).toNatClampNeg) i8.toNatClampNeg).toNatClampNeg) i9.toNatClampNeg)) then
                el_L_isSeen_186 N K165 n i1 a3 i5 (i6 + (1 : Int32)) i7 i8 (i9 + (1 : Int32)) S41
              else
                if (0 : Int32) &&& 1 = (0 : Int32) then some ((0 : Int32), S41) else none)))
          else
            if (0 : Int32) &&& 1 = (0 : Int32) then some ((0 : Int32), S38) else none)) else none) else none) else none) else none) else none))
def el_L_isSeen_165 (N : Nat) : Nat → Int32 → Nat → Int32 → Int32 → Int32 → dm_S → Option (Int32 × dm_S)
  | 0, _, _, _, _, _, _ => none
  | n + 1, i1, a3, i5, i6, i7, S =>
    am_bt (f_X9_user N i1 (1 : Int32) (dm_h S)) (fun _ => none) (fun x3 S2 =>
    let S1 := dm_sh S S2
    (if x3 ≤ i7 then
      am_bi (f_X9_outputAt N i6 (dm_h S1)) (fun x6 S5 =>
      let S4 := dm_sh S1 S5
      (if x6 = (-1 : Int32) then
        am_bt (f_X9_user N i1 (1 : Int32) (dm_h S4)) (fun _ => none) (fun x9 S8 =>
        let S7 := dm_sh S4 S8
        am_bt (f_X9_shown N i1 x9 (0 : Int32) (dm_h S7)) (fun _ => none) (fun x12 S11 =>
        let S10 := dm_sh S7 S11
        (if x12 = (-1 : Int32) then
          am_bt (f_X9_user N i1 (0 : Int32) (dm_h S10)) (fun _ => none) (fun x15 S14 =>
          let S13 := dm_sh S10 S14
          am_bt (f_X9_shown N i1 (0 : Int32) x15 (dm_h S13)) (fun _ => none) (fun x18 S17 =>
          let S16 := dm_sh S13 S17
          (if x18 = (-1 : Int32) then
            if (1 : Int32) &&& 1 = (1 : Int32) then some ((1 : Int32), S16) else none
          else
            if (0 : Int32) &&& 1 = (0 : Int32) then some ((0 : Int32), S16) else none)))
        else
          if (0 : Int32) &&& 1 = (0 : Int32) then some ((0 : Int32), S10) else none)))
      else
        if (0 : Int32) &&& 1 = (0 : Int32) then some ((0 : Int32), S4) else none))
    else
      el_L_isSeen_186 N (el_L_isSeen_165 N n) N i1 a3 i5 i6 i7 (i5 + i7) (0 : Int32) S1))
def e_L_isSeen (N : Nat) (i1 : Int32) (S : dm_S) : Option (Int32 × dm_S) :=
  am_bt (f_X9_user N i1 (3 : Int32) (dm_h S)) (fun _ => none) (fun x3 S2 =>
  let S1 := dm_sh S S2
  (if 0 ≤ x3 then
    am_bt (f_X9_user N i1 (4 : Int32) (dm_h S1)) (fun _ => none) (fun x6 S5 =>
    let S4 := dm_sh S1 S5
    dm_bi (e_L_screen N x3 x6 S4) (fun b8 S7 =>
    bif dm_ok S7 1 b8 then bif dm_ok S7 1 b8 then am_bt (f_X9_user N i1 (5 : Int32) (dm_h S7)) (fun _ => none) (fun x11 S10 =>
    let S9 := dm_sh S7 S10
    am_bt (f_X9_user N i1 (1 : Int32) (dm_h S9)) (fun _ => none) (fun x14 S13 =>
    let S12 := dm_sh S9 S13
    am_bt (f_X9_cursorRow N i1 (dm_h S12)) (fun _ => none) (fun x17 S16 =>
    let S15 := dm_sh S12 S16
    am_bt (f_X9_user N i1 (1 : Int32) (dm_h S15)) (fun _ => none) (fun x20 S19 =>
    let S18 := dm_sh S15 S19
    (if x20 ≤ (((dm_g S7 b8 5) + (dm_g S7 b8 1)) - (if (0 : Int32) < (((((dm_g S7 b8 5) + (dm_g S7 b8 1)) - x11) - x14) + (1 : Int32)) then ((((dm_g S7 b8 5) + (dm_g S7 b8 1)) - x11) - x14) + (1 : Int32) else (0 : Int32))) then
      (if x17 = (-1 : Int32) then
        am_bt (f_X9_write N i1 (dm_h S18)) (fun _ => none) (fun x23 S22 =>
        let S21 := dm_sh S18 S22
        am_bt (f_X9_user N i1 (1 : Int32) (dm_h S21)) (fun _ => none) (fun x26 S25 =>
        let S24 := dm_sh S21 S25
        am_bt (f_X9_user N i1 (0 : Int32) (dm_h S24)) (fun _ => none) (fun x29 S28 =>
        let S27 := dm_sh S24 S28
        (if x23 = (x26 * (x29 + (1 : Int32))) then
          el_L_isSeen_165 N N i1 b8 (if (0 : Int32) < (((((dm_g S7 b8 5) + (dm_g S7 b8 1)) - x11) - x14) + (1 : Int32)) then ((((dm_g S7 b8 5) + (dm_g S7 b8 1)) - x11) - x14) + (1 : Int32) else (0 : Int32)) (0 : Int32) (0 : Int32) S27
        else
          if (0 : Int32) &&& 1 = (0 : Int32) then some ((0 : Int32), S27) else none))))
      else
        if (0 : Int32) &&& 1 = (0 : Int32) then some ((0 : Int32), S18) else none)
    else
      (if x17 = (((dm_g S7 b8 5) + (dm_g S7 b8 1)) - (if (0 : Int32) < (((((dm_g S7 b8 5) + (dm_g S7 b8 1)) - x11) - x14) + (1 : Int32)) then ((((dm_g S7 b8 5) + (dm_g S7 b8 1)) - x11) - x14) + (1 : Int32) else (0 : Int32))) then
        am_bt (f_X9_write N i1 (dm_h S18)) (fun _ => none) (fun x32 S31 =>
        let S30 := dm_sh S18 S31
        am_bt (f_X9_user N i1 (1 : Int32) (dm_h S30)) (fun _ => none) (fun x35 S34 =>
        let S33 := dm_sh S30 S34
        am_bt (f_X9_user N i1 (0 : Int32) (dm_h S33)) (fun _ => none) (fun x38 S37 =>
        let S36 := dm_sh S33 S37
        (if x32 = (x35 * (x38 + (1 : Int32))) then
          el_L_isSeen_165 N N i1 b8 (if (0 : Int32) < (((((dm_g S7 b8 5) + (dm_g S7 b8 1)) - x11) - x14) + (1 : Int32)) then ((((dm_g S7 b8 5) + (dm_g S7 b8 1)) - x11) - x14) + (1 : Int32) else (0 : Int32)) (0 : Int32) (0 : Int32) S36
        else
          if (0 : Int32) &&& 1 = (0 : Int32) then some ((0 : Int32), S36) else none))))
      else
        if (0 : Int32) &&& 1 = (0 : Int32) then some ((0 : Int32), S18) else none)))))) else none else none))
  else
    am_bt (f_X9_shown N i1 (0 : Int32) (0 : Int32) (dm_h S1)) (fun _ => none) (fun x41 S40 =>
    let S39 := dm_sh S1 S40
    (if x41 = (-1 : Int32) then
      am_bt (f_X9_cursorRow N i1 (dm_h S39)) (fun _ => none) (fun x44 S43 =>
      let S42 := dm_sh S39 S43
      (if x44 = (-1 : Int32) then
        am_bt (f_X9_write N i1 (dm_h S42)) (fun _ => none) (fun x47 S46 =>
        let S45 := dm_sh S42 S46
        (if x47 = 0 then
          am_bt (f_X9_user N i1 (2 : Int32) (dm_h S45)) (fun _ => none) (fun x50 S49 =>
          let S48 := dm_sh S45 S49
          (if x50 = 0 then
            if (1 : Int32) &&& 1 = (1 : Int32) then some ((1 : Int32), S48) else none
          else
            if (0 : Int32) &&& 1 = (0 : Int32) then some ((0 : Int32), S48) else none))
        else
          if (0 : Int32) &&& 1 = (0 : Int32) then some ((0 : Int32), S45) else none))
      else
        if (0 : Int32) &&& 1 = (0 : Int32) then some ((0 : Int32), S42) else none))
    else
      if (0 : Int32) &&& 1 = (0 : Int32) then some ((0 : Int32), S39) else none))))
def ec_L_isSeen (N : Nat) : dm_Cl := fun _ as S kk => am_sa as (fun z w0 => bif Nat.beq z 0 then am_s1 w0 (fun i1 w1 => am_st0 w1 (dm_bi (e_L_isSeen N i1 S) (fun v S => kk (some (.int v)) S))) else none)
def dtL_isSeen : List (Nat × Instr × Nat) := [(0, .aload_n 0, 1), (1, .iload_n 1, 1), (2, .iconst 3, 1), (3, .invokevirtual 105, 3), (6, .istore_n 2, 1), (7, .iload_n 2, 1), (8, .ifCond .ge 46, 3), (11, .aload_n 0, 1), (12, .iload_n 1, 1), (13, .iconst 0, 1), (14, .iconst 0, 1), (15, .invokevirtual 209, 3), (18, .iconst (-1), 1), (19, .if_icmp .ne 33, 3), (22, .aload_n 0, 1), (23, .iload_n 1, 1), (24, .invokevirtual 212, 3), (27, .iconst (-1), 1), (28, .if_icmp .ne 24, 3), (31, .aload_n 0, 1), (32, .iload_n 1, 1), (33, .invokevirtual 215, 3), (36, .ifCond .ne 16, 3), (39, .aload_n 0, 1), (40, .iload_n 1, 1), (41, .iconst 2, 1), (42, .invokevirtual 105, 3), (45, .ifCond .ne 7, 3), (48, .iconst 1, 1), (49, .goto 4, 3), (52, .iconst 0, 1), (53, .ireturn, 1), (54, .aload_n 0, 1), (55, .iload_n 2, 1), (56, .aload_n 0, 1), (57, .iload_n 1, 1), (58, .iconst 4, 1), (59, .invokevirtual 105, 3), (62, .invokestatic 176, 3), (65, .astore_n 3, 1), (66, .aload_n 3, 1), (67, .getfield 192, 3), (70, .aload_n 3, 1), (71, .getfield 186, 3), (74, .iadd, 1), (75, .istore 4, 2), (77, .iconst 0, 1), (78, .iload 4, 2), (80, .aload_n 0, 1), (81, .iload_n 1, 1), (82, .iconst 5, 1), (83, .invokevirtual 105, 3), (86, .isub, 1), (87, .aload_n 0, 1), (88, .iload_n 1, 1), (89, .iconst 1, 1), (90, .invokevirtual 105, 3), (93, .isub, 1), (94, .iconst 1, 1), (95, .iadd, 1), (96, .invokestatic 218, 3), (99, .istore 5, 2), (101, .aload_n 0, 1), (102, .iload_n 1, 1), (103, .invokevirtual 212, 3), (106, .iload 4, 2), (108, .iload 5, 2), (110, .isub, 1), (111, .aload_n 0, 1), (112, .iload_n 1, 1), (113, .iconst 1, 1), (114, .invokevirtual 105, 3), (117, .if_icmp .ge 11, 3), (120, .iload 4, 2), (122, .iload 5, 2), (124, .isub, 1), (125, .goto 4, 3), (128, .iconst (-1), 1), (129, .if_icmp .eq 5, 3), (132, .iconst 0, 1), (133, .ireturn, 1), (134, .iconst 0, 1), (135, .istore 6, 2), (137, .aload_n 0, 1), (138, .iload_n 1, 1), (139, .invokevirtual 215, 3), (142, .aload_n 0, 1), (143, .iload_n 1, 1), (144, .iconst 1, 1), (145, .invokevirtual 105, 3), (148, .aload_n 0, 1), (149, .iload_n 1, 1), (150, .iconst 0, 1), (151, .invokevirtual 105, 3), (154, .iconst 1, 1), (155, .iadd, 1), (156, .imul, 1), (157, .if_icmp .eq 5, 3), (160, .iconst 0, 1), (161, .ireturn, 1), (162, .iconst 0, 1), (163, .istore 7, 2), (165, .iload 7, 2), (167, .aload_n 0, 1), (168, .iload_n 1, 1), (169, .iconst 1, 1), (170, .invokevirtual 105, 3), (173, .if_icmp .ge 171, 3), (176, .iload 5, 2), (178, .iload 7, 2), (180, .iadd, 1), (181, .istore 8, 2), (183, .iconst 0, 1), (184, .istore 9, 2), (186, .iload 9, 2), (188, .aload_n 0, 1), (189, .iload_n 1, 1), (190, .iconst 0, 1), (191, .invokevirtual 105, 3), (194, .if_icmp .ge 128, 3), (197, .iload 8, 2), (199, .aload_n 3, 1), (200, .getfield 192, 3), (203, .if_icmp .ge 13, 3), (206, .aload_n 3, 1), (207, .getfield 202, 3), (210, .iload 8, 2), (212, .aaload, 1), (213, .goto 36, 3), (216, .iload 8, 2), (218, .aload_n 3, 1), (219, .getfield 192, 3), (222, .isub, 1), (223, .aload_n 3, 1), (224, .getfield 182, 3), (227, .arraylength, 1), (228, .if_icmp .ge 18, 3), (231, .aload_n 3, 1), (232, .getfield 182, 3), (235, .iload 8, 2), (237, .aload_n 3, 1), (238, .getfield 192, 3), (241, .isub, 1), (242, .aaload, 1), (243, .goto 6, 3), (246, .iconst 0, 1), (247, .newarray .int, 2), (249, .astore 10, 2), (251, .iload 9, 2), (253, .aload 10, 2), (255, .arraylength, 1), (256, .if_icmp .ge 11, 3), (259, .aload 10, 2), (261, .iload 9, 2), (263, .iaload, 1), (264, .goto 5, 3), (267, .bipush 27, 2), (269, .istore 11, 2), (271, .aload_n 0, 1), (272, .iload_n 1, 1), (273, .iload 7, 2), (275, .iload 9, 2), (277, .invokevirtual 209, 3), (280, .iload 11, 2), (282, .if_icmp .ne 32, 3), (285, .aload_n 0, 1), (286, .iload 6, 2), (288, .iinc 6 1, 3), (291, .invokevirtual 223, 3), (294, .iload 11, 2), (296, .bipush 27, 2), (298, .if_icmp .ne 8, 3), (301, .bipush 32, 2), (303, .goto 8, 3), (306, .bipush 96, 2), (308, .iload 11, 2), (310, .iadd, 1), (311, .if_icmp .eq 5, 3), (314, .iconst 0, 1), (315, .ireturn, 1), (316, .iinc 9 1, 3), (319, .goto (-133), 3), (322, .aload_n 0, 1), (323, .iload 6, 2), (325, .iinc 6 1, 3), (328, .invokevirtual 223, 3), (331, .bipush 10, 2), (333, .if_icmp .eq 5, 3), (336, .iconst 0, 1), (337, .ireturn, 1), (338, .iinc 7 1, 3), (341, .goto (-176), 3), (344, .aload_n 0, 1), (345, .iload 6, 2), (347, .invokevirtual 223, 3), (350, .iconst (-1), 1), (351, .if_icmp .ne 39, 3), (354, .aload_n 0, 1), (355, .iload_n 1, 1), (356, .aload_n 0, 1), (357, .iload_n 1, 1), (358, .iconst 1, 1), (359, .invokevirtual 105, 3), (362, .iconst 0, 1), (363, .invokevirtual 209, 3), (366, .iconst (-1), 1), (367, .if_icmp .ne 23, 3), (370, .aload_n 0, 1), (371, .iload_n 1, 1), (372, .iconst 0, 1), (373, .aload_n 0, 1), (374, .iload_n 1, 1), (375, .iconst 0, 1), (376, .invokevirtual 105, 3), (379, .invokevirtual 209, 3), (382, .iconst (-1), 1), (383, .if_icmp .ne 7, 3), (386, .iconst 1, 1), (387, .goto 4, 3), (390, .iconst 0, 1), (391, .ireturn, 1)]
def eoC_L_isSeen (N : Nat) : am_Orc := (am_oc 65 (c_X9_user N) (am_oc 66 (c_X9_shown N) (am_oc 67 (c_X9_cursorRow N) (am_oc 83 (c_X9_write N) (am_oc 84 (c_X9_outputAt N) am_o0)))))
def eoD_L_isSeen (N : Nat) : dm_Orc := (dm_oc 6 (ec_L_screen N) dm_o0)
set_option maxRecDepth 100000 in
theorem dtok_L_isSeen : dm_tok 8 dtL_isSeen := by
  unfold dm_tok
  decide +kernel
set_option maxHeartbeats 4000000 in
set_option maxRecDepth 100000 in
theorem em_L_isSeen {l : Launch} {al : Nat → Nat} {dC : Nat → ClassId} {dI : Nat → Nat → Nat} {aC : Nat → ClassId} {aV : Nat → Nat} {x0 x1 : Nat} (hy : am_Hy l al) (hA : dm_Al al x0 x1) (N : Nat) (i1 : Int32) (S : dm_S) (r : (Int32 × dm_S)) (hf : e_L_isSeen N i1 S = some r) : dm_Met l al dC dI aC aV x0 x1 8 [.ref 0, .int i1] S (some (.int r.1)) r.2 :=
  dm_met (tab := dtL_isSeen) (oC := eoC_L_isSeen N) (oD := eoD_L_isSeen N) (ret := dm_ri) (g := r) (by decide) hA dtok_L_isSeen (am_os1 (s_X9_user hy N) (am_os1 (s_X9_shown hy N) (am_os1 (s_X9_cursorRow hy N) (am_os1 (s_X9_write hy N) (am_os1 (s_X9_outputAt hy N) am_os0))))) (dm_os1 (es_L_screen hy hA N) dm_os0) dm_ri_inv (Nat.le_of_ble_eq_true rfl) (fun At cl wk => by
    have A186 : ∀ (K165 : Int32 → Nat → Int32 → Int32 → Int32 → dm_S → Option (Int32 × dm_S)), (∀ i1 : Int32, ∀ a3 : Nat, ∀ i5 : Int32, ∀ i6 : Int32, ∀ i7 : Int32, ∀ h, K165 i1 a3 i5 i6 i7 h = some r → At 165 [(0, .ref 0), (1, .int i1), (3, .ref a3), (5, .int i5), (6, .int i6), (7, .int i7)] [] h) → ∀ n : Nat, ∀ i1 : Int32, ∀ a3 : Nat, ∀ i5 : Int32, ∀ i6 : Int32, ∀ i7 : Int32, ∀ i8 : Int32, ∀ i9 : Int32, ∀ h, el_L_isSeen_186 N K165 n i1 a3 i5 i6 i7 i8 i9 h = some r → At 186 [(0, .ref 0), (1, .int i1), (3, .ref a3), (5, .int i5), (6, .int i6), (7, .int i7), (8, .int i8), (9, .int i9)] [] h := by
      intro K165 hK165 n
      induction n with
      | zero => intro i1 a3 i5 i6 i7 i8 i9 h hr; cases hr
      | succ n ih =>
        intro i1 a3 i5 i6 i7 i8 i9 h hr
        exact cl (dm_C1 165 (fun ρ st S => am_lda ρ 0 (fun z => bif Nat.beq z 0 then am_ldi ρ 1 (fun i1 => am_lda ρ 3 (fun a3 => am_ldi ρ 5 (fun i5 => am_ldi ρ 6 (fun i6 => am_ldi ρ 7 (fun i7 => am_st0 st (K165 i1 a3 i5 i6 i7 S)))))) else none)) (dm_C1 186 (fun ρ st S => am_lda ρ 0 (fun z => bif Nat.beq z 0 then am_ldi ρ 1 (fun i1 => am_lda ρ 3 (fun a3 => am_ldi ρ 5 (fun i5 => am_ldi ρ 6 (fun i6 => am_ldi ρ 7 (fun i7 => am_ldi ρ 8 (fun i8 => am_ldi ρ 9 (fun i9 => am_st0 st (el_L_isSeen_186 N K165 n i1 a3 i5 i6 i7 i8 i9 S)))))))) else none)) dm_C0)) (dm_u1 (fun ρ st S hc => by
        obtain ⟨z, m_a0, hc⟩ := am_lda_some hc
        obtain ⟨hz, hc⟩ := am_bif hc
        cases Nat.eq_of_beq_eq_true hz
        obtain ⟨i1, m_i1, hc⟩ := am_ldi_some hc
        obtain ⟨a3, m_a3, hc⟩ := am_lda_some hc
        obtain ⟨i5, m_i5, hc⟩ := am_ldi_some hc
        obtain ⟨i6, m_i6, hc⟩ := am_ldi_some hc
        obtain ⟨i7, m_i7, hc⟩ := am_ldi_some hc
        obtain ⟨rfl, hc⟩ := am_st0_some hc
        exact wk 165 ρ [(0, .ref 0), (1, .int i1), (3, .ref a3), (5, .int i5), (6, .int i6), (7, .int i7)] _ S (am_m1 m_a0 (am_m1 m_i1 (am_m1 m_a3 (am_m1 m_i5 (am_m1 m_i6 (am_m1 m_i7 am_m0)))))) (hK165 i1 a3 i5 i6 i7 S hc)) (dm_u1 (fun ρ st S hc => by
        obtain ⟨z, m_a0, hc⟩ := am_lda_some hc
        obtain ⟨hz, hc⟩ := am_bif hc
        cases Nat.eq_of_beq_eq_true hz
        obtain ⟨i1, m_i1, hc⟩ := am_ldi_some hc
        obtain ⟨a3, m_a3, hc⟩ := am_lda_some hc
        obtain ⟨i5, m_i5, hc⟩ := am_ldi_some hc
        obtain ⟨i6, m_i6, hc⟩ := am_ldi_some hc
        obtain ⟨i7, m_i7, hc⟩ := am_ldi_some hc
        obtain ⟨i8, m_i8, hc⟩ := am_ldi_some hc
        obtain ⟨i9, m_i9, hc⟩ := am_ldi_some hc
        obtain ⟨rfl, hc⟩ := am_st0_some hc
        exact wk 186 ρ [(0, .ref 0), (1, .int i1), (3, .ref a3), (5, .int i5), (6, .int i6), (7, .int i7), (8, .int i8), (9, .int i9)] _ S (am_m1 m_a0 (am_m1 m_i1 (am_m1 m_a3 (am_m1 m_i5 (am_m1 m_i6 (am_m1 m_i7 (am_m1 m_i8 (am_m1 m_i9 am_m0)))))))) (ih i1 a3 i5 i6 i7 i8 i9 S hc)) dm_u0)) 400 186 _ _ h hr
    have A165 : ∀ n : Nat, ∀ i1 : Int32, ∀ a3 : Nat, ∀ i5 : Int32, ∀ i6 : Int32, ∀ i7 : Int32, ∀ h, el_L_isSeen_165 N n i1 a3 i5 i6 i7 h = some r → At 165 [(0, .ref 0), (1, .int i1), (3, .ref a3), (5, .int i5), (6, .int i6), (7, .int i7)] [] h := by
      intro n
      induction n with
      | zero => intro i1 a3 i5 i6 i7 h hr; cases hr
      | succ n ih =>
        intro i1 a3 i5 i6 i7 h hr
        exact cl (dm_C1 186 (fun ρ st S => am_lda ρ 0 (fun z => bif Nat.beq z 0 then am_ldi ρ 1 (fun i1 => am_lda ρ 3 (fun a3 => am_ldi ρ 5 (fun i5 => am_ldi ρ 6 (fun i6 => am_ldi ρ 7 (fun i7 => am_ldi ρ 8 (fun i8 => am_ldi ρ 9 (fun i9 => am_st0 st (el_L_isSeen_186 N (el_L_isSeen_165 N n) N i1 a3 i5 i6 i7 i8 i9 S)))))))) else none)) dm_C0) (dm_u1 (fun ρ st S hc => by
        obtain ⟨z, m_a0, hc⟩ := am_lda_some hc
        obtain ⟨hz, hc⟩ := am_bif hc
        cases Nat.eq_of_beq_eq_true hz
        obtain ⟨i1, m_i1, hc⟩ := am_ldi_some hc
        obtain ⟨a3, m_a3, hc⟩ := am_lda_some hc
        obtain ⟨i5, m_i5, hc⟩ := am_ldi_some hc
        obtain ⟨i6, m_i6, hc⟩ := am_ldi_some hc
        obtain ⟨i7, m_i7, hc⟩ := am_ldi_some hc
        obtain ⟨i8, m_i8, hc⟩ := am_ldi_some hc
        obtain ⟨i9, m_i9, hc⟩ := am_ldi_some hc
        obtain ⟨rfl, hc⟩ := am_st0_some hc
        exact wk 186 ρ [(0, .ref 0), (1, .int i1), (3, .ref a3), (5, .int i5), (6, .int i6), (7, .int i7), (8, .int i8), (9, .int i9)] _ S (am_m1 m_a0 (am_m1 m_i1 (am_m1 m_a3 (am_m1 m_i5 (am_m1 m_i6 (am_m1 m_i7 (am_m1 m_i8 (am_m1 m_i9 am_m0)))))))) (A186 (el_L_isSeen_165 N n) ih N i1 a3 i5 i6 i7 i8 i9 S hc)) dm_u0) 400 165 _ _ h hr
    exact cl (dm_C1 165 (fun ρ st S => am_lda ρ 0 (fun z => bif Nat.beq z 0 then am_ldi ρ 1 (fun i1 => am_lda ρ 3 (fun a3 => am_ldi ρ 5 (fun i5 => am_ldi ρ 6 (fun i6 => am_ldi ρ 7 (fun i7 => am_st0 st (el_L_isSeen_165 N N i1 a3 i5 i6 i7 S)))))) else none)) dm_C0) (dm_u1 (fun ρ st S hc => by
        obtain ⟨z, m_a0, hc⟩ := am_lda_some hc
        obtain ⟨hz, hc⟩ := am_bif hc
        cases Nat.eq_of_beq_eq_true hz
        obtain ⟨i1, m_i1, hc⟩ := am_ldi_some hc
        obtain ⟨a3, m_a3, hc⟩ := am_lda_some hc
        obtain ⟨i5, m_i5, hc⟩ := am_ldi_some hc
        obtain ⟨i6, m_i6, hc⟩ := am_ldi_some hc
        obtain ⟨i7, m_i7, hc⟩ := am_ldi_some hc
        obtain ⟨rfl, hc⟩ := am_st0_some hc
        exact wk 165 ρ [(0, .ref 0), (1, .int i1), (3, .ref a3), (5, .int i5), (6, .int i6), (7, .int i7)] _ S (am_m1 m_a0 (am_m1 m_i1 (am_m1 m_a3 (am_m1 m_i5 (am_m1 m_i6 (am_m1 m_i7 am_m0)))))) (A165 N i1 a3 i5 i6 i7 S hc)) dm_u0) 400 0 _ _ S hf)
theorem es_L_isSeen {l : Launch} {al : Nat → Nat} {dC : Nat → ClassId} {dI : Nat → Nat → Nat} {aC : Nat → ClassId} {aV : Nat → Nat} {x0 x1 : Nat} (hy : am_Hy l al) (hA : dm_Al al x0 x1) (N : Nat) : dm_CS l al dC dI aC aV x0 x1 8 (ec_L_isSeen N) := by
  intro γ as S kk g hc0
  obtain ⟨z0, w0, e_0, hcz0⟩ := am_sa_some hc0
  obtain ⟨hz0, hc1⟩ := am_bif hcz0
  cases Nat.eq_of_beq_eq_true hz0
  obtain ⟨i1, w1, e_1, hc2⟩ := am_s1_some hc1
  obtain ⟨e_2, hc⟩ := am_st0_some hc2
  subst e_2
  subst e_1
  subst e_0
  obtain ⟨q, e1, e2⟩ := dm_bi_some hc
  exact ⟨_, _, em_L_isSeen hy hA N i1 S _ e1, e2⟩
