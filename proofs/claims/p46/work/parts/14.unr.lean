def f_X2_takeBack (N : Nat) (a1 : Nat) (h : am_Hp) : Option (Unit × am_Hp) :=
  (if (h 39 2) ≤ 0 then
    some ((), h)
  else
    let h1 := am_pi h 39 2 ((h 39 2) - (1 : Int32))
    am_bi (f_J9_floorMod_7cf53 N ((h1 39 1) - (1 : Int32)) (8 : Int32) h1) (fun x3 h2 =>
    let h4 := am_pi h2 39 1 x3
    bif am_in (h4 39 1) 8 then (am_G 40 (h4 39 1).toNatClampNeg).bind (fun b5 => bif am_isO a1 6 then am_bi (f_X6_copyFrom N a1 b5 h4) (fun _ h6 =>
    some ((), h6)) else none) else none))
def l_X3_eventsTypedBy_5 (N : Nat) : Nat → Nat → Int32 → Int32 → Int32 → Int32 → am_Hp → Option (Int32 × am_Hp)
  | 0, _, _, _, _, _, _ => none
  | n + 1, a0, i1, i2, i3, i4, h =>
    (if i2 ≤ i4 then
      some (i3, h)
    else
      (if (300 : Int32) ≤ i4 then
        some (i3, h)
      else
        bif am_isO a0 3 then (am_G a0 0).bind (fun b1 => bif am_isA b1 && am_in (4 : Int32) (am_len b1) then (am_G b1 4).bind (fun b2 => bif am_in i4 (am_len b2) then (bif am_isI b2 then (if (h b2 i4.toNatClampNeg) = i1 then
          l_X3_eventsTypedBy_5 N n a0 i1 i2 (i3 + (1 : Int32)) (i4 + (1 : Int32)) h
        else
          l_X3_eventsTypedBy_5 N n a0 i1 i2 i3 (i4 + (1 : Int32)) h) else bif am_isF b2 then (if (am_sx b2 i4.toNatClampNeg) = i1 then
          l_X3_eventsTypedBy_5 N n a0 i1 i2 (i3 + (1 : Int32)) (i4 + (1 : Int32)) h
        else
          l_X3_eventsTypedBy_5 N n a0 i1 i2 i3 (i4 + (1 : Int32)) h) else none) else none) else none) else none))
def f_X3_eventsTypedBy (N : Nat) (a0 : Nat) (i1 : Int32) (i2 : Int32) (h : am_Hp) : Option (Int32 × am_Hp) :=
  l_X3_eventsTypedBy_5 N N a0 i1 i2 (0 : Int32) (0 : Int32) h
def l_X4_showsWordFrom_3 (N : Nat) : Nat → Nat → Int32 → Int32 → Int32 → Int32 → am_Hp → Option (Int32 × am_Hp)
  | 0, _, _, _, _, _, _ => none
  | n + 1, a0, i1, i2, i3, i4, h =>
    (if (6 : Int32) ≤ i4 then
      if (1 : Int32) &&& 1 = (1 : Int32) then some ((1 : Int32), h) else none
    else
      am_bi (f_X9_groupAt N i3 i4 h) (fun x2 h1 =>
      (if x2 = 0 then
        if (1 : Int32) &&& 1 = (1 : Int32) then some ((1 : Int32), h1) else none
      else
        bif am_isO a0 4 then am_bi (f_X4_symbolOnScreen N a0 i1 (i2 + i4) h1) (fun x4 h3 =>
        (if x4 = x2 then
          l_X4_showsWordFrom_3 N n a0 i1 i2 i3 (i4 + (1 : Int32)) h3
        else
          if (0 : Int32) &&& 1 = (0 : Int32) then some ((0 : Int32), h3) else none)) else none)))
def f_X4_showsWordFrom (N : Nat) (a0 : Nat) (i1 : Int32) (i2 : Int32) (i3 : Int32) (h : am_Hp) : Option (Int32 × am_Hp) :=
  l_X4_showsWordFrom_3 N N a0 i1 i2 i3 (0 : Int32) h
def l_X4_showsWord_12 (N : Nat) (K2 : Nat → Int32 → Int32 → am_Hp → Option (Int32 × am_Hp)) : Nat → Nat → Int32 → Int32 → Int32 → am_Hp → Option (Int32 × am_Hp)
  | 0, _, _, _, _, _ => none
  | n + 1, a0, i1, i2, i3, h =>
    bif am_isO a0 4 then (if (h a0 3) ≤ i3 then
      K2 a0 i1 (i2 + (1 : Int32)) h
    else
      bif am_isO a0 4 then am_bi (f_X4_showsWordFrom N a0 i2 i3 i1 h) (fun x2 h1 =>
      (if x2 = 0 then
        l_X4_showsWord_12 N K2 n a0 i1 i2 (i3 + (1 : Int32)) h1
      else
        if (1 : Int32) &&& 1 = (1 : Int32) then some ((1 : Int32), h1) else none)) else none) else none
def l_X4_showsWord_2 (N : Nat) : Nat → Nat → Int32 → Int32 → am_Hp → Option (Int32 × am_Hp)
  | 0, _, _, _, _ => none
  | n + 1, a0, i1, i2, h =>
    bif am_isO a0 4 then (if (h a0 4) ≤ i2 then
      if (0 : Int32) &&& 1 = (0 : Int32) then some ((0 : Int32), h) else none
    else
      l_X4_showsWord_12 N (l_X4_showsWord_2 N n) N a0 i1 i2 (0 : Int32) h) else none
def f_X4_showsWord (N : Nat) (a0 : Nat) (i1 : Int32) (h : am_Hp) : Option (Int32 × am_Hp) :=
  l_X4_showsWord_2 N N a0 i1 (0 : Int32) h
def f_X9_errorPosition (N : Nat)  (h : am_Hp) : Option (Int32 × am_Hp) :=
  some (h 0 2, h)
def f_X9_undoCount (N : Nat)  (h : am_Hp) : Option (Int32 × am_Hp) :=
  some (h 39 2, h)
def f_X9_named (N : Nat) (i1 : Int32) (i2 : Int32) (h : am_Hp) : Option (Int32 × am_Hp) :=
  (if i1 = 0 then
    am_bi (f_X8_indexOf N 15 i2 h) (fun x2 h1 =>
    some (x2, h1))
  else
    am_bi (f_X8_indexOf N 19 i2 h) (fun x4 h3 =>
    some (x4, h3)))
def f_X9_getSetting (N : Nat) (i1 : Int32) (h : am_Hp) : Option (Int32 × am_Hp) :=
  (if i1 < 0 then
    some ((-2 : Int32), h)
  else
    (if i1 < (2 : Int32) then
      bif am_in i1 2 then some (h 25 i1.toNatClampNeg, h) else none
    else
      some ((-2 : Int32), h)))
def l_X9_watchers_28 (N : Nat) : Nat → Int32 → Int32 → Int32 → Int32 → am_Hp → Option (Option Int32 × am_Hp)
  | 0, _, _, _, _, _ => none
  | n + 1, i1, i2, i3, i4, h =>
    (if (h 19 4) ≤ i4 then
      some (some i3, h)
    else
      am_bt (f_X9_seatOf N i4 h) (fun h1 => some (none, h1)) (fun b2 h1 => bif am_isO b2 5 then am_bi (f_X5_watches N b2 i1 i2 h1) (fun x4 h3 =>
      (if x4 = 0 then
        l_X9_watchers_28 N n i1 i2 i3 (i4 + (1 : Int32)) h3
      else
        l_X9_watchers_28 N n i1 i2 (i3 ||| ((1 : Int32) <<< (i4 &&& 31))) (i4 + (1 : Int32)) h3)) else none))
def f_X9_watchers (N : Nat) (i1 : Int32) (i2 : Int32) (h : am_Hp) : Option (Option Int32 × am_Hp) :=
  am_bt (f_X9_deskOf N i1 h) (fun h1 => some (none, h1)) (fun b2 h1 => (if i2 = (1 : Int32) then
    l_X9_watchers_28 N N i1 i2 (0 : Int32) (0 : Int32) h1
  else
    (if i2 = (2 : Int32) then
      l_X9_watchers_28 N N i1 i2 (0 : Int32) (0 : Int32) h1
    else
      (if i2 = (3 : Int32) then
        l_X9_watchers_28 N N i1 i2 (0 : Int32) (0 : Int32) h1
      else
        some (some (0 : Int32), h1)))))
def f_X9_rightSize (N : Nat) (i1 : Int32) (i2 : Int32) (h : am_Hp) : Option (Option Int32 × am_Hp) :=
  am_bt (f_X9_deskOf N i1 h) (fun h1 => some (none, h1)) (fun b2 h1 => am_bt (f_X9_sizeThatIsRight N i1 i2 h1) (fun h3 => some (none, h3)) (fun x4 h3 => some (some x4, h3)))
def f_X9_narrowest (N : Nat) (i1 : Int32) (i2 : Int32) (h : am_Hp) : Option (Option Int32 × am_Hp) :=
  am_bt (f_X9_deskOf N i1 h) (fun h1 => some (none, h1)) (fun b2 h1 => am_bt (f_X9_userWithLeastWindow N i1 i2 h1) (fun h3 => some (none, h3)) (fun x4 h3 => some (some x4, h3)))
def f_X9_whyNot (N : Nat) (i1 : Int32) (h : am_Hp) : Option (Option Int32 × am_Hp) :=
  am_bt (f_X9_seatOf N i1 h) (fun h1 => some (none, h1)) (fun b2 h1 => am_bt (f_X9_reasonNotToType N i1 b2 h1) (fun h3 => some (none, h3)) (fun x4 h3 => some (some x4, h3)))
def f_X9_grantedAt (N : Nat) (i1 : Int32) (h : am_Hp) : Option (Option Int32 × am_Hp) :=
  am_bt (f_X9_deskOf N i1 h) (fun h1 => some (none, h1)) (fun b2 h1 => bif am_isO b2 0 then (if (h1 b2 2) = (-1 : Int32) then
    some (some (-1 : Int32), h1)
  else
    bif am_isO b2 0 then bif am_in (0 : Int32) 2 then some (some (if ((h1 b2 3) + (h1 25 0)) < ((h1 24 0) + (1 : Int32)) then (h1 24 0) + (1 : Int32) else (h1 b2 3) + (h1 25 0)), h1) else none else none) else none)
def f_X9_reachedAt (N : Nat) (i1 : Int32) (i2 : Int32) (h : am_Hp) : Option (Option Int32 × am_Hp) :=
  am_bt (f_X9_seatOf N i1 h) (fun h1 => some (none, h1)) (fun b2 h1 => bif am_isO b2 5 then (if (h1 b2 2) = (3 : Int32) then
    bif am_isO b2 5 then (if i2 < (h1 b2 4) then
      some (some (-1 : Int32), h1)
    else
      bif am_isO b2 5 then am_bt (f_X9_deskOf N (h1 b2 3) h1) (fun h3 => some (none, h3)) (fun b4 h3 => bif am_isO b4 0 then (if i2 ≤ (h3 b4 0) then
        bif am_isO b2 5 then (if i2 = (h3 b2 4) then
          bif am_isO b2 5 then some (some (h3 b2 5), h3) else none
        else
          bif am_isO b2 5 then (if 0 < (h3 b2 6) then
            bif am_isO b2 5 then am_bt (f_X9_recordingOf N (h3 b2 3) h3) (fun h5 => some (none, h5)) (fun b6 h5 => bif am_isO b2 5 then bif am_isO b6 3 then am_bi (f_X3_timeBetween N b6 (h5 b2 4) (i2 - (1 : Int32)) h5) (fun x8 h7 =>
            bif am_isO b2 5 then bif am_isO b2 5 then bif am_isO b2 5 then if (h7 b2 6) = 0 then none else some (some ((h7 b2 5) + ((((x8 * (100 : Int32)) + (h7 b2 6)) - (1 : Int32)) / (h7 b2 6))), h7) else none else none else none) else none else none) else none
          else
            bif am_isO b2 5 then some (some (h3 b2 5), h3) else none) else none) else none
      else
        some (some (-1 : Int32), h3)) else none) else none) else none
  else
    some (some (-1 : Int32), h1)) else none)
def f_X9_behind (N : Nat) (i1 : Int32) (h : am_Hp) : Option (Option Int32 × am_Hp) :=
  am_bt (f_X9_seatOf N i1 h) (fun h1 => some (none, h1)) (fun b2 h1 => bif am_isO b2 5 then (if (h1 b2 2) = 0 then
    some (some (0 : Int32), h1)
  else
    bif am_isO b2 5 then am_bt (f_X9_deskOf N (h1 b2 3) h1) (fun h3 => some (none, h3)) (fun b4 h3 => bif am_isO b4 0 then am_bt (f_X9_positionOf N b2 h3) (fun h5 => some (none, h5)) (fun x6 h5 => some (some ((h3 b4 0) - x6), h5)) else none) else none) else none)
def l_X9_firstShowing_37 (N : Nat) : Nat → Int32 → Nat → Nat → Int32 → am_Hp → Option (Option Int32 × am_Hp)
  | 0, _, _, _, _, _ => none
  | n + 1, i2, a3, a4, i5, h =>
    bif am_isO a3 0 then (if (h a3 0) ≤ i5 then
      some (some (-1 : Int32), h)
    else
      am_bi (f_X4_play N 161 a4 i5 h) (fun _ h1 =>
      am_bi (f_X4_showsWord N 161 i2 h1) (fun x3 h2 =>
      (if x3 = 0 then
        l_X9_firstShowing_37 N n i2 a3 a4 (i5 + (1 : Int32)) h2
      else
        some (some (i5 + (1 : Int32)), h2))))) else none
def f_X9_firstShowing (N : Nat) (i1 : Int32) (i2 : Int32) (h : am_Hp) : Option (Option Int32 × am_Hp) :=
  am_bt (f_X9_deskOf N i1 h) (fun h1 => some (none, h1)) (fun b2 h1 => am_bi (f_X9_groupsIn N i2 (26 : Int32) h1) (fun x4 h3 =>
  (if x4 = 0 then
    some (some (-1 : Int32), h3)
  else
    am_bt (f_X9_draw N 161 i1 (0 : Int32) h3) (fun h5 => some (none, h5)) (fun _ h5 => am_bt (f_X9_recordingOf N i1 h5) (fun h6 => some (none, h6)) (fun b7 h6 => l_X9_firstShowing_37 N N i2 b2 b7 (0 : Int32) h6)))))
def l_X9_typedBy_10 (N : Nat) : Nat → Int32 → Int32 → Int32 → am_Hp → Option (Option Int32 × am_Hp)
  | 0, _, _, _, _ => none
  | n + 1, i1, i2, i3, h =>
    (if (h 15 4) ≤ i3 then
      some (some i2, h)
    else
      am_bt (f_X9_recordingOf N i3 h) (fun h1 => some (none, h1)) (fun b2 h1 => am_bt (f_X9_deskOf N i3 h1) (fun h3 => some (none, h3)) (fun b4 h3 => bif am_isO b4 0 then bif am_isO b2 3 then am_bi (f_X3_eventsTypedBy N b2 i1 (h3 b4 0) h3) (fun x6 h5 =>
      l_X9_typedBy_10 N n i1 (i2 + x6) (i3 + (1 : Int32)) h5) else none else none)))
def f_X9_typedBy (N : Nat) (i1 : Int32) (h : am_Hp) : Option (Option Int32 × am_Hp) :=
  am_bt (f_X9_seatOf N i1 h) (fun h1 => some (none, h1)) (fun b2 h1 => l_X9_typedBy_10 N N i1 (0 : Int32) (0 : Int32) h1)
def f_X9_account (N : Nat) (i1 : Int32) (h : am_Hp) : Option (Int32 × am_Hp) :=
  (if i1 < 0 then
    some ((-2 : Int32), h)
  else
    (if i1 < (4 : Int32) then
      bif am_in i1 4 then some (h 26 i1.toNatClampNeg, h) else none
    else
      some ((-2 : Int32), h)))
def f_X9_undo (N : Nat)  (h : am_Hp) : Option (Int32 × am_Hp) :=
  (if (h 39 2) = 0 then
    some ((-1 : Int32), h)
  else
    am_bi (f_X2_takeBack N 24 h) (fun _ h1 =>
    some (h1 39 2, h1)))
