def l_X10_shows_30 (N : Nat) (K2 : Int32 → Int32 → Int32 → am_Hp → Option (Int32 × am_Hp)) (K13 : Int32 → Int32 → Int32 → Int32 → am_Hp → Option (Int32 × am_Hp)) : Nat → Int32 → Int32 → Int32 → Int32 → Int32 → Int32 → am_Hp → Option (Int32 × am_Hp)
  | 0, _, _, _, _, _, _, _ => none
  | n + 1, i1, i2, i3, i4, i5, i6, h =>
    (if i2 ≤ i6 then
      (if i5 = 0 then
        K13 i1 i2 i3 (i4 + (1 : Int32)) h
      else
        if (1 : Int32) &&& 1 = (1 : Int32) then some ((1 : Int32), h) else none)
    else
      (if i5 = 0 then
        l_X10_shows_30 N K2 K13 n i1 i2 i3 i4 (0 : Int32) (i6 + (1 : Int32)) h
      else
        am_bi (f_X10_place N i3 (i4 + i6) h) (fun x2 h1 =>
        am_bi (f_X10_letterOf N i1 i6 h1) (fun x4 h3 =>
        (if x2 = x4 then
          l_X10_shows_30 N K2 K13 n i1 i2 i3 i4 (1 : Int32) (i6 + (1 : Int32)) h3
        else
          l_X10_shows_30 N K2 K13 n i1 i2 i3 i4 (0 : Int32) (i6 + (1 : Int32)) h3)))))
def l_X10_shows_13 (N : Nat) (K2 : Int32 → Int32 → Int32 → am_Hp → Option (Int32 × am_Hp)) : Nat → Int32 → Int32 → Int32 → Int32 → am_Hp → Option (Int32 × am_Hp)
  | 0, _, _, _, _, _ => none
  | n + 1, i1, i2, i3, i4, h =>
    (if (h 193 9) < (i4 + i2) then
      K2 i1 i2 (i3 + (1 : Int32)) h
    else
      l_X10_shows_30 N K2 (l_X10_shows_13 N K2 n) N i1 i2 i3 i4 (1 : Int32) (0 : Int32) h)
def l_X10_shows_2 (N : Nat) : Nat → Int32 → Int32 → Int32 → am_Hp → Option (Int32 × am_Hp)
  | 0, _, _, _, _ => none
  | n + 1, i1, i2, i3, h =>
    (if (h 193 10) ≤ i3 then
      if (0 : Int32) &&& 1 = (0 : Int32) then some ((0 : Int32), h) else none
    else
      l_X10_shows_13 N (l_X10_shows_2 N n) N i1 i2 i3 (0 : Int32) h)
def f_X10_shows (N : Nat) (i1 : Int32) (i2 : Int32) (h : am_Hp) : Option (Int32 × am_Hp) :=
  l_X10_shows_2 N N i1 i2 (0 : Int32) h
def l_X10_firstShowing_33 (N : Nat) : Nat → Int32 → Int32 → Int32 → Int32 → am_Hp → Option (Int32 × am_Hp)
  | 0, _, _, _, _, _ => none
  | n + 1, i1, i2, i3, i4, h =>
    am_bi (f_X10_events N i1 h) (fun x2 h1 =>
    (if x2 < i4 then
      some ((-1 : Int32), h1)
    else
      am_bi (f_X10_shows N i2 i3 h1) (fun x4 h3 =>
      (if x4 = 0 then
        am_bi (f_X10_events N i1 h3) (fun x6 h5 =>
        (if x6 ≤ i4 then
          l_X10_firstShowing_33 N n i1 i2 i3 (i4 + (1 : Int32)) h5
        else
          am_bi (f_X10_comes N i1 i4 h5) (fun _ h7 =>
          l_X10_firstShowing_33 N n i1 i2 i3 (i4 + (1 : Int32)) h7)))
      else
        some (i4, h3)))))
def f_X10_firstShowing (N : Nat) (i1 : Int32) (i2 : Int32) (h : am_Hp) : Option (Int32 × am_Hp) :=
  am_bi (f_X10_isSession N i1 h) (fun x2 h1 =>
  am_bi (f_X10_checks N x2 h1) (fun x4 h3 =>
  (if x4 = 0 then
    some ((0 : Int32), h3)
  else
    am_bi (f_X10_lengthOf N i2 h3) (fun x6 h5 =>
    (if x6 = 0 then
      some ((-1 : Int32), h5)
    else
      am_bi (f_X10_begins N i1 h5) (fun _ h7 =>
      l_X10_firstShowing_33 N N i1 i2 x6 (0 : Int32) h7))))))
def l_X10_firstDifference_87 (N : Nat) (K70 : Int32 → Int32 → Int32 → am_Hp → Option (Int32 × am_Hp)) : Nat → Int32 → Int32 → Int32 → Int32 → am_Hp → Option (Int32 × am_Hp)
  | 0, _, _, _, _, _ => none
  | n + 1, i4, i5, i6, i7, h =>
    (if (if (h 193 9) < i4 then h 193 9 else i4) ≤ i7 then
      K70 i4 i5 (i6 + (1 : Int32)) h
    else
      bif am_in (((16 : Int32) * i6) + i7) 96 then bif am_in (((16 : Int32) * i6) + i7) 96 then (if (h 200 ((((16 : Int32) * i6) + i7).toNatClampNeg)) = (h 203 ((((16 : Int32) * i6) + i7).toNatClampNeg)) then
        l_X10_firstDifference_87 N K70 n i4 i5 i6 (i7 + (1 : Int32)) h
      else
        some (((16 : Int32) * i6) + i7, h)) else none else none)
def l_X10_firstDifference_70 (N : Nat) : Nat → Int32 → Int32 → Int32 → am_Hp → Option (Int32 × am_Hp)
  | 0, _, _, _, _ => none
  | n + 1, i4, i5, i6, h =>
    (if (if (h 193 10) < i5 then h 193 10 else i5) ≤ i6 then
      some ((-1 : Int32), h)
    else
      l_X10_firstDifference_87 N (l_X10_firstDifference_70 N n) N i4 i5 i6 (0 : Int32) h)
def f_X10_firstDifference (N : Nat) (i1 : Int32) (i2 : Int32) (i3 : Int32) (h : am_Hp) : Option (Int32 × am_Hp) :=
  am_bi (f_X10_isPosition N i1 i2 h) (fun x2 h1 =>
  (if x2 = 0 then
    am_bi (f_X10_checks N (0 : Int32) h1) (fun x4 h3 =>
    (if x4 = 0 then
      some ((0 : Int32), h3)
    else
      am_bi (f_X10_lays N i1 i2 h3) (fun _ h5 =>
      am_bi (f_X10_copies N 200 203 h5) (fun _ h6 =>
      am_bi (f_X10_lays N i1 i3 h6) (fun _ h7 =>
      l_X10_firstDifference_70 N N (h6 193 9) (h6 193 10) (0 : Int32) h7)))))
  else
    am_bi (f_X10_isPosition N i1 i3 h1) (fun x9 h8 =>
    (if x9 = 0 then
      am_bi (f_X10_checks N (0 : Int32) h8) (fun x11 h10 =>
      (if x11 = 0 then
        some ((0 : Int32), h10)
      else
        am_bi (f_X10_lays N i1 i2 h10) (fun _ h12 =>
        am_bi (f_X10_copies N 200 203 h12) (fun _ h13 =>
        am_bi (f_X10_lays N i1 i3 h13) (fun _ h14 =>
        l_X10_firstDifference_70 N N (h13 193 9) (h13 193 10) (0 : Int32) h14)))))
    else
      am_bi (f_X10_checks N (1 : Int32) h8) (fun x16 h15 =>
      (if x16 = 0 then
        some ((0 : Int32), h15)
      else
        am_bi (f_X10_lays N i1 i2 h15) (fun _ h17 =>
        am_bi (f_X10_copies N 200 203 h17) (fun _ h18 =>
        am_bi (f_X10_lays N i1 i3 h18) (fun _ h19 =>
        l_X10_firstDifference_70 N N (h18 193 9) (h18 193 10) (0 : Int32) h19)))))))))
def l_X10_fullness_38 (N : Nat) (K26 : Int32 → Int32 → am_Hp → Option (UInt32 × am_Hp)) : Nat → Int32 → Int32 → Int32 → am_Hp → Option (UInt32 × am_Hp)
  | 0, _, _, _, _ => none
  | n + 1, i3, i4, i5, h =>
    (if (h 193 9) ≤ i5 then
      K26 i3 (i4 + (1 : Int32)) h
    else
      am_bi (f_X10_place N i4 i5 h) (fun x2 h1 =>
      (if x2 = (27 : Int32) then
        l_X10_fullness_38 N K26 n (i3 + (0 : Int32)) i4 (i5 + (1 : Int32)) h1
      else
        l_X10_fullness_38 N K26 n (i3 + (1 : Int32)) i4 (i5 + (1 : Int32)) h1)))
def l_X10_fullness_26 (N : Nat) : Nat → Int32 → Int32 → am_Hp → Option (UInt32 × am_Hp)
  | 0, _, _, _ => none
  | n + 1, i3, i4, h =>
    (if (h 193 10) ≤ i4 then
      if FP.fdiv (FP.i2f i3) (FP.i2f ((h 193 9) * (h 193 10))) &&& 0x7fffffff ≤ 0x7f800000 then some (FP.fdiv (FP.i2f i3) (FP.i2f ((h 193 9) * (h 193 10))), h) else none
    else
      l_X10_fullness_38 N (l_X10_fullness_26 N n) N i3 i4 (0 : Int32) h)
def f_X10_fullness (N : Nat) (i1 : Int32) (i2 : Int32) (h : am_Hp) : Option (UInt32 × am_Hp) :=
  am_bi (f_X10_isPosition N i1 i2 h) (fun x2 h1 =>
  am_bi (f_X10_checks N x2 h1) (fun x4 h3 =>
  (if x4 = 0 then
    some ((0 : UInt32), h3)
  else
    am_bi (f_X10_lays N i1 i2 h3) (fun _ h5 =>
    l_X10_fullness_26 N N (0 : Int32) (0 : Int32) h5))))
def l_X10_typedBy_31 (N : Nat) (K18 : Int32 → Int32 → Int32 → am_Hp → Option (Int32 × am_Hp)) : Nat → Int32 → Int32 → Int32 → Int32 → am_Hp → Option (Int32 × am_Hp)
  | 0, _, _, _, _, _ => none
  | n + 1, i1, i2, i3, i4, h =>
    am_bi (f_X10_events N i3 h) (fun x2 h1 =>
    (if x2 ≤ i4 then
      K18 i1 i2 (i3 + (1 : Int32)) h1
    else
      am_bi (f_X10_ofE N i3 i4 (0 : Int32) h1) (fun x4 h3 =>
      (if x4 = 0 then
        am_bi (f_X10_ofE N i3 i4 (4 : Int32) h3) (fun x6 h5 =>
        (if x6 = i1 then
          l_X10_typedBy_31 N K18 n i1 (i2 + (1 : Int32)) i3 (i4 + (1 : Int32)) h5
        else
          l_X10_typedBy_31 N K18 n i1 (i2 + (0 : Int32)) i3 (i4 + (1 : Int32)) h5))
      else
        l_X10_typedBy_31 N K18 n i1 (i2 + (0 : Int32)) i3 (i4 + (1 : Int32)) h3))))
def l_X10_typedBy_18 (N : Nat) : Nat → Int32 → Int32 → Int32 → am_Hp → Option (Int32 × am_Hp)
  | 0, _, _, _, _ => none
  | n + 1, i1, i2, i3, h =>
    bif am_in (0 : Int32) 20 then (if (h 195 0) ≤ i3 then
      some (i2, h)
    else
      l_X10_typedBy_31 N (l_X10_typedBy_18 N n) N i1 i2 i3 (0 : Int32) h) else none
def f_X10_typedBy (N : Nat) (i1 : Int32) (h : am_Hp) : Option (Int32 × am_Hp) :=
  am_bi (f_X10_isUser N i1 h) (fun x2 h1 =>
  am_bi (f_X10_checks N x2 h1) (fun x4 h3 =>
  (if x4 = 0 then
    some ((0 : Int32), h3)
  else
    l_X10_typedBy_18 N N i1 (0 : Int32) (0 : Int32) h3)))
def f_X10_account (N : Nat) (i1 : Int32) (h : am_Hp) : Option (Int32 × am_Hp) :=
  let h1 := am_pi h 193 0 (0 : Int32)
  (if i1 < 0 then
    some ((-2 : Int32), h1)
  else
    (if i1 ≤ (3 : Int32) then
      bif am_in ((3 : Int32) + i1) 6071 then some (h1 197 (((3 : Int32) + i1).toNatClampNeg), h1) else none
    else
      some ((-2 : Int32), h1)))
def l_X10_keeps_53 (N : Nat) : Nat → Int32 → am_Hp → Option (Unit × am_Hp)
  | 0, _, _ => none
  | n + 1, i1, h =>
    (if (6071 : Int32) ≤ i1 then
      let h1 := am_pi h 193 8 ((h 193 8) + (1 : Int32))
      some ((), h1)
    else
      bif am_in i1 6071 then bif am_in (((6071 : Int32) * (h 193 8)) + i1) 48568 then (let h2 := am_pi h 199 ((((6071 : Int32) * (h 193 8)) + i1).toNatClampNeg) (h 197 i1.toNatClampNeg)
      l_X10_keeps_53 N n (i1 + (1 : Int32)) h2) else none else none)
def l_X10_keeps_13 (N : Nat) : Nat → Int32 → am_Hp → Option (Unit × am_Hp)
  | 0, _, _ => none
  | n + 1, i1, h =>
    (if (48568 : Int32) ≤ i1 then
      let h1 := am_pi h 193 8 ((h 193 8) - (1 : Int32))
      l_X10_keeps_53 N N (0 : Int32) h1
    else
      bif am_in i1 48568 then bif am_in (i1 - (6071 : Int32)) 48568 then (let h2 := am_pi h 199 ((i1 - (6071 : Int32)).toNatClampNeg) (h 199 i1.toNatClampNeg)
      l_X10_keeps_13 N n (i1 + (1 : Int32)) h2) else none else none)
def f_X10_keeps (N : Nat)  (h : am_Hp) : Option (Unit × am_Hp) :=
  (if (h 193 8) = (8 : Int32) then
    l_X10_keeps_13 N N (6071 : Int32) h
  else
    l_X10_keeps_53 N N (0 : Int32) h)
def l_X10_undo_26 (N : Nat) : Nat → Int32 → am_Hp → Option (Int32 × am_Hp)
  | 0, _, _ => none
  | n + 1, i1, h =>
    (if (6071 : Int32) ≤ i1 then
      some (h 193 8, h)
    else
      bif am_in (((6071 : Int32) * (h 193 8)) + i1) 48568 then bif am_in i1 6071 then (let h1 := am_pi h 197 i1.toNatClampNeg (h 199 ((((6071 : Int32) * (h 193 8)) + i1).toNatClampNeg))
      l_X10_undo_26 N n (i1 + (1 : Int32)) h1) else none else none)
def f_X10_undo (N : Nat)  (h : am_Hp) : Option (Int32 × am_Hp) :=
  let h1 := am_pi h 193 0 (0 : Int32)
  (if (h1 193 8) = 0 then
    some ((-1 : Int32), h1)
  else
    let h2 := am_pi h1 193 8 ((h1 193 8) - (1 : Int32))
    l_X10_undo_26 N N (0 : Int32) h2)
def f_X10_attach (N : Nat) (i1 : Int32) (i2 : Int32) (h : am_Hp) : Option (Int32 × am_Hp) :=
  let h1 := am_pi h 193 0 (0 : Int32)
  am_bi (f_X10_isUser N i1 h1) (fun x3 h2 =>
  (if x3 = 0 then
    some ((-1 : Int32), h2)
  else
    am_bi (f_X10_isSession N i2 h2) (fun x5 h4 =>
    (if x5 = 0 then
      some ((-1 : Int32), h4)
    else
      am_bi (f_X10_keeps N h4) (fun _ h6 =>
      am_bi (f_X10_loses N i1 h6) (fun _ h7 =>
      am_bi (f_X10_watchesIn N i1 (1 : Int32) i2 (0 : Int32) (0 : Int32) h7) (fun _ h8 =>
      am_bi (f_X10_setU N i1 (7 : Int32) (0 : Int32) h8) (fun _ h9 =>
      am_bi (f_X10_settles N h9) (fun _ h10 =>
      am_bi (f_X10_watcherMany N i2 h10) (fun x12 h11 =>
      some (x12, h11)))))))))))
def f_X10_detach (N : Nat) (i1 : Int32) (h : am_Hp) : Option (Int32 × am_Hp) :=
  let h1 := am_pi h 193 0 (0 : Int32)
  am_bi (f_X10_isUser N i1 h1) (fun x3 h2 =>
  (if x3 = 0 then
    some ((-1 : Int32), h2)
  else
    am_bi (f_X10_watches N i1 h2) (fun x5 h4 =>
    (if x5 = 0 then
      some ((-4 : Int32), h4)
    else
      am_bi (f_X10_keeps N h4) (fun _ h6 =>
      am_bi (f_X10_ofU N i1 (3 : Int32) h6) (fun x8 h7 =>
      am_bi (f_X10_loses N i1 h7) (fun _ h9 =>
      am_bi (f_X10_watchesIn N i1 (0 : Int32) (0 : Int32) (0 : Int32) (0 : Int32) h9) (fun _ h10 =>
      am_bi (f_X10_settles N h10) (fun _ h11 =>
      am_bi (f_X10_watcherMany N x8 h11) (fun x13 h12 =>
      some (x13, h12)))))))))))
def f_X10_goTo (N : Nat) (i1 : Int32) (i2 : Int32) (h : am_Hp) : Option (Int32 × am_Hp) :=
  let h1 := am_pi h 193 0 (0 : Int32)
  am_bi (f_X10_isUser N i1 h1) (fun x3 h2 =>
  (if x3 = 0 then
    some ((-1 : Int32), h2)
  else
    am_bi (f_X10_watches N i1 h2) (fun x5 h4 =>
    (if x5 = 0 then
      some ((-4 : Int32), h4)
    else
      am_bi (f_X10_ofU N i1 (3 : Int32) h4) (fun x7 h6 =>
      am_bi (f_X10_isPosition N x7 i2 h6) (fun x9 h8 =>
      (if x9 = 0 then
        some ((-2 : Int32), h8)
      else
        am_bi (f_X10_keeps N h8) (fun _ h10 =>
        am_bi (f_X10_positionOf N i1 h10) (fun x12 h11 =>
        am_bi (f_X10_loses N i1 h11) (fun _ h13 =>
        am_bi (f_X10_watchesIn N i1 (2 : Int32) x7 i2 (0 : Int32) h13) (fun _ h14 =>
        am_bi (f_X10_settles N h14) (fun _ h15 =>
        some (x12, h15)))))))))))))
def f_X10_goLive (N : Nat) (i1 : Int32) (h : am_Hp) : Option (Int32 × am_Hp) :=
  let h1 := am_pi h 193 0 (0 : Int32)
  am_bi (f_X10_isUser N i1 h1) (fun x3 h2 =>
  (if x3 = 0 then
    some ((-1 : Int32), h2)
  else
    am_bi (f_X10_watches N i1 h2) (fun x5 h4 =>
    (if x5 = 0 then
      some ((-4 : Int32), h4)
    else
      am_bi (f_X10_keeps N h4) (fun _ h6 =>
      am_bi (f_X10_positionOf N i1 h6) (fun x8 h7 =>
      am_bi (f_X10_ofU N i1 (3 : Int32) h7) (fun x10 h9 =>
      am_bi (f_X10_watchesIn N i1 (1 : Int32) x10 (0 : Int32) (0 : Int32) h9) (fun _ h11 =>
      am_bi (f_X10_settles N h11) (fun _ h12 =>
      some (x8, h12))))))))))
def f_X10_replay (N : Nat) (i1 : Int32) (i2 : Int32) (i3 : Int32) (h : am_Hp) : Option (Int32 × am_Hp) :=
  let h1 := am_pi h 193 0 (0 : Int32)
  am_bi (f_X10_isUser N i1 h1) (fun x3 h2 =>
  (if x3 = 0 then
    some ((-1 : Int32), h2)
  else
    am_bi (f_X10_watches N i1 h2) (fun x5 h4 =>
    (if x5 = 0 then
      some ((-4 : Int32), h4)
    else
      am_bi (f_X10_ofU N i1 (3 : Int32) h4) (fun x7 h6 =>
      (if i3 < (10 : Int32) then
        some ((-2 : Int32), h6)
      else
        (if (1000 : Int32) < i3 then
          some ((-2 : Int32), h6)
        else
          am_bi (f_X10_isPosition N x7 i2 h6) (fun x9 h8 =>
          (if x9 = 0 then
            some ((-2 : Int32), h8)
          else
            am_bi (f_X10_keeps N h8) (fun _ h10 =>
            am_bi (f_X10_loses N i1 h10) (fun _ h11 =>
            am_bi (f_X10_watchesIn N i1 (3 : Int32) x7 i2 i3 h11) (fun _ h12 =>
            am_bi (f_X10_settles N h12) (fun _ h13 =>
            am_bi (f_X10_positionOf N i1 h13) (fun x15 h14 =>
            some (x15, h14)))))))))))))))
def f_X10_lookBack (N : Nat) (i1 : Int32) (i2 : Int32) (h : am_Hp) : Option (Int32 × am_Hp) :=
  let h1 := am_pi h 193 0 (0 : Int32)
  am_bi (f_X10_isUser N i1 h1) (fun x3 h2 =>
  (if x3 = 0 then
    some ((-1 : Int32), h2)
  else
    am_bi (f_X10_watches N i1 h2) (fun x5 h4 =>
    (if x5 = 0 then
      some ((-4 : Int32), h4)
    else
      (if i2 < 0 then
        some ((-2 : Int32), h4)
      else
        (if i2 ≤ (40 : Int32) then
          am_bi (f_X10_keeps N h4) (fun _ h6 =>
          am_bi (f_X10_ofU N i1 (7 : Int32) h6) (fun x8 h7 =>
          am_bi (f_X10_setU N i1 (7 : Int32) i2 h7) (fun _ h9 =>
          am_bi (f_X10_settles N h9) (fun _ h10 =>
          some (x8, h10)))))
        else
          some ((-2 : Int32), h4)))))))
def f_X10_window (N : Nat) (i1 : Int32) (i2 : Int32) (i3 : Int32) (h : am_Hp) : Option (Int32 × am_Hp) :=
  let h1 := am_pi h 193 0 (0 : Int32)
  am_bi (f_X10_isUser N i1 h1) (fun x3 h2 =>
  (if x3 = 0 then
    some ((-1 : Int32), h2)
  else
    (if i2 < (2 : Int32) then
      some ((-2 : Int32), h2)
    else
      (if (16 : Int32) < i2 then
        some ((-2 : Int32), h2)
      else
        (if i3 < (1 : Int32) then
          some ((-2 : Int32), h2)
        else
          (if i3 ≤ (6 : Int32) then
            am_bi (f_X10_keeps N h2) (fun _ h4 =>
            am_bi (f_X10_ofU N i1 (0 : Int32) h4) (fun x6 h5 =>
            am_bi (f_X10_setU N i1 (0 : Int32) i2 h5) (fun _ h7 =>
            am_bi (f_X10_setU N i1 (1 : Int32) i3 h7) (fun _ h8 =>
            am_bi (f_X10_settles N h8) (fun _ h9 =>
            some (x6, h9))))))
          else
            some ((-2 : Int32), h2)))))))
