def f_X10_event (N : Nat) (i1 : Int32) (i2 : Int32) (i3 : Int32) (h : am_Hp) : Option (Int32 × am_Hp) :=
  am_bi (f_X10_isSession N i1 h) (fun x2 h1 =>
  am_bi (f_X10_checks N x2 h1) (fun x4 h3 =>
  (if x4 = 0 then
    some ((0 : Int32), h3)
  else
    (if i2 < 0 then
      some ((-1 : Int32), h3)
    else
      am_bi (f_X10_events N i1 h3) (fun x6 h5 =>
      (if i2 < x6 then
        (if i3 < 0 then
          some ((-2 : Int32), h5)
        else
          (if i3 ≤ (3 : Int32) then
            am_bi (f_X10_ofE N i1 i2 i3 h5) (fun x8 h7 =>
            some (x8, h7))
          else
            some ((-2 : Int32), h5)))
      else
        some ((-1 : Int32), h5)))))))
def f_X10_screen (N : Nat) (i1 : Int32) (i2 : Int32) (i3 : Int32) (h : am_Hp) : Option (Int32 × am_Hp) :=
  am_bi (f_X10_isPosition N i1 i2 h) (fun x2 h1 =>
  am_bi (f_X10_checks N x2 h1) (fun x4 h3 =>
  (if x4 = 0 then
    some ((0 : Int32), h3)
  else
    am_bi (f_X10_lays N i1 i2 h3) (fun _ h5 =>
    (if i3.toInt = 0 then
      some (h5 193 9, h5)
    else if i3.toInt = 1 then
      some (h5 193 10, h5)
    else if i3.toInt = 2 then
      some (h5 193 11, h5)
    else if i3.toInt = 3 then
      some (h5 193 12, h5)
    else if i3.toInt = 4 then
      some (h5 193 14, h5)
    else some ((-2 : Int32), h5))))))
def f_X10_at (N : Nat) (i1 : Int32) (i2 : Int32) (i3 : Int32) (i4 : Int32) (h : am_Hp) : Option (Int32 × am_Hp) :=
  am_bi (f_X10_isPosition N i1 i2 h) (fun x2 h1 =>
  am_bi (f_X10_checks N x2 h1) (fun x4 h3 =>
  (if x4 = 0 then
    some ((0 : Int32), h3)
  else
    am_bi (f_X10_lays N i1 i2 h3) (fun _ h5 =>
    am_bi (f_X10_place N i3 i4 h5) (fun x7 h6 =>
    some (x7, h6))))))
def f_X10_above (N : Nat) (i1 : Int32) (i2 : Int32) (i3 : Int32) (i4 : Int32) (h : am_Hp) : Option (Int32 × am_Hp) :=
  am_bi (f_X10_isPosition N i1 i2 h) (fun x2 h1 =>
  am_bi (f_X10_checks N x2 h1) (fun x4 h3 =>
  (if x4 = 0 then
    some ((0 : Int32), h3)
  else
    am_bi (f_X10_lays N i1 i2 h3) (fun _ h5 =>
    (if i3 < 0 then
      some ((-1 : Int32), h5)
    else
      (if (h5 193 14) ≤ i3 then
        some ((-1 : Int32), h5)
      else
        (if i4 < 0 then
          some ((-1 : Int32), h5)
        else
          (if i4 < (16 : Int32) then
            bif am_in i3 40 then (if (h5 202 i3.toNatClampNeg) ≤ i4 then
              some ((27 : Int32), h5)
            else
              bif am_in (((16 : Int32) * i3) + i4) 640 then some (h5 201 ((((16 : Int32) * i3) + i4).toNatClampNeg), h5) else none) else none
          else
            some ((-1 : Int32), h5)))))))))
def f_X10_user (N : Nat) (i1 : Int32) (i2 : Int32) (h : am_Hp) : Option (Int32 × am_Hp) :=
  am_bi (f_X10_isUser N i1 h) (fun x2 h1 =>
  am_bi (f_X10_checks N x2 h1) (fun x4 h3 =>
  (if x4 = 0 then
    some ((0 : Int32), h3)
  else
    (if i2.toInt = 0 then
      am_bi (f_X10_ofU N i1 (0 : Int32) h3) (fun x22 h21 =>
      some (x22, h21))
    else if i2.toInt = 1 then
      am_bi (f_X10_ofU N i1 (1 : Int32) h3) (fun x20 h19 =>
      some (x20, h19))
    else if i2.toInt = 2 then
      am_bi (f_X10_ofU N i1 (2 : Int32) h3) (fun x18 h17 =>
      some (x18, h17))
    else if i2.toInt = 3 then
      am_bi (f_X10_watches N i1 h3) (fun x14 h13 =>
      (if x14 = 0 then
        some ((-1 : Int32), h13)
      else
        am_bi (f_X10_ofU N i1 (3 : Int32) h13) (fun x16 h15 =>
        some (x16, h15))))
    else if i2.toInt = 4 then
      am_bi (f_X10_watches N i1 h3) (fun x10 h9 =>
      (if x10 = 0 then
        some ((-1 : Int32), h9)
      else
        am_bi (f_X10_positionOf N i1 h9) (fun x12 h11 =>
        some (x12, h11))))
    else if i2.toInt = 5 then
      am_bi (f_X10_ofU N i1 (7 : Int32) h3) (fun x8 h7 =>
      some (x8, h7))
    else if i2.toInt = 6 then
      am_bi (f_X10_ofU N i1 (6 : Int32) h3) (fun x6 h5 =>
      some (x6, h5))
    else some ((-2 : Int32), h3)))))
def f_X10_laysWindow (N : Nat) (i1 : Int32) (h : am_Hp) : Option (Unit × am_Hp) :=
  am_bi (f_X10_ofU N i1 (3 : Int32) h) (fun x2 h1 =>
  am_bi (f_X10_positionOf N i1 h1) (fun x4 h3 =>
  am_bi (f_X10_lays N x2 x4 h3) (fun _ h5 =>
  am_bi (f_X10_ofU N i1 (7 : Int32) h5) (fun x7 h6 =>
  am_bi (f_X10_ofU N i1 (1 : Int32) h6) (fun x9 h8 =>
  let h10 := am_pi h8 193 27 (if (0 : Int32) < (((((h5 193 14) + (h5 193 11)) - x7) - x9) + (1 : Int32)) then ((((h5 193 14) + (h5 193 11)) - x7) - x9) + (1 : Int32) else (0 : Int32))
  some ((), h10))))))
def f_X10_seen (N : Nat) (i1 : Int32) (i2 : Int32) (h : am_Hp) : Option (Int32 × am_Hp) :=
  (if (h 193 14) ≤ ((h 193 27) + i1) then
    am_bi (f_X10_place N (((h 193 27) + i1) - (h 193 14)) i2 h) (fun x2 h1 =>
    (if x2 = (-1 : Int32) then
      some ((27 : Int32), h1)
    else
      some (x2, h1)))
  else
    bif am_in ((h 193 27) + i1) 40 then (if (h 202 (((h 193 27) + i1).toNatClampNeg)) ≤ i2 then
      some ((27 : Int32), h)
    else
      bif am_in (((16 : Int32) * ((h 193 27) + i1)) + i2) 640 then some (h 201 ((((16 : Int32) * ((h 193 27) + i1)) + i2).toNatClampNeg), h) else none) else none)
def f_X10_shown (N : Nat) (i1 : Int32) (i2 : Int32) (i3 : Int32) (h : am_Hp) : Option (Int32 × am_Hp) :=
  am_bi (f_X10_isUser N i1 h) (fun x2 h1 =>
  am_bi (f_X10_checks N x2 h1) (fun x4 h3 =>
  (if x4 = 0 then
    some ((0 : Int32), h3)
  else
    am_bi (f_X10_watches N i1 h3) (fun x6 h5 =>
    (if x6 = 0 then
      some ((-1 : Int32), h5)
    else
      (if i2 < 0 then
        some ((-1 : Int32), h5)
      else
        am_bi (f_X10_ofU N i1 (1 : Int32) h5) (fun x8 h7 =>
        (if x8 ≤ i2 then
          some ((-1 : Int32), h7)
        else
          (if i3 < 0 then
            some ((-1 : Int32), h7)
          else
            am_bi (f_X10_ofU N i1 (0 : Int32) h7) (fun x10 h9 =>
            (if i3 < x10 then
              am_bi (f_X10_laysWindow N i1 h9) (fun _ h11 =>
              am_bi (f_X10_seen N i2 i3 h11) (fun x13 h12 =>
              some (x13, h12)))
            else
              some ((-1 : Int32), h9))))))))))))
def f_X10_cursorRow (N : Nat) (i1 : Int32) (h : am_Hp) : Option (Int32 × am_Hp) :=
  am_bi (f_X10_isUser N i1 h) (fun x2 h1 =>
  am_bi (f_X10_checks N x2 h1) (fun x4 h3 =>
  (if x4 = 0 then
    some ((0 : Int32), h3)
  else
    am_bi (f_X10_watches N i1 h3) (fun x6 h5 =>
    (if x6 = 0 then
      some ((-1 : Int32), h5)
    else
      am_bi (f_X10_laysWindow N i1 h5) (fun _ h7 =>
      (if (((h7 193 14) + (h7 193 11)) - (h7 193 27)) < 0 then
        some ((-1 : Int32), h7)
      else
        am_bi (f_X10_ofU N i1 (1 : Int32) h7) (fun x9 h8 =>
        (if x9 ≤ (((h7 193 14) + (h7 193 11)) - (h7 193 27)) then
          some ((-1 : Int32), h8)
        else
          some (((h7 193 14) + (h7 193 11)) - (h7 193 27), h8))))))))))
def l_X10_watchers_19 (N : Nat) : Nat → Int32 → Int32 → Int32 → Int32 → am_Hp → Option (Int32 × am_Hp)
  | 0, _, _, _, _, _ => none
  | n + 1, i1, i2, i3, i4, h =>
    bif am_in (1 : Int32) 20 then (if (h 195 1) ≤ i4 then
      some (i3, h)
    else
      (if i2 = 0 then
        some (i3, h)
      else
        am_bi (f_X10_ofU N i4 (2 : Int32) h) (fun x2 h1 =>
        (if x2 = i2 then
          am_bi (f_X10_ofU N i4 (3 : Int32) h1) (fun x4 h3 =>
          (if x4 = i1 then
            l_X10_watchers_19 N n i1 i2 (i3 ||| ((1 : Int32) <<< (i4 &&& 31))) (i4 + (1 : Int32)) h3
          else
            l_X10_watchers_19 N n i1 i2 (i3 ||| (0 : Int32)) (i4 + (1 : Int32)) h3))
        else
          l_X10_watchers_19 N n i1 i2 (i3 ||| (0 : Int32)) (i4 + (1 : Int32)) h1)))) else none
def f_X10_watchers (N : Nat) (i1 : Int32) (i2 : Int32) (h : am_Hp) : Option (Int32 × am_Hp) :=
  am_bi (f_X10_isSession N i1 h) (fun x2 h1 =>
  am_bi (f_X10_checks N x2 h1) (fun x4 h3 =>
  (if x4 = 0 then
    some ((0 : Int32), h3)
  else
    l_X10_watchers_19 N N i1 i2 (0 : Int32) (0 : Int32) h3)))
def f_X10_rightSize (N : Nat) (i1 : Int32) (i2 : Int32) (h : am_Hp) : Option (Int32 × am_Hp) :=
  am_bi (f_X10_isSession N i1 h) (fun x2 h1 =>
  am_bi (f_X10_checks N x2 h1) (fun x4 h3 =>
  (if x4 = 0 then
    some ((0 : Int32), h3)
  else
    am_bi (f_X10_right N i1 i2 h3) (fun x6 h5 =>
    some (x6, h5)))))
def l_X10_narrowest_39 (N : Nat) : Nat → Int32 → Int32 → Int32 → Int32 → Int32 → am_Hp → Option (Int32 × am_Hp)
  | 0, _, _, _, _, _, _ => none
  | n + 1, i1, i2, i3, i4, i5, h =>
    bif am_in (1 : Int32) 20 then (if (h 195 1) ≤ i5 then
      some (i3, h)
    else
      (if i2 = 0 then
        am_bi (f_X10_ofU N i5 (0 : Int32) h) (fun x2 h1 =>
        am_bi (f_X10_isLive N i5 i1 h1) (fun x4 h3 =>
        (if x4 = 0 then
          l_X10_narrowest_39 N n i1 i2 i3 i4 (i5 + (1 : Int32)) h3
        else
          (if x2 < i4 then
            l_X10_narrowest_39 N n i1 i2 i5 x2 (i5 + (1 : Int32)) h3
          else
            l_X10_narrowest_39 N n i1 i2 i3 i4 (i5 + (1 : Int32)) h3))))
      else
        am_bi (f_X10_ofU N i5 (1 : Int32) h) (fun x6 h5 =>
        am_bi (f_X10_isLive N i5 i1 h5) (fun x8 h7 =>
        (if x8 = 0 then
          l_X10_narrowest_39 N n i1 i2 i3 i4 (i5 + (1 : Int32)) h7
        else
          (if x6 < i4 then
            l_X10_narrowest_39 N n i1 i2 i5 x6 (i5 + (1 : Int32)) h7
          else
            l_X10_narrowest_39 N n i1 i2 i3 i4 (i5 + (1 : Int32)) h7)))))) else none
def f_X10_narrowest (N : Nat) (i1 : Int32) (i2 : Int32) (h : am_Hp) : Option (Int32 × am_Hp) :=
  am_bi (f_X10_isSession N i1 h) (fun x2 h1 =>
  am_bi (f_X10_checks N x2 h1) (fun x4 h3 =>
  (if x4 = 0 then
    some ((0 : Int32), h3)
  else
    (if i2 = 0 then
      bif am_in ((12 : Int32) + i1) 20 then l_X10_narrowest_39 N N i1 i2 (-1 : Int32) (h3 195 (((12 : Int32) + i1).toNatClampNeg)) (0 : Int32) h3 else none
    else
      bif am_in ((16 : Int32) + i1) 20 then l_X10_narrowest_39 N N i1 i2 (-1 : Int32) (h3 195 (((16 : Int32) + i1).toNatClampNeg)) (0 : Int32) h3 else none))))
def f_X10_stops (N : Nat) (i1 : Int32) (h : am_Hp) : Option (Int32 × am_Hp) :=
  am_bi (f_X10_ofU N i1 (3 : Int32) h) (fun x2 h1 =>
  am_bi (f_X10_watches N i1 h1) (fun x4 h3 =>
  (if x4 = 0 then
    some ((1 : Int32), h3)
  else
    am_bi (f_X10_ofU N i1 (2 : Int32) h3) (fun x6 h5 =>
    (if x6 = (1 : Int32) then
      am_bi (f_X10_ofS N x2 (1 : Int32) h5) (fun x8 h7 =>
      (if x8 = (-1 : Int32) then
        some ((3 : Int32), h7)
      else
        am_bi (f_X10_ofS N x2 (1 : Int32) h7) (fun x10 h9 =>
        (if x10 = i1 then
          am_bi (f_X10_events N x2 h9) (fun x12 h11 =>
          (if x12 = (300 : Int32) then
            some ((5 : Int32), h11)
          else
            some ((0 : Int32), h11)))
        else
          some ((4 : Int32), h9)))))
    else
      some ((2 : Int32), h5))))))
def f_X10_whyNot (N : Nat) (i1 : Int32) (h : am_Hp) : Option (Int32 × am_Hp) :=
  am_bi (f_X10_isUser N i1 h) (fun x2 h1 =>
  am_bi (f_X10_checks N x2 h1) (fun x4 h3 =>
  (if x4 = 0 then
    some ((0 : Int32), h3)
  else
    am_bi (f_X10_stops N i1 h3) (fun x6 h5 =>
    some (x6, h5)))))
def f_X10_grantedAt (N : Nat) (i1 : Int32) (h : am_Hp) : Option (Int32 × am_Hp) :=
  am_bi (f_X10_isSession N i1 h) (fun x2 h1 =>
  am_bi (f_X10_checks N x2 h1) (fun x4 h3 =>
  (if x4 = 0 then
    some ((0 : Int32), h3)
  else
    am_bi (f_X10_ofS N i1 (2 : Int32) h3) (fun x6 h5 =>
    (if x6 = (-1 : Int32) then
      some ((-1 : Int32), h5)
    else
      bif am_in (2 : Int32) 6071 then am_bi (f_X10_ofS N i1 (3 : Int32) h5) (fun x8 h7 =>
      bif am_in (0 : Int32) 6071 then some ((if ((h5 197 2) + (1 : Int32)) < (x8 + (h7 197 0)) then x8 + (h7 197 0) else (h5 197 2) + (1 : Int32)), h7) else none) else none)))))
def f_X10_reachedAt (N : Nat) (i1 : Int32) (i2 : Int32) (h : am_Hp) : Option (Int32 × am_Hp) :=
  am_bi (f_X10_isUser N i1 h) (fun x2 h1 =>
  am_bi (f_X10_checks N x2 h1) (fun x4 h3 =>
  (if x4 = 0 then
    some ((0 : Int32), h3)
  else
    am_bi (f_X10_ofU N i1 (3 : Int32) h3) (fun x6 h5 =>
    am_bi (f_X10_ofU N i1 (4 : Int32) h5) (fun x8 h7 =>
    am_bi (f_X10_ofU N i1 (2 : Int32) h7) (fun x10 h9 =>
    (if x10 = (3 : Int32) then
      (if i2 < x8 then
        some ((-1 : Int32), h9)
      else
        am_bi (f_X10_events N x6 h9) (fun x12 h11 =>
        (if i2 ≤ x12 then
          (if i2 = x8 then
            am_bi (f_X10_ofU N i1 (5 : Int32) h11) (fun x22 h21 =>
            some (x22, h21))
          else
            am_bi (f_X10_ofU N i1 (6 : Int32) h11) (fun x14 h13 =>
            am_bi (f_X10_ofE N x6 (i2 - (1 : Int32)) (3 : Int32) h13) (fun x16 h15 =>
            am_bi (f_X10_ofE N x6 x8 (3 : Int32) h15) (fun x18 h17 =>
            am_bi (f_X10_ofU N i1 (5 : Int32) h17) (fun x20 h19 =>
            if x14 = 0 then none else some (x20 + (((((x16 - x18) * (100 : Int32)) + x14) - (1 : Int32)) / x14), h19))))))
        else
          some ((-1 : Int32), h11))))
    else
      some ((-1 : Int32), h9))))))))
def f_X10_behind (N : Nat) (i1 : Int32) (h : am_Hp) : Option (Int32 × am_Hp) :=
  am_bi (f_X10_isUser N i1 h) (fun x2 h1 =>
  am_bi (f_X10_checks N x2 h1) (fun x4 h3 =>
  (if x4 = 0 then
    some ((0 : Int32), h3)
  else
    am_bi (f_X10_watches N i1 h3) (fun x6 h5 =>
    (if x6 = 0 then
      some ((0 : Int32), h5)
    else
      am_bi (f_X10_ofU N i1 (3 : Int32) h5) (fun x8 h7 =>
      am_bi (f_X10_events N x8 h7) (fun x10 h9 =>
      am_bi (f_X10_positionOf N i1 h9) (fun x12 h11 =>
      some (x10 - x12, h11)))))))))
def f_X10_letterOf (N : Nat) (i0 : Int32) (i1 : Int32) (h : am_Hp) : Option (Int32 × am_Hp) :=
  some ((i0 >>> (((25 : Int32) - ((5 : Int32) * i1)) &&& 31)) &&& (31 : Int32), h)
def l_X10_lengthOf_36 (N : Nat) : Nat → Int32 → Int32 → Int32 → am_Hp → Option (Int32 × am_Hp)
  | 0, _, _, _, _ => none
  | n + 1, i0, i1, i2, h =>
    (if (6 : Int32) ≤ i2 then
      (if i0 < 0 then
        some ((0 : Int32), h)
      else
        (if (i0 >>> ((30 : Int32) &&& 31)) = 0 then
          some (i1, h)
        else
          some ((0 : Int32), h)))
    else
      am_bi (f_X10_letterOf N i0 i2 h) (fun x2 h1 =>
      (if x2 ≤ 0 then
        l_X10_lengthOf_36 N n i0 i1 (i2 + (1 : Int32)) h1
      else
        some ((0 : Int32), h1))))
def l_X10_lengthOf_2 (N : Nat) : Nat → Int32 → Int32 → am_Hp → Option (Int32 × am_Hp)
  | 0, _, _, _ => none
  | n + 1, i0, i1, h =>
    (if (6 : Int32) ≤ i1 then
      l_X10_lengthOf_36 N N i0 i1 i1 h
    else
      am_bi (f_X10_letterOf N i0 i1 h) (fun x2 h1 =>
      (if x2 ≤ 0 then
        l_X10_lengthOf_36 N N i0 i1 i1 h1
      else
        am_bi (f_X10_letterOf N i0 i1 h1) (fun x4 h3 =>
        (if x4 ≤ (26 : Int32) then
          l_X10_lengthOf_2 N n i0 (i1 + (1 : Int32)) h3
        else
          some ((0 : Int32), h3))))))
def f_X10_lengthOf (N : Nat) (i0 : Int32) (h : am_Hp) : Option (Int32 × am_Hp) :=
  l_X10_lengthOf_2 N N i0 (0 : Int32) h
