def l_X10_positionOf_60 (N : Nat) : Nat → Int32 → Int32 → Int32 → Int32 → Int32 → am_Hp → Option (Int32 × am_Hp)
  | 0, _, _, _, _, _, _ => none
  | n + 1, i1, i2, i3, i4, i5, h =>
    am_bi (f_X10_events N i2 h) (fun x2 h1 =>
    (if x2 ≤ i3 then
      some (i3, h1)
    else
      am_bi (f_X10_ofU N i1 (6 : Int32) h1) (fun x4 h3 =>
      am_bi (f_X10_hasCome N i2 i4 i3 i5 x4 h3) (fun x6 h5 =>
      (if x6 = 0 then
        some (i3, h5)
      else
        l_X10_positionOf_60 N n i1 i2 (i3 + (1 : Int32)) i4 i5 h5)))))
def f_X10_positionOf (N : Nat) (i1 : Int32) (h : am_Hp) : Option (Int32 × am_Hp) :=
  am_bi (f_X10_ofU N i1 (3 : Int32) h) (fun x2 h1 =>
  am_bi (f_X10_ofU N i1 (4 : Int32) h1) (fun x4 h3 =>
  am_bi (f_X10_ofU N i1 (2 : Int32) h3) (fun x6 h5 =>
  (if x6 = (1 : Int32) then
    am_bi (f_X10_events N x2 h5) (fun x12 h11 =>
    some (x12, h11))
  else
    am_bi (f_X10_ofU N i1 (2 : Int32) h5) (fun x8 h7 =>
    (if x8 = (2 : Int32) then
      some (x4, h7)
    else
      bif am_in (2 : Int32) 6071 then am_bi (f_X10_ofU N i1 (5 : Int32) h7) (fun x10 h9 =>
      l_X10_positionOf_60 N N i1 x2 x4 x4 ((h7 197 2) - x10) h9) else none))))))
def f_X10_records (N : Nat) (i1 : Int32) (i2 : Int32) (i3 : Int32) (i4 : Int32) (i5 : Int32) (h : am_Hp) : Option (Unit × am_Hp) :=
  am_bi (f_X10_events N i1 h) (fun x2 h1 =>
  am_bi (f_X10_setS N i1 (((4 : Int32) + ((5 : Int32) * x2)) + (0 : Int32)) i2 h1) (fun _ h3 =>
  am_bi (f_X10_setS N i1 (((4 : Int32) + ((5 : Int32) * x2)) + (1 : Int32)) i3 h3) (fun _ h4 =>
  am_bi (f_X10_setS N i1 (((4 : Int32) + ((5 : Int32) * x2)) + (2 : Int32)) i4 h4) (fun _ h5 =>
  bif am_in (2 : Int32) 6071 then am_bi (f_X10_setS N i1 (((4 : Int32) + ((5 : Int32) * x2)) + (3 : Int32)) (h5 197 2) h5) (fun _ h6 =>
  am_bi (f_X10_setS N i1 (((4 : Int32) + ((5 : Int32) * x2)) + (4 : Int32)) i5 h6) (fun _ h7 =>
  am_bi (f_X10_events N i1 h7) (fun x9 h8 =>
  am_bi (f_X10_setS N i1 (0 : Int32) (x9 + (1 : Int32)) h8) (fun _ h10 =>
  some ((), h10))))) else none))))
def l_X10_right_22 (N : Nat) : Nat → Int32 → Int32 → Int32 → Int32 → am_Hp → Option (Int32 × am_Hp)
  | 0, _, _, _, _, _ => none
  | n + 1, i1, i2, i3, i4, h =>
    bif am_in (1 : Int32) 20 then (if (h 195 1) ≤ i4 then
      some (i3, h)
    else
      bif am_in (1 : Int32) 6071 then (if (h 197 1) = (1 : Int32) then
        am_bi (f_X10_isLive N i4 i1 h) (fun x2 h1 =>
        (if x2 = 0 then
          l_X10_right_22 N n i1 i2 i3 (i4 + (1 : Int32)) h1
        else
          (if i2 = 0 then
            am_bi (f_X10_ofU N i4 (0 : Int32) h1) (fun x4 h3 =>
            l_X10_right_22 N n i1 i2 (if x4 < i3 then x4 else i3) (i4 + (1 : Int32)) h3)
          else
            am_bi (f_X10_ofU N i4 (1 : Int32) h1) (fun x6 h5 =>
            l_X10_right_22 N n i1 i2 (if x6 < i3 then x6 else i3) (i4 + (1 : Int32)) h5))))
      else
        some (i3, h)) else none) else none
def f_X10_right (N : Nat) (i1 : Int32) (i2 : Int32) (h : am_Hp) : Option (Int32 × am_Hp) :=
  (if i2 = 0 then
    bif am_in ((12 : Int32) + i1) 20 then l_X10_right_22 N N i1 i2 (h 195 (((12 : Int32) + i1).toNatClampNeg)) (0 : Int32) h else none
  else
    bif am_in ((16 : Int32) + i1) 20 then l_X10_right_22 N N i1 i2 (h 195 (((16 : Int32) + i1).toNatClampNeg)) (0 : Int32) h else none)
def l_X10_settles_2 (N : Nat) : Nat → Int32 → am_Hp → Option (Unit × am_Hp)
  | 0, _, _ => none
  | n + 1, i1, h =>
    bif am_in (0 : Int32) 20 then (if (h 195 0) ≤ i1 then
      some ((), h)
    else
      am_bi (f_X10_events N i1 h) (fun x2 h1 =>
      am_bi (f_X10_lays N i1 x2 h1) (fun _ h3 =>
      am_bi (f_X10_right N i1 (0 : Int32) h3) (fun x5 h4 =>
      am_bi (f_X10_right N i1 (1 : Int32) h4) (fun x7 h6 =>
      am_bi (f_X10_events N i1 h6) (fun x9 h8 =>
      (if (300 : Int32) ≤ x9 then
        l_X10_settles_2 N n (i1 + (1 : Int32)) h8
      else
        (if (h8 193 9) = x5 then
          (if (h8 193 10) = x7 then
            l_X10_settles_2 N n (i1 + (1 : Int32)) h8
          else
            am_bi (f_X10_records N i1 (1 : Int32) x5 x7 (-1 : Int32) h8) (fun _ h11 =>
            l_X10_settles_2 N n (i1 + (1 : Int32)) h11))
        else
          am_bi (f_X10_records N i1 (1 : Int32) x5 x7 (-1 : Int32) h8) (fun _ h10 =>
          l_X10_settles_2 N n (i1 + (1 : Int32)) h10))))))))) else none
def f_X10_settles (N : Nat)  (h : am_Hp) : Option (Unit × am_Hp) :=
  l_X10_settles_2 N N (0 : Int32) h
def f_X10_hasControl (N : Nat) (i1 : Int32) (i2 : Int32) (h : am_Hp) : Option (Unit × am_Hp) :=
  am_bi (f_X10_setS N i1 (1 : Int32) i2 h) (fun _ h1 =>
  am_bi (f_X10_setS N i1 (2 : Int32) (-1 : Int32) h1) (fun _ h2 =>
  am_bi (f_X10_setS N i1 (3 : Int32) (0 : Int32) h2) (fun _ h3 =>
  some ((), h3))))
def f_X10_givesUp (N : Nat) (i1 : Int32) (h : am_Hp) : Option (Unit × am_Hp) :=
  am_bi (f_X10_ofS N i1 (2 : Int32) h) (fun x2 h1 =>
  am_bi (f_X10_hasControl N i1 x2 h1) (fun _ h3 =>
  some ((), h3)))
def f_X10_loses (N : Nat) (i1 : Int32) (h : am_Hp) : Option (Unit × am_Hp) :=
  am_bi (f_X10_ofU N i1 (3 : Int32) h) (fun x2 h1 =>
  am_bi (f_X10_watches N i1 h1) (fun x4 h3 =>
  (if x4 = 0 then
    some ((), h3)
  else
    am_bi (f_X10_ofS N x2 (2 : Int32) h3) (fun x6 h5 =>
    (if x6 = i1 then
      am_bi (f_X10_setS N x2 (2 : Int32) (-1 : Int32) h5) (fun _ h10 =>
      am_bi (f_X10_setS N x2 (3 : Int32) (0 : Int32) h10) (fun _ h11 =>
      am_bi (f_X10_ofS N x2 (1 : Int32) h11) (fun x13 h12 =>
      (if x13 = i1 then
        am_bi (f_X10_givesUp N x2 h12) (fun _ h14 =>
        some ((), h14))
      else
        some ((), h12)))))
    else
      am_bi (f_X10_ofS N x2 (1 : Int32) h5) (fun x8 h7 =>
      (if x8 = i1 then
        am_bi (f_X10_givesUp N x2 h7) (fun _ h9 =>
        some ((), h9))
      else
        some ((), h7))))))))
def f_X10_watchesIn (N : Nat) (i1 : Int32) (i2 : Int32) (i3 : Int32) (i4 : Int32) (i5 : Int32) (h : am_Hp) : Option (Unit × am_Hp) :=
  am_bi (f_X10_setU N i1 (2 : Int32) i2 h) (fun _ h1 =>
  am_bi (f_X10_setU N i1 (3 : Int32) i3 h1) (fun _ h2 =>
  am_bi (f_X10_setU N i1 (4 : Int32) i4 h2) (fun _ h3 =>
  (if i2 = (3 : Int32) then
    bif am_in (2 : Int32) 6071 then am_bi (f_X10_setU N i1 (5 : Int32) (h3 197 2) h3) (fun _ h6 =>
    am_bi (f_X10_setU N i1 (6 : Int32) i5 h6) (fun _ h7 =>
    some ((), h7))) else none
  else
    am_bi (f_X10_setU N i1 (5 : Int32) (0 : Int32) h3) (fun _ h4 =>
    am_bi (f_X10_setU N i1 (6 : Int32) i5 h4) (fun _ h5 =>
    some ((), h5)))))))
def l_X10_watcherMany_4 (N : Nat) : Nat → Int32 → Int32 → Int32 → am_Hp → Option (Int32 × am_Hp)
  | 0, _, _, _, _ => none
  | n + 1, i1, i2, i3, h =>
    bif am_in (1 : Int32) 20 then (if (h 195 1) ≤ i3 then
      some (i2, h)
    else
      am_bi (f_X10_watches N i3 h) (fun x2 h1 =>
      (if x2 = 0 then
        l_X10_watcherMany_4 N n i1 (i2 + (0 : Int32)) (i3 + (1 : Int32)) h1
      else
        am_bi (f_X10_ofU N i3 (3 : Int32) h1) (fun x4 h3 =>
        (if x4 = i1 then
          l_X10_watcherMany_4 N n i1 (i2 + (1 : Int32)) (i3 + (1 : Int32)) h3
        else
          l_X10_watcherMany_4 N n i1 (i2 + (0 : Int32)) (i3 + (1 : Int32)) h3))))) else none
def f_X10_watcherMany (N : Nat) (i1 : Int32) (h : am_Hp) : Option (Int32 × am_Hp) :=
  l_X10_watcherMany_4 N N i1 (0 : Int32) (0 : Int32) h
def l_X10_controlled_2 (N : Nat) : Nat → Int32 → Int32 → am_Hp → Option (Int32 × am_Hp)
  | 0, _, _, _ => none
  | n + 1, i1, i2, h =>
    bif am_in (0 : Int32) 20 then (if (h 195 0) ≤ i2 then
      some ((-1 : Int32), h)
    else
      am_bi (f_X10_ofS N i2 (1 : Int32) h) (fun x2 h1 =>
      (if x2 = i1 then
        some (i2, h1)
      else
        l_X10_controlled_2 N n i1 (i2 + (1 : Int32)) h1))) else none
def f_X10_controlled (N : Nat) (i1 : Int32) (h : am_Hp) : Option (Int32 × am_Hp) :=
  l_X10_controlled_2 N N i1 (0 : Int32) h
def f_X10_here (N : Nat)  (h : am_Hp) : Option (Int32 × am_Hp) :=
  (if (h 193 17) ≤ (h 193 18) then
    some ((-1 : Int32), h)
  else
    bif am_in (h 193 18) 600 then some (h 194 ((h 193 18).toNatClampNeg), h) else none)
def f_X10_isSmall (N : Nat) (i0 : Int32) (h : am_Hp) : Option (Int32 × am_Hp) :=
  (if i0 < (97 : Int32) then
    if (0 : Int32) &&& 1 = (0 : Int32) then some ((0 : Int32), h) else none
  else
    (if (122 : Int32) < i0 then
      if (0 : Int32) &&& 1 = (0 : Int32) then some ((0 : Int32), h) else none
    else
      if (1 : Int32) &&& 1 = (1 : Int32) then some ((1 : Int32), h) else none))
def f_X10_isDigit (N : Nat) (i0 : Int32) (h : am_Hp) : Option (Int32 × am_Hp) :=
  (if i0 < (48 : Int32) then
    if (0 : Int32) &&& 1 = (0 : Int32) then some ((0 : Int32), h) else none
  else
    (if (57 : Int32) < i0 then
      if (0 : Int32) &&& 1 = (0 : Int32) then some ((0 : Int32), h) else none
    else
      if (1 : Int32) &&& 1 = (1 : Int32) then some ((1 : Int32), h) else none))
def l_X10_next_64 (N : Nat) : Nat → am_Hp → Option (Unit × am_Hp)
  | 0, _ => none
  | n + 1, h =>
    am_bi (f_X10_here N h) (fun x2 h1 =>
    am_bi (f_X10_isSmall N x2 h1) (fun x4 h3 =>
    (if x4 = 0 then
      let h5 := am_pi h3 193 20 (0 : Int32)
      some ((), h5)
    else
      let h6 := am_pi h3 193 18 ((h3 193 18) + (1 : Int32))
      l_X10_next_64 N n h6)))
def l_X10_next_112 (N : Nat) : Nat → am_Hp → Option (Unit × am_Hp)
  | 0, _ => none
  | n + 1, h =>
    am_bi (f_X10_here N h) (fun x2 h1 =>
    am_bi (f_X10_isDigit N x2 h1) (fun x4 h3 =>
    (if x4 = 0 then
      some ((), h3)
    else
      (if (h3 193 21) ≤ (100000 : Int32) then
        am_bi (f_X10_here N h3) (fun x6 h5 =>
        let h7 := am_pi h5 193 21 ((((10 : Int32) * (h3 193 21)) + x6) - (48 : Int32))
        let h8 := am_pi h7 193 18 ((h7 193 18) + (1 : Int32))
        l_X10_next_112 N n h8)
      else
        let h9 := am_pi h3 193 21 (h3 193 21)
        let h10 := am_pi h9 193 18 ((h9 193 18) + (1 : Int32))
        l_X10_next_112 N n h10))))
def l_X10_next_0 (N : Nat) : Nat → am_Hp → Option (Unit × am_Hp)
  | 0, _ => none
  | n + 1, h =>
    am_bi (f_X10_here N h) (fun x2 h1 =>
    (if x2 = (10 : Int32) then
      let h3 := am_pi h1 193 18 ((h1 193 18) + (1 : Int32))
      l_X10_next_0 N n h3
    else
      am_bi (f_X10_here N h1) (fun x5 h4 =>
      (if x5 = (32 : Int32) then
        let h20 := am_pi h4 193 18 ((h4 193 18) + (1 : Int32))
        l_X10_next_0 N n h20
      else
        let h6 := am_pi h4 193 19 (h4 193 18)
        am_bi (f_X10_here N h6) (fun x8 h7 =>
        (if x8 = (-1 : Int32) then
          let h19 := am_pi h7 193 20 (3 : Int32)
          some ((), h19)
        else
          am_bi (f_X10_isSmall N x8 h7) (fun x10 h9 =>
          (if x10 = 0 then
            am_bi (f_X10_isDigit N x8 h9) (fun x12 h11 =>
            (if x12 = 0 then
              (if x8 = (59 : Int32) then
                let h15 := am_pi h11 193 20 (2 : Int32)
                let h16 := am_pi h15 193 18 ((h15 193 18) + (1 : Int32))
                some ((), h16)
              else
                let h13 := am_pi h11 193 20 (4 : Int32)
                let h14 := am_pi h13 193 18 ((h13 193 18) + (1 : Int32))
                some ((), h14))
            else
              let h17 := am_pi h11 193 20 (1 : Int32)
              let h18 := am_pi h17 193 21 (0 : Int32)
              l_X10_next_112 N N h18))
          else
            l_X10_next_64 N N h9))))))))
def f_X10_next (N : Nat)  (h : am_Hp) : Option (Unit × am_Hp) :=
  l_X10_next_0 N N h
def l_X10_wordOf_107 (N : Nat) (K4 : Nat → Int32 → Int32 → am_Hp → Option (Int32 × am_Hp)) : Nat → Nat → Int32 → Int32 → am_Hp → Option (Int32 × am_Hp)
  | 0, _, _, _, _ => none
  | n + 1, a1, i2, i3, h =>
    bif gm_s a1 then am_bi (g_SCHR N a1 i3 h) (fun x2 h1 =>
    (if x2 = (32 : Int32) then
      K4 a1 (i2 + (1 : Int32)) (i3 + (1 : Int32)) h1
    else
      l_X10_wordOf_107 N K4 n a1 i2 (i3 + (1 : Int32)) h1)) else none
def l_X10_wordOf_22 (N : Nat) (K4 : Nat → Int32 → Int32 → am_Hp → Option (Int32 × am_Hp)) : Nat → Nat → Int32 → Int32 → Int32 → am_Hp → Option (Int32 × am_Hp)
  | 0, _, _, _, _, _ => none
  | n + 1, a1, i2, i3, i4, h =>
    bif gm_s a1 then am_bi (g_SCHR N a1 (i3 + i4) h) (fun x2 h1 =>
    (if x2 = (32 : Int32) then
      bif gm_s a1 then am_bi (g_SCHR N a1 (i3 + i4) h1) (fun x4 h3 =>
      (if x4 = (32 : Int32) then
        (if ((h3 193 19) + i4) = (h3 193 18) then
          some (i2, h3)
        else
          l_X10_wordOf_107 N K4 N a1 i2 i3 h3)
      else
        l_X10_wordOf_107 N K4 N a1 i2 i3 h3)) else none
    else
      (if (h1 193 18) ≤ ((h1 193 19) + i4) then
        bif gm_s a1 then am_bi (g_SCHR N a1 (i3 + i4) h1) (fun x6 h5 =>
        (if x6 = (32 : Int32) then
          (if ((h5 193 19) + i4) = (h5 193 18) then
            some (i2, h5)
          else
            l_X10_wordOf_107 N K4 N a1 i2 i3 h5)
        else
          l_X10_wordOf_107 N K4 N a1 i2 i3 h5)) else none
      else
        bif am_in ((h1 193 19) + i4) 600 then bif gm_s a1 then am_bi (g_SCHR N a1 (i3 + i4) h1) (fun x8 h7 =>
        (if (h1 194 (((h1 193 19) + i4).toNatClampNeg)) = x8 then
          l_X10_wordOf_22 N K4 n a1 i2 i3 (i4 + (1 : Int32)) h7
        else
          bif gm_s a1 then am_bi (g_SCHR N a1 (i3 + i4) h7) (fun x10 h9 =>
          (if x10 = (32 : Int32) then
            (if ((h9 193 19) + i4) = (h9 193 18) then
              some (i2, h9)
            else
              l_X10_wordOf_107 N K4 N a1 i2 i3 h9)
          else
            l_X10_wordOf_107 N K4 N a1 i2 i3 h9)) else none)) else none else none))) else none
def l_X10_wordOf_4 (N : Nat) : Nat → Nat → Int32 → Int32 → am_Hp → Option (Int32 × am_Hp)
  | 0, _, _, _, _ => none
  | n + 1, a1, i2, i3, h =>
    (if (h 193 20) = 0 then
      bif gm_s a1 then am_bi (g_SLEN N a1 h) (fun x2 h1 =>
      (if x2 ≤ i3 then
        some ((-1 : Int32), h1)
      else
        l_X10_wordOf_22 N (l_X10_wordOf_4 N n) N a1 i2 i3 (0 : Int32) h1)) else none
    else
      some ((-1 : Int32), h))
def f_X10_wordOf (N : Nat) (a1 : Nat) (h : am_Hp) : Option (Int32 × am_Hp) :=
  l_X10_wordOf_4 N N a1 (0 : Int32) (0 : Int32) h
def f_X10_failsIf (N : Nat) (i1 : Int32) (i2 : Int32) (h : am_Hp) : Option (Unit × am_Hp) :=
  (if (h 193 22) = 0 then
    (if i1 = 0 then
      some ((), h)
    else
      let h1 := am_pi h 193 22 i2
      let h2 := am_pi h1 193 23 (h1 193 19)
      some ((), h2))
  else
    some ((), h))
def f_X10_goOn (N : Nat)  (h : am_Hp) : Option (Unit × am_Hp) :=
  (if (h 193 22) = 0 then
    am_bi (f_X10_next N h) (fun _ h1 =>
    some ((), h1))
  else
    some ((), h))
