def l_X10_symbolsIn_24 (N : Nat) : Nat → Int32 → Int32 → Int32 → am_Hp → Option (Int32 × am_Hp)
  | 0, _, _, _, _ => none
  | n + 1, i0, i1, i2, h =>
    (if (6 : Int32) ≤ i2 then
      (if i0 ≤ 0 then
        some ((0 : Int32), h)
      else
        (if (i0 >>> ((30 : Int32) &&& 31)) = 0 then
          some (i1, h)
        else
          some ((0 : Int32), h)))
    else
      am_bi (f_X10_letterOf N i0 i2 h) (fun x2 h1 =>
      (if x2 ≤ 0 then
        l_X10_symbolsIn_24 N n i0 i1 (i2 + (1 : Int32)) h1
      else
        some ((0 : Int32), h1))))
def l_X10_symbolsIn_2 (N : Nat) : Nat → Int32 → Int32 → am_Hp → Option (Int32 × am_Hp)
  | 0, _, _, _ => none
  | n + 1, i0, i1, h =>
    (if (6 : Int32) ≤ i1 then
      l_X10_symbolsIn_24 N N i0 i1 i1 h
    else
      am_bi (f_X10_letterOf N i0 i1 h) (fun x2 h1 =>
      (if x2 ≤ 0 then
        l_X10_symbolsIn_24 N N i0 i1 i1 h1
      else
        l_X10_symbolsIn_2 N n i0 (i1 + (1 : Int32)) h1)))
def f_X10_symbolsIn (N : Nat) (i0 : Int32) (h : am_Hp) : Option (Int32 × am_Hp) :=
  l_X10_symbolsIn_2 N N i0 (0 : Int32) h
def l_X10_type_70 (N : Nat) : Nat → Int32 → Int32 → Int32 → Int32 → Int32 → am_Hp → Option (Int32 × am_Hp)
  | 0, _, _, _, _, _, _ => none
  | n + 1, i1, i2, i3, i4, i5, h =>
    (if i3 ≤ i5 then
      am_bi (f_X10_settles N h) (fun _ h1 =>
      am_bi (f_X10_events N i4 h1) (fun x3 h2 =>
      some (x3, h2)))
    else
      am_bi (f_X10_letterOf N i2 i5 h) (fun x5 h4 =>
      am_bi (f_X10_records N i4 (0 : Int32) x5 (0 : Int32) i1 h4) (fun _ h6 =>
      l_X10_type_70 N n i1 i2 i3 i4 (i5 + (1 : Int32)) h6)))
def f_X10_type (N : Nat) (i1 : Int32) (i2 : Int32) (h : am_Hp) : Option (Int32 × am_Hp) :=
  let h1 := am_pi h 193 0 (0 : Int32)
  am_bi (f_X10_isUser N i1 h1) (fun x3 h2 =>
  (if x3 = 0 then
    some ((-1 : Int32), h2)
  else
    am_bi (f_X10_symbolsIn N i2 h2) (fun x5 h4 =>
    (if x5 = 0 then
      some ((-2 : Int32), h4)
    else
      am_bi (f_X10_stops N i1 h4) (fun x7 h6 =>
      (if x7 = 0 then
        am_bi (f_X10_ofU N i1 (3 : Int32) h6) (fun x9 h8 =>
        am_bi (f_X10_events N x9 h8) (fun x11 h10 =>
        (if (x11 + x5) ≤ (300 : Int32) then
          am_bi (f_X10_keeps N h10) (fun _ h12 =>
          l_X10_type_70 N N i1 i2 x5 x9 (0 : Int32) h12)
        else
          some ((-3 : Int32), h10))))
      else
        some ((-4 : Int32), h6)))))))
def f_X10_request (N : Nat) (i1 : Int32) (h : am_Hp) : Option (Int32 × am_Hp) :=
  let h1 := am_pi h 193 0 (0 : Int32)
  am_bi (f_X10_isUser N i1 h1) (fun x3 h2 =>
  (if x3 = 0 then
    some ((-1 : Int32), h2)
  else
    am_bi (f_X10_ofU N i1 (3 : Int32) h2) (fun x5 h4 =>
    am_bi (f_X10_ofU N i1 (2 : Int32) h4) (fun x7 h6 =>
    (if x7 = (1 : Int32) then
      am_bi (f_X10_ofS N x5 (1 : Int32) h6) (fun x9 h8 =>
      (if x9 = i1 then
        some ((-4 : Int32), h8)
      else
        am_bi (f_X10_ofS N x5 (2 : Int32) h8) (fun x11 h10 =>
        (if x11 = (-1 : Int32) then
          am_bi (f_X10_keeps N h10) (fun _ h12 =>
          bif am_in (3 : Int32) 6071 then bif am_in (3 : Int32) 6071 then (let h13 := am_pi h12 197 3 ((h12 197 3) + (1 : Int32))
          am_bi (f_X10_ofS N x5 (1 : Int32) h13) (fun x15 h14 =>
          (if x15 = (-1 : Int32) then
            (if (1 : Int32) = 0 then
              am_bi (f_X10_setS N x5 (2 : Int32) i1 h14) (fun _ h21 =>
              bif am_in (2 : Int32) 6071 then am_bi (f_X10_setS N x5 (3 : Int32) (h21 197 2) h21) (fun _ h22 =>
              am_bi (f_X10_settles N h22) (fun _ h23 =>
              (if (1 : Int32) = 0 then
                some ((0 : Int32), h23)
              else
                some ((1 : Int32), h23)))) else none)
            else
              am_bi (f_X10_hasControl N x5 i1 h14) (fun _ h24 =>
              am_bi (f_X10_settles N h24) (fun _ h25 =>
              (if (1 : Int32) = 0 then
                some ((0 : Int32), h25)
              else
                some ((1 : Int32), h25)))))
          else
            (if (0 : Int32) = 0 then
              am_bi (f_X10_setS N x5 (2 : Int32) i1 h14) (fun _ h16 =>
              bif am_in (2 : Int32) 6071 then am_bi (f_X10_setS N x5 (3 : Int32) (h16 197 2) h16) (fun _ h17 =>
              am_bi (f_X10_settles N h17) (fun _ h18 =>
              (if (0 : Int32) = 0 then
                some ((0 : Int32), h18)
              else
                some ((1 : Int32), h18)))) else none)
            else
              am_bi (f_X10_hasControl N x5 i1 h14) (fun _ h19 =>
              am_bi (f_X10_settles N h19) (fun _ h20 =>
              (if (0 : Int32) = 0 then
                some ((0 : Int32), h20)
              else
                some ((1 : Int32), h20)))))))) else none else none)
        else
          some ((-4 : Int32), h10)))))
    else
      some ((-4 : Int32), h6))))))
def f_X10_answer (N : Nat) (i1 : Int32) (i2 : Int32) (h : am_Hp) : Option (Int32 × am_Hp) :=
  let h1 := am_pi h 193 0 (0 : Int32)
  am_bi (f_X10_isUser N i1 h1) (fun x3 h2 =>
  (if x3 = 0 then
    some ((-1 : Int32), h2)
  else
    am_bi (f_X10_controlled N i1 h2) (fun x5 h4 =>
    (if x5 = (-1 : Int32) then
      some ((-4 : Int32), h4)
    else
      am_bi (f_X10_ofS N x5 (2 : Int32) h4) (fun x7 h6 =>
      (if x7 = (-1 : Int32) then
        some ((-4 : Int32), h6)
      else
        am_bi (f_X10_keeps N h6) (fun _ h8 =>
        am_bi (f_X10_ofS N x5 (2 : Int32) h8) (fun x10 h9 =>
        (if i2 = 0 then
          bif am_in ((3 : Int32) + (3 : Int32)) 6071 then bif am_in ((3 : Int32) + (3 : Int32)) 6071 then (let h11 := am_pi h9 197 (((3 : Int32) + (3 : Int32)).toNatClampNeg) ((h9 197 (((3 : Int32) + (3 : Int32)).toNatClampNeg)) + (1 : Int32))
          (if i2 = 0 then
            am_bi (f_X10_hasControl N x5 i1 h11) (fun _ h12 =>
            am_bi (f_X10_settles N h12) (fun _ h13 =>
            some (x10, h13)))
          else
            am_bi (f_X10_hasControl N x5 x10 h11) (fun _ h14 =>
            am_bi (f_X10_settles N h14) (fun _ h15 =>
            some (x10, h15))))) else none else none
        else
          bif am_in ((3 : Int32) + (1 : Int32)) 6071 then bif am_in ((3 : Int32) + (1 : Int32)) 6071 then (let h16 := am_pi h9 197 (((3 : Int32) + (1 : Int32)).toNatClampNeg) ((h9 197 (((3 : Int32) + (1 : Int32)).toNatClampNeg)) + (1 : Int32))
          (if i2 = 0 then
            am_bi (f_X10_hasControl N x5 i1 h16) (fun _ h17 =>
            am_bi (f_X10_settles N h17) (fun _ h18 =>
            some (x10, h18)))
          else
            am_bi (f_X10_hasControl N x5 x10 h16) (fun _ h19 =>
            am_bi (f_X10_settles N h19) (fun _ h20 =>
            some (x10, h20))))) else none else none)))))))))
def f_X10_yield (N : Nat) (i1 : Int32) (h : am_Hp) : Option (Int32 × am_Hp) :=
  let h1 := am_pi h 193 0 (0 : Int32)
  am_bi (f_X10_isUser N i1 h1) (fun x3 h2 =>
  (if x3 = 0 then
    some ((-2 : Int32), h2)
  else
    am_bi (f_X10_controlled N i1 h2) (fun x5 h4 =>
    (if x5 = (-1 : Int32) then
      some ((-4 : Int32), h4)
    else
      am_bi (f_X10_keeps N h4) (fun _ h6 =>
      am_bi (f_X10_givesUp N x5 h6) (fun _ h7 =>
      am_bi (f_X10_settles N h7) (fun _ h8 =>
      am_bi (f_X10_ofS N x5 (1 : Int32) h8) (fun x10 h9 =>
      some (x10, h9)))))))))
def l_X10_pass_63 (N : Nat) (K45 : Int32 → Int32 → Int32 → am_Hp → Option (Int32 × am_Hp)) : Nat → Int32 → Int32 → Int32 → Int32 → am_Hp → Option (Int32 × am_Hp)
  | 0, _, _, _, _, _ => none
  | n + 1, i1, i2, i3, i4, h =>
    bif am_in (0 : Int32) 20 then (if (h 195 0) ≤ i4 then
      K45 i1 i2 (i3 + (1 : Int32)) h
    else
      am_bi (f_X10_ofS N i4 (2 : Int32) h) (fun x2 h1 =>
      (if x2 = (-1 : Int32) then
        l_X10_pass_63 N K45 n i1 i2 i3 (i4 + (1 : Int32)) h1
      else
        bif am_in (2 : Int32) 6071 then am_bi (f_X10_ofS N i4 (3 : Int32) h1) (fun x4 h3 =>
        bif am_in (0 : Int32) 6071 then (if (h3 197 0) ≤ ((h1 197 2) - x4) then
          am_bi (f_X10_givesUp N i4 h3) (fun _ h5 =>
          bif am_in (5 : Int32) 6071 then bif am_in (5 : Int32) 6071 then (let h6 := am_pi h5 197 5 ((h5 197 5) + (1 : Int32))
          l_X10_pass_63 N K45 n i1 (i2 + (1 : Int32)) i3 (i4 + (1 : Int32)) h6) else none else none)
        else
          l_X10_pass_63 N K45 n i1 i2 i3 (i4 + (1 : Int32)) h3) else none) else none))) else none
def l_X10_pass_45 (N : Nat) : Nat → Int32 → Int32 → Int32 → am_Hp → Option (Int32 × am_Hp)
  | 0, _, _, _, _ => none
  | n + 1, i1, i2, i3, h =>
    (if i1 ≤ i3 then
      am_bi (f_X10_settles N h) (fun _ h1 =>
      some (i2, h1))
    else
      bif am_in (2 : Int32) 6071 then bif am_in (2 : Int32) 6071 then (let h2 := am_pi h 197 2 ((h 197 2) + (1 : Int32))
      l_X10_pass_63 N (l_X10_pass_45 N n) N i1 i2 i3 (0 : Int32) h2) else none else none)
def f_X10_pass (N : Nat) (i1 : Int32) (h : am_Hp) : Option (Int32 × am_Hp) :=
  let h1 := am_pi h 193 0 (0 : Int32)
  (if i1 < (1 : Int32) then
    some ((-2 : Int32), h1)
  else
    (if i1 ≤ (500 : Int32) then
      bif am_in (2 : Int32) 6071 then (if ((h1 197 2) + i1) ≤ (9999 : Int32) then
        am_bi (f_X10_keeps N h1) (fun _ h2 =>
        l_X10_pass_45 N N i1 (0 : Int32) (0 : Int32) h2)
      else
        some ((-3 : Int32), h1)) else none
    else
      some ((-2 : Int32), h1)))
def f_X10_setSetting (N : Nat) (i1 : Int32) (i2 : Int32) (h : am_Hp) : Option (Int32 × am_Hp) :=
  let h1 := am_pi h 193 0 (0 : Int32)
  am_bi (f_X10_isSetting N i1 h1) (fun x3 h2 =>
  (if x3 = 0 then
    some ((-2 : Int32), h2)
  else
    am_bi (f_X10_low N i1 h2) (fun x5 h4 =>
    (if i2 < x5 then
      some ((-2 : Int32), h4)
    else
      am_bi (f_X10_top N i1 h4) (fun x7 h6 =>
      (if i2 ≤ x7 then
        am_bi (f_X10_keeps N h6) (fun _ h8 =>
        bif am_in ((0 : Int32) + i1) 6071 then bif am_in ((0 : Int32) + i1) 6071 then (let h9 := am_pi h8 197 (((0 : Int32) + i1).toNatClampNeg) i2
        am_bi (f_X10_settles N h9) (fun _ h10 =>
        some (h8 197 (((0 : Int32) + i1).toNatClampNeg), h10))) else none else none)
      else
        some ((-2 : Int32), h6)))))))
def f_X10_writes (N : Nat) (i1 : Int32) (h : am_Hp) : Option (Unit × am_Hp) :=
  bif am_in (h 193 30) 110 then (let h1 := am_pi h 204 ((h 193 30).toNatClampNeg) i1
  let h2 := am_pi h1 193 30 ((h1 193 30) + (1 : Int32))
  some ((), h2)) else none
def l_X10_write_48 (N : Nat) (K36 : Int32 → Int32 → am_Hp → Option (Int32 × am_Hp)) : Nat → Int32 → Int32 → Int32 → am_Hp → Option (Int32 × am_Hp)
  | 0, _, _, _, _ => none
  | n + 1, i1, i2, i3, h =>
    am_bi (f_X10_ofU N i1 (0 : Int32) h) (fun x2 h1 =>
    (if x2 ≤ i3 then
      am_bi (f_X10_writes N (10 : Int32) h1) (fun _ h3 =>
      K36 i1 (i2 + (1 : Int32)) h3)
    else
      am_bi (f_X10_seen N i2 i3 h1) (fun x5 h4 =>
      (if x5 = (27 : Int32) then
        am_bi (f_X10_writes N (32 : Int32) h4) (fun _ h7 =>
        l_X10_write_48 N K36 n i1 i2 (i3 + (1 : Int32)) h7)
      else
        am_bi (f_X10_writes N ((96 : Int32) + x5) h4) (fun _ h6 =>
        l_X10_write_48 N K36 n i1 i2 (i3 + (1 : Int32)) h6)))))
def l_X10_write_36 (N : Nat) : Nat → Int32 → Int32 → am_Hp → Option (Int32 × am_Hp)
  | 0, _, _, _ => none
  | n + 1, i1, i2, h =>
    am_bi (f_X10_ofU N i1 (1 : Int32) h) (fun x2 h1 =>
    (if x2 ≤ i2 then
      some (h1 193 30, h1)
    else
      l_X10_write_48 N (l_X10_write_36 N n) N i1 i2 (0 : Int32) h1))
def f_X10_write (N : Nat) (i1 : Int32) (h : am_Hp) : Option (Int32 × am_Hp) :=
  am_bi (f_X10_isUser N i1 h) (fun x2 h1 =>
  am_bi (f_X10_checks N x2 h1) (fun x4 h3 =>
  (if x4 = 0 then
    some ((0 : Int32), h3)
  else
    let h5 := am_pi h3 193 30 (0 : Int32)
    am_bi (f_X10_watches N i1 h5) (fun x7 h6 =>
    (if x7 = 0 then
      some ((0 : Int32), h6)
    else
      am_bi (f_X10_laysWindow N i1 h6) (fun _ h8 =>
      l_X10_write_36 N N i1 (0 : Int32) h8))))))
def f_X10_outputAt (N : Nat) (i1 : Int32) (h : am_Hp) : Option (Int32 × am_Hp) :=
  let h1 := am_pi h 193 0 (0 : Int32)
  (if i1 < 0 then
    some ((-1 : Int32), h1)
  else
    (if i1 < (h1 193 30) then
      bif am_in i1 110 then some (h1 204 i1.toNatClampNeg, h1) else none
    else
      some ((-1 : Int32), h1)))
