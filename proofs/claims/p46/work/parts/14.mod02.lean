def f_X10_integer (N : Nat) (i1 : Int32) (i2 : Int32) (h : am_Hp) : Option (Int32 × am_Hp) :=
  (if (h 193 20) = (1 : Int32) then
    am_bi (f_X10_failsIf N (0 : Int32) (-11 : Int32) h) (fun _ h1 =>
    (if (h1 193 21) < i1 then
      am_bi (f_X10_failsIf N (1 : Int32) (-12 : Int32) h1) (fun _ h2 =>
      (if (h2 193 22) = 0 then
        am_bi (f_X10_goOn N h2) (fun _ h4 =>
        some (h2 193 21, h4))
      else
        am_bi (f_X10_goOn N h2) (fun _ h3 =>
        some (i1, h3))))
    else
      (if (h1 193 21) ≤ i2 then
        am_bi (f_X10_failsIf N (0 : Int32) (-12 : Int32) h1) (fun _ h5 =>
        (if (h5 193 22) = 0 then
          am_bi (f_X10_goOn N h5) (fun _ h7 =>
          some (h5 193 21, h7))
        else
          am_bi (f_X10_goOn N h5) (fun _ h6 =>
          some (i1, h6))))
      else
        am_bi (f_X10_failsIf N (1 : Int32) (-12 : Int32) h1) (fun _ h8 =>
        (if (h8 193 22) = 0 then
          am_bi (f_X10_goOn N h8) (fun _ h10 =>
          some (h8 193 21, h10))
        else
          am_bi (f_X10_goOn N h8) (fun _ h9 =>
          some (i1, h9)))))))
  else
    am_bi (f_X10_failsIf N (1 : Int32) (-11 : Int32) h) (fun _ h11 =>
    (if (h11 193 21) < i1 then
      am_bi (f_X10_failsIf N (1 : Int32) (-12 : Int32) h11) (fun _ h12 =>
      (if (h12 193 22) = 0 then
        am_bi (f_X10_goOn N h12) (fun _ h14 =>
        some (h12 193 21, h14))
      else
        am_bi (f_X10_goOn N h12) (fun _ h13 =>
        some (i1, h13))))
    else
      (if (h11 193 21) ≤ i2 then
        am_bi (f_X10_failsIf N (0 : Int32) (-12 : Int32) h11) (fun _ h15 =>
        (if (h15 193 22) = 0 then
          am_bi (f_X10_goOn N h15) (fun _ h17 =>
          some (h15 193 21, h17))
        else
          am_bi (f_X10_goOn N h15) (fun _ h16 =>
          some (i1, h16))))
      else
        am_bi (f_X10_failsIf N (1 : Int32) (-12 : Int32) h11) (fun _ h18 =>
        (if (h18 193 22) = 0 then
          am_bi (f_X10_goOn N h18) (fun _ h20 =>
          some (h18 193 21, h20))
        else
          am_bi (f_X10_goOn N h18) (fun _ h19 =>
          some (i1, h19))))))))
def l_X10_nameHere_36 (N : Nat) : Nat → Int32 → Int32 → am_Hp → Option (Int32 × am_Hp)
  | 0, _, _, _ => none
  | n + 1, i1, i2, h =>
    (if (6 : Int32) ≤ i2 then
      some (i1, h)
    else
      (if (h 193 22) = 0 then
        (if (h 193 18) ≤ ((h 193 19) + i2) then
          l_X10_nameHere_36 N n ((i1 <<< ((5 : Int32) &&& 31)) ||| (0 : Int32)) (i2 + (1 : Int32)) h
        else
          bif am_in ((h 193 19) + i2) 600 then l_X10_nameHere_36 N n ((i1 <<< ((5 : Int32) &&& 31)) ||| (((h 194 (((h 193 19) + i2).toNatClampNeg)) - (97 : Int32)) + (1 : Int32))) (i2 + (1 : Int32)) h else none)
      else
        some (i1, h)))
def f_X10_nameHere (N : Nat)  (h : am_Hp) : Option (Int32 × am_Hp) :=
  (if (h 193 20) = 0 then
    (if ((h 193 18) - (h 193 19)) ≤ (6 : Int32) then
      am_bi (f_X10_failsIf N (0 : Int32) (-11 : Int32) h) (fun _ h2 =>
      l_X10_nameHere_36 N N (0 : Int32) (0 : Int32) h2)
    else
      am_bi (f_X10_failsIf N (1 : Int32) (-11 : Int32) h) (fun _ h3 =>
      l_X10_nameHere_36 N N (0 : Int32) (0 : Int32) h3))
  else
    am_bi (f_X10_failsIf N (1 : Int32) (-11 : Int32) h) (fun _ h1 =>
    l_X10_nameHere_36 N N (0 : Int32) (0 : Int32) h1))
def l_X10_found_2 (N : Nat) : Nat → Int32 → Int32 → Int32 → am_Hp → Option (Int32 × am_Hp)
  | 0, _, _, _, _ => none
  | n + 1, i1, i2, i3, h =>
    (if i1 = 0 then
      bif am_in (0 : Int32) 20 then (if (h 195 0) ≤ i3 then
        some ((-1 : Int32), h)
      else
        (if i1 = 0 then
          bif am_in ((2 : Int32) + i3) 20 then (if (h 195 (((2 : Int32) + i3).toNatClampNeg)) = i2 then
            some (i3, h)
          else
            l_X10_found_2 N n i1 i2 (i3 + (1 : Int32)) h) else none
        else
          bif am_in ((6 : Int32) + i3) 20 then (if (h 195 (((6 : Int32) + i3).toNatClampNeg)) = i2 then
            some (i3, h)
          else
            l_X10_found_2 N n i1 i2 (i3 + (1 : Int32)) h) else none)) else none
    else
      bif am_in (1 : Int32) 20 then (if (h 195 1) ≤ i3 then
        some ((-1 : Int32), h)
      else
        (if i1 = 0 then
          bif am_in ((2 : Int32) + i3) 20 then (if (h 195 (((2 : Int32) + i3).toNatClampNeg)) = i2 then
            some (i3, h)
          else
            l_X10_found_2 N n i1 i2 (i3 + (1 : Int32)) h) else none
        else
          bif am_in ((6 : Int32) + i3) 20 then (if (h 195 (((6 : Int32) + i3).toNatClampNeg)) = i2 then
            some (i3, h)
          else
            l_X10_found_2 N n i1 i2 (i3 + (1 : Int32)) h) else none)) else none)
def f_X10_found (N : Nat) (i1 : Int32) (i2 : Int32) (h : am_Hp) : Option (Int32 × am_Hp) :=
  l_X10_found_2 N N i1 i2 (0 : Int32) h
