def f_X10_readSetting (N : Nat)  (h : am_Hp) : Option (Unit × am_Hp) :=
  am_bi (f_X10_goOn N h) (fun _ h1 =>
  am_bi (f_X10_wordOf N 214 h1) (fun x3 h2 =>
  (if x3 = (-1 : Int32) then
    am_bi (f_X10_failsIf N (1 : Int32) (-11 : Int32) h2) (fun _ h45 =>
    (if (h45 193 22) = 0 then
      (if (((h45 193 26) >>> (x3 &&& 31)) &&& (1 : Int32)) = (1 : Int32) then
        am_bi (f_X10_failsIf N (1 : Int32) (-14 : Int32) h45) (fun _ h76 =>
        let h77 := am_pi h76 193 26 ((h76 193 26) ||| ((1 : Int32) <<< (x3 &&& 31)))
        am_bi (f_X10_goOn N h77) (fun _ h78 =>
        am_bi (f_X10_low N x3 h78) (fun x80 h79 =>
        am_bi (f_X10_top N x3 h79) (fun x82 h81 =>
        am_bi (f_X10_integer N x80 x82 h81) (fun x84 h83 =>
        (if (h83 193 22) = 0 then
          bif am_in ((0 : Int32) + x3) 6071 then (let h85 := am_pi h83 197 (((0 : Int32) + x3).toNatClampNeg) x84
          some ((), h85)) else none
        else
          some ((), h83)))))))
      else
        am_bi (f_X10_failsIf N (0 : Int32) (-14 : Int32) h45) (fun _ h66 =>
        let h67 := am_pi h66 193 26 ((h66 193 26) ||| ((1 : Int32) <<< (x3 &&& 31)))
        am_bi (f_X10_goOn N h67) (fun _ h68 =>
        am_bi (f_X10_low N x3 h68) (fun x70 h69 =>
        am_bi (f_X10_top N x3 h69) (fun x72 h71 =>
        am_bi (f_X10_integer N x70 x72 h71) (fun x74 h73 =>
        (if (h73 193 22) = 0 then
          bif am_in ((0 : Int32) + x3) 6071 then (let h75 := am_pi h73 197 (((0 : Int32) + x3).toNatClampNeg) x74
          some ((), h75)) else none
        else
          some ((), h73))))))))
    else
      (if (((h45 193 26) >>> ((0 : Int32) &&& 31)) &&& (1 : Int32)) = (1 : Int32) then
        am_bi (f_X10_failsIf N (1 : Int32) (-14 : Int32) h45) (fun _ h56 =>
        let h57 := am_pi h56 193 26 ((h56 193 26) ||| ((1 : Int32) <<< ((0 : Int32) &&& 31)))
        am_bi (f_X10_goOn N h57) (fun _ h58 =>
        am_bi (f_X10_low N (0 : Int32) h58) (fun x60 h59 =>
        am_bi (f_X10_top N (0 : Int32) h59) (fun x62 h61 =>
        am_bi (f_X10_integer N x60 x62 h61) (fun x64 h63 =>
        (if (h63 193 22) = 0 then
          bif am_in ((0 : Int32) + (0 : Int32)) 6071 then (let h65 := am_pi h63 197 (((0 : Int32) + (0 : Int32)).toNatClampNeg) x64
          some ((), h65)) else none
        else
          some ((), h63)))))))
      else
        am_bi (f_X10_failsIf N (0 : Int32) (-14 : Int32) h45) (fun _ h46 =>
        let h47 := am_pi h46 193 26 ((h46 193 26) ||| ((1 : Int32) <<< ((0 : Int32) &&& 31)))
        am_bi (f_X10_goOn N h47) (fun _ h48 =>
        am_bi (f_X10_low N (0 : Int32) h48) (fun x50 h49 =>
        am_bi (f_X10_top N (0 : Int32) h49) (fun x52 h51 =>
        am_bi (f_X10_integer N x50 x52 h51) (fun x54 h53 =>
        (if (h53 193 22) = 0 then
          bif am_in ((0 : Int32) + (0 : Int32)) 6071 then (let h55 := am_pi h53 197 (((0 : Int32) + (0 : Int32)).toNatClampNeg) x54
          some ((), h55)) else none
        else
          some ((), h53))))))))))
  else
    am_bi (f_X10_failsIf N (0 : Int32) (-11 : Int32) h2) (fun _ h4 =>
    (if (h4 193 22) = 0 then
      (if (((h4 193 26) >>> (x3 &&& 31)) &&& (1 : Int32)) = (1 : Int32) then
        am_bi (f_X10_failsIf N (1 : Int32) (-14 : Int32) h4) (fun _ h35 =>
        let h36 := am_pi h35 193 26 ((h35 193 26) ||| ((1 : Int32) <<< (x3 &&& 31)))
        am_bi (f_X10_goOn N h36) (fun _ h37 =>
        am_bi (f_X10_low N x3 h37) (fun x39 h38 =>
        am_bi (f_X10_top N x3 h38) (fun x41 h40 =>
        am_bi (f_X10_integer N x39 x41 h40) (fun x43 h42 =>
        (if (h42 193 22) = 0 then
          bif am_in ((0 : Int32) + x3) 6071 then (let h44 := am_pi h42 197 (((0 : Int32) + x3).toNatClampNeg) x43
          some ((), h44)) else none
        else
          some ((), h42)))))))
      else
        am_bi (f_X10_failsIf N (0 : Int32) (-14 : Int32) h4) (fun _ h25 =>
        let h26 := am_pi h25 193 26 ((h25 193 26) ||| ((1 : Int32) <<< (x3 &&& 31)))
        am_bi (f_X10_goOn N h26) (fun _ h27 =>
        am_bi (f_X10_low N x3 h27) (fun x29 h28 =>
        am_bi (f_X10_top N x3 h28) (fun x31 h30 =>
        am_bi (f_X10_integer N x29 x31 h30) (fun x33 h32 =>
        (if (h32 193 22) = 0 then
          bif am_in ((0 : Int32) + x3) 6071 then (let h34 := am_pi h32 197 (((0 : Int32) + x3).toNatClampNeg) x33
          some ((), h34)) else none
        else
          some ((), h32))))))))
    else
      (if (((h4 193 26) >>> ((0 : Int32) &&& 31)) &&& (1 : Int32)) = (1 : Int32) then
        am_bi (f_X10_failsIf N (1 : Int32) (-14 : Int32) h4) (fun _ h15 =>
        let h16 := am_pi h15 193 26 ((h15 193 26) ||| ((1 : Int32) <<< ((0 : Int32) &&& 31)))
        am_bi (f_X10_goOn N h16) (fun _ h17 =>
        am_bi (f_X10_low N (0 : Int32) h17) (fun x19 h18 =>
        am_bi (f_X10_top N (0 : Int32) h18) (fun x21 h20 =>
        am_bi (f_X10_integer N x19 x21 h20) (fun x23 h22 =>
        (if (h22 193 22) = 0 then
          bif am_in ((0 : Int32) + (0 : Int32)) 6071 then (let h24 := am_pi h22 197 (((0 : Int32) + (0 : Int32)).toNatClampNeg) x23
          some ((), h24)) else none
        else
          some ((), h22)))))))
      else
        am_bi (f_X10_failsIf N (0 : Int32) (-14 : Int32) h4) (fun _ h5 =>
        let h6 := am_pi h5 193 26 ((h5 193 26) ||| ((1 : Int32) <<< ((0 : Int32) &&& 31)))
        am_bi (f_X10_goOn N h6) (fun _ h7 =>
        am_bi (f_X10_low N (0 : Int32) h7) (fun x9 h8 =>
        am_bi (f_X10_top N (0 : Int32) h8) (fun x11 h10 =>
        am_bi (f_X10_integer N x9 x11 h10) (fun x13 h12 =>
        (if (h12 193 22) = 0 then
          bif am_in ((0 : Int32) + (0 : Int32)) 6071 then (let h14 := am_pi h12 197 (((0 : Int32) + (0 : Int32)).toNatClampNeg) x13
          some ((), h14)) else none
        else
          some ((), h12)))))))))))))
def f_X10_readStatement (N : Nat)  (h : am_Hp) : Option (Unit × am_Hp) :=
  am_bi (f_X10_wordOf N 213 h) (fun x2 h1 =>
  (if x2.toInt = 0 then
    am_bi (f_X10_readThing N (0 : Int32) h1) (fun _ h24 =>
    (if (h24 193 20) = (2 : Int32) then
      am_bi (f_X10_failsIf N (0 : Int32) (-11 : Int32) h24) (fun _ h25 =>
      am_bi (f_X10_goOn N h25) (fun _ h26 =>
      let h27 := am_pi h26 193 25 ((h26 193 25) + (1 : Int32))
      some ((), h27)))
    else
      am_bi (f_X10_failsIf N (1 : Int32) (-11 : Int32) h24) (fun _ h28 =>
      am_bi (f_X10_goOn N h28) (fun _ h29 =>
      let h30 := am_pi h29 193 25 ((h29 193 25) + (1 : Int32))
      some ((), h30)))))
  else if x2.toInt = 1 then
    am_bi (f_X10_readThing N (1 : Int32) h1) (fun _ h17 =>
    (if (h17 193 20) = (2 : Int32) then
      am_bi (f_X10_failsIf N (0 : Int32) (-11 : Int32) h17) (fun _ h18 =>
      am_bi (f_X10_goOn N h18) (fun _ h19 =>
      let h20 := am_pi h19 193 25 ((h19 193 25) + (1 : Int32))
      some ((), h20)))
    else
      am_bi (f_X10_failsIf N (1 : Int32) (-11 : Int32) h17) (fun _ h21 =>
      am_bi (f_X10_goOn N h21) (fun _ h22 =>
      let h23 := am_pi h22 193 25 ((h22 193 25) + (1 : Int32))
      some ((), h23)))))
  else if x2.toInt = 2 then
    am_bi (f_X10_readSetting N h1) (fun _ h10 =>
    (if (h10 193 20) = (2 : Int32) then
      am_bi (f_X10_failsIf N (0 : Int32) (-11 : Int32) h10) (fun _ h11 =>
      am_bi (f_X10_goOn N h11) (fun _ h12 =>
      let h13 := am_pi h12 193 25 ((h12 193 25) + (1 : Int32))
      some ((), h13)))
    else
      am_bi (f_X10_failsIf N (1 : Int32) (-11 : Int32) h10) (fun _ h14 =>
      am_bi (f_X10_goOn N h14) (fun _ h15 =>
      let h16 := am_pi h15 193 25 ((h15 193 25) + (1 : Int32))
      some ((), h16)))))
  else am_bi (f_X10_failsIf N (1 : Int32) (-11 : Int32) h1) (fun _ h3 =>
    (if (h3 193 20) = (2 : Int32) then
      am_bi (f_X10_failsIf N (0 : Int32) (-11 : Int32) h3) (fun _ h4 =>
      am_bi (f_X10_goOn N h4) (fun _ h5 =>
      let h6 := am_pi h5 193 25 ((h5 193 25) + (1 : Int32))
      some ((), h6)))
    else
      am_bi (f_X10_failsIf N (1 : Int32) (-11 : Int32) h3) (fun _ h7 =>
      am_bi (f_X10_goOn N h7) (fun _ h8 =>
      let h9 := am_pi h8 193 25 ((h8 193 25) + (1 : Int32))
      some ((), h9)))))))
def l_X10_load_75 (N : Nat) : Nat → am_Hp → Option (Int32 × am_Hp)
  | 0, _ => none
  | n + 1, h =>
    (if (h 193 22) = 0 then
      (if (h 193 20) = (3 : Int32) then
        let h10 := am_pi h 193 2 (0 : Int32)
        (if (h10 193 22) = 0 then
          let h15 := am_pi h10 193 24 (-1 : Int32)
          (if (h15 193 22) = 0 then
            let h16 := am_pi h15 193 8 (0 : Int32)
            some (h16 193 25, h16)
          else
            am_bi (f_X10_copies N 196 195 h15) (fun _ h17 =>
            am_bi (f_X10_copies N 198 197 h17) (fun _ h18 =>
            some (h18 193 22, h18))))
        else
          let h11 := am_pi h10 193 24 (h10 193 23)
          (if (h11 193 22) = 0 then
            let h12 := am_pi h11 193 8 (0 : Int32)
            some (h12 193 25, h12)
          else
            am_bi (f_X10_copies N 196 195 h11) (fun _ h13 =>
            am_bi (f_X10_copies N 198 197 h13) (fun _ h14 =>
            some (h14 193 22, h14)))))
      else
        am_bi (f_X10_readStatement N h) (fun _ h19 =>
        l_X10_load_75 N n h19))
    else
      let h1 := am_pi h 193 2 (0 : Int32)
      (if (h1 193 22) = 0 then
        let h6 := am_pi h1 193 24 (-1 : Int32)
        (if (h6 193 22) = 0 then
          let h7 := am_pi h6 193 8 (0 : Int32)
          some (h7 193 25, h7)
        else
          am_bi (f_X10_copies N 196 195 h6) (fun _ h8 =>
          am_bi (f_X10_copies N 198 197 h8) (fun _ h9 =>
          some (h9 193 22, h9))))
      else
        let h2 := am_pi h1 193 24 (h1 193 23)
        (if (h2 193 22) = 0 then
          let h3 := am_pi h2 193 8 (0 : Int32)
          some (h3 193 25, h3)
        else
          am_bi (f_X10_copies N 196 195 h2) (fun _ h4 =>
          am_bi (f_X10_copies N 198 197 h4) (fun _ h5 =>
          some (h5 193 22, h5))))))
def f_X10_load (N : Nat) (i1 : Int32) (h : am_Hp) : Option (Int32 × am_Hp) :=
  let h1 := am_pi h 193 0 (0 : Int32)
  (if i1 < 0 then
    some ((-2 : Int32), h1)
  else
    (if i1 ≤ (h1 193 2) then
      am_bi (f_X10_copies N 195 196 h1) (fun _ h2 =>
      am_bi (f_X10_copies N 197 198 h2) (fun _ h3 =>
      am_bi (f_X10_newConsoles N h3) (fun _ h4 =>
      let h5 := am_pi h4 193 17 i1
      let h6 := am_pi h5 193 18 (0 : Int32)
      let h7 := am_pi h6 193 22 (0 : Int32)
      let h8 := am_pi h7 193 25 (0 : Int32)
      let h9 := am_pi h8 193 26 (0 : Int32)
      am_bi (f_X10_next N h9) (fun _ h10 =>
      l_X10_load_75 N N h10))))
    else
      some ((-2 : Int32), h1)))
def f_X10_errorPosition (N : Nat)  (h : am_Hp) : Option (Int32 × am_Hp) :=
  let h1 := am_pi h 193 0 (0 : Int32)
  some (h1 193 24, h1)
def f_X10_isSession (N : Nat) (i1 : Int32) (h : am_Hp) : Option (Int32 × am_Hp) :=
  (if i1 < 0 then
    if (0 : Int32) &&& 1 = (0 : Int32) then some ((0 : Int32), h) else none
  else
    bif am_in (0 : Int32) 20 then (if (h 195 0) ≤ i1 then
      if (0 : Int32) &&& 1 = (0 : Int32) then some ((0 : Int32), h) else none
    else
      if (1 : Int32) &&& 1 = (1 : Int32) then some ((1 : Int32), h) else none) else none)
def f_X10_isUser (N : Nat) (i1 : Int32) (h : am_Hp) : Option (Int32 × am_Hp) :=
  (if i1 < 0 then
    if (0 : Int32) &&& 1 = (0 : Int32) then some ((0 : Int32), h) else none
  else
    bif am_in (1 : Int32) 20 then (if (h 195 1) ≤ i1 then
      if (0 : Int32) &&& 1 = (0 : Int32) then some ((0 : Int32), h) else none
    else
      if (1 : Int32) &&& 1 = (1 : Int32) then some ((1 : Int32), h) else none) else none)
def f_X10_isPosition (N : Nat) (i1 : Int32) (i2 : Int32) (h : am_Hp) : Option (Int32 × am_Hp) :=
  am_bi (f_X10_isSession N i1 h) (fun x2 h1 =>
  (if x2 = 0 then
    if (0 : Int32) &&& 1 = (0 : Int32) then some ((0 : Int32), h1) else none
  else
    (if i2 < 0 then
      if (0 : Int32) &&& 1 = (0 : Int32) then some ((0 : Int32), h1) else none
    else
      am_bi (f_X10_events N i1 h1) (fun x4 h3 =>
      (if x4 < i2 then
        if (0 : Int32) &&& 1 = (0 : Int32) then some ((0 : Int32), h3) else none
      else
        if (1 : Int32) &&& 1 = (1 : Int32) then some ((1 : Int32), h3) else none)))))
def f_X10_isSetting (N : Nat) (i0 : Int32) (h : am_Hp) : Option (Int32 × am_Hp) :=
  (if i0 = 0 then
    if (1 : Int32) &&& 1 = (1 : Int32) then some ((1 : Int32), h) else none
  else
    (if i0 = (1 : Int32) then
      if (1 : Int32) &&& 1 = (1 : Int32) then some ((1 : Int32), h) else none
    else
      if (0 : Int32) &&& 1 = (0 : Int32) then some ((0 : Int32), h) else none))
def f_X10_checks (N : Nat) (i1 : Int32) (h : am_Hp) : Option (Int32 × am_Hp) :=
  (if i1 = 0 then
    let h1 := am_pi h 193 0 (1 : Int32)
    if i1 &&& 1 = i1 then some (i1, h1) else none
  else
    let h2 := am_pi h 193 0 (0 : Int32)
    if i1 &&& 1 = i1 then some (i1, h2) else none)
def l_X10_count_54 (N : Nat) : Nat → Int32 → Int32 → am_Hp → Option (Int32 × am_Hp)
  | 0, _, _, _ => none
  | n + 1, i2, i3, h =>
    bif am_in (1 : Int32) 20 then (if (h 195 1) ≤ i3 then
      some (i2, h)
    else
      am_bi (f_X10_watches N i3 h) (fun x2 h1 =>
      (if x2 = 0 then
        l_X10_count_54 N n (i2 + (0 : Int32)) (i3 + (1 : Int32)) h1
      else
        l_X10_count_54 N n (i2 + (1 : Int32)) (i3 + (1 : Int32)) h1))) else none
def f_X10_count (N : Nat) (i1 : Int32) (h : am_Hp) : Option (Int32 × am_Hp) :=
  let h1 := am_pi h 193 0 (0 : Int32)
  (if i1.toInt = 0 then
    bif am_in (0 : Int32) 20 then some (h1 195 0, h1) else none
  else if i1.toInt = 1 then
    bif am_in (1 : Int32) 20 then some (h1 195 1, h1) else none
  else if i1.toInt = 2 then
    l_X10_count_54 N N (0 : Int32) (0 : Int32) h1
  else if i1.toInt = 3 then
    bif am_in (2 : Int32) 6071 then some (h1 197 2, h1) else none
  else some ((-2 : Int32), h1))
def f_X10_undoCount (N : Nat)  (h : am_Hp) : Option (Int32 × am_Hp) :=
  let h1 := am_pi h 193 0 (0 : Int32)
  some (h1 193 8, h1)
def f_X10_named (N : Nat) (i1 : Int32) (i2 : Int32) (h : am_Hp) : Option (Int32 × am_Hp) :=
  let h1 := am_pi h 193 0 (0 : Int32)
  am_bi (f_X10_found N i1 i2 h1) (fun x3 h2 =>
  some (x3, h2))
def f_X10_getSetting (N : Nat) (i1 : Int32) (h : am_Hp) : Option (Int32 × am_Hp) :=
  let h1 := am_pi h 193 0 (0 : Int32)
  am_bi (f_X10_isSetting N i1 h1) (fun x3 h2 =>
  (if x3 = 0 then
    some ((-2 : Int32), h2)
  else
    bif am_in ((0 : Int32) + i1) 6071 then some (h2 197 (((0 : Int32) + i1).toNatClampNeg), h2) else none))
def f_X10_session (N : Nat) (i1 : Int32) (i2 : Int32) (h : am_Hp) : Option (Int32 × am_Hp) :=
  am_bi (f_X10_isSession N i1 h) (fun x2 h1 =>
  am_bi (f_X10_checks N x2 h1) (fun x4 h3 =>
  (if x4 = 0 then
    some ((0 : Int32), h3)
  else
    (if i2.toInt = 0 then
      bif am_in ((12 : Int32) + i1) 20 then some (h3 195 (((12 : Int32) + i1).toNatClampNeg), h3) else none
    else if i2.toInt = 1 then
      bif am_in ((16 : Int32) + i1) 20 then some (h3 195 (((16 : Int32) + i1).toNatClampNeg), h3) else none
    else if i2.toInt = 2 then
      am_bi (f_X10_events N i1 h3) (fun x14 h13 =>
      some (x14, h13))
    else if i2.toInt = 3 then
      am_bi (f_X10_ofS N i1 (1 : Int32) h3) (fun x12 h11 =>
      some (x12, h11))
    else if i2.toInt = 4 then
      am_bi (f_X10_ofS N i1 (2 : Int32) h3) (fun x10 h9 =>
      some (x10, h9))
    else if i2.toInt = 5 then
      am_bi (f_X10_ofS N i1 (2 : Int32) h3) (fun x6 h5 =>
      (if x6 = (-1 : Int32) then
        some ((-1 : Int32), h5)
      else
        am_bi (f_X10_ofS N i1 (3 : Int32) h5) (fun x8 h7 =>
        some (x8, h7))))
    else some ((-2 : Int32), h3)))))
