def f_X10_thrown (N : Nat)  (h : am_Hp) : Option (Int32 × am_Hp) :=
  some (h 193 0, h)
def l_X10_feed_24 (N : Nat) : Nat → Int32 → Int32 → Int32 → Int32 → Int32 → Int32 → am_Hp → Option (Int32 × am_Hp)
  | 0, _, _, _, _, _, _, _ => none
  | n + 1, i1, i2, i3, i4, i5, i6, h =>
    (if (20 : Int32) ≤ i6 then
      let h1 := am_pi h 193 2 ((h 193 2) + (20 : Int32))
      some (h1 193 2, h1)
    else
      (if (4 : Int32) ≤ i6 then
        (if (8 : Int32) ≤ i6 then
          (if (12 : Int32) ≤ i6 then
            (if (16 : Int32) ≤ i6 then
              if (4 : Int32) = 0 then none else bif am_in ((h 193 2) + i6) 600 then (let h2 := am_pi h 194 (((h 193 2) + i6).toNatClampNeg) ((i5 >>> (((24 : Int32) - ((8 : Int32) * (i6 - i6 / (4 : Int32) * (4 : Int32)))) &&& 31)) &&& (255 : Int32))
              l_X10_feed_24 N n i1 i2 i3 i4 i5 (i6 + (1 : Int32)) h2) else none
            else
              if (4 : Int32) = 0 then none else bif am_in ((h 193 2) + i6) 600 then (let h3 := am_pi h 194 (((h 193 2) + i6).toNatClampNeg) ((i4 >>> (((24 : Int32) - ((8 : Int32) * (i6 - i6 / (4 : Int32) * (4 : Int32)))) &&& 31)) &&& (255 : Int32))
              l_X10_feed_24 N n i1 i2 i3 i4 i5 (i6 + (1 : Int32)) h3) else none)
          else
            if (4 : Int32) = 0 then none else bif am_in ((h 193 2) + i6) 600 then (let h4 := am_pi h 194 (((h 193 2) + i6).toNatClampNeg) ((i3 >>> (((24 : Int32) - ((8 : Int32) * (i6 - i6 / (4 : Int32) * (4 : Int32)))) &&& 31)) &&& (255 : Int32))
            l_X10_feed_24 N n i1 i2 i3 i4 i5 (i6 + (1 : Int32)) h4) else none)
        else
          if (4 : Int32) = 0 then none else bif am_in ((h 193 2) + i6) 600 then (let h5 := am_pi h 194 (((h 193 2) + i6).toNatClampNeg) ((i2 >>> (((24 : Int32) - ((8 : Int32) * (i6 - i6 / (4 : Int32) * (4 : Int32)))) &&& 31)) &&& (255 : Int32))
          l_X10_feed_24 N n i1 i2 i3 i4 i5 (i6 + (1 : Int32)) h5) else none)
      else
        if (4 : Int32) = 0 then none else bif am_in ((h 193 2) + i6) 600 then (let h6 := am_pi h 194 (((h 193 2) + i6).toNatClampNeg) ((i1 >>> (((24 : Int32) - ((8 : Int32) * (i6 - i6 / (4 : Int32) * (4 : Int32)))) &&& 31)) &&& (255 : Int32))
        l_X10_feed_24 N n i1 i2 i3 i4 i5 (i6 + (1 : Int32)) h6) else none))
def f_X10_feed (N : Nat) (i1 : Int32) (i2 : Int32) (i3 : Int32) (i4 : Int32) (i5 : Int32) (h : am_Hp) : Option (Int32 × am_Hp) :=
  let h1 := am_pi h 193 0 (0 : Int32)
  (if ((h1 193 2) + (20 : Int32)) ≤ (600 : Int32) then
    l_X10_feed_24 N N i1 i2 i3 i4 i5 (0 : Int32) h1
  else
    some ((-3 : Int32), h1))
def l_X10_copies_2 (N : Nat) : Nat → Nat → Nat → Int32 → am_Hp → Option (Unit × am_Hp)
  | 0, _, _, _, _ => none
  | n + 1, a0, a1, i2, h =>
    bif gm_isI a0 || gm_isA a0 || gm_isF a0 then (if (Int32.ofNat (gm_len a0)) ≤ i2 then
      some ((), h)
    else
      bif am_in i2 (gm_len a0) then (bif gm_isI a0 then bif gm_isI a1 && am_in i2 (gm_len a1) then (let h1 := am_pi h a1 i2.toNatClampNeg (h a0 i2.toNatClampNeg)
      l_X10_copies_2 N n a0 a1 (i2 + (1 : Int32)) h1) else none else bif gm_isF a0 then bif gm_isI a1 && am_in i2 (gm_len a1) then (let h2 := am_pi h a1 i2.toNatClampNeg (am_sx a0 i2.toNatClampNeg)
      l_X10_copies_2 N n a0 a1 (i2 + (1 : Int32)) h2) else none else none) else none) else none
def f_X10_copies (N : Nat) (a0 : Nat) (a1 : Nat) (h : am_Hp) : Option (Unit × am_Hp) :=
  l_X10_copies_2 N N a0 a1 (0 : Int32) h
def f_X10_setS (N : Nat) (i1 : Int32) (i2 : Int32) (i3 : Int32) (h : am_Hp) : Option (Unit × am_Hp) :=
  bif am_in (((55 : Int32) + ((1504 : Int32) * i1)) + i2) 6071 then (let h1 := am_pi h 197 ((((55 : Int32) + ((1504 : Int32) * i1)) + i2).toNatClampNeg) i3
  some ((), h1)) else none
def l_X10_newConsoles_53 (N : Nat) : Nat → Int32 → am_Hp → Option (Unit × am_Hp)
  | 0, _, _ => none
  | n + 1, i1, h =>
    (if (4 : Int32) ≤ i1 then
      some ((), h)
    else
      am_bi (f_X10_setS N i1 (1 : Int32) (-1 : Int32) h) (fun _ h1 =>
      am_bi (f_X10_setS N i1 (2 : Int32) (-1 : Int32) h1) (fun _ h2 =>
      l_X10_newConsoles_53 N n (i1 + (1 : Int32)) h2)))
def l_X10_newConsoles_23 (N : Nat) : Nat → Int32 → am_Hp → Option (Unit × am_Hp)
  | 0, _, _ => none
  | n + 1, i1, h =>
    (if (6071 : Int32) ≤ i1 then
      bif am_in (0 : Int32) 6071 then (let h1 := am_pi h 197 0 (10 : Int32)
      l_X10_newConsoles_53 N N (0 : Int32) h1) else none
    else
      bif am_in i1 6071 then (let h2 := am_pi h 197 i1.toNatClampNeg (0 : Int32)
      l_X10_newConsoles_23 N n (i1 + (1 : Int32)) h2) else none)
def l_X10_newConsoles_2 (N : Nat) : Nat → Int32 → am_Hp → Option (Unit × am_Hp)
  | 0, _, _ => none
  | n + 1, i1, h =>
    (if (20 : Int32) ≤ i1 then
      l_X10_newConsoles_23 N N (0 : Int32) h
    else
      bif am_in i1 20 then (let h1 := am_pi h 195 i1.toNatClampNeg (0 : Int32)
      l_X10_newConsoles_2 N n (i1 + (1 : Int32)) h1) else none)
def f_X10_newConsoles (N : Nat)  (h : am_Hp) : Option (Unit × am_Hp) :=
  l_X10_newConsoles_2 N N (0 : Int32) h
def f_X10_ofS (N : Nat) (i1 : Int32) (i2 : Int32) (h : am_Hp) : Option (Int32 × am_Hp) :=
  bif am_in (((55 : Int32) + ((1504 : Int32) * i1)) + i2) 6071 then some (h 197 ((((55 : Int32) + ((1504 : Int32) * i1)) + i2).toNatClampNeg), h) else none
def f_X10_ofU (N : Nat) (i1 : Int32) (i2 : Int32) (h : am_Hp) : Option (Int32 × am_Hp) :=
  bif am_in (((7 : Int32) + ((8 : Int32) * i1)) + i2) 6071 then some (h 197 ((((7 : Int32) + ((8 : Int32) * i1)) + i2).toNatClampNeg), h) else none
def f_X10_setU (N : Nat) (i1 : Int32) (i2 : Int32) (i3 : Int32) (h : am_Hp) : Option (Unit × am_Hp) :=
  bif am_in (((7 : Int32) + ((8 : Int32) * i1)) + i2) 6071 then (let h1 := am_pi h 197 ((((7 : Int32) + ((8 : Int32) * i1)) + i2).toNatClampNeg) i3
  some ((), h1)) else none
def f_X10_ofE (N : Nat) (i1 : Int32) (i2 : Int32) (i3 : Int32) (h : am_Hp) : Option (Int32 × am_Hp) :=
  am_bi (f_X10_ofS N i1 (((4 : Int32) + ((5 : Int32) * i2)) + i3) h) (fun x2 h1 =>
  some (x2, h1))
def f_X10_events (N : Nat) (i1 : Int32) (h : am_Hp) : Option (Int32 × am_Hp) :=
  am_bi (f_X10_ofS N i1 (0 : Int32) h) (fun x2 h1 =>
  some (x2, h1))
def f_X10_watches (N : Nat) (i1 : Int32) (h : am_Hp) : Option (Int32 × am_Hp) :=
  am_bi (f_X10_ofU N i1 (2 : Int32) h) (fun x2 h1 =>
  (if x2 = 0 then
    if (0 : Int32) &&& 1 = (0 : Int32) then some ((0 : Int32), h1) else none
  else
    if (1 : Int32) &&& 1 = (1 : Int32) then some ((1 : Int32), h1) else none))
def f_X10_isLive (N : Nat) (i1 : Int32) (i2 : Int32) (h : am_Hp) : Option (Int32 × am_Hp) :=
  am_bi (f_X10_ofU N i1 (2 : Int32) h) (fun x2 h1 =>
  (if x2 = (1 : Int32) then
    am_bi (f_X10_ofU N i1 (3 : Int32) h1) (fun x4 h3 =>
    (if x4 = i2 then
      if (1 : Int32) &&& 1 = (1 : Int32) then some ((1 : Int32), h3) else none
    else
      if (0 : Int32) &&& 1 = (0 : Int32) then some ((0 : Int32), h3) else none))
  else
    if (0 : Int32) &&& 1 = (0 : Int32) then some ((0 : Int32), h1) else none))
def l_X10_empties_2 (N : Nat) : Nat → Int32 → am_Hp → Option (Unit × am_Hp)
  | 0, _, _ => none
  | n + 1, i1, h =>
    (if (96 : Int32) ≤ i1 then
      some ((), h)
    else
      bif am_in i1 96 then (let h1 := am_pi h 200 i1.toNatClampNeg (27 : Int32)
      l_X10_empties_2 N n (i1 + (1 : Int32)) h1) else none)
def f_X10_empties (N : Nat)  (h : am_Hp) : Option (Unit × am_Hp) :=
  l_X10_empties_2 N N (0 : Int32) h
def f_X10_begins (N : Nat) (i1 : Int32) (h : am_Hp) : Option (Unit × am_Hp) :=
  bif am_in ((12 : Int32) + i1) 20 then let h1 := am_pi h 193 9 (h 195 (((12 : Int32) + i1).toNatClampNeg))
  bif am_in ((16 : Int32) + i1) 20 then let h2 := am_pi h1 193 10 (h1 195 (((16 : Int32) + i1).toNatClampNeg))
  let h3 := am_pi h2 193 11 (0 : Int32)
  let h4 := am_pi h3 193 12 (0 : Int32)
  let h5 := am_pi h4 193 14 (0 : Int32)
  am_bi (f_X10_empties N h5) (fun _ h6 =>
  some ((), h6)) else none else none
def l_X10_goesUp_150 (N : Nat) : Nat → Int32 → am_Hp → Option (Unit × am_Hp)
  | 0, _, _ => none
  | n + 1, i1, h =>
    (if (96 : Int32) ≤ i1 then
      some ((), h)
    else
      (if (96 : Int32) ≤ (i1 + (16 : Int32)) then
        bif am_in i1 96 then (let h1 := am_pi h 200 i1.toNatClampNeg (27 : Int32)
        l_X10_goesUp_150 N n (i1 + (1 : Int32)) h1) else none
      else
        bif am_in (i1 + (16 : Int32)) 96 then bif am_in i1 96 then (let h2 := am_pi h 200 i1.toNatClampNeg (h 200 ((i1 + (16 : Int32)).toNatClampNeg))
        l_X10_goesUp_150 N n (i1 + (1 : Int32)) h2) else none else none))
def l_X10_goesUp_80 (N : Nat) : Nat → Int32 → am_Hp → Option (Unit × am_Hp)
  | 0, _, _ => none
  | n + 1, i1, h =>
    (if (16 : Int32) ≤ i1 then
      bif am_in (h 193 14) 40 then (let h1 := am_pi h 202 ((h 193 14).toNatClampNeg) (h 193 9)
      let h2 := am_pi h1 193 14 ((h1 193 14) + (1 : Int32))
      l_X10_goesUp_150 N N (0 : Int32) h2) else none
    else
      (if (h 193 9) ≤ i1 then
        bif am_in (((16 : Int32) * (h 193 14)) + i1) 640 then (let h3 := am_pi h 201 ((((16 : Int32) * (h 193 14)) + i1).toNatClampNeg) (27 : Int32)
        l_X10_goesUp_80 N n (i1 + (1 : Int32)) h3) else none
      else
        bif am_in i1 96 then bif am_in (((16 : Int32) * (h 193 14)) + i1) 640 then (let h4 := am_pi h 201 ((((16 : Int32) * (h 193 14)) + i1).toNatClampNeg) (h 200 i1.toNatClampNeg)
        l_X10_goesUp_80 N n (i1 + (1 : Int32)) h4) else none else none))
def l_X10_goesUp_42 (N : Nat) : Nat → Int32 → am_Hp → Option (Unit × am_Hp)
  | 0, _, _ => none
  | n + 1, i1, h =>
    (if (40 : Int32) ≤ i1 then
      let h1 := am_pi h 193 14 ((h 193 14) - (1 : Int32))
      l_X10_goesUp_80 N N (0 : Int32) h1
    else
      bif am_in i1 40 then bif am_in (i1 - (1 : Int32)) 40 then (let h2 := am_pi h 202 ((i1 - (1 : Int32)).toNatClampNeg) (h 202 i1.toNatClampNeg)
      l_X10_goesUp_42 N n (i1 + (1 : Int32)) h2) else none else none)
def l_X10_goesUp_12 (N : Nat) : Nat → Int32 → am_Hp → Option (Unit × am_Hp)
  | 0, _, _ => none
  | n + 1, i1, h =>
    (if (640 : Int32) ≤ i1 then
      l_X10_goesUp_42 N N (1 : Int32) h
    else
      bif am_in i1 640 then bif am_in (i1 - (16 : Int32)) 640 then (let h1 := am_pi h 201 ((i1 - (16 : Int32)).toNatClampNeg) (h 201 i1.toNatClampNeg)
      l_X10_goesUp_12 N n (i1 + (1 : Int32)) h1) else none else none)
def f_X10_goesUp (N : Nat)  (h : am_Hp) : Option (Unit × am_Hp) :=
  (if (h 193 14) = (40 : Int32) then
    l_X10_goesUp_12 N N (16 : Int32) h
  else
    l_X10_goesUp_80 N N (0 : Int32) h)
def f_X10_goesDown (N : Nat)  (h : am_Hp) : Option (Unit × am_Hp) :=
  let h1 := am_pi h 193 12 (0 : Int32)
  (if (h1 193 10) ≤ ((h1 193 11) + (1 : Int32)) then
    am_bi (f_X10_goesUp N h1) (fun _ h2 =>
    some ((), h2))
  else
    let h3 := am_pi h1 193 11 ((h1 193 11) + (1 : Int32))
    some ((), h3))
def f_X10_types (N : Nat) (i1 : Int32) (h : am_Hp) : Option (Unit × am_Hp) :=
  (if i1.toInt = 28 then
    am_bi (f_X10_goesDown N h) (fun _ h9 =>
    some ((), h9))
  else if i1.toInt = 29 then
    let h8 := am_pi h 193 12 (0 : Int32)
    some ((), h8)
  else if i1.toInt = 30 then
    let h7 := am_pi h 193 12 (if (0 : Int32) < ((h 193 12) - (1 : Int32)) then (h 193 12) - (1 : Int32) else (0 : Int32))
    some ((), h7)
  else if i1.toInt = 31 then
    am_bi (f_X10_empties N h) (fun _ h4 =>
    let h5 := am_pi h4 193 12 (0 : Int32)
    let h6 := am_pi h5 193 11 (0 : Int32)
    some ((), h6))
  else bif am_in (((16 : Int32) * (h 193 11)) + (h 193 12)) 96 then (let h1 := am_pi h 200 ((((16 : Int32) * (h 193 11)) + (h 193 12)).toNatClampNeg) i1
    let h2 := am_pi h1 193 12 ((h1 193 12) + (1 : Int32))
    (if (h2 193 12) = (h2 193 9) then
      am_bi (f_X10_goesDown N h2) (fun _ h3 =>
      some ((), h3))
    else
      some ((), h2))) else none)
def l_X10_sizes_102 (N : Nat) : Nat → Int32 → am_Hp → Option (Unit × am_Hp)
  | 0, _, _ => none
  | n + 1, i3, h =>
    (if (96 : Int32) ≤ i3 then
      some ((), h)
    else
      bif am_in i3 96 then (let h1 := am_pi h 200 i3.toNatClampNeg (27 : Int32)
      l_X10_sizes_102 N n (i3 + (1 : Int32)) h1) else none)
def l_X10_sizes_64 (N : Nat) : Nat → Int32 → am_Hp → Option (Unit × am_Hp)
  | 0, _, _ => none
  | n + 1, i2, h =>
    (if (h 193 11) < i2 then
      let h1 := am_pi h 193 10 i2
      l_X10_sizes_102 N N ((16 : Int32) * (h1 193 10)) h1
    else
      am_bi (f_X10_goesUp N h) (fun _ h2 =>
      let h3 := am_pi h2 193 11 ((h2 193 11) - (1 : Int32))
      l_X10_sizes_64 N n i2 h3))
def l_X10_sizes_7 (N : Nat) : Nat → Int32 → Int32 → am_Hp → Option (Unit × am_Hp)
  | 0, _, _, _ => none
  | n + 1, i2, i3, h =>
    (if (96 : Int32) ≤ i3 then
      let h1 := am_pi h 193 12 (if ((h 193 9) - (1 : Int32)) < (h 193 12) then (h 193 9) - (1 : Int32) else h 193 12)
      l_X10_sizes_64 N N i2 h1
    else
      if (16 : Int32) = 0 then none else (if (h 193 9) ≤ (i3 - i3 / (16 : Int32) * (16 : Int32)) then
        bif am_in i3 96 then (let h2 := am_pi h 200 i3.toNatClampNeg (27 : Int32)
        l_X10_sizes_7 N n i2 (i3 + (1 : Int32)) h2) else none
      else
        bif am_in i3 96 then bif am_in i3 96 then (let h3 := am_pi h 200 i3.toNatClampNeg (h 200 i3.toNatClampNeg)
        l_X10_sizes_7 N n i2 (i3 + (1 : Int32)) h3) else none else none))
def f_X10_sizes (N : Nat) (i1 : Int32) (i2 : Int32) (h : am_Hp) : Option (Unit × am_Hp) :=
  let h1 := am_pi h 193 9 i1
  l_X10_sizes_7 N N i2 (0 : Int32) h1
def f_X10_comes (N : Nat) (i1 : Int32) (i2 : Int32) (h : am_Hp) : Option (Unit × am_Hp) :=
  am_bi (f_X10_ofE N i1 i2 (0 : Int32) h) (fun x2 h1 =>
  (if x2 = 0 then
    am_bi (f_X10_ofE N i1 i2 (1 : Int32) h1) (fun x9 h8 =>
    am_bi (f_X10_types N x9 h8) (fun _ h10 =>
    some ((), h10)))
  else
    am_bi (f_X10_ofE N i1 i2 (1 : Int32) h1) (fun x4 h3 =>
    am_bi (f_X10_ofE N i1 i2 (2 : Int32) h3) (fun x6 h5 =>
    am_bi (f_X10_sizes N x4 x6 h5) (fun _ h7 =>
    some ((), h7))))))
def l_X10_lays_7 (N : Nat) : Nat → Int32 → Int32 → Int32 → am_Hp → Option (Unit × am_Hp)
  | 0, _, _, _, _ => none
  | n + 1, i1, i2, i3, h =>
    (if i2 ≤ i3 then
      some ((), h)
    else
      am_bi (f_X10_comes N i1 i3 h) (fun _ h1 =>
      l_X10_lays_7 N n i1 i2 (i3 + (1 : Int32)) h1))
def f_X10_lays (N : Nat) (i1 : Int32) (i2 : Int32) (h : am_Hp) : Option (Unit × am_Hp) :=
  am_bi (f_X10_begins N i1 h) (fun _ h1 =>
  l_X10_lays_7 N N i1 i2 (0 : Int32) h1)
def f_X10_place (N : Nat) (i1 : Int32) (i2 : Int32) (h : am_Hp) : Option (Int32 × am_Hp) :=
  (if i1 < 0 then
    some ((-1 : Int32), h)
  else
    (if (h 193 10) ≤ i1 then
      some ((-1 : Int32), h)
    else
      (if i2 < 0 then
        some ((-1 : Int32), h)
      else
        (if i2 < (h 193 9) then
          bif am_in (((16 : Int32) * i1) + i2) 96 then some (h 200 ((((16 : Int32) * i1) + i2).toNatClampNeg), h) else none
        else
          some ((-1 : Int32), h)))))
def f_X10_hasCome (N : Nat) (i1 : Int32) (i2 : Int32) (i3 : Int32) (i4 : Int32) (i5 : Int32) (h : am_Hp) : Option (Int32 × am_Hp) :=
  am_bi (f_X10_ofE N i1 i3 (3 : Int32) h) (fun x2 h1 =>
  am_bi (f_X10_ofE N i1 i2 (3 : Int32) h1) (fun x4 h3 =>
  (if (i4 * i5) < ((x2 - x4) * (100 : Int32)) then
    if (0 : Int32) &&& 1 = (0 : Int32) then some ((0 : Int32), h3) else none
  else
    if (1 : Int32) &&& 1 = (1 : Int32) then some ((1 : Int32), h3) else none)))
