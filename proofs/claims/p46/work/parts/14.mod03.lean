def j_X10_readThing_29 (N : Nat) (i1 : Int32) (i2 : Int32) (i3 : Int32) (t0 : Int32) (t1 : Int32) (h : am_Hp) : Option (Unit × am_Hp) :=
    (if t1 = t0 then
      am_bi (f_X10_failsIf N (1 : Int32) (-15 : Int32) h) (fun _ h61 =>
      am_bi (f_X10_goOn N h61) (fun _ h62 =>
      am_bi (f_X10_nameHere N h62) (fun x64 h63 =>
      (if (h63 193 22) = 0 then
        am_bi (f_X10_found N i1 x64 h63) (fun x84 h83 =>
        (if x84 = (-1 : Int32) then
          am_bi (f_X10_failsIf N (0 : Int32) (-14 : Int32) h83) (fun _ h85 =>
          am_bi (f_X10_goOn N h85) (fun _ h86 =>
          am_bi (f_X10_integer N (2 : Int32) (16 : Int32) h86) (fun x88 h87 =>
          am_bi (f_X10_integer N (1 : Int32) (6 : Int32) h87) (fun x90 h89 =>
          (if (h89 193 22) = 0 then
            (if i1 = 0 then
              bif am_in ((2 : Int32) + i3) 20 then (let h91 := am_pi h89 195 (((2 : Int32) + i3).toNatClampNeg) x64
              bif am_in i2 20 then bif am_in i2 20 then (let h92 := am_pi h91 195 i2.toNatClampNeg ((h91 195 i2.toNatClampNeg) + (1 : Int32))
              (if i1 = 0 then
                bif am_in ((12 : Int32) + i3) 20 then (let h93 := am_pi h92 195 (((12 : Int32) + i3).toNatClampNeg) x88
                bif am_in ((16 : Int32) + i3) 20 then (let h94 := am_pi h93 195 (((16 : Int32) + i3).toNatClampNeg) x90
                some ((), h94)) else none) else none
              else
                am_bi (f_X10_setU N i3 (0 : Int32) x88 h92) (fun _ h95 =>
                am_bi (f_X10_setU N i3 (1 : Int32) x90 h95) (fun _ h96 =>
                some ((), h96))))) else none else none) else none
            else
              bif am_in ((6 : Int32) + i3) 20 then (let h97 := am_pi h89 195 (((6 : Int32) + i3).toNatClampNeg) x64
              bif am_in i2 20 then bif am_in i2 20 then (let h98 := am_pi h97 195 i2.toNatClampNeg ((h97 195 i2.toNatClampNeg) + (1 : Int32))
              (if i1 = 0 then
                bif am_in ((12 : Int32) + i3) 20 then (let h99 := am_pi h98 195 (((12 : Int32) + i3).toNatClampNeg) x88
                bif am_in ((16 : Int32) + i3) 20 then (let h100 := am_pi h99 195 (((16 : Int32) + i3).toNatClampNeg) x90
                some ((), h100)) else none) else none
              else
                am_bi (f_X10_setU N i3 (0 : Int32) x88 h98) (fun _ h101 =>
                am_bi (f_X10_setU N i3 (1 : Int32) x90 h101) (fun _ h102 =>
                some ((), h102))))) else none else none) else none)
          else
            some ((), h89))))))
        else
          am_bi (f_X10_failsIf N (1 : Int32) (-14 : Int32) h83) (fun _ h103 =>
          am_bi (f_X10_goOn N h103) (fun _ h104 =>
          am_bi (f_X10_integer N (2 : Int32) (16 : Int32) h104) (fun x106 h105 =>
          am_bi (f_X10_integer N (1 : Int32) (6 : Int32) h105) (fun x108 h107 =>
          (if (h107 193 22) = 0 then
            (if i1 = 0 then
              bif am_in ((2 : Int32) + i3) 20 then (let h109 := am_pi h107 195 (((2 : Int32) + i3).toNatClampNeg) x64
              bif am_in i2 20 then bif am_in i2 20 then (let h110 := am_pi h109 195 i2.toNatClampNeg ((h109 195 i2.toNatClampNeg) + (1 : Int32))
              (if i1 = 0 then
                bif am_in ((12 : Int32) + i3) 20 then (let h111 := am_pi h110 195 (((12 : Int32) + i3).toNatClampNeg) x106
                bif am_in ((16 : Int32) + i3) 20 then (let h112 := am_pi h111 195 (((16 : Int32) + i3).toNatClampNeg) x108
                some ((), h112)) else none) else none
              else
                am_bi (f_X10_setU N i3 (0 : Int32) x106 h110) (fun _ h113 =>
                am_bi (f_X10_setU N i3 (1 : Int32) x108 h113) (fun _ h114 =>
                some ((), h114))))) else none else none) else none
            else
              bif am_in ((6 : Int32) + i3) 20 then (let h115 := am_pi h107 195 (((6 : Int32) + i3).toNatClampNeg) x64
              bif am_in i2 20 then bif am_in i2 20 then (let h116 := am_pi h115 195 i2.toNatClampNeg ((h115 195 i2.toNatClampNeg) + (1 : Int32))
              (if i1 = 0 then
                bif am_in ((12 : Int32) + i3) 20 then (let h117 := am_pi h116 195 (((12 : Int32) + i3).toNatClampNeg) x106
                bif am_in ((16 : Int32) + i3) 20 then (let h118 := am_pi h117 195 (((16 : Int32) + i3).toNatClampNeg) x108
                some ((), h118)) else none) else none
              else
                am_bi (f_X10_setU N i3 (0 : Int32) x106 h116) (fun _ h119 =>
                am_bi (f_X10_setU N i3 (1 : Int32) x108 h119) (fun _ h120 =>
                some ((), h120))))) else none else none) else none)
          else
            some ((), h107))))))))
      else
        am_bi (f_X10_failsIf N (0 : Int32) (-14 : Int32) h63) (fun _ h65 =>
        am_bi (f_X10_goOn N h65) (fun _ h66 =>
        am_bi (f_X10_integer N (2 : Int32) (16 : Int32) h66) (fun x68 h67 =>
        am_bi (f_X10_integer N (1 : Int32) (6 : Int32) h67) (fun x70 h69 =>
        (if (h69 193 22) = 0 then
          (if i1 = 0 then
            bif am_in ((2 : Int32) + i3) 20 then (let h71 := am_pi h69 195 (((2 : Int32) + i3).toNatClampNeg) x64
            bif am_in i2 20 then bif am_in i2 20 then (let h72 := am_pi h71 195 i2.toNatClampNeg ((h71 195 i2.toNatClampNeg) + (1 : Int32))
            (if i1 = 0 then
              bif am_in ((12 : Int32) + i3) 20 then (let h73 := am_pi h72 195 (((12 : Int32) + i3).toNatClampNeg) x68
              bif am_in ((16 : Int32) + i3) 20 then (let h74 := am_pi h73 195 (((16 : Int32) + i3).toNatClampNeg) x70
              some ((), h74)) else none) else none
            else
              am_bi (f_X10_setU N i3 (0 : Int32) x68 h72) (fun _ h75 =>
              am_bi (f_X10_setU N i3 (1 : Int32) x70 h75) (fun _ h76 =>
              some ((), h76))))) else none else none) else none
          else
            bif am_in ((6 : Int32) + i3) 20 then (let h77 := am_pi h69 195 (((6 : Int32) + i3).toNatClampNeg) x64
            bif am_in i2 20 then bif am_in i2 20 then (let h78 := am_pi h77 195 i2.toNatClampNeg ((h77 195 i2.toNatClampNeg) + (1 : Int32))
            (if i1 = 0 then
              bif am_in ((12 : Int32) + i3) 20 then (let h79 := am_pi h78 195 (((12 : Int32) + i3).toNatClampNeg) x68
              bif am_in ((16 : Int32) + i3) 20 then (let h80 := am_pi h79 195 (((16 : Int32) + i3).toNatClampNeg) x70
              some ((), h80)) else none) else none
            else
              am_bi (f_X10_setU N i3 (0 : Int32) x68 h78) (fun _ h81 =>
              am_bi (f_X10_setU N i3 (1 : Int32) x70 h81) (fun _ h82 =>
              some ((), h82))))) else none else none) else none)
        else
          some ((), h69))))))))))
    else
      am_bi (f_X10_failsIf N (0 : Int32) (-15 : Int32) h) (fun _ h1 =>
      am_bi (f_X10_goOn N h1) (fun _ h2 =>
      am_bi (f_X10_nameHere N h2) (fun x4 h3 =>
      (if (h3 193 22) = 0 then
        am_bi (f_X10_found N i1 x4 h3) (fun x24 h23 =>
        (if x24 = (-1 : Int32) then
          am_bi (f_X10_failsIf N (0 : Int32) (-14 : Int32) h23) (fun _ h25 =>
          am_bi (f_X10_goOn N h25) (fun _ h26 =>
          am_bi (f_X10_integer N (2 : Int32) (16 : Int32) h26) (fun x28 h27 =>
          am_bi (f_X10_integer N (1 : Int32) (6 : Int32) h27) (fun x30 h29 =>
          (if (h29 193 22) = 0 then
            (if i1 = 0 then
              bif am_in ((2 : Int32) + i3) 20 then (let h31 := am_pi h29 195 (((2 : Int32) + i3).toNatClampNeg) x4
              bif am_in i2 20 then bif am_in i2 20 then (let h32 := am_pi h31 195 i2.toNatClampNeg ((h31 195 i2.toNatClampNeg) + (1 : Int32))
              (if i1 = 0 then
                bif am_in ((12 : Int32) + i3) 20 then (let h33 := am_pi h32 195 (((12 : Int32) + i3).toNatClampNeg) x28
                bif am_in ((16 : Int32) + i3) 20 then (let h34 := am_pi h33 195 (((16 : Int32) + i3).toNatClampNeg) x30
                some ((), h34)) else none) else none
              else
                am_bi (f_X10_setU N i3 (0 : Int32) x28 h32) (fun _ h35 =>
                am_bi (f_X10_setU N i3 (1 : Int32) x30 h35) (fun _ h36 =>
                some ((), h36))))) else none else none) else none
            else
              bif am_in ((6 : Int32) + i3) 20 then (let h37 := am_pi h29 195 (((6 : Int32) + i3).toNatClampNeg) x4
              bif am_in i2 20 then bif am_in i2 20 then (let h38 := am_pi h37 195 i2.toNatClampNeg ((h37 195 i2.toNatClampNeg) + (1 : Int32))
              (if i1 = 0 then
                bif am_in ((12 : Int32) + i3) 20 then (let h39 := am_pi h38 195 (((12 : Int32) + i3).toNatClampNeg) x28
                bif am_in ((16 : Int32) + i3) 20 then (let h40 := am_pi h39 195 (((16 : Int32) + i3).toNatClampNeg) x30
                some ((), h40)) else none) else none
              else
                am_bi (f_X10_setU N i3 (0 : Int32) x28 h38) (fun _ h41 =>
                am_bi (f_X10_setU N i3 (1 : Int32) x30 h41) (fun _ h42 =>
                some ((), h42))))) else none else none) else none)
          else
            some ((), h29))))))
        else
          am_bi (f_X10_failsIf N (1 : Int32) (-14 : Int32) h23) (fun _ h43 =>
          am_bi (f_X10_goOn N h43) (fun _ h44 =>
          am_bi (f_X10_integer N (2 : Int32) (16 : Int32) h44) (fun x46 h45 =>
          am_bi (f_X10_integer N (1 : Int32) (6 : Int32) h45) (fun x48 h47 =>
          (if (h47 193 22) = 0 then
            (if i1 = 0 then
              bif am_in ((2 : Int32) + i3) 20 then (let h49 := am_pi h47 195 (((2 : Int32) + i3).toNatClampNeg) x4
              bif am_in i2 20 then bif am_in i2 20 then (let h50 := am_pi h49 195 i2.toNatClampNeg ((h49 195 i2.toNatClampNeg) + (1 : Int32))
              (if i1 = 0 then
                bif am_in ((12 : Int32) + i3) 20 then (let h51 := am_pi h50 195 (((12 : Int32) + i3).toNatClampNeg) x46
                bif am_in ((16 : Int32) + i3) 20 then (let h52 := am_pi h51 195 (((16 : Int32) + i3).toNatClampNeg) x48
                some ((), h52)) else none) else none
              else
                am_bi (f_X10_setU N i3 (0 : Int32) x46 h50) (fun _ h53 =>
                am_bi (f_X10_setU N i3 (1 : Int32) x48 h53) (fun _ h54 =>
                some ((), h54))))) else none else none) else none
            else
              bif am_in ((6 : Int32) + i3) 20 then (let h55 := am_pi h47 195 (((6 : Int32) + i3).toNatClampNeg) x4
              bif am_in i2 20 then bif am_in i2 20 then (let h56 := am_pi h55 195 i2.toNatClampNeg ((h55 195 i2.toNatClampNeg) + (1 : Int32))
              (if i1 = 0 then
                bif am_in ((12 : Int32) + i3) 20 then (let h57 := am_pi h56 195 (((12 : Int32) + i3).toNatClampNeg) x46
                bif am_in ((16 : Int32) + i3) 20 then (let h58 := am_pi h57 195 (((16 : Int32) + i3).toNatClampNeg) x48
                some ((), h58)) else none) else none
              else
                am_bi (f_X10_setU N i3 (0 : Int32) x46 h56) (fun _ h59 =>
                am_bi (f_X10_setU N i3 (1 : Int32) x48 h59) (fun _ h60 =>
                some ((), h60))))) else none else none) else none)
          else
            some ((), h47))))))))
      else
        am_bi (f_X10_failsIf N (0 : Int32) (-14 : Int32) h3) (fun _ h5 =>
        am_bi (f_X10_goOn N h5) (fun _ h6 =>
        am_bi (f_X10_integer N (2 : Int32) (16 : Int32) h6) (fun x8 h7 =>
        am_bi (f_X10_integer N (1 : Int32) (6 : Int32) h7) (fun x10 h9 =>
        (if (h9 193 22) = 0 then
          (if i1 = 0 then
            bif am_in ((2 : Int32) + i3) 20 then (let h11 := am_pi h9 195 (((2 : Int32) + i3).toNatClampNeg) x4
            bif am_in i2 20 then bif am_in i2 20 then (let h12 := am_pi h11 195 i2.toNatClampNeg ((h11 195 i2.toNatClampNeg) + (1 : Int32))
            (if i1 = 0 then
              bif am_in ((12 : Int32) + i3) 20 then (let h13 := am_pi h12 195 (((12 : Int32) + i3).toNatClampNeg) x8
              bif am_in ((16 : Int32) + i3) 20 then (let h14 := am_pi h13 195 (((16 : Int32) + i3).toNatClampNeg) x10
              some ((), h14)) else none) else none
            else
              am_bi (f_X10_setU N i3 (0 : Int32) x8 h12) (fun _ h15 =>
              am_bi (f_X10_setU N i3 (1 : Int32) x10 h15) (fun _ h16 =>
              some ((), h16))))) else none else none) else none
          else
            bif am_in ((6 : Int32) + i3) 20 then (let h17 := am_pi h9 195 (((6 : Int32) + i3).toNatClampNeg) x4
            bif am_in i2 20 then bif am_in i2 20 then (let h18 := am_pi h17 195 i2.toNatClampNeg ((h17 195 i2.toNatClampNeg) + (1 : Int32))
            (if i1 = 0 then
              bif am_in ((12 : Int32) + i3) 20 then (let h19 := am_pi h18 195 (((12 : Int32) + i3).toNatClampNeg) x8
              bif am_in ((16 : Int32) + i3) 20 then (let h20 := am_pi h19 195 (((16 : Int32) + i3).toNatClampNeg) x10
              some ((), h20)) else none) else none
            else
              am_bi (f_X10_setU N i3 (0 : Int32) x8 h18) (fun _ h21 =>
              am_bi (f_X10_setU N i3 (1 : Int32) x10 h21) (fun _ h22 =>
              some ((), h22))))) else none else none) else none)
        else
          some ((), h9)))))))))))
def j_X10_readThing_9 (N : Nat) (i1 : Int32) (t0 : Int32) (h : am_Hp) : Option (Unit × am_Hp) :=
    bif am_in t0 20 then (if i1 = 0 then
      j_X10_readThing_29 N i1 t0 (h 195 t0.toNatClampNeg) (4 : Int32) (h 195 t0.toNatClampNeg) h
    else
      j_X10_readThing_29 N i1 t0 (h 195 t0.toNatClampNeg) (6 : Int32) (h 195 t0.toNatClampNeg) h) else none
def f_X10_readThing (N : Nat) (i1 : Int32) (h : am_Hp) : Option (Unit × am_Hp) :=
  (if i1 = 0 then
    j_X10_readThing_9 N i1 (0 : Int32) h
  else
    j_X10_readThing_9 N i1 (1 : Int32) h)
def f_X10_low (N : Nat) (i0 : Int32) (h : am_Hp) : Option (Int32 × am_Hp) :=
  (if i0 = 0 then
    some ((1 : Int32), h)
  else
    some ((0 : Int32), h))
def f_X10_top (N : Nat) (i0 : Int32) (h : am_Hp) : Option (Int32 × am_Hp) :=
  (if i0 = 0 then
    some ((99 : Int32), h)
  else
    some ((1 : Int32), h))
