def f_X10_readSetting (N : Nat)  (h : am_Hp) : Option (Unit × am_Hp) :=
  am_bi (f_X10_goOn N h) (fun _ h1 =>
  am_bi (f_X10_wordOf N 214 h1) (fun x3 h2 =>
  (if x3 = (-1 : Int32) then
    am_bi (f_X10_failsIf N (1 : Int32) (-11 : Int32) h2) (fun _ h45 =>
    (if (h45 193 22) = 0 then
      (if (((h45 193 26) >>> (x3 &&& 31)) &&& (1 : Int32)) = (1 : Int32) then
        am_bi (f_X10_failsIf N (1 : Int32) (-14 : Int32) h45) (fun _ h76 =>
        let h77 := am_pi h76 193 26 ((h76 193 26) ||| ((1 : Int32) <<< (x3 &&& 31)))
        am_bi (f_X10_goOn N h77) (fun _ h78 =>
        am_bi (f_X10_low N x3 h78) (fun x80 h79 =>
        am_bi (f_X10_top N x3 h79) (fun x82 h81 =>
        am_bi (f_X10_integer N x80 x82 h81) (fun x84 h83 =>
        (if (h83 193 22) = 0 then
          bif am_in ((0 : Int32) + x3) 6071 then (let h85 := am_pi h83 197 (((0 : Int32) + x3).toNatClampNeg) x84
          some ((), h85)) else none
        else
          some ((), h83)))))))
      else
        am_bi (f_X10_failsIf N (0 : Int32) (-14 : Int32) h45) (fun _ h66 =>
        let h67 := am_pi h66 193 26 ((h66 193 26) ||| ((1 : Int32) <<< (x3 &&& 31)))
        am_bi (f_X10_goOn N h67) (fun _ h68 =>
        am_bi (f_X10_low N x3 h68) (fun x70 h69 =>
        am_bi (f_X10_top N x3 h69) (fun x72 h71 =>
        am_bi (f_X10_integer N x70 x72 h71) (fun x74 h73 =>
        (if (h73 193 22) = 0 then
          bif am_in ((0 : Int32) + x3) 6071 then (let h75 := am_pi h73 197 (((0 : Int32) + x3).toNatClampNeg) x74
          some ((), h75)) else none
        else
          some ((), h73))))))))
    else
      (if (((h45 193 26) >>> ((0 : Int32) &&& 31)) &&& (1 : Int32)) = (1 : Int32) then
        am_bi (f_X10_failsIf N (1 : Int32) (-14 : Int32) h45) (fun _ h56 =>
        let h57 := am_pi h56 193 26 ((h56 193 26) ||| ((1 : Int32) <<< ((0 : Int32) &&& 31)))
        am_bi (f_X10_goOn N h57) (fun _ h58 =>
        am_bi (f_X10_low N (0 : Int32) h58) (fun x60 h59 =>
        am_bi (f_X10_top N (0 : Int32) h59) (fun x62 h61 =>
        am_bi (f_X10_integer N x60 x62 h61) (fun x64 h63 =>
        (if (h63 193 22) = 0 then
          bif am_in ((0 : Int32) + (0 : Int32)) 6071 then (let h65 := am_pi h63 197 (((0 : Int32) + (0 : Int32)).toNatClampNeg) x64
          some ((), h65)) else none
        else
          some ((), h63)))))))
      else
        am_bi (f_X10_failsIf N (0 : Int32) (-14 : Int32) h45) (fun _ h46 =>
        let h47 := am_pi h46 193 26 ((h46 193 26) ||| ((1 : Int32) <<< ((0 : Int32) &&& 31)))
        am_bi (f_X10_goOn N h47) (fun _ h48 =>
        am_bi (f_X10_low N (0 : Int32) h48) (fun x50 h49 =>
        am_bi (f_X10_top N (0 : Int32) h49) (fun x52 h51 =>
        am_bi (f_X10_integer N x50 x52 h51) (fun x54 h53 =>
        (if (h53 193 22) = 0 then
          bif am_in ((0 : Int32) + (0 : Int32)) 6071 then (let h55 := am_pi h53 197 (((0 : Int32) + (0 : Int32)).toNatClampNeg) x54
          some ((), h55)) else none
        else
          some ((), h53))))))))))
  else
    am_bi (f_X10_failsIf N (0 : Int32) (-11 : Int32) h2) (fun _ h4 =>
    (if (h4 193 22) = 0 then
      (if (((h4 193 26) >>> (x3 &&& 31)) &&& (1 : Int32)) = (1 : Int32) then
        am_bi (f_X10_failsIf N (1 : Int32) (-14 : Int32) h4) (fun _ h35 =>
        let h36 := am_pi h35 193 26 ((h35 193 26) ||| ((1 : Int32) <<< (x3 &&& 31)))
        am_bi (f_X10_goOn N h36) (fun _ h37 =>
        am_bi (f_X10_low N x3 h37) (fun x39 h38 =>
        am_bi (f_X10_top N x3 h38) (fun x41 h40 =>
        am_bi (f_X10_integer N x39 x41 h40) (fun x43 h42 =>
        (if (h42 193 22) = 0 then
          bif am_in ((0 : Int32) + x3) 6071 then (let h44 := am_pi h42 197 (((0 : Int32) + x3).toNatClampNeg) x43
          some ((), h44)) else none
        else
          some ((), h42)))))))
      else
        am_bi (f_X10_failsIf N (0 : Int32) (-14 : Int32) h4) (fun _ h25 =>
        let h26 := am_pi h25 193 26 ((h25 193 26) ||| ((1 : Int32) <<< (x3 &&& 31)))
        am_bi (f_X10_goOn N h26) (fun _ h27 =>
        am_bi (f_X10_low N x3 h27) (fun x29 h28 =>
        am_bi (f_X10_top N x3 h28) (fun x31 h30 =>
        am_bi (f_X10_integer N x29 x31 h30) (fun x33 h32 =>
        (if (h32 193 22) = 0 then
          bif am_in ((0 : Int32) + x3) 6071 then (let h34 := am_pi h32 197 (((0 : Int32) + x3).toNatClampNeg) x33
          some ((), h34)) else none
        else
          some ((), h32))))))))
    else
      (if (((h4 193 26) >>> ((0 : Int32) &&& 31)) &&& (1 : Int32)) = (1 : Int32) then
        am_bi (f_X10_failsIf N (1 : Int32) (-14 : Int32) h4) (fun _ h15 =>
        let h16 := am_pi h15 193 26 ((h15 193 26) ||| ((1 : Int32) <<< ((0 : Int32) &&& 31)))
        am_bi (f_X10_goOn N h16) (fun _ h17 =>
        am_bi (f_X10_low N (0 : Int32) h17) (fun x19 h18 =>
        am_bi (f_X10_top N (0 : Int32) h18) (fun x21 h20 =>
        am_bi (f_X10_integer N x19 x21 h20) (fun x23 h22 =>
        (if (h22 193 22) = 0 then
          bif am_in ((0 : Int32) + (0 : Int32)) 6071 then (let h24 := am_pi h22 197 (((0 : Int32) + (0 : Int32)).toNatClampNeg) x23
          some ((), h24)) else none
        else
          some ((), h22)))))))
      else
        am_bi (f_X10_failsIf N (0 : Int32) (-14 : Int32) h4) (fun _ h5 =>
        let h6 := am_pi h5 193 26 ((h5 193 26) ||| ((1 : Int32) <<< ((0 : Int32) &&& 31)))
        am_bi (f_X10_goOn N h6) (fun _ h7 =>
        am_bi (f_X10_low N (0 : Int32) h7) (fun x9 h8 =>
        am_bi (f_X10_top N (0 : Int32) h8) (fun x11 h10 =>
        am_bi (f_X10_integer N x9 x11 h10) (fun x13 h12 =>
        (if (h12 193 22) = 0 then
          bif am_in ((0 : Int32) + (0 : Int32)) 6071 then (let h14 := am_pi h12 197 (((0 : Int32) + (0 : Int32)).toNatClampNeg) x13
          some ((), h14)) else none
        else
          some ((), h12)))))))))))))
def c_X10_readSetting (N : Nat) : am_Cl := fun _ as h kk => am_sa as (fun z w0 => bif Nat.beq z 193 then am_st0 w0 (am_bi (f_X10_readSetting N  h) (fun v h => kk (am_ov v) h)) else none)
def o_X10_readSetting (N : Nat) : am_Orc := (am_oc 163 (c_X10_goOn N) (am_oc 161 (c_X10_wordOf N) (am_oc 162 (c_X10_failsIf N) (am_oc 168 (c_X10_low N) (am_oc 169 (c_X10_top N) (am_oc 164 (c_X10_integer N) am_o0))))))
set_option maxRecDepth 100000 in
theorem tok_X10_readSetting : am_tok 170 tX10_readSetting := by
  unfold am_tok
  decide +kernel
set_option maxHeartbeats 4000000 in
set_option maxRecDepth 100000 in
theorem m_X10_readSetting {l : Launch} {al : Nat → Nat} {dC : Nat → ClassId} {dI : Nat → Nat → Nat} {aC : Nat → ClassId} {aV : Nat → Nat} (hy : am_Hy l al) (N : Nat)  (h : am_Hp) (r : (Unit × am_Hp)) (hf : f_X10_readSetting N  h = some r) : am_Met l al dC dI aC aV 170 [.ref 193] h (am_ov r.1) r.2 :=
  am_met (tab := tX10_readSetting) (orc := o_X10_readSetting N) (ret := am_rv) (g := r) (by decide) (by decide) hy.1 hy.2 tok_X10_readSetting (am_os1 (s_X10_goOn hy N) (am_os1 (s_X10_wordOf hy N) (am_os1 (s_X10_failsIf hy N) (am_os1 (s_X10_low hy N) (am_os1 (s_X10_top hy N) (am_os1 (s_X10_integer hy N) am_os0)))))) am_rv_inv (Nat.le_of_ble_eq_true rfl) (fun At cl wk => by
    skip
    exact cl am_C0 am_c0 400 0 _ _ h hf)
theorem s_X10_readSetting {l : Launch} {al : Nat → Nat} {dC : Nat → ClassId} {dI : Nat → Nat → Nat} {aC : Nat → ClassId} {aV : Nat → Nat} (hy : am_Hy l al) (N : Nat) : am_CS l al dC dI aC aV 170 (c_X10_readSetting N) := by
  intro γ as h kk g hc0
  obtain ⟨z0, w0, e_0, hcz0⟩ := am_sa_some hc0
  obtain ⟨hz0, hc1⟩ := am_bif hcz0
  cases Nat.eq_of_beq_eq_true hz0
  obtain ⟨e_1, hc⟩ := am_st0_some hc1
  subst e_1
  subst e_0
  obtain ⟨q, e1, e2⟩ := am_bi_some hc
  exact ⟨_, _, m_X10_readSetting hy N  h _ e1, e2⟩

def f_X10_readStatement (N : Nat)  (h : am_Hp) : Option (Unit × am_Hp) :=
  am_bi (f_X10_wordOf N 213 h) (fun x2 h1 =>
  (if x2.toInt = 0 then
    am_bi (f_X10_readThing N (0 : Int32) h1) (fun _ h24 =>
    (if (h24 193 20) = (2 : Int32) then
      am_bi (f_X10_failsIf N (0 : Int32) (-11 : Int32) h24) (fun _ h25 =>
      am_bi (f_X10_goOn N h25) (fun _ h26 =>
      let h27 := am_pi h26 193 25 ((h26 193 25) + (1 : Int32))
      some ((), h27)))
    else
      am_bi (f_X10_failsIf N (1 : Int32) (-11 : Int32) h24) (fun _ h28 =>
      am_bi (f_X10_goOn N h28) (fun _ h29 =>
      let h30 := am_pi h29 193 25 ((h29 193 25) + (1 : Int32))
      some ((), h30)))))
  else if x2.toInt = 1 then
    am_bi (f_X10_readThing N (1 : Int32) h1) (fun _ h17 =>
    (if (h17 193 20) = (2 : Int32) then
      am_bi (f_X10_failsIf N (0 : Int32) (-11 : Int32) h17) (fun _ h18 =>
      am_bi (f_X10_goOn N h18) (fun _ h19 =>
      let h20 := am_pi h19 193 25 ((h19 193 25) + (1 : Int32))
      some ((), h20)))
    else
      am_bi (f_X10_failsIf N (1 : Int32) (-11 : Int32) h17) (fun _ h21 =>
      am_bi (f_X10_goOn N h21) (fun _ h22 =>
      let h23 := am_pi h22 193 25 ((h22 193 25) + (1 : Int32))
      some ((), h23)))))
  else if x2.toInt = 2 then
    am_bi (f_X10_readSetting N h1) (fun _ h10 =>
    (if (h10 193 20) = (2 : Int32) then
      am_bi (f_X10_failsIf N (0 : Int32) (-11 : Int32) h10) (fun _ h11 =>
      am_bi (f_X10_goOn N h11) (fun _ h12 =>
      let h13 := am_pi h12 193 25 ((h12 193 25) + (1 : Int32))
      some ((), h13)))
    else
      am_bi (f_X10_failsIf N (1 : Int32) (-11 : Int32) h10) (fun _ h14 =>
      am_bi (f_X10_goOn N h14) (fun _ h15 =>
      let h16 := am_pi h15 193 25 ((h15 193 25) + (1 : Int32))
      some ((), h16)))))
  else am_bi (f_X10_failsIf N (1 : Int32) (-11 : Int32) h1) (fun _ h3 =>
    (if (h3 193 20) = (2 : Int32) then
      am_bi (f_X10_failsIf N (0 : Int32) (-11 : Int32) h3) (fun _ h4 =>
      am_bi (f_X10_goOn N h4) (fun _ h5 =>
      let h6 := am_pi h5 193 25 ((h5 193 25) + (1 : Int32))
      some ((), h6)))
    else
      am_bi (f_X10_failsIf N (1 : Int32) (-11 : Int32) h3) (fun _ h7 =>
      am_bi (f_X10_goOn N h7) (fun _ h8 =>
      let h9 := am_pi h8 193 25 ((h8 193 25) + (1 : Int32))
      some ((), h9)))))))
def c_X10_readStatement (N : Nat) : am_Cl := fun _ as h kk => am_sa as (fun z w0 => bif Nat.beq z 193 then am_st0 w0 (am_bi (f_X10_readStatement N  h) (fun v h => kk (am_ov v) h)) else none)
def o_X10_readStatement (N : Nat) : am_Orc := (am_oc 161 (c_X10_wordOf N) (am_oc 167 (c_X10_readThing N) (am_oc 170 (c_X10_readSetting N) (am_oc 162 (c_X10_failsIf N) (am_oc 163 (c_X10_goOn N) am_o0)))))
set_option maxRecDepth 100000 in
theorem tok_X10_readStatement : am_tok 171 tX10_readStatement := by
  unfold am_tok
  decide +kernel
set_option maxHeartbeats 4000000 in
set_option maxRecDepth 100000 in
theorem m_X10_readStatement {l : Launch} {al : Nat → Nat} {dC : Nat → ClassId} {dI : Nat → Nat → Nat} {aC : Nat → ClassId} {aV : Nat → Nat} (hy : am_Hy l al) (N : Nat)  (h : am_Hp) (r : (Unit × am_Hp)) (hf : f_X10_readStatement N  h = some r) : am_Met l al dC dI aC aV 171 [.ref 193] h (am_ov r.1) r.2 :=
  am_met (tab := tX10_readStatement) (orc := o_X10_readStatement N) (ret := am_rv) (g := r) (by decide) (by decide) hy.1 hy.2 tok_X10_readStatement (am_os1 (s_X10_wordOf hy N) (am_os1 (s_X10_readThing hy N) (am_os1 (s_X10_readSetting hy N) (am_os1 (s_X10_failsIf hy N) (am_os1 (s_X10_goOn hy N) am_os0))))) am_rv_inv (Nat.le_of_ble_eq_true rfl) (fun At cl wk => by
    skip
    exact cl am_C0 am_c0 400 0 _ _ h hf)
theorem s_X10_readStatement {l : Launch} {al : Nat → Nat} {dC : Nat → ClassId} {dI : Nat → Nat → Nat} {aC : Nat → ClassId} {aV : Nat → Nat} (hy : am_Hy l al) (N : Nat) : am_CS l al dC dI aC aV 171 (c_X10_readStatement N) := by
  intro γ as h kk g hc0
  obtain ⟨z0, w0, e_0, hcz0⟩ := am_sa_some hc0
  obtain ⟨hz0, hc1⟩ := am_bif hcz0
  cases Nat.eq_of_beq_eq_true hz0
  obtain ⟨e_1, hc⟩ := am_st0_some hc1
  subst e_1
  subst e_0
  obtain ⟨q, e1, e2⟩ := am_bi_some hc
  exact ⟨_, _, m_X10_readStatement hy N  h _ e1, e2⟩
