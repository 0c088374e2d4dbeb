def f_X1_readNumber (N : Nat) (i2 : Int32) (i3 : Int32) (h : am_Hp) : Option (Int32 × am_Hp) :=
  am_bi (f_X7_advance N h) (fun _ h1 =>
  (if (h1 1 3) = (2 : Int32) then
    am_bi (f_X7_number N h1) (fun x3 h2 =>
    (if x3 < i2 then
      some ((-12 : Int32), h2)
    else
      am_bi (f_X7_number N h2) (fun x5 h4 =>
      (if x5 ≤ i3 then
        some ((0 : Int32), h4)
      else
        some ((-12 : Int32), h4)))))
  else
    some ((-11 : Int32), h1)))
def c_X1_readNumber (N : Nat) : am_Cl := fun _ as h kk => am_sa as (fun z w0 => bif Nat.beq z 3 then am_sa w0 (fun z w1 => bif Nat.beq z 1 then am_s1 w1 (fun i2 w2 => am_s1 w2 (fun i3 w3 => am_st0 w3 (am_bi (f_X1_readNumber N i2 i3 h) (fun v h => kk (am_oi v) h)))) else none) else none)
def o_X1_readNumber (N : Nat) : am_Orc := (am_oc 44 (c_X7_advance N) (am_oc 48 (c_X7_number N) am_o0))
set_option maxRecDepth 100000 in
theorem tok_X1_readNumber : am_tok 13 tX1_readNumber := by
  unfold am_tok
  decide +kernel
set_option maxHeartbeats 4000000 in
set_option maxRecDepth 100000 in
theorem m_X1_readNumber {l : Launch} {al : Nat → Nat} {dC : Nat → ClassId} {dI : Nat → Nat → Nat} {aC : Nat → ClassId} {aV : Nat → Nat} (hy : am_Hy l al) (N : Nat) (i2 : Int32) (i3 : Int32) (h : am_Hp) (r : (Int32 × am_Hp)) (hf : f_X1_readNumber N i2 i3 h = some r) : am_Met l al dC dI aC aV 13 [.ref 3, .ref 1, .int i2, .int i3] h (am_oi r.1) r.2 :=
  am_met (tab := tX1_readNumber) (orc := o_X1_readNumber N) (ret := am_ri) (g := r) (by decide) (by decide) hy.1 hy.2 tok_X1_readNumber (am_os1 (s_X7_advance hy N) (am_os1 (s_X7_number hy N) am_os0)) am_ri_inv (Nat.le_of_ble_eq_true rfl) (fun At cl wk => by
    skip
    exact cl am_C0 am_c0 400 0 _ _ h hf)
theorem s_X1_readNumber {l : Launch} {al : Nat → Nat} {dC : Nat → ClassId} {dI : Nat → Nat → Nat} {aC : Nat → ClassId} {aV : Nat → Nat} (hy : am_Hy l al) (N : Nat) : am_CS l al dC dI aC aV 13 (c_X1_readNumber N) := by
  intro γ as h kk g hc0
  obtain ⟨z0, w0, e_0, hcz0⟩ := am_sa_some hc0
  obtain ⟨hz0, hc1⟩ := am_bif hcz0
  cases Nat.eq_of_beq_eq_true hz0
  obtain ⟨z1, w1, e_1, hcz1⟩ := am_sa_some hc1
  obtain ⟨hz1, hc2⟩ := am_bif hcz1
  cases Nat.eq_of_beq_eq_true hz1
  obtain ⟨i2, w2, e_2, hc3⟩ := am_s1_some hc2
  obtain ⟨i3, w3, e_3, hc4⟩ := am_s1_some hc3
  obtain ⟨e_4, hc⟩ := am_st0_some hc4
  subst e_4
  subst e_3
  subst e_2
  subst e_1
  subst e_0
  obtain ⟨q, e1, e2⟩ := am_bi_some hc
  exact ⟨_, _, m_X1_readNumber hy N i2 i3 h _ e1, e2⟩

def f_X8_add (N : Nat) (a0 : Nat) (i1 : Int32) (i2 : Int32) (i3 : Int32) (h : am_Hp) : Option (Unit × am_Hp) :=
  bif am_isO a0 8 then am_bi (f_X8_isFull N a0 h) (fun x2 h1 =>
  (if x2 = 0 then
    bif am_isO a0 8 then (am_G a0 1).bind (fun b3 => bif am_isO a0 8 then bif am_isI b3 && am_in (h1 a0 4) (am_len b3) then (let h4 := am_pi h1 b3 ((h1 a0 4).toNatClampNeg) i1
    bif am_isO a0 8 then (am_G a0 2).bind (fun b5 => bif am_isO a0 8 then bif am_isI b5 && am_in (h4 a0 4) (am_len b5) then (let h6 := am_pi h4 b5 ((h4 a0 4).toNatClampNeg) i2
    bif am_isO a0 8 then (am_G a0 3).bind (fun b7 => bif am_isO a0 8 then bif am_isI b7 && am_in (h6 a0 4) (am_len b7) then (let h8 := am_pi h6 b7 ((h6 a0 4).toNatClampNeg) i3
    bif am_isO a0 8 then bif am_isO a0 8 then (let h9 := am_pi h8 a0 4 ((h8 a0 4) + (1 : Int32))
    some ((), h9)) else none else none) else none else none) else none) else none else none) else none) else none else none) else none
  else
    some ((), h1))) else none
def c_X8_add (N : Nat) : am_Cl := fun _ as h kk => am_sa as (fun a0 w0 => am_s1 w0 (fun i1 w1 => am_s1 w1 (fun i2 w2 => am_s1 w2 (fun i3 w3 => am_st0 w3 (am_bi (f_X8_add N a0 i1 i2 i3 h) (fun v h => kk (am_ov v) h))))))
def o_X8_add (N : Nat) : am_Orc := (am_oc 52 (c_X8_isFull N) am_o0)
set_option maxRecDepth 100000 in
theorem tok_X8_add : am_tok 55 tX8_add := by
  unfold am_tok
  decide +kernel
set_option maxHeartbeats 4000000 in
set_option maxRecDepth 100000 in
theorem m_X8_add {l : Launch} {al : Nat → Nat} {dC : Nat → ClassId} {dI : Nat → Nat → Nat} {aC : Nat → ClassId} {aV : Nat → Nat} (hy : am_Hy l al) (N : Nat) (a0 : Nat) (i1 : Int32) (i2 : Int32) (i3 : Int32) (h : am_Hp) (r : (Unit × am_Hp)) (hf : f_X8_add N a0 i1 i2 i3 h = some r) : am_Met l al dC dI aC aV 55 [.ref a0, .int i1, .int i2, .int i3] h (am_ov r.1) r.2 :=
  am_met (tab := tX8_add) (orc := o_X8_add N) (ret := am_rv) (g := r) (by decide) (by decide) hy.1 hy.2 tok_X8_add (am_os1 (s_X8_isFull hy N) am_os0) am_rv_inv (Nat.le_of_ble_eq_true rfl) (fun At cl wk => by
    skip
    exact cl am_C0 am_c0 400 0 _ _ h hf)
theorem s_X8_add {l : Launch} {al : Nat → Nat} {dC : Nat → ClassId} {dI : Nat → Nat → Nat} {aC : Nat → ClassId} {aV : Nat → Nat} (hy : am_Hy l al) (N : Nat) : am_CS l al dC dI aC aV 55 (c_X8_add N) := by
  intro γ as h kk g hc0
  obtain ⟨a0, w0, e_0, hc1⟩ := am_sa_some hc0
  obtain ⟨i1, w1, e_1, hc2⟩ := am_s1_some hc1
  obtain ⟨i2, w2, e_2, hc3⟩ := am_s1_some hc2
  obtain ⟨i3, w3, e_3, hc4⟩ := am_s1_some hc3
  obtain ⟨e_4, hc⟩ := am_st0_some hc4
  subst e_4
  subst e_3
  subst e_2
  subst e_1
  subst e_0
  obtain ⟨q, e1, e2⟩ := am_bi_some hc
  exact ⟨_, _, m_X8_add hy N a0 i1 i2 i3 h _ e1, e2⟩

def f_X1_readDeclaration (N : Nat) (a2 : Nat) (h : am_Hp) : Option (Int32 × am_Hp) :=
  bif am_isO a2 8 then am_bi (f_X8_isFull N a2 h) (fun x2 h1 =>
  (if x2 = 0 then
    am_bi (f_X7_advance N h1) (fun _ h3 =>
    (if (h3 1 3) = (1 : Int32) then
      am_bi (f_X7_tokenLength N h3) (fun x5 h4 =>
      (if x5 ≤ (6 : Int32) then
        am_bi (f_X7_letters N h4) (fun x7 h6 =>
        bif am_isO a2 8 then am_bi (f_X8_indexOf N a2 x7 h6) (fun x9 h8 =>
        (if x9 = (-1 : Int32) then
          am_bi (f_X1_readNumber N (2 : Int32) (16 : Int32) h8) (fun x11 h10 =>
          (if x11 = 0 then
            am_bi (f_X7_number N h10) (fun x13 h12 =>
            am_bi (f_X1_readNumber N (1 : Int32) (6 : Int32) h12) (fun x15 h14 =>
            (if x15 = 0 then
              am_bi (f_X7_number N h14) (fun x17 h16 =>
              bif am_isO a2 8 then am_bi (f_X8_add N a2 x7 x13 x17 h16) (fun _ h18 =>
              some ((0 : Int32), h18)) else none)
            else
              some (x15, h14))))
          else
            some (x11, h10)))
        else
          some ((-14 : Int32), h8))) else none)
      else
        some ((-11 : Int32), h4)))
    else
      some ((-11 : Int32), h3)))
  else
    some ((-15 : Int32), h1))) else none
def c_X1_readDeclaration (N : Nat) : am_Cl := fun _ as h kk => am_sa as (fun z w0 => bif Nat.beq z 3 then am_sa w0 (fun z w1 => bif Nat.beq z 1 then am_sa w1 (fun a2 w2 => am_st0 w2 (am_bi (f_X1_readDeclaration N a2 h) (fun v h => kk (am_oi v) h))) else none) else none)
def o_X1_readDeclaration (N : Nat) : am_Orc := (am_oc 52 (c_X8_isFull N) (am_oc 44 (c_X7_advance N) (am_oc 45 (c_X7_tokenLength N) (am_oc 47 (c_X7_letters N) (am_oc 53 (c_X8_indexOf N) (am_oc 13 (c_X1_readNumber N) (am_oc 48 (c_X7_number N) (am_oc 55 (c_X8_add N) am_o0))))))))
set_option maxRecDepth 100000 in
theorem tok_X1_readDeclaration : am_tok 11 tX1_readDeclaration := by
  unfold am_tok
  decide +kernel
set_option maxHeartbeats 4000000 in
set_option maxRecDepth 100000 in
theorem m_X1_readDeclaration {l : Launch} {al : Nat → Nat} {dC : Nat → ClassId} {dI : Nat → Nat → Nat} {aC : Nat → ClassId} {aV : Nat → Nat} (hy : am_Hy l al) (N : Nat) (a2 : Nat) (h : am_Hp) (r : (Int32 × am_Hp)) (hf : f_X1_readDeclaration N a2 h = some r) : am_Met l al dC dI aC aV 11 [.ref 3, .ref 1, .ref a2] h (am_oi r.1) r.2 :=
  am_met (tab := tX1_readDeclaration) (orc := o_X1_readDeclaration N) (ret := am_ri) (g := r) (by decide) (by decide) hy.1 hy.2 tok_X1_readDeclaration (am_os1 (s_X8_isFull hy N) (am_os1 (s_X7_advance hy N) (am_os1 (s_X7_tokenLength hy N) (am_os1 (s_X7_letters hy N) (am_os1 (s_X8_indexOf hy N) (am_os1 (s_X1_readNumber hy N) (am_os1 (s_X7_number hy N) (am_os1 (s_X8_add hy N) am_os0)))))))) am_ri_inv (Nat.le_of_ble_eq_true rfl) (fun At cl wk => by
    skip
    exact cl am_C0 am_c0 400 0 _ _ h hf)
theorem s_X1_readDeclaration {l : Launch} {al : Nat → Nat} {dC : Nat → ClassId} {dI : Nat → Nat → Nat} {aC : Nat → ClassId} {aV : Nat → Nat} (hy : am_Hy l al) (N : Nat) : am_CS l al dC dI aC aV 11 (c_X1_readDeclaration N) := by
  intro γ as h kk g hc0
  obtain ⟨z0, w0, e_0, hcz0⟩ := am_sa_some hc0
  obtain ⟨hz0, hc1⟩ := am_bif hcz0
  cases Nat.eq_of_beq_eq_true hz0
  obtain ⟨z1, w1, e_1, hcz1⟩ := am_sa_some hc1
  obtain ⟨hz1, hc2⟩ := am_bif hcz1
  cases Nat.eq_of_beq_eq_true hz1
  obtain ⟨a2, w2, e_2, hc3⟩ := am_sa_some hc2
  obtain ⟨e_3, hc⟩ := am_st0_some hc3
  subst e_3
  subst e_2
  subst e_1
  subst e_0
  obtain ⟨q, e1, e2⟩ := am_bi_some hc
  exact ⟨_, _, m_X1_readDeclaration hy N a2 h _ e1, e2⟩

def f_X1_readSetting (N : Nat)  (h : am_Hp) : Option (Int32 × am_Hp) :=
  am_bi (f_X7_advance N h) (fun _ h1 =>
  am_bi (f_X7_isWord N 211 h1) (fun x3 h2 =>
  (if x3 = 0 then
    am_bi (f_X7_isWord N 212 h2) (fun x19 h18 =>
    (if x19 = 0 then
      some ((-11 : Int32), h18)
    else
      am_bi (f_X7_isWord N 211 h18) (fun x21 h20 =>
      (if x21 = 0 then
        bif am_in (1 : Int32) 2 then (if (h20 13 1) = 0 then
          bif am_in (1 : Int32) 2 then bif am_in (1 : Int32) 2 then am_bi (f_X1_readNumber N (am_sx 206 1) (am_sx 207 1) h20) (fun x23 h22 =>
          (if x23 = 0 then
            bif am_in (1 : Int32) 2 then (let h24 := am_pi h22 13 1 ((1 : Int32) &&& 1)
            am_bi (f_X7_number N h24) (fun x26 h25 =>
            bif am_in (1 : Int32) 2 then (let h27 := am_pi h25 12 1 x26
            some ((0 : Int32), h27)) else none)) else none
          else
            some (x23, h22))) else none else none
        else
          some ((-14 : Int32), h20)) else none
      else
        bif am_in (0 : Int32) 2 then (if (h20 13 0) = 0 then
          bif am_in (0 : Int32) 2 then bif am_in (0 : Int32) 2 then am_bi (f_X1_readNumber N (am_sx 206 0) (am_sx 207 0) h20) (fun x29 h28 =>
          (if x29 = 0 then
            bif am_in (0 : Int32) 2 then (let h30 := am_pi h28 13 0 ((1 : Int32) &&& 1)
            am_bi (f_X7_number N h30) (fun x32 h31 =>
            bif am_in (0 : Int32) 2 then (let h33 := am_pi h31 12 0 x32
            some ((0 : Int32), h33)) else none)) else none
          else
            some (x29, h28))) else none else none
        else
          some ((-14 : Int32), h20)) else none))))
  else
    am_bi (f_X7_isWord N 211 h2) (fun x5 h4 =>
    (if x5 = 0 then
      bif am_in (1 : Int32) 2 then (if (h4 13 1) = 0 then
        bif am_in (1 : Int32) 2 then bif am_in (1 : Int32) 2 then am_bi (f_X1_readNumber N (am_sx 206 1) (am_sx 207 1) h4) (fun x7 h6 =>
        (if x7 = 0 then
          bif am_in (1 : Int32) 2 then (let h8 := am_pi h6 13 1 ((1 : Int32) &&& 1)
          am_bi (f_X7_number N h8) (fun x10 h9 =>
          bif am_in (1 : Int32) 2 then (let h11 := am_pi h9 12 1 x10
          some ((0 : Int32), h11)) else none)) else none
        else
          some (x7, h6))) else none else none
      else
        some ((-14 : Int32), h4)) else none
    else
      bif am_in (0 : Int32) 2 then (if (h4 13 0) = 0 then
        bif am_in (0 : Int32) 2 then bif am_in (0 : Int32) 2 then am_bi (f_X1_readNumber N (am_sx 206 0) (am_sx 207 0) h4) (fun x13 h12 =>
        (if x13 = 0 then
          bif am_in (0 : Int32) 2 then (let h14 := am_pi h12 13 0 ((1 : Int32) &&& 1)
          am_bi (f_X7_number N h14) (fun x16 h15 =>
          bif am_in (0 : Int32) 2 then (let h17 := am_pi h15 12 0 x16
          some ((0 : Int32), h17)) else none)) else none
        else
          some (x13, h12))) else none else none
      else
        some ((-14 : Int32), h4)) else none)))))
def c_X1_readSetting (N : Nat) : am_Cl := fun _ as h kk => am_sa as (fun z w0 => bif Nat.beq z 3 then am_sa w0 (fun z w1 => bif Nat.beq z 1 then am_st0 w1 (am_bi (f_X1_readSetting N  h) (fun v h => kk (am_oi v) h)) else none) else none)
def o_X1_readSetting (N : Nat) : am_Orc := (am_oc 44 (c_X7_advance N) (am_oc 46 (c_X7_isWord N) (am_oc 13 (c_X1_readNumber N) (am_oc 48 (c_X7_number N) am_o0))))
set_option maxRecDepth 100000 in
theorem tok_X1_readSetting : am_tok 12 tX1_readSetting := by
  unfold am_tok
  decide +kernel
set_option maxHeartbeats 4000000 in
set_option maxRecDepth 100000 in
theorem m_X1_readSetting {l : Launch} {al : Nat → Nat} {dC : Nat → ClassId} {dI : Nat → Nat → Nat} {aC : Nat → ClassId} {aV : Nat → Nat} (hy : am_Hy l al) (N : Nat)  (h : am_Hp) (r : (Int32 × am_Hp)) (hf : f_X1_readSetting N  h = some r) : am_Met l al dC dI aC aV 12 [.ref 3, .ref 1] h (am_oi r.1) r.2 :=
  am_met (tab := tX1_readSetting) (orc := o_X1_readSetting N) (ret := am_ri) (g := r) (by decide) (by decide) hy.1 hy.2 tok_X1_readSetting (am_os1 (s_X7_advance hy N) (am_os1 (s_X7_isWord hy N) (am_os1 (s_X1_readNumber hy N) (am_os1 (s_X7_number hy N) am_os0)))) am_ri_inv (Nat.le_of_ble_eq_true rfl) (fun At cl wk => by
    skip
    exact cl am_C0 am_c0 400 0 _ _ h hf)
theorem s_X1_readSetting {l : Launch} {al : Nat → Nat} {dC : Nat → ClassId} {dI : Nat → Nat → Nat} {aC : Nat → ClassId} {aV : Nat → Nat} (hy : am_Hy l al) (N : Nat) : am_CS l al dC dI aC aV 12 (c_X1_readSetting N) := by
  intro γ as h kk g hc0
  obtain ⟨z0, w0, e_0, hcz0⟩ := am_sa_some hc0
  obtain ⟨hz0, hc1⟩ := am_bif hcz0
  cases Nat.eq_of_beq_eq_true hz0
  obtain ⟨z1, w1, e_1, hcz1⟩ := am_sa_some hc1
  obtain ⟨hz1, hc2⟩ := am_bif hcz1
  cases Nat.eq_of_beq_eq_true hz1
  obtain ⟨e_2, hc⟩ := am_st0_some hc2
  subst e_2
  subst e_1
  subst e_0
  obtain ⟨q, e1, e2⟩ := am_bi_some hc
  exact ⟨_, _, m_X1_readSetting hy N  h _ e1, e2⟩
