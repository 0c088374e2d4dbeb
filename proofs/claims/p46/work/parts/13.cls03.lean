def f_X1_readStatement (N : Nat)  (h : am_Hp) : Option (Int32 × am_Hp) :=
  am_bi (f_X7_isWord N 208 h) (fun x2 h1 =>
  (if x2 = 0 then
    am_bi (f_X7_isWord N 209 h1) (fun x4 h3 =>
    (if x4 = 0 then
      am_bi (f_X7_isWord N 210 h3) (fun x6 h5 =>
      (if x6 = 0 then
        (if (-11 : Int32) = 0 then
          am_bi (f_X7_advance N h5) (fun _ h7 =>
          (if (h7 1 3) = (3 : Int32) then
            some ((0 : Int32), h7)
          else
            some ((-11 : Int32), h7)))
        else
          some ((-11 : Int32), h5))
      else
        am_bi (f_X1_readSetting N h5) (fun x9 h8 =>
        (if x9 = 0 then
          am_bi (f_X7_advance N h8) (fun _ h10 =>
          (if (h10 1 3) = (3 : Int32) then
            some ((0 : Int32), h10)
          else
            some ((-11 : Int32), h10)))
        else
          some (x9, h8)))))
    else
      am_bi (f_X1_readDeclaration N 8 h3) (fun x12 h11 =>
      (if x12 = 0 then
        am_bi (f_X7_advance N h11) (fun _ h13 =>
        (if (h13 1 3) = (3 : Int32) then
          some ((0 : Int32), h13)
        else
          some ((-11 : Int32), h13)))
      else
        some (x12, h11)))))
  else
    am_bi (f_X1_readDeclaration N 4 h1) (fun x15 h14 =>
    (if x15 = 0 then
      am_bi (f_X7_advance N h14) (fun _ h16 =>
      (if (h16 1 3) = (3 : Int32) then
        some ((0 : Int32), h16)
      else
        some ((-11 : Int32), h16)))
    else
      some (x15, h14)))))
def c_X1_readStatement (N : Nat) : am_Cl := fun _ as h kk => am_sa as (fun z w0 => bif Nat.beq z 3 then am_sa w0 (fun z w1 => bif Nat.beq z 1 then am_st0 w1 (am_bi (f_X1_readStatement N  h) (fun v h => kk (am_oi v) h)) else none) else none)
def o_X1_readStatement (N : Nat) : am_Orc := (am_oc 46 (c_X7_isWord N) (am_oc 11 (c_X1_readDeclaration N) (am_oc 12 (c_X1_readSetting N) (am_oc 44 (c_X7_advance N) am_o0))))
set_option maxRecDepth 100000 in
theorem tok_X1_readStatement : am_tok 10 tX1_readStatement := by
  unfold am_tok
  decide +kernel
set_option maxHeartbeats 4000000 in
set_option maxRecDepth 100000 in
theorem m_X1_readStatement {l : Launch} {al : Nat → Nat} {dC : Nat → ClassId} {dI : Nat → Nat → Nat} {aC : Nat → ClassId} {aV : Nat → Nat} (hy : am_Hy l al) (N : Nat)  (h : am_Hp) (r : (Int32 × am_Hp)) (hf : f_X1_readStatement N  h = some r) : am_Met l al dC dI aC aV 10 [.ref 3, .ref 1] h (am_oi r.1) r.2 :=
  am_met (tab := tX1_readStatement) (orc := o_X1_readStatement N) (ret := am_ri) (g := r) (by decide) (by decide) hy.1 hy.2 tok_X1_readStatement (am_os1 (s_X7_isWord hy N) (am_os1 (s_X1_readDeclaration hy N) (am_os1 (s_X1_readSetting hy N) (am_os1 (s_X7_advance hy N) am_os0)))) am_ri_inv (Nat.le_of_ble_eq_true rfl) (fun At cl wk => by
    skip
    exact cl am_C0 am_c0 400 0 _ _ h hf)
theorem s_X1_readStatement {l : Launch} {al : Nat → Nat} {dC : Nat → ClassId} {dI : Nat → Nat → Nat} {aC : Nat → ClassId} {aV : Nat → Nat} (hy : am_Hy l al) (N : Nat) : am_CS l al dC dI aC aV 10 (c_X1_readStatement N) := by
  intro γ as h kk g hc0
  obtain ⟨z0, w0, e_0, hcz0⟩ := am_sa_some hc0
  obtain ⟨hz0, hc1⟩ := am_bif hcz0
  cases Nat.eq_of_beq_eq_true hz0
  obtain ⟨z1, w1, e_1, hcz1⟩ := am_sa_some hc1
  obtain ⟨hz1, hc2⟩ := am_bif hcz1
  cases Nat.eq_of_beq_eq_true hz1
  obtain ⟨e_2, hc⟩ := am_st0_some hc2
  subst e_2
  subst e_1
  subst e_0
  obtain ⟨q, e1, e2⟩ := am_bi_some hc
  exact ⟨_, _, m_X1_readStatement hy N  h _ e1, e2⟩

def l_X1_read_6 (N : Nat) : Nat → Int32 → am_Hp → Option (Int32 × am_Hp)
  | 0, _, _ => none
  | n + 1, i2, h =>
    (if (600 : Int32) ≤ i2 then
      some (i2, h)
    else
      (if (h 1 3) = 0 then
        some (i2, h)
      else
        am_bi (f_X1_readStatement N h) (fun x2 h1 =>
        (if x2 = 0 then
          am_bi (f_X7_advance N h1) (fun _ h3 =>
          l_X1_read_6 N n (i2 + (1 : Int32)) h3)
        else
          some (x2, h1)))))
def f_X1_read (N : Nat)  (h : am_Hp) : Option (Int32 × am_Hp) :=
  am_bi (f_X1_restart N h) (fun _ h1 =>
  l_X1_read_6 N N (0 : Int32) h1)
def c_X1_read (N : Nat) : am_Cl := fun _ as h kk => am_sa as (fun z w0 => bif Nat.beq z 3 then am_sa w0 (fun z w1 => bif Nat.beq z 1 then am_st0 w1 (am_bi (f_X1_read N  h) (fun v h => kk (am_oi v) h)) else none) else none)
def o_X1_read (N : Nat) : am_Orc := (am_oc 9 (c_X1_restart N) (am_oc 10 (c_X1_readStatement N) (am_oc 44 (c_X7_advance N) am_o0)))
set_option maxRecDepth 100000 in
theorem tok_X1_read : am_tok 8 tX1_read := by
  unfold am_tok
  decide +kernel
set_option maxHeartbeats 4000000 in
set_option maxRecDepth 100000 in
theorem m_X1_read {l : Launch} {al : Nat → Nat} {dC : Nat → ClassId} {dI : Nat → Nat → Nat} {aC : Nat → ClassId} {aV : Nat → Nat} (hy : am_Hy l al) (N : Nat)  (h : am_Hp) (r : (Int32 × am_Hp)) (hf : f_X1_read N  h = some r) : am_Met l al dC dI aC aV 8 [.ref 3, .ref 1] h (am_oi r.1) r.2 :=
  am_met (tab := tX1_read) (orc := o_X1_read N) (ret := am_ri) (g := r) (by decide) (by decide) hy.1 hy.2 tok_X1_read (am_os1 (s_X1_restart hy N) (am_os1 (s_X1_readStatement hy N) (am_os1 (s_X7_advance hy N) am_os0))) am_ri_inv (Nat.le_of_ble_eq_true rfl) (fun At cl wk => by
    have A6 : ∀ n : Nat, ∀ i2 : Int32, ∀ h, l_X1_read_6 N n i2 h = some r → At 6 [(0, .ref 3), (1, .ref 1), (2, .int i2)] [] h := by
      intro n
      induction n with
      | zero => intro i2 h hr; cases hr
      | succ n ih =>
        intro i2 h hr
        exact cl (am_C1 6 (fun ρ st h => am_lda ρ 0 (fun z => bif Nat.beq z 3 then am_lda ρ 1 (fun z => bif Nat.beq z 1 then am_ldi ρ 2 (fun i2 => am_st0 st (l_X1_read_6 N n i2 h)) else none) else none)) am_C0) (am_c1 (fun ρ st h hc => by
        obtain ⟨z, m_a0, hc⟩ := am_lda_some hc
        obtain ⟨hz, hc⟩ := am_bif hc
        cases Nat.eq_of_beq_eq_true hz
        obtain ⟨z, m_a1, hc⟩ := am_lda_some hc
        obtain ⟨hz, hc⟩ := am_bif hc
        cases Nat.eq_of_beq_eq_true hz
        obtain ⟨i2, m_i2, hc⟩ := am_ldi_some hc
        obtain ⟨rfl, hc⟩ := am_st0_some hc
        exact wk 6 ρ [(0, .ref 3), (1, .ref 1), (2, .int i2)] _ h (am_m1 m_a0 (am_m1 m_a1 (am_m1 m_i2 am_m0))) (ih i2 h hc)) am_c0) 400 6 _ _ h hr
    exact cl (am_C1 6 (fun ρ st h => am_lda ρ 0 (fun z => bif Nat.beq z 3 then am_lda ρ 1 (fun z => bif Nat.beq z 1 then am_ldi ρ 2 (fun i2 => am_st0 st (l_X1_read_6 N N i2 h)) else none) else none)) am_C0) (am_c1 (fun ρ st h hc => by
        obtain ⟨z, m_a0, hc⟩ := am_lda_some hc
        obtain ⟨hz, hc⟩ := am_bif hc
        cases Nat.eq_of_beq_eq_true hz
        obtain ⟨z, m_a1, hc⟩ := am_lda_some hc
        obtain ⟨hz, hc⟩ := am_bif hc
        cases Nat.eq_of_beq_eq_true hz
        obtain ⟨i2, m_i2, hc⟩ := am_ldi_some hc
        obtain ⟨rfl, hc⟩ := am_st0_some hc
        exact wk 6 ρ [(0, .ref 3), (1, .ref 1), (2, .int i2)] _ h (am_m1 m_a0 (am_m1 m_a1 (am_m1 m_i2 am_m0))) (A6 N i2 h hc)) am_c0) 400 0 _ _ h hf)
theorem s_X1_read {l : Launch} {al : Nat → Nat} {dC : Nat → ClassId} {dI : Nat → Nat → Nat} {aC : Nat → ClassId} {aV : Nat → Nat} (hy : am_Hy l al) (N : Nat) : am_CS l al dC dI aC aV 8 (c_X1_read N) := by
  intro γ as h kk g hc0
  obtain ⟨z0, w0, e_0, hcz0⟩ := am_sa_some hc0
  obtain ⟨hz0, hc1⟩ := am_bif hcz0
  cases Nat.eq_of_beq_eq_true hz0
  obtain ⟨z1, w1, e_1, hcz1⟩ := am_sa_some hc1
  obtain ⟨hz1, hc2⟩ := am_bif hcz1
  cases Nat.eq_of_beq_eq_true hz1
  obtain ⟨e_2, hc⟩ := am_st0_some hc2
  subst e_2
  subst e_1
  subst e_0
  obtain ⟨q, e1, e2⟩ := am_bi_some hc
  exact ⟨_, _, m_X1_read hy N  h _ e1, e2⟩

def f_X5_copyFrom (N : Nat) (a0 : Nat) (a1 : Nat) (h : am_Hp) : Option (Unit × am_Hp) :=
  bif am_isO a1 5 then bif am_isO a0 5 then (let h1 := am_pi h a0 0 (h a1 0)
  bif am_isO a1 5 then bif am_isO a0 5 then (let h2 := am_pi h1 a0 1 (h1 a1 1)
  bif am_isO a1 5 then bif am_isO a0 5 then (let h3 := am_pi h2 a0 2 (h2 a1 2)
  bif am_isO a1 5 then bif am_isO a0 5 then (let h4 := am_pi h3 a0 3 (h3 a1 3)
  bif am_isO a1 5 then bif am_isO a0 5 then (let h5 := am_pi h4 a0 4 (h4 a1 4)
  bif am_isO a1 5 then bif am_isO a0 5 then (let h6 := am_pi h5 a0 5 (h5 a1 5)
  bif am_isO a1 5 then bif am_isO a0 5 then (let h7 := am_pi h6 a0 6 (h6 a1 6)
  bif am_isO a1 5 then bif am_isO a0 5 then (let h8 := am_pi h7 a0 7 (h7 a1 7)
  some ((), h8)) else none else none) else none else none) else none else none) else none else none) else none else none) else none else none) else none else none) else none else none
def c_X5_copyFrom (N : Nat) : am_Cl := fun _ as h kk => am_sa as (fun a0 w0 => am_sa w0 (fun a1 w1 => am_st0 w1 (am_bi (f_X5_copyFrom N a0 a1 h) (fun v h => kk (am_ov v) h))))
def o_X5_copyFrom (N : Nat) : am_Orc := am_o0
set_option maxRecDepth 100000 in
theorem tok_X5_copyFrom : am_tok 39 tX5_copyFrom := by
  unfold am_tok
  decide +kernel
set_option maxHeartbeats 4000000 in
set_option maxRecDepth 100000 in
theorem m_X5_copyFrom {l : Launch} {al : Nat → Nat} {dC : Nat → ClassId} {dI : Nat → Nat → Nat} {aC : Nat → ClassId} {aV : Nat → Nat} (hy : am_Hy l al) (N : Nat) (a0 : Nat) (a1 : Nat) (h : am_Hp) (r : (Unit × am_Hp)) (hf : f_X5_copyFrom N a0 a1 h = some r) : am_Met l al dC dI aC aV 39 [.ref a0, .ref a1] h (am_ov r.1) r.2 :=
  am_met (tab := tX5_copyFrom) (orc := o_X5_copyFrom N) (ret := am_rv) (g := r) (by decide) (by decide) hy.1 hy.2 tok_X5_copyFrom am_os0 am_rv_inv (Nat.le_of_ble_eq_true rfl) (fun At cl wk => by
    skip
    exact cl am_C0 am_c0 400 0 _ _ h hf)
theorem s_X5_copyFrom {l : Launch} {al : Nat → Nat} {dC : Nat → ClassId} {dI : Nat → Nat → Nat} {aC : Nat → ClassId} {aV : Nat → Nat} (hy : am_Hy l al) (N : Nat) : am_CS l al dC dI aC aV 39 (c_X5_copyFrom N) := by
  intro γ as h kk g hc0
  obtain ⟨a0, w0, e_0, hc1⟩ := am_sa_some hc0
  obtain ⟨a1, w1, e_1, hc2⟩ := am_sa_some hc1
  obtain ⟨e_2, hc⟩ := am_st0_some hc2
  subst e_2
  subst e_1
  subst e_0
  obtain ⟨q, e1, e2⟩ := am_bi_some hc
  exact ⟨_, _, m_X5_copyFrom hy N a0 a1 h _ e1, e2⟩
