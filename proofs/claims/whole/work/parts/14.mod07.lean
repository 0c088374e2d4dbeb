def l_X10_next_64 (N : Nat) : Nat → am_Hp → Option (Unit × am_Hp)
  | 0, _ => none
  | n + 1, h =>
    am_bi (f_X10_here N h) (fun x2 h1 =>
    am_bi (f_X10_isSmall N x2 h1) (fun x4 h3 =>
    (if x4 = 0 then
      let h5 := am_pi h3 193 20 (0 : Int32)
      some ((), h5)
    else
      let h6 := am_pi h3 193 18 ((h3 193 18) + (1 : Int32))
      l_X10_next_64 N n h6)))
def l_X10_next_112 (N : Nat) : Nat → am_Hp → Option (Unit × am_Hp)
  | 0, _ => none
  | n + 1, h =>
    am_bi (f_X10_here N h) (fun x2 h1 =>
    am_bi (f_X10_isDigit N x2 h1) (fun x4 h3 =>
    (if x4 = 0 then
      some ((), h3)
    else
      (if (h3 193 21) ≤ (100000 : Int32) then
        am_bi (f_X10_here N h3) (fun x6 h5 =>
        let h7 := am_pi h5 193 21 ((((10 : Int32) * (h3 193 21)) + x6) - (48 : Int32))
        let h8 := am_pi h7 193 18 ((h7 193 18) + (1 : Int32))
        l_X10_next_112 N n h8)
      else
        let h9 := am_pi h3 193 21 (h3 193 21)
        let h10 := am_pi h9 193 18 ((h9 193 18) + (1 : Int32))
        l_X10_next_112 N n h10))))
def l_X10_next_0 (N : Nat) : Nat → am_Hp → Option (Unit × am_Hp)
  | 0, _ => none
  | n + 1, h =>
    am_bi (f_X10_here N h) (fun x2 h1 =>
    (if x2 = (10 : Int32) then
      let h3 := am_pi h1 193 18 ((h1 193 18) + (1 : Int32))
      l_X10_next_0 N n h3
    else
      am_bi (f_X10_here N h1) (fun x5 h4 =>
      (if x5 = (32 : Int32) then
        let h20 := am_pi h4 193 18 ((h4 193 18) + (1 : Int32))
        l_X10_next_0 N n h20
      else
        let h6 := am_pi h4 193 19 (h4 193 18)
        am_bi (f_X10_here N h6) (fun x8 h7 =>
        (if x8 = (-1 : Int32) then
          let h19 := am_pi h7 193 20 (3 : Int32)
          some ((), h19)
        else
          am_bi (f_X10_isSmall N x8 h7) (fun x10 h9 =>
          (if x10 = 0 then
            am_bi (f_X10_isDigit N x8 h9) (fun x12 h11 =>
            (if x12 = 0 then
              (if x8 = (59 : Int32) then
                let h15 := am_pi h11 193 20 (2 : Int32)
                let h16 := am_pi h15 193 18 ((h15 193 18) + (1 : Int32))
                some ((), h16)
              else
                let h13 := am_pi h11 193 20 (4 : Int32)
                let h14 := am_pi h13 193 18 ((h13 193 18) + (1 : Int32))
                some ((), h14))
            else
              let h17 := am_pi h11 193 20 (1 : Int32)
              let h18 := am_pi h17 193 21 (0 : Int32)
              l_X10_next_112 N N h18))
          else
            l_X10_next_64 N N h9))))))))
def f_X10_next (N : Nat)  (h : am_Hp) : Option (Unit × am_Hp) :=
  l_X10_next_0 N N h
def c_X10_next (N : Nat) : am_Cl := fun _ as h kk => am_sa as (fun z w0 => bif Nat.beq z 193 then am_st0 w0 (am_bi (f_X10_next N  h) (fun v h => kk (am_ov v) h)) else none)
def o_X10_next (N : Nat) : am_Orc := (am_oc 157 (c_X10_here N) (am_oc 158 (c_X10_isSmall N) (am_oc 159 (c_X10_isDigit N) am_o0)))
set_option maxRecDepth 100000 in
theorem tok_X10_next : am_tok 160 tX10_next := by
  unfold am_tok
  decide +kernel
set_option maxHeartbeats 4000000 in
set_option maxRecDepth 100000 in
theorem m_X10_next {l : Launch} {al : Nat → Nat} {dC : Nat → ClassId} {dI : Nat → Nat → Nat} {aC : Nat → ClassId} {aV : Nat → Nat} (hy : am_Hy l al) (N : Nat)  (h : am_Hp) (r : (Unit × am_Hp)) (hf : f_X10_next N  h = some r) : am_Met l al dC dI aC aV 160 [.ref 193] h (am_ov r.1) r.2 :=
  am_met (tab := tX10_next) (orc := o_X10_next N) (ret := am_rv) (g := r) (by decide) (by decide) hy.1 hy.2 tok_X10_next (am_os1 (s_X10_here hy N) (am_os1 (s_X10_isSmall hy N) (am_os1 (s_X10_isDigit hy N) am_os0))) am_rv_inv (Nat.le_of_ble_eq_true rfl) (fun At cl wk => by
    have A64 : ∀ n : Nat, ∀ h, l_X10_next_64 N n h = some r → At 64 [(0, .ref 193)] [] h := by
      intro n
      induction n with
      | zero => intro h hr; cases hr
      | succ n ih =>
        intro h hr
        exact cl (am_C1 64 (fun ρ st h => am_lda ρ 0 (fun z => bif Nat.beq z 193 then am_st0 st (l_X10_next_64 N n h) else none)) am_C0) (am_c1 (fun ρ st h hc => by
        obtain ⟨z, m_a0, hc⟩ := am_lda_some hc
        obtain ⟨hz, hc⟩ := am_bif hc
        cases Nat.eq_of_beq_eq_true hz
        obtain ⟨rfl, hc⟩ := am_st0_some hc
        exact wk 64 ρ [(0, .ref 193)] _ h (am_m1 m_a0 am_m0) (ih h hc)) am_c0) 400 64 _ _ h hr
    have A112 : ∀ n : Nat, ∀ h, l_X10_next_112 N n h = some r → At 112 [(0, .ref 193)] [] h := by
      intro n
      induction n with
      | zero => intro h hr; cases hr
      | succ n ih =>
        intro h hr
        exact cl (am_C1 112 (fun ρ st h => am_lda ρ 0 (fun z => bif Nat.beq z 193 then am_st0 st (l_X10_next_112 N n h) else none)) am_C0) (am_c1 (fun ρ st h hc => by
        obtain ⟨z, m_a0, hc⟩ := am_lda_some hc
        obtain ⟨hz, hc⟩ := am_bif hc
        cases Nat.eq_of_beq_eq_true hz
        obtain ⟨rfl, hc⟩ := am_st0_some hc
        exact wk 112 ρ [(0, .ref 193)] _ h (am_m1 m_a0 am_m0) (ih h hc)) am_c0) 400 112 _ _ h hr
    have A0 : ∀ n : Nat, ∀ h, l_X10_next_0 N n h = some r → At 0 [(0, .ref 193)] [] h := by
      intro n
      induction n with
      | zero => intro h hr; cases hr
      | succ n ih =>
        intro h hr
        exact cl (am_C1 0 (fun ρ st h => am_lda ρ 0 (fun z => bif Nat.beq z 193 then am_st0 st (l_X10_next_0 N n h) else none)) (am_C1 64 (fun ρ st h => am_lda ρ 0 (fun z => bif Nat.beq z 193 then am_st0 st (l_X10_next_64 N N h) else none)) (am_C1 112 (fun ρ st h => am_lda ρ 0 (fun z => bif Nat.beq z 193 then am_st0 st (l_X10_next_112 N N h) else none)) am_C0))) (am_c1 (fun ρ st h hc => by
        obtain ⟨z, m_a0, hc⟩ := am_lda_some hc
        obtain ⟨hz, hc⟩ := am_bif hc
        cases Nat.eq_of_beq_eq_true hz
        obtain ⟨rfl, hc⟩ := am_st0_some hc
        exact wk 0 ρ [(0, .ref 193)] _ h (am_m1 m_a0 am_m0) (ih h hc)) (am_c1 (fun ρ st h hc => by
        obtain ⟨z, m_a0, hc⟩ := am_lda_some hc
        obtain ⟨hz, hc⟩ := am_bif hc
        cases Nat.eq_of_beq_eq_true hz
        obtain ⟨rfl, hc⟩ := am_st0_some hc
        exact wk 64 ρ [(0, .ref 193)] _ h (am_m1 m_a0 am_m0) (A64 N h hc)) (am_c1 (fun ρ st h hc => by
        obtain ⟨z, m_a0, hc⟩ := am_lda_some hc
        obtain ⟨hz, hc⟩ := am_bif hc
        cases Nat.eq_of_beq_eq_true hz
        obtain ⟨rfl, hc⟩ := am_st0_some hc
        exact wk 112 ρ [(0, .ref 193)] _ h (am_m1 m_a0 am_m0) (A112 N h hc)) am_c0))) 400 0 _ _ h hr
    exact wk 0 _ [(0, .ref 193)] _ h (by simp [lv_args, Value.category]) (A0 N h hf))
theorem s_X10_next {l : Launch} {al : Nat → Nat} {dC : Nat → ClassId} {dI : Nat → Nat → Nat} {aC : Nat → ClassId} {aV : Nat → Nat} (hy : am_Hy l al) (N : Nat) : am_CS l al dC dI aC aV 160 (c_X10_next N) := by
  intro γ as h kk g hc0
  obtain ⟨z0, w0, e_0, hcz0⟩ := am_sa_some hc0
  obtain ⟨hz0, hc1⟩ := am_bif hcz0
  cases Nat.eq_of_beq_eq_true hz0
  obtain ⟨e_1, hc⟩ := am_st0_some hc1
  subst e_1
  subst e_0
  obtain ⟨q, e1, e2⟩ := am_bi_some hc
  exact ⟨_, _, m_X10_next hy N  h _ e1, e2⟩

def l_X10_wordOf_107 (N : Nat) (K4 : Nat → Int32 → Int32 → am_Hp → Option (Int32 × am_Hp)) : Nat → Nat → Int32 → Int32 → am_Hp → Option (Int32 × am_Hp)
  | 0, _, _, _, _ => none
  | n + 1, a1, i2, i3, h =>
    bif Nat.beq (am_kd a1).1 6 then am_bi (f_SCHR N a1 i3 h) (fun x2 h1 =>
    (if x2 = (32 : Int32) then
      K4 a1 (i2 + (1 : Int32)) (i3 + (1 : Int32)) h1
    else
      l_X10_wordOf_107 N K4 n a1 i2 (i3 + (1 : Int32)) h1)) else none
def l_X10_wordOf_22 (N : Nat) (K4 : Nat → Int32 → Int32 → am_Hp → Option (Int32 × am_Hp)) : Nat → Nat → Int32 → Int32 → Int32 → am_Hp → Option (Int32 × am_Hp)
  | 0, _, _, _, _, _ => none
  | n + 1, a1, i2, i3, i4, h =>
    bif Nat.beq (am_kd a1).1 6 then am_bi (f_SCHR N a1 (i3 + i4) h) (fun x2 h1 =>
    (if x2 = (32 : Int32) then
      bif Nat.beq (am_kd a1).1 6 then am_bi (f_SCHR N a1 (i3 + i4) h1) (fun x4 h3 =>
      (if x4 = (32 : Int32) then
        (if ((h3 193 19) + i4) = (h3 193 18) then
          some (i2, h3)
        else
          l_X10_wordOf_107 N K4 N a1 i2 i3 h3)
      else
        l_X10_wordOf_107 N K4 N a1 i2 i3 h3)) else none
    else
      (if (h1 193 18) ≤ ((h1 193 19) + i4) then
        bif Nat.beq (am_kd a1).1 6 then am_bi (f_SCHR N a1 (i3 + i4) h1) (fun x6 h5 =>
        (if x6 = (32 : Int32) then
          (if ((h5 193 19) + i4) = (h5 193 18) then
            some (i2, h5)
          else
            l_X10_wordOf_107 N K4 N a1 i2 i3 h5)
        else
          l_X10_wordOf_107 N K4 N a1 i2 i3 h5)) else none
      else
        bif am_in ((h1 193 19) + i4) 600 then bif Nat.beq (am_kd a1).1 6 then am_bi (f_SCHR N a1 (i3 + i4) h1) (fun x8 h7 =>
        (if (h1 194 (((h1 193 19) + i4).toNatClampNeg)) = x8 then
          l_X10_wordOf_22 N K4 n a1 i2 i3 (i4 + (1 : Int32)) h7
        else
          bif Nat.beq (am_kd a1).1 6 then am_bi (f_SCHR N a1 (i3 + i4) h7) (fun x10 h9 =>
          (if x10 = (32 : Int32) then
            (if ((h9 193 19) + i4) = (h9 193 18) then
              some (i2, h9)
            else
              l_X10_wordOf_107 N K4 N a1 i2 i3 h9)
          else
            l_X10_wordOf_107 N K4 N a1 i2 i3 h9)) else none)) else none else none))) else none
def l_X10_wordOf_4 (N : Nat) : Nat → Nat → Int32 → Int32 → am_Hp → Option (Int32 × am_Hp)
  | 0, _, _, _, _ => none
  | n + 1, a1, i2, i3, h =>
    (if (h 193 20) = 0 then
      bif Nat.beq (am_kd a1).1 6 then am_bi (f_SLEN N a1 h) (fun x2 h1 =>
      (if x2 ≤ i3 then
        some ((-1 : Int32), h1)
      else
        l_X10_wordOf_22 N (l_X10_wordOf_4 N n) N a1 i2 i3 (0 : Int32) h1)) else none
    else
      some ((-1 : Int32), h))
def f_X10_wordOf (N : Nat) (a1 : Nat) (h : am_Hp) : Option (Int32 × am_Hp) :=
  l_X10_wordOf_4 N N a1 (0 : Int32) (0 : Int32) h
def c_X10_wordOf (N : Nat) : am_Cl := fun _ as h kk => am_sa as (fun z w0 => bif Nat.beq z 193 then am_sa w0 (fun a1 w1 => am_st0 w1 (am_bi (f_X10_wordOf N a1 h) (fun v h => kk (am_oi v) h))) else none)
def o_X10_wordOf (N : Nat) : am_Orc := (am_oc 3 (c_SLEN N) (am_oc 4 (c_SCHR N) am_o0))
set_option maxRecDepth 100000 in
theorem tok_X10_wordOf : am_tok 161 tX10_wordOf := by
  unfold am_tok
  decide +kernel
set_option maxHeartbeats 4000000 in
set_option maxRecDepth 100000 in
theorem m_X10_wordOf {l : Launch} {al : Nat → Nat} {dC : Nat → ClassId} {dI : Nat → Nat → Nat} {aC : Nat → ClassId} {aV : Nat → Nat} (hy : am_Hy l al) (N : Nat) (a1 : Nat) (h : am_Hp) (r : (Int32 × am_Hp)) (hf : f_X10_wordOf N a1 h = some r) : am_Met l al dC dI aC aV 161 [.ref 193, .ref a1] h (am_oi r.1) r.2 :=
  am_met (tab := tX10_wordOf) (orc := o_X10_wordOf N) (ret := am_ri) (g := r) (by decide) (by decide) hy.1 hy.2 tok_X10_wordOf (am_os1 (s_SLEN hy N) (am_os1 (s_SCHR hy N) am_os0)) am_ri_inv (Nat.le_of_ble_eq_true rfl) (fun At cl wk => by
    have A107 : ∀ (K4 : Nat → Int32 → Int32 → am_Hp → Option (Int32 × am_Hp)), (∀ a1 : Nat, ∀ i2 : Int32, ∀ i3 : Int32, ∀ h, K4 a1 i2 i3 h = some r → At 4 [(0, .ref 193), (1, .ref a1), (2, .int i2), (3, .int i3)] [] h) → ∀ n : Nat, ∀ a1 : Nat, ∀ i2 : Int32, ∀ i3 : Int32, ∀ h, l_X10_wordOf_107 N K4 n a1 i2 i3 h = some r → At 107 [(0, .ref 193), (1, .ref a1), (2, .int i2), (3, .int i3)] [] h := by
      intro K4 hK4 n
      induction n with
      | zero => intro a1 i2 i3 h hr; cases hr
      | succ n ih =>
        intro a1 i2 i3 h hr
        exact cl (am_C1 4 (fun ρ st h => am_lda ρ 0 (fun z => bif Nat.beq z 193 then am_lda ρ 1 (fun a1 => am_ldi ρ 2 (fun i2 => am_ldi ρ 3 (fun i3 => am_st0 st (K4 a1 i2 i3 h)))) else none)) (am_C1 107 (fun ρ st h => am_lda ρ 0 (fun z => bif Nat.beq z 193 then am_lda ρ 1 (fun a1 => am_ldi ρ 2 (fun i2 => am_ldi ρ 3 (fun i3 => am_st0 st (l_X10_wordOf_107 N K4 n a1 i2 i3 h)))) else none)) am_C0)) (am_c1 (fun ρ st h hc => by
        obtain ⟨z, m_a0, hc⟩ := am_lda_some hc
        obtain ⟨hz, hc⟩ := am_bif hc
        cases Nat.eq_of_beq_eq_true hz
        obtain ⟨a1, m_a1, hc⟩ := am_lda_some hc
        obtain ⟨i2, m_i2, hc⟩ := am_ldi_some hc
        obtain ⟨i3, m_i3, hc⟩ := am_ldi_some hc
        obtain ⟨rfl, hc⟩ := am_st0_some hc
        exact wk 4 ρ [(0, .ref 193), (1, .ref a1), (2, .int i2), (3, .int i3)] _ h (am_m1 m_a0 (am_m1 m_a1 (am_m1 m_i2 (am_m1 m_i3 am_m0)))) (hK4 a1 i2 i3 h hc)) (am_c1 (fun ρ st h hc => by
        obtain ⟨z, m_a0, hc⟩ := am_lda_some hc
        obtain ⟨hz, hc⟩ := am_bif hc
        cases Nat.eq_of_beq_eq_true hz
        obtain ⟨a1, m_a1, hc⟩ := am_lda_some hc
        obtain ⟨i2, m_i2, hc⟩ := am_ldi_some hc
        obtain ⟨i3, m_i3, hc⟩ := am_ldi_some hc
        obtain ⟨rfl, hc⟩ := am_st0_some hc
        exact wk 107 ρ [(0, .ref 193), (1, .ref a1), (2, .int i2), (3, .int i3)] _ h (am_m1 m_a0 (am_m1 m_a1 (am_m1 m_i2 (am_m1 m_i3 am_m0)))) (ih a1 i2 i3 h hc)) am_c0)) 400 107 _ _ h hr
    have A22 : ∀ (K4 : Nat → Int32 → Int32 → am_Hp → Option (Int32 × am_Hp)), (∀ a1 : Nat, ∀ i2 : Int32, ∀ i3 : Int32, ∀ h, K4 a1 i2 i3 h = some r → At 4 [(0, .ref 193), (1, .ref a1), (2, .int i2), (3, .int i3)] [] h) → ∀ n : Nat, ∀ a1 : Nat, ∀ i2 : Int32, ∀ i3 : Int32, ∀ i4 : Int32, ∀ h, l_X10_wordOf_22 N K4 n a1 i2 i3 i4 h = some r → At 22 [(0, .ref 193), (1, .ref a1), (2, .int i2), (3, .int i3), (4, .int i4)] [] h := by
      intro K4 hK4 n
      induction n with
      | zero => intro a1 i2 i3 i4 h hr; cases hr
      | succ n ih =>
        intro a1 i2 i3 i4 h hr
        exact cl (am_C1 22 (fun ρ st h => am_lda ρ 0 (fun z => bif Nat.beq z 193 then am_lda ρ 1 (fun a1 => am_ldi ρ 2 (fun i2 => am_ldi ρ 3 (fun i3 => am_ldi ρ 4 (fun i4 => am_st0 st (l_X10_wordOf_22 N K4 n a1 i2 i3 i4 h))))) else none)) (am_C1 107 (fun ρ st h => am_lda ρ 0 (fun z => bif Nat.beq z 193 then am_lda ρ 1 (fun a1 => am_ldi ρ 2 (fun i2 => am_ldi ρ 3 (fun i3 => am_st0 st (l_X10_wordOf_107 N K4 N a1 i2 i3 h)))) else none)) am_C0)) (am_c1 (fun ρ st h hc => by
        obtain ⟨z, m_a0, hc⟩ := am_lda_some hc
        obtain ⟨hz, hc⟩ := am_bif hc
        cases Nat.eq_of_beq_eq_true hz
        obtain ⟨a1, m_a1, hc⟩ := am_lda_some hc
        obtain ⟨i2, m_i2, hc⟩ := am_ldi_some hc
        obtain ⟨i3, m_i3, hc⟩ := am_ldi_some hc
        obtain ⟨i4, m_i4, hc⟩ := am_ldi_some hc
        obtain ⟨rfl, hc⟩ := am_st0_some hc
        exact wk 22 ρ [(0, .ref 193), (1, .ref a1), (2, .int i2), (3, .int i3), (4, .int i4)] _ h (am_m1 m_a0 (am_m1 m_a1 (am_m1 m_i2 (am_m1 m_i3 (am_m1 m_i4 am_m0))))) (ih a1 i2 i3 i4 h hc)) (am_c1 (fun ρ st h hc => by
        obtain ⟨z, m_a0, hc⟩ := am_lda_some hc
        obtain ⟨hz, hc⟩ := am_bif hc
        cases Nat.eq_of_beq_eq_true hz
        obtain ⟨a1, m_a1, hc⟩ := am_lda_some hc
        obtain ⟨i2, m_i2, hc⟩ := am_ldi_some hc
        obtain ⟨i3, m_i3, hc⟩ := am_ldi_some hc
        obtain ⟨rfl, hc⟩ := am_st0_some hc
        exact wk 107 ρ [(0, .ref 193), (1, .ref a1), (2, .int i2), (3, .int i3)] _ h (am_m1 m_a0 (am_m1 m_a1 (am_m1 m_i2 (am_m1 m_i3 am_m0)))) (A107 K4 hK4 N a1 i2 i3 h hc)) am_c0)) 400 22 _ _ h hr
    have A4 : ∀ n : Nat, ∀ a1 : Nat, ∀ i2 : Int32, ∀ i3 : Int32, ∀ h, l_X10_wordOf_4 N n a1 i2 i3 h = some r → At 4 [(0, .ref 193), (1, .ref a1), (2, .int i2), (3, .int i3)] [] h := by
      intro n
      induction n with
      | zero => intro a1 i2 i3 h hr; cases hr
      | succ n ih =>
        intro a1 i2 i3 h hr
        exact cl (am_C1 22 (fun ρ st h => am_lda ρ 0 (fun z => bif Nat.beq z 193 then am_lda ρ 1 (fun a1 => am_ldi ρ 2 (fun i2 => am_ldi ρ 3 (fun i3 => am_ldi ρ 4 (fun i4 => am_st0 st (l_X10_wordOf_22 N (l_X10_wordOf_4 N n) N a1 i2 i3 i4 h))))) else none)) am_C0) (am_c1 (fun ρ st h hc => by
        obtain ⟨z, m_a0, hc⟩ := am_lda_some hc
        obtain ⟨hz, hc⟩ := am_bif hc
        cases Nat.eq_of_beq_eq_true hz
        obtain ⟨a1, m_a1, hc⟩ := am_lda_some hc
        obtain ⟨i2, m_i2, hc⟩ := am_ldi_some hc
        obtain ⟨i3, m_i3, hc⟩ := am_ldi_some hc
        obtain ⟨i4, m_i4, hc⟩ := am_ldi_some hc
        obtain ⟨rfl, hc⟩ := am_st0_some hc
        exact wk 22 ρ [(0, .ref 193), (1, .ref a1), (2, .int i2), (3, .int i3), (4, .int i4)] _ h (am_m1 m_a0 (am_m1 m_a1 (am_m1 m_i2 (am_m1 m_i3 (am_m1 m_i4 am_m0))))) (A22 (l_X10_wordOf_4 N n) ih N a1 i2 i3 i4 h hc)) am_c0) 400 4 _ _ h hr
    exact cl (am_C1 4 (fun ρ st h => am_lda ρ 0 (fun z => bif Nat.beq z 193 then am_lda ρ 1 (fun a1 => am_ldi ρ 2 (fun i2 => am_ldi ρ 3 (fun i3 => am_st0 st (l_X10_wordOf_4 N N a1 i2 i3 h)))) else none)) am_C0) (am_c1 (fun ρ st h hc => by
        obtain ⟨z, m_a0, hc⟩ := am_lda_some hc
        obtain ⟨hz, hc⟩ := am_bif hc
        cases Nat.eq_of_beq_eq_true hz
        obtain ⟨a1, m_a1, hc⟩ := am_lda_some hc
        obtain ⟨i2, m_i2, hc⟩ := am_ldi_some hc
        obtain ⟨i3, m_i3, hc⟩ := am_ldi_some hc
        obtain ⟨rfl, hc⟩ := am_st0_some hc
        exact wk 4 ρ [(0, .ref 193), (1, .ref a1), (2, .int i2), (3, .int i3)] _ h (am_m1 m_a0 (am_m1 m_a1 (am_m1 m_i2 (am_m1 m_i3 am_m0)))) (A4 N a1 i2 i3 h hc)) am_c0) 400 0 _ _ h hf)
theorem s_X10_wordOf {l : Launch} {al : Nat → Nat} {dC : Nat → ClassId} {dI : Nat → Nat → Nat} {aC : Nat → ClassId} {aV : Nat → Nat} (hy : am_Hy l al) (N : Nat) : am_CS l al dC dI aC aV 161 (c_X10_wordOf N) := by
  intro γ as h kk g hc0
  obtain ⟨z0, w0, e_0, hcz0⟩ := am_sa_some hc0
  obtain ⟨hz0, hc1⟩ := am_bif hcz0
  cases Nat.eq_of_beq_eq_true hz0
  obtain ⟨a1, w1, e_1, hc2⟩ := am_sa_some hc1
  obtain ⟨e_2, hc⟩ := am_st0_some hc2
  subst e_2
  subst e_1
  subst e_0
  obtain ⟨q, e1, e2⟩ := am_bi_some hc
  exact ⟨_, _, m_X10_wordOf hy N a1 h _ e1, e2⟩
