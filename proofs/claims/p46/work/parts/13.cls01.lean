def l_X7_advance_97 (N : Nat) : Nat → am_Hp → Option (Unit × am_Hp)
  | 0, _ => none
  | n + 1, h =>
    (if (h 1 2) ≤ (h 1 5) then
      some ((), h)
    else
      am_bi (f_X7_byteAt N (h 1 5) h) (fun x2 h1 =>
      am_bi (f_X7_kindOf N x2 h1) (fun x4 h3 =>
      (if x4 = (h3 1 3) then
        let h5 := am_pi h3 1 5 ((h3 1 5) + (1 : Int32))
        l_X7_advance_97 N n h5
      else
        some ((), h3)))))
def l_X7_advance_8 (N : Nat) : Nat → am_Hp → Option (Unit × am_Hp)
  | 0, _ => none
  | n + 1, h =>
    (if (h 1 2) ≤ (h 1 4) then
      am_bi (f_X7_byteAt N (h 1 4) h) (fun x2 h1 =>
      am_bi (f_X7_kindOf N x2 h1) (fun x4 h3 =>
      let h5 := am_pi h3 1 3 x4
      let h6 := am_pi h5 1 5 (h5 1 4)
      (if (h6 1 3) = (1 : Int32) then
        l_X7_advance_97 N N h6
      else
        (if (h6 1 3) = (2 : Int32) then
          l_X7_advance_97 N N h6
        else
          (if (h6 1 3) = 0 then
            some ((), h6)
          else
            let h7 := am_pi h6 1 5 ((h6 1 5) + (1 : Int32))
            some ((), h7))))))
    else
      am_bi (f_X7_byteAt N (h 1 4) h) (fun x9 h8 =>
      (if x9 = (32 : Int32) then
        let h10 := am_pi h8 1 4 ((h8 1 4) + (1 : Int32))
        l_X7_advance_8 N n h10
      else
        am_bi (f_X7_byteAt N (h8 1 4) h8) (fun x12 h11 =>
        (if x12 = (10 : Int32) then
          let h20 := am_pi h11 1 4 ((h11 1 4) + (1 : Int32))
          l_X7_advance_8 N n h20
        else
          am_bi (f_X7_byteAt N (h11 1 4) h11) (fun x14 h13 =>
          am_bi (f_X7_kindOf N x14 h13) (fun x16 h15 =>
          let h17 := am_pi h15 1 3 x16
          let h18 := am_pi h17 1 5 (h17 1 4)
          (if (h18 1 3) = (1 : Int32) then
            l_X7_advance_97 N N h18
          else
            (if (h18 1 3) = (2 : Int32) then
              l_X7_advance_97 N N h18
            else
              (if (h18 1 3) = 0 then
                some ((), h18)
              else
                let h19 := am_pi h18 1 5 ((h18 1 5) + (1 : Int32))
                some ((), h19)))))))))))
def f_X7_advance (N : Nat)  (h : am_Hp) : Option (Unit × am_Hp) :=
  let h1 := am_pi h 1 4 (h 1 5)
  l_X7_advance_8 N N h1
def c_X7_advance (N : Nat) : am_Cl := fun _ as h kk => am_sa as (fun z w0 => bif Nat.beq z 1 then am_st0 w0 (am_bi (f_X7_advance N  h) (fun v h => kk (am_ov v) h)) else none)
def o_X7_advance (N : Nat) : am_Orc := (am_oc 50 (c_X7_byteAt N) (am_oc 49 (c_X7_kindOf N) am_o0))
set_option maxRecDepth 100000 in
theorem tok_X7_advance : am_tok 44 tX7_advance := by
  unfold am_tok
  decide +kernel
set_option maxHeartbeats 4000000 in
set_option maxRecDepth 100000 in
theorem m_X7_advance {l : Launch} {al : Nat → Nat} {dC : Nat → ClassId} {dI : Nat → Nat → Nat} {aC : Nat → ClassId} {aV : Nat → Nat} (hy : am_Hy l al) (N : Nat)  (h : am_Hp) (r : (Unit × am_Hp)) (hf : f_X7_advance N  h = some r) : am_Met l al dC dI aC aV 44 [.ref 1] h (am_ov r.1) r.2 :=
  am_met (tab := tX7_advance) (orc := o_X7_advance N) (ret := am_rv) (g := r) (by decide) (by decide) hy.1 hy.2 tok_X7_advance (am_os1 (s_X7_byteAt hy N) (am_os1 (s_X7_kindOf hy N) am_os0)) am_rv_inv (Nat.le_of_ble_eq_true rfl) (fun At cl wk => by
    have A97 : ∀ n : Nat, ∀ h, l_X7_advance_97 N n h = some r → At 97 [(0, .ref 1)] [] h := by
      intro n
      induction n with
      | zero => intro h hr; cases hr
      | succ n ih =>
        intro h hr
        exact cl (am_C1 97 (fun ρ st h => am_lda ρ 0 (fun z => bif Nat.beq z 1 then am_st0 st (l_X7_advance_97 N n h) else none)) am_C0) (am_c1 (fun ρ st h hc => by
        obtain ⟨z, m_a0, hc⟩ := am_lda_some hc
        obtain ⟨hz, hc⟩ := am_bif hc
        cases Nat.eq_of_beq_eq_true hz
        obtain ⟨rfl, hc⟩ := am_st0_some hc
        exact wk 97 ρ [(0, .ref 1)] _ h (am_m1 m_a0 am_m0) (ih h hc)) am_c0) 400 97 _ _ h hr
    have A8 : ∀ n : Nat, ∀ h, l_X7_advance_8 N n h = some r → At 8 [(0, .ref 1)] [] h := by
      intro n
      induction n with
      | zero => intro h hr; cases hr
      | succ n ih =>
        intro h hr
        exact cl (am_C1 8 (fun ρ st h => am_lda ρ 0 (fun z => bif Nat.beq z 1 then am_st0 st (l_X7_advance_8 N n h) else none)) (am_C1 97 (fun ρ st h => am_lda ρ 0 (fun z => bif Nat.beq z 1 then am_st0 st (l_X7_advance_97 N N h) else none)) am_C0)) (am_c1 (fun ρ st h hc => by
        obtain ⟨z, m_a0, hc⟩ := am_lda_some hc
        obtain ⟨hz, hc⟩ := am_bif hc
        cases Nat.eq_of_beq_eq_true hz
        obtain ⟨rfl, hc⟩ := am_st0_some hc
        exact wk 8 ρ [(0, .ref 1)] _ h (am_m1 m_a0 am_m0) (ih h hc)) (am_c1 (fun ρ st h hc => by
        obtain ⟨z, m_a0, hc⟩ := am_lda_some hc
        obtain ⟨hz, hc⟩ := am_bif hc
        cases Nat.eq_of_beq_eq_true hz
        obtain ⟨rfl, hc⟩ := am_st0_some hc
        exact wk 97 ρ [(0, .ref 1)] _ h (am_m1 m_a0 am_m0) (A97 N h hc)) am_c0)) 400 8 _ _ h hr
    exact cl (am_C1 8 (fun ρ st h => am_lda ρ 0 (fun z => bif Nat.beq z 1 then am_st0 st (l_X7_advance_8 N N h) else none)) am_C0) (am_c1 (fun ρ st h hc => by
        obtain ⟨z, m_a0, hc⟩ := am_lda_some hc
        obtain ⟨hz, hc⟩ := am_bif hc
        cases Nat.eq_of_beq_eq_true hz
        obtain ⟨rfl, hc⟩ := am_st0_some hc
        exact wk 8 ρ [(0, .ref 1)] _ h (am_m1 m_a0 am_m0) (A8 N h hc)) am_c0) 400 0 _ _ h hf)
theorem s_X7_advance {l : Launch} {al : Nat → Nat} {dC : Nat → ClassId} {dI : Nat → Nat → Nat} {aC : Nat → ClassId} {aV : Nat → Nat} (hy : am_Hy l al) (N : Nat) : am_CS l al dC dI aC aV 44 (c_X7_advance N) := by
  intro γ as h kk g hc0
  obtain ⟨z0, w0, e_0, hcz0⟩ := am_sa_some hc0
  obtain ⟨hz0, hc1⟩ := am_bif hcz0
  cases Nat.eq_of_beq_eq_true hz0
  obtain ⟨e_1, hc⟩ := am_st0_some hc1
  subst e_1
  subst e_0
  obtain ⟨q, e1, e2⟩ := am_bi_some hc
  exact ⟨_, _, m_X7_advance hy N  h _ e1, e2⟩

def l_X7_letters_4 (N : Nat) : Nat → Int32 → Int32 → am_Hp → Option (Int32 × am_Hp)
  | 0, _, _, _ => none
  | n + 1, i1, i2, h =>
    (if (6 : Int32) ≤ i2 then
      some (i1, h)
    else
      (if (h 1 5) ≤ ((h 1 4) + i2) then
        l_X7_letters_4 N n (i1 <<< ((5 : Int32) &&& 31)) (i2 + (1 : Int32)) h
      else
        am_bi (f_X7_byteAt N ((h 1 4) + i2) h) (fun x2 h1 =>
        l_X7_letters_4 N n ((i1 <<< ((5 : Int32) &&& 31)) ||| ((x2 - (97 : Int32)) + (1 : Int32))) (i2 + (1 : Int32)) h1)))
def f_X7_letters (N : Nat)  (h : am_Hp) : Option (Int32 × am_Hp) :=
  l_X7_letters_4 N N (0 : Int32) (0 : Int32) h
def c_X7_letters (N : Nat) : am_Cl := fun _ as h kk => am_sa as (fun z w0 => bif Nat.beq z 1 then am_st0 w0 (am_bi (f_X7_letters N  h) (fun v h => kk (am_oi v) h)) else none)
def o_X7_letters (N : Nat) : am_Orc := (am_oc 50 (c_X7_byteAt N) am_o0)
set_option maxRecDepth 100000 in
theorem tok_X7_letters : am_tok 47 tX7_letters := by
  unfold am_tok
  decide +kernel
set_option maxHeartbeats 4000000 in
set_option maxRecDepth 100000 in
theorem m_X7_letters {l : Launch} {al : Nat → Nat} {dC : Nat → ClassId} {dI : Nat → Nat → Nat} {aC : Nat → ClassId} {aV : Nat → Nat} (hy : am_Hy l al) (N : Nat)  (h : am_Hp) (r : (Int32 × am_Hp)) (hf : f_X7_letters N  h = some r) : am_Met l al dC dI aC aV 47 [.ref 1] h (am_oi r.1) r.2 :=
  am_met (tab := tX7_letters) (orc := o_X7_letters N) (ret := am_ri) (g := r) (by decide) (by decide) hy.1 hy.2 tok_X7_letters (am_os1 (s_X7_byteAt hy N) am_os0) am_ri_inv (Nat.le_of_ble_eq_true rfl) (fun At cl wk => by
    have A4 : ∀ n : Nat, ∀ i1 : Int32, ∀ i2 : Int32, ∀ h, l_X7_letters_4 N n i1 i2 h = some r → At 4 [(0, .ref 1), (1, .int i1), (2, .int i2)] [] h := by
      intro n
      induction n with
      | zero => intro i1 i2 h hr; cases hr
      | succ n ih =>
        intro i1 i2 h hr
        exact cl (am_C1 4 (fun ρ st h => am_lda ρ 0 (fun z => bif Nat.beq z 1 then am_ldi ρ 1 (fun i1 => am_ldi ρ 2 (fun i2 => am_st0 st (l_X7_letters_4 N n i1 i2 h))) else none)) am_C0) (am_c1 (fun ρ st h hc => by
        obtain ⟨z, m_a0, hc⟩ := am_lda_some hc
        obtain ⟨hz, hc⟩ := am_bif hc
        cases Nat.eq_of_beq_eq_true hz
        obtain ⟨i1, m_i1, hc⟩ := am_ldi_some hc
        obtain ⟨i2, m_i2, hc⟩ := am_ldi_some hc
        obtain ⟨rfl, hc⟩ := am_st0_some hc
        exact wk 4 ρ [(0, .ref 1), (1, .int i1), (2, .int i2)] _ h (am_m1 m_a0 (am_m1 m_i1 (am_m1 m_i2 am_m0))) (ih i1 i2 h hc)) am_c0) 400 4 _ _ h hr
    exact cl (am_C1 4 (fun ρ st h => am_lda ρ 0 (fun z => bif Nat.beq z 1 then am_ldi ρ 1 (fun i1 => am_ldi ρ 2 (fun i2 => am_st0 st (l_X7_letters_4 N N i1 i2 h))) else none)) am_C0) (am_c1 (fun ρ st h hc => by
        obtain ⟨z, m_a0, hc⟩ := am_lda_some hc
        obtain ⟨hz, hc⟩ := am_bif hc
        cases Nat.eq_of_beq_eq_true hz
        obtain ⟨i1, m_i1, hc⟩ := am_ldi_some hc
        obtain ⟨i2, m_i2, hc⟩ := am_ldi_some hc
        obtain ⟨rfl, hc⟩ := am_st0_some hc
        exact wk 4 ρ [(0, .ref 1), (1, .int i1), (2, .int i2)] _ h (am_m1 m_a0 (am_m1 m_i1 (am_m1 m_i2 am_m0))) (A4 N i1 i2 h hc)) am_c0) 400 0 _ _ h hf)
theorem s_X7_letters {l : Launch} {al : Nat → Nat} {dC : Nat → ClassId} {dI : Nat → Nat → Nat} {aC : Nat → ClassId} {aV : Nat → Nat} (hy : am_Hy l al) (N : Nat) : am_CS l al dC dI aC aV 47 (c_X7_letters N) := by
  intro γ as h kk g hc0
  obtain ⟨z0, w0, e_0, hcz0⟩ := am_sa_some hc0
  obtain ⟨hz0, hc1⟩ := am_bif hcz0
  cases Nat.eq_of_beq_eq_true hz0
  obtain ⟨e_1, hc⟩ := am_st0_some hc1
  subst e_1
  subst e_0
  obtain ⟨q, e1, e2⟩ := am_bi_some hc
  exact ⟨_, _, m_X7_letters hy N  h _ e1, e2⟩

def l_X8_indexOf_2 (N : Nat) : Nat → Nat → Int32 → Int32 → am_Hp → Option (Int32 × am_Hp)
  | 0, _, _, _, _ => none
  | n + 1, a0, i1, i2, h =>
    bif am_isO a0 8 then (if (h a0 4) ≤ i2 then
      some ((-1 : Int32), h)
    else
      bif am_isO a0 8 then (am_G a0 1).bind (fun b1 => bif am_isI b1 || am_isA b1 || am_isF b1 then (if (Int32.ofNat (am_len b1)) ≤ i2 then
        some ((-1 : Int32), h)
      else
        bif am_isO a0 8 then (am_G a0 1).bind (fun b2 => bif am_in i2 (am_len b2) then (bif am_isI b2 then (if (h b2 i2.toNatClampNeg) = i1 then
          some (i2, h)
        else
          l_X8_indexOf_2 N n a0 i1 (i2 + (1 : Int32)) h) else bif am_isF b2 then (if (am_sx b2 i2.toNatClampNeg) = i1 then
          some (i2, h)
        else
          l_X8_indexOf_2 N n a0 i1 (i2 + (1 : Int32)) h) else none) else none) else none) else none) else none) else none
def f_X8_indexOf (N : Nat) (a0 : Nat) (i1 : Int32) (h : am_Hp) : Option (Int32 × am_Hp) :=
  l_X8_indexOf_2 N N a0 i1 (0 : Int32) h
def c_X8_indexOf (N : Nat) : am_Cl := fun _ as h kk => am_sa as (fun a0 w0 => am_s1 w0 (fun i1 w1 => am_st0 w1 (am_bi (f_X8_indexOf N a0 i1 h) (fun v h => kk (am_oi v) h))))
def o_X8_indexOf (N : Nat) : am_Orc := am_o0
set_option maxRecDepth 100000 in
theorem tok_X8_indexOf : am_tok 53 tX8_indexOf := by
  unfold am_tok
  decide +kernel
set_option maxHeartbeats 4000000 in
set_option maxRecDepth 100000 in
theorem m_X8_indexOf {l : Launch} {al : Nat → Nat} {dC : Nat → ClassId} {dI : Nat → Nat → Nat} {aC : Nat → ClassId} {aV : Nat → Nat} (hy : am_Hy l al) (N : Nat) (a0 : Nat) (i1 : Int32) (h : am_Hp) (r : (Int32 × am_Hp)) (hf : f_X8_indexOf N a0 i1 h = some r) : am_Met l al dC dI aC aV 53 [.ref a0, .int i1] h (am_oi r.1) r.2 :=
  am_met (tab := tX8_indexOf) (orc := o_X8_indexOf N) (ret := am_ri) (g := r) (by decide) (by decide) hy.1 hy.2 tok_X8_indexOf am_os0 am_ri_inv (Nat.le_of_ble_eq_true rfl) (fun At cl wk => by
    have A2 : ∀ n : Nat, ∀ a0 : Nat, ∀ i1 : Int32, ∀ i2 : Int32, ∀ h, l_X8_indexOf_2 N n a0 i1 i2 h = some r → At 2 [(0, .ref a0), (1, .int i1), (2, .int i2)] [] h := by
      intro n
      induction n with
      | zero => intro a0 i1 i2 h hr; cases hr
      | succ n ih =>
        intro a0 i1 i2 h hr
        exact cl (am_C1 2 (fun ρ st h => am_lda ρ 0 (fun a0 => am_ldi ρ 1 (fun i1 => am_ldi ρ 2 (fun i2 => am_st0 st (l_X8_indexOf_2 N n a0 i1 i2 h))))) am_C0) (am_c1 (fun ρ st h hc => by
        obtain ⟨a0, m_a0, hc⟩ := am_lda_some hc
        obtain ⟨i1, m_i1, hc⟩ := am_ldi_some hc
        obtain ⟨i2, m_i2, hc⟩ := am_ldi_some hc
        obtain ⟨rfl, hc⟩ := am_st0_some hc
        exact wk 2 ρ [(0, .ref a0), (1, .int i1), (2, .int i2)] _ h (am_m1 m_a0 (am_m1 m_i1 (am_m1 m_i2 am_m0))) (ih a0 i1 i2 h hc)) am_c0) 400 2 _ _ h hr
    exact cl (am_C1 2 (fun ρ st h => am_lda ρ 0 (fun a0 => am_ldi ρ 1 (fun i1 => am_ldi ρ 2 (fun i2 => am_st0 st (l_X8_indexOf_2 N N a0 i1 i2 h))))) am_C0) (am_c1 (fun ρ st h hc => by
        obtain ⟨a0, m_a0, hc⟩ := am_lda_some hc
        obtain ⟨i1, m_i1, hc⟩ := am_ldi_some hc
        obtain ⟨i2, m_i2, hc⟩ := am_ldi_some hc
        obtain ⟨rfl, hc⟩ := am_st0_some hc
        exact wk 2 ρ [(0, .ref a0), (1, .int i1), (2, .int i2)] _ h (am_m1 m_a0 (am_m1 m_i1 (am_m1 m_i2 am_m0))) (A2 N a0 i1 i2 h hc)) am_c0) 400 0 _ _ h hf)
theorem s_X8_indexOf {l : Launch} {al : Nat → Nat} {dC : Nat → ClassId} {dI : Nat → Nat → Nat} {aC : Nat → ClassId} {aV : Nat → Nat} (hy : am_Hy l al) (N : Nat) : am_CS l al dC dI aC aV 53 (c_X8_indexOf N) := by
  intro γ as h kk g hc0
  obtain ⟨a0, w0, e_0, hc1⟩ := am_sa_some hc0
  obtain ⟨i1, w1, e_1, hc2⟩ := am_s1_some hc1
  obtain ⟨e_2, hc⟩ := am_st0_some hc2
  subst e_2
  subst e_1
  subst e_0
  obtain ⟨q, e1, e2⟩ := am_bi_some hc
  exact ⟨_, _, m_X8_indexOf hy N a0 i1 h _ e1, e2⟩

def l_X7_number_7 (N : Nat) : Nat → Int32 → Int32 → am_Hp → Option (Int32 × am_Hp)
  | 0, _, _, _ => none
  | n + 1, i1, i2, h =>
    (if (h 1 5) ≤ i2 then
      some (i1, h)
    else
      am_bi (f_X7_byteAt N i2 h) (fun x2 h1 =>
      l_X7_number_7 N n (if (1000 : Int32) < (((i1 * (10 : Int32)) + x2) - (48 : Int32)) then (1000 : Int32) else ((i1 * (10 : Int32)) + x2) - (48 : Int32)) (i2 + (1 : Int32)) h1))
def f_X7_number (N : Nat)  (h : am_Hp) : Option (Int32 × am_Hp) :=
  l_X7_number_7 N N (0 : Int32) (h 1 4) h
def c_X7_number (N : Nat) : am_Cl := fun _ as h kk => am_sa as (fun z w0 => bif Nat.beq z 1 then am_st0 w0 (am_bi (f_X7_number N  h) (fun v h => kk (am_oi v) h)) else none)
def o_X7_number (N : Nat) : am_Orc := (am_oc 50 (c_X7_byteAt N) am_o0)
set_option maxRecDepth 100000 in
theorem tok_X7_number : am_tok 48 tX7_number := by
  unfold am_tok
  decide +kernel
set_option maxHeartbeats 4000000 in
set_option maxRecDepth 100000 in
theorem m_X7_number {l : Launch} {al : Nat → Nat} {dC : Nat → ClassId} {dI : Nat → Nat → Nat} {aC : Nat → ClassId} {aV : Nat → Nat} (hy : am_Hy l al) (N : Nat)  (h : am_Hp) (r : (Int32 × am_Hp)) (hf : f_X7_number N  h = some r) : am_Met l al dC dI aC aV 48 [.ref 1] h (am_oi r.1) r.2 :=
  am_met (tab := tX7_number) (orc := o_X7_number N) (ret := am_ri) (g := r) (by decide) (by decide) hy.1 hy.2 tok_X7_number (am_os1 (s_X7_byteAt hy N) am_os0) am_ri_inv (Nat.le_of_ble_eq_true rfl) (fun At cl wk => by
    have A7 : ∀ n : Nat, ∀ i1 : Int32, ∀ i2 : Int32, ∀ h, l_X7_number_7 N n i1 i2 h = some r → At 7 [(0, .ref 1), (1, .int i1), (2, .int i2)] [] h := by
      intro n
      induction n with
      | zero => intro i1 i2 h hr; cases hr
      | succ n ih =>
        intro i1 i2 h hr
        exact cl (am_C1 7 (fun ρ st h => am_lda ρ 0 (fun z => bif Nat.beq z 1 then am_ldi ρ 1 (fun i1 => am_ldi ρ 2 (fun i2 => am_st0 st (l_X7_number_7 N n i1 i2 h))) else none)) am_C0) (am_c1 (fun ρ st h hc => by
        obtain ⟨z, m_a0, hc⟩ := am_lda_some hc
        obtain ⟨hz, hc⟩ := am_bif hc
        cases Nat.eq_of_beq_eq_true hz
        obtain ⟨i1, m_i1, hc⟩ := am_ldi_some hc
        obtain ⟨i2, m_i2, hc⟩ := am_ldi_some hc
        obtain ⟨rfl, hc⟩ := am_st0_some hc
        exact wk 7 ρ [(0, .ref 1), (1, .int i1), (2, .int i2)] _ h (am_m1 m_a0 (am_m1 m_i1 (am_m1 m_i2 am_m0))) (ih i1 i2 h hc)) am_c0) 400 7 _ _ h hr
    exact cl (am_C1 7 (fun ρ st h => am_lda ρ 0 (fun z => bif Nat.beq z 1 then am_ldi ρ 1 (fun i1 => am_ldi ρ 2 (fun i2 => am_st0 st (l_X7_number_7 N N i1 i2 h))) else none)) am_C0) (am_c1 (fun ρ st h hc => by
        obtain ⟨z, m_a0, hc⟩ := am_lda_some hc
        obtain ⟨hz, hc⟩ := am_bif hc
        cases Nat.eq_of_beq_eq_true hz
        obtain ⟨i1, m_i1, hc⟩ := am_ldi_some hc
        obtain ⟨i2, m_i2, hc⟩ := am_ldi_some hc
        obtain ⟨rfl, hc⟩ := am_st0_some hc
        exact wk 7 ρ [(0, .ref 1), (1, .int i1), (2, .int i2)] _ h (am_m1 m_a0 (am_m1 m_i1 (am_m1 m_i2 am_m0))) (A7 N i1 i2 h hc)) am_c0) 400 0 _ _ h hf)
theorem s_X7_number {l : Launch} {al : Nat → Nat} {dC : Nat → ClassId} {dI : Nat → Nat → Nat} {aC : Nat → ClassId} {aV : Nat → Nat} (hy : am_Hy l al) (N : Nat) : am_CS l al dC dI aC aV 48 (c_X7_number N) := by
  intro γ as h kk g hc0
  obtain ⟨z0, w0, e_0, hcz0⟩ := am_sa_some hc0
  obtain ⟨hz0, hc1⟩ := am_bif hcz0
  cases Nat.eq_of_beq_eq_true hz0
  obtain ⟨e_1, hc⟩ := am_st0_some hc1
  subst e_1
  subst e_0
  obtain ⟨q, e1, e2⟩ := am_bi_some hc
  exact ⟨_, _, m_X7_number hy N  h _ e1, e2⟩
