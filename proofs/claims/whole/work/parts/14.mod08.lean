def f_X10_failsIf (N : Nat) (i1 : Int32) (i2 : Int32) (h : am_Hp) : Option (Unit × am_Hp) :=
  (if (h 193 22) = 0 then
    (if i1 = 0 then
      some ((), h)
    else
      let h1 := am_pi h 193 22 i2
      let h2 := am_pi h1 193 23 (h1 193 19)
      some ((), h2))
  else
    some ((), h))
def c_X10_failsIf (N : Nat) : am_Cl := fun _ as h kk => am_sa as (fun z w0 => bif Nat.beq z 193 then am_s1 w0 (fun i1 w1 => am_s1 w1 (fun i2 w2 => am_st0 w2 (am_bi (f_X10_failsIf N i1 i2 h) (fun v h => kk (am_ov v) h)))) else none)
def o_X10_failsIf (N : Nat) : am_Orc := am_o0
set_option maxRecDepth 100000 in
theorem tok_X10_failsIf : am_tok 162 tX10_failsIf := by
  unfold am_tok
  decide +kernel
set_option maxHeartbeats 4000000 in
set_option maxRecDepth 100000 in
theorem m_X10_failsIf {l : Launch} {al : Nat → Nat} {dC : Nat → ClassId} {dI : Nat → Nat → Nat} {aC : Nat → ClassId} {aV : Nat → Nat} (hy : am_Hy l al) (N : Nat) (i1 : Int32) (i2 : Int32) (h : am_Hp) (r : (Unit × am_Hp)) (hf : f_X10_failsIf N i1 i2 h = some r) : am_Met l al dC dI aC aV 162 [.ref 193, .int i1, .int i2] h (am_ov r.1) r.2 :=
  am_met (tab := tX10_failsIf) (orc := o_X10_failsIf N) (ret := am_rv) (g := r) (by decide) (by decide) hy.1 hy.2 tok_X10_failsIf am_os0 am_rv_inv (Nat.le_of_ble_eq_true rfl) (fun At cl wk => by
    skip
    exact cl am_C0 am_c0 400 0 _ _ h hf)
theorem s_X10_failsIf {l : Launch} {al : Nat → Nat} {dC : Nat → ClassId} {dI : Nat → Nat → Nat} {aC : Nat → ClassId} {aV : Nat → Nat} (hy : am_Hy l al) (N : Nat) : am_CS l al dC dI aC aV 162 (c_X10_failsIf N) := by
  intro γ as h kk g hc0
  obtain ⟨z0, w0, e_0, hcz0⟩ := am_sa_some hc0
  obtain ⟨hz0, hc1⟩ := am_bif hcz0
  cases Nat.eq_of_beq_eq_true hz0
  obtain ⟨i1, w1, e_1, hc2⟩ := am_s1_some hc1
  obtain ⟨i2, w2, e_2, hc3⟩ := am_s1_some hc2
  obtain ⟨e_3, hc⟩ := am_st0_some hc3
  subst e_3
  subst e_2
  subst e_1
  subst e_0
  obtain ⟨q, e1, e2⟩ := am_bi_some hc
  exact ⟨_, _, m_X10_failsIf hy N i1 i2 h _ e1, e2⟩

def f_X10_goOn (N : Nat)  (h : am_Hp) : Option (Unit × am_Hp) :=
  (if (h 193 22) = 0 then
    am_bi (f_X10_next N h) (fun _ h1 =>
    some ((), h1))
  else
    some ((), h))
def c_X10_goOn (N : Nat) : am_Cl := fun _ as h kk => am_sa as (fun z w0 => bif Nat.beq z 193 then am_st0 w0 (am_bi (f_X10_goOn N  h) (fun v h => kk (am_ov v) h)) else none)
def o_X10_goOn (N : Nat) : am_Orc := (am_oc 160 (c_X10_next N) am_o0)
set_option maxRecDepth 100000 in
theorem tok_X10_goOn : am_tok 163 tX10_goOn := by
  unfold am_tok
  decide +kernel
set_option maxHeartbeats 4000000 in
set_option maxRecDepth 100000 in
theorem m_X10_goOn {l : Launch} {al : Nat → Nat} {dC : Nat → ClassId} {dI : Nat → Nat → Nat} {aC : Nat → ClassId} {aV : Nat → Nat} (hy : am_Hy l al) (N : Nat)  (h : am_Hp) (r : (Unit × am_Hp)) (hf : f_X10_goOn N  h = some r) : am_Met l al dC dI aC aV 163 [.ref 193] h (am_ov r.1) r.2 :=
  am_met (tab := tX10_goOn) (orc := o_X10_goOn N) (ret := am_rv) (g := r) (by decide) (by decide) hy.1 hy.2 tok_X10_goOn (am_os1 (s_X10_next hy N) am_os0) am_rv_inv (Nat.le_of_ble_eq_true rfl) (fun At cl wk => by
    skip
    exact cl am_C0 am_c0 400 0 _ _ h hf)
theorem s_X10_goOn {l : Launch} {al : Nat → Nat} {dC : Nat → ClassId} {dI : Nat → Nat → Nat} {aC : Nat → ClassId} {aV : Nat → Nat} (hy : am_Hy l al) (N : Nat) : am_CS l al dC dI aC aV 163 (c_X10_goOn N) := by
  intro γ as h kk g hc0
  obtain ⟨z0, w0, e_0, hcz0⟩ := am_sa_some hc0
  obtain ⟨hz0, hc1⟩ := am_bif hcz0
  cases Nat.eq_of_beq_eq_true hz0
  obtain ⟨e_1, hc⟩ := am_st0_some hc1
  subst e_1
  subst e_0
  obtain ⟨q, e1, e2⟩ := am_bi_some hc
  exact ⟨_, _, m_X10_goOn hy N  h _ e1, e2⟩

def f_X10_integer (N : Nat) (i1 : Int32) (i2 : Int32) (h : am_Hp) : Option (Int32 × am_Hp) :=
  (if (h 193 20) = (1 : Int32) then
    am_bi (f_X10_failsIf N (0 : Int32) (-11 : Int32) h) (fun _ h1 =>
    (if (h1 193 21) < i1 then
      am_bi (f_X10_failsIf N (1 : Int32) (-12 : Int32) h1) (fun _ h2 =>
      (if (h2 193 22) = 0 then
        am_bi (f_X10_goOn N h2) (fun _ h4 =>
        some (h2 193 21, h4))
      else
        am_bi (f_X10_goOn N h2) (fun _ h3 =>
        some (i1, h3))))
    else
      (if (h1 193 21) ≤ i2 then
        am_bi (f_X10_failsIf N (0 : Int32) (-12 : Int32) h1) (fun _ h5 =>
        (if (h5 193 22) = 0 then
          am_bi (f_X10_goOn N h5) (fun _ h7 =>
          some (h5 193 21, h7))
        else
          am_bi (f_X10_goOn N h5) (fun _ h6 =>
          some (i1, h6))))
      else
        am_bi (f_X10_failsIf N (1 : Int32) (-12 : Int32) h1) (fun _ h8 =>
        (if (h8 193 22) = 0 then
          am_bi (f_X10_goOn N h8) (fun _ h10 =>
          some (h8 193 21, h10))
        else
          am_bi (f_X10_goOn N h8) (fun _ h9 =>
          some (i1, h9)))))))
  else
    am_bi (f_X10_failsIf N (1 : Int32) (-11 : Int32) h) (fun _ h11 =>
    (if (h11 193 21) < i1 then
      am_bi (f_X10_failsIf N (1 : Int32) (-12 : Int32) h11) (fun _ h12 =>
      (if (h12 193 22) = 0 then
        am_bi (f_X10_goOn N h12) (fun _ h14 =>
        some (h12 193 21, h14))
      else
        am_bi (f_X10_goOn N h12) (fun _ h13 =>
        some (i1, h13))))
    else
      (if (h11 193 21) ≤ i2 then
        am_bi (f_X10_failsIf N (0 : Int32) (-12 : Int32) h11) (fun _ h15 =>
        (if (h15 193 22) = 0 then
          am_bi (f_X10_goOn N h15) (fun _ h17 =>
          some (h15 193 21, h17))
        else
          am_bi (f_X10_goOn N h15) (fun _ h16 =>
          some (i1, h16))))
      else
        am_bi (f_X10_failsIf N (1 : Int32) (-12 : Int32) h11) (fun _ h18 =>
        (if (h18 193 22) = 0 then
          am_bi (f_X10_goOn N h18) (fun _ h20 =>
          some (h18 193 21, h20))
        else
          am_bi (f_X10_goOn N h18) (fun _ h19 =>
          some (i1, h19))))))))
def c_X10_integer (N : Nat) : am_Cl := fun _ as h kk => am_sa as (fun z w0 => bif Nat.beq z 193 then am_s1 w0 (fun i1 w1 => am_s1 w1 (fun i2 w2 => am_st0 w2 (am_bi (f_X10_integer N i1 i2 h) (fun v h => kk (am_oi v) h)))) else none)
def o_X10_integer (N : Nat) : am_Orc := (am_oc 162 (c_X10_failsIf N) (am_oc 163 (c_X10_goOn N) am_o0))
set_option maxRecDepth 100000 in
theorem tok_X10_integer : am_tok 164 tX10_integer := by
  unfold am_tok
  decide +kernel
set_option maxHeartbeats 4000000 in
set_option maxRecDepth 100000 in
theorem m_X10_integer {l : Launch} {al : Nat → Nat} {dC : Nat → ClassId} {dI : Nat → Nat → Nat} {aC : Nat → ClassId} {aV : Nat → Nat} (hy : am_Hy l al) (N : Nat) (i1 : Int32) (i2 : Int32) (h : am_Hp) (r : (Int32 × am_Hp)) (hf : f_X10_integer N i1 i2 h = some r) : am_Met l al dC dI aC aV 164 [.ref 193, .int i1, .int i2] h (am_oi r.1) r.2 :=
  am_met (tab := tX10_integer) (orc := o_X10_integer N) (ret := am_ri) (g := r) (by decide) (by decide) hy.1 hy.2 tok_X10_integer (am_os1 (s_X10_failsIf hy N) (am_os1 (s_X10_goOn hy N) am_os0)) am_ri_inv (Nat.le_of_ble_eq_true rfl) (fun At cl wk => by
    skip
    exact cl am_C0 am_c0 400 0 _ _ h hf)
theorem s_X10_integer {l : Launch} {al : Nat → Nat} {dC : Nat → ClassId} {dI : Nat → Nat → Nat} {aC : Nat → ClassId} {aV : Nat → Nat} (hy : am_Hy l al) (N : Nat) : am_CS l al dC dI aC aV 164 (c_X10_integer N) := by
  intro γ as h kk g hc0
  obtain ⟨z0, w0, e_0, hcz0⟩ := am_sa_some hc0
  obtain ⟨hz0, hc1⟩ := am_bif hcz0
  cases Nat.eq_of_beq_eq_true hz0
  obtain ⟨i1, w1, e_1, hc2⟩ := am_s1_some hc1
  obtain ⟨i2, w2, e_2, hc3⟩ := am_s1_some hc2
  obtain ⟨e_3, hc⟩ := am_st0_some hc3
  subst e_3
  subst e_2
  subst e_1
  subst e_0
  obtain ⟨q, e1, e2⟩ := am_bi_some hc
  exact ⟨_, _, m_X10_integer hy N i1 i2 h _ e1, e2⟩

def l_X10_nameHere_36 (N : Nat) : Nat → Int32 → Int32 → am_Hp → Option (Int32 × am_Hp)
  | 0, _, _, _ => none
  | n + 1, i1, i2, h =>
    (if (6 : Int32) ≤ i2 then
      some (i1, h)
    else
      (if (h 193 22) = 0 then
        (if (h 193 18) ≤ ((h 193 19) + i2) then
          l_X10_nameHere_36 N n ((i1 <<< ((5 : Int32) &&& 31)) ||| (0 : Int32)) (i2 + (1 : Int32)) h
        else
          bif am_in ((h 193 19) + i2) 600 then l_X10_nameHere_36 N n ((i1 <<< ((5 : Int32) &&& 31)) ||| (((h 194 (((h 193 19) + i2).toNatClampNeg)) - (97 : Int32)) + (1 : Int32))) (i2 + (1 : Int32)) h else none)
      else
        some (i1, h)))
def f_X10_nameHere (N : Nat)  (h : am_Hp) : Option (Int32 × am_Hp) :=
  (if (h 193 20) = 0 then
    (if ((h 193 18) - (h 193 19)) ≤ (6 : Int32) then
      am_bi (f_X10_failsIf N (0 : Int32) (-11 : Int32) h) (fun _ h2 =>
      l_X10_nameHere_36 N N (0 : Int32) (0 : Int32) h2)
    else
      am_bi (f_X10_failsIf N (1 : Int32) (-11 : Int32) h) (fun _ h3 =>
      l_X10_nameHere_36 N N (0 : Int32) (0 : Int32) h3))
  else
    am_bi (f_X10_failsIf N (1 : Int32) (-11 : Int32) h) (fun _ h1 =>
    l_X10_nameHere_36 N N (0 : Int32) (0 : Int32) h1))
def c_X10_nameHere (N : Nat) : am_Cl := fun _ as h kk => am_sa as (fun z w0 => bif Nat.beq z 193 then am_st0 w0 (am_bi (f_X10_nameHere N  h) (fun v h => kk (am_oi v) h)) else none)
def o_X10_nameHere (N : Nat) : am_Orc := (am_oc 162 (c_X10_failsIf N) am_o0)
set_option maxRecDepth 100000 in
theorem tok_X10_nameHere : am_tok 165 tX10_nameHere := by
  unfold am_tok
  decide +kernel
set_option maxHeartbeats 4000000 in
set_option maxRecDepth 100000 in
theorem m_X10_nameHere {l : Launch} {al : Nat → Nat} {dC : Nat → ClassId} {dI : Nat → Nat → Nat} {aC : Nat → ClassId} {aV : Nat → Nat} (hy : am_Hy l al) (N : Nat)  (h : am_Hp) (r : (Int32 × am_Hp)) (hf : f_X10_nameHere N  h = some r) : am_Met l al dC dI aC aV 165 [.ref 193] h (am_oi r.1) r.2 :=
  am_met (tab := tX10_nameHere) (orc := o_X10_nameHere N) (ret := am_ri) (g := r) (by decide) (by decide) hy.1 hy.2 tok_X10_nameHere (am_os1 (s_X10_failsIf hy N) am_os0) am_ri_inv (Nat.le_of_ble_eq_true rfl) (fun At cl wk => by
    have A36 : ∀ n : Nat, ∀ i1 : Int32, ∀ i2 : Int32, ∀ h, l_X10_nameHere_36 N n i1 i2 h = some r → At 36 [(0, .ref 193), (1, .int i1), (2, .int i2)] [] h := by
      intro n
      induction n with
      | zero => intro i1 i2 h hr; cases hr
      | succ n ih =>
        intro i1 i2 h hr
        exact cl (am_C1 36 (fun ρ st h => am_lda ρ 0 (fun z => bif Nat.beq z 193 then am_ldi ρ 1 (fun i1 => am_ldi ρ 2 (fun i2 => am_st0 st (l_X10_nameHere_36 N n i1 i2 h))) else none)) am_C0) (am_c1 (fun ρ st h hc => by
        obtain ⟨z, m_a0, hc⟩ := am_lda_some hc
        obtain ⟨hz, hc⟩ := am_bif hc
        cases Nat.eq_of_beq_eq_true hz
        obtain ⟨i1, m_i1, hc⟩ := am_ldi_some hc
        obtain ⟨i2, m_i2, hc⟩ := am_ldi_some hc
        obtain ⟨rfl, hc⟩ := am_st0_some hc
        exact wk 36 ρ [(0, .ref 193), (1, .int i1), (2, .int i2)] _ h (am_m1 m_a0 (am_m1 m_i1 (am_m1 m_i2 am_m0))) (ih i1 i2 h hc)) am_c0) 400 36 _ _ h hr
    exact cl (am_C1 36 (fun ρ st h => am_lda ρ 0 (fun z => bif Nat.beq z 193 then am_ldi ρ 1 (fun i1 => am_ldi ρ 2 (fun i2 => am_st0 st (l_X10_nameHere_36 N N i1 i2 h))) else none)) am_C0) (am_c1 (fun ρ st h hc => by
        obtain ⟨z, m_a0, hc⟩ := am_lda_some hc
        obtain ⟨hz, hc⟩ := am_bif hc
        cases Nat.eq_of_beq_eq_true hz
        obtain ⟨i1, m_i1, hc⟩ := am_ldi_some hc
        obtain ⟨i2, m_i2, hc⟩ := am_ldi_some hc
        obtain ⟨rfl, hc⟩ := am_st0_some hc
        exact wk 36 ρ [(0, .ref 193), (1, .int i1), (2, .int i2)] _ h (am_m1 m_a0 (am_m1 m_i1 (am_m1 m_i2 am_m0))) (A36 N i1 i2 h hc)) am_c0) 400 0 _ _ h hf)
theorem s_X10_nameHere {l : Launch} {al : Nat → Nat} {dC : Nat → ClassId} {dI : Nat → Nat → Nat} {aC : Nat → ClassId} {aV : Nat → Nat} (hy : am_Hy l al) (N : Nat) : am_CS l al dC dI aC aV 165 (c_X10_nameHere N) := by
  intro γ as h kk g hc0
  obtain ⟨z0, w0, e_0, hcz0⟩ := am_sa_some hc0
  obtain ⟨hz0, hc1⟩ := am_bif hcz0
  cases Nat.eq_of_beq_eq_true hz0
  obtain ⟨e_1, hc⟩ := am_st0_some hc1
  subst e_1
  subst e_0
  obtain ⟨q, e1, e2⟩ := am_bi_some hc
  exact ⟨_, _, m_X10_nameHere hy N  h _ e1, e2⟩

def l_X10_found_2 (N : Nat) : Nat → Int32 → Int32 → Int32 → am_Hp → Option (Int32 × am_Hp)
  | 0, _, _, _, _ => none
  | n + 1, i1, i2, i3, h =>
    (if i1 = 0 then
      bif am_in (0 : Int32) 20 then (if (h 195 0) ≤ i3 then
        some ((-1 : Int32), h)
      else
        (if i1 = 0 then
          bif am_in ((2 : Int32) + i3) 20 then (if (h 195 (((2 : Int32) + i3).toNatClampNeg)) = i2 then
            some (i3, h)
          else
            l_X10_found_2 N n i1 i2 (i3 + (1 : Int32)) h) else none
        else
          bif am_in ((6 : Int32) + i3) 20 then (if (h 195 (((6 : Int32) + i3).toNatClampNeg)) = i2 then
            some (i3, h)
          else
            l_X10_found_2 N n i1 i2 (i3 + (1 : Int32)) h) else none)) else none
    else
      bif am_in (1 : Int32) 20 then (if (h 195 1) ≤ i3 then
        some ((-1 : Int32), h)
      else
        (if i1 = 0 then
          bif am_in ((2 : Int32) + i3) 20 then (if (h 195 (((2 : Int32) + i3).toNatClampNeg)) = i2 then
            some (i3, h)
          else
            l_X10_found_2 N n i1 i2 (i3 + (1 : Int32)) h) else none
        else
          bif am_in ((6 : Int32) + i3) 20 then (if (h 195 (((6 : Int32) + i3).toNatClampNeg)) = i2 then
            some (i3, h)
          else
            l_X10_found_2 N n i1 i2 (i3 + (1 : Int32)) h) else none)) else none)
def f_X10_found (N : Nat) (i1 : Int32) (i2 : Int32) (h : am_Hp) : Option (Int32 × am_Hp) :=
  l_X10_found_2 N N i1 i2 (0 : Int32) h
def c_X10_found (N : Nat) : am_Cl := fun _ as h kk => am_sa as (fun z w0 => bif Nat.beq z 193 then am_s1 w0 (fun i1 w1 => am_s1 w1 (fun i2 w2 => am_st0 w2 (am_bi (f_X10_found N i1 i2 h) (fun v h => kk (am_oi v) h)))) else none)
def o_X10_found (N : Nat) : am_Orc := am_o0
set_option maxRecDepth 100000 in
theorem tok_X10_found : am_tok 166 tX10_found := by
  unfold am_tok
  decide +kernel
set_option maxHeartbeats 4000000 in
set_option maxRecDepth 100000 in
theorem m_X10_found {l : Launch} {al : Nat → Nat} {dC : Nat → ClassId} {dI : Nat → Nat → Nat} {aC : Nat → ClassId} {aV : Nat → Nat} (hy : am_Hy l al) (N : Nat) (i1 : Int32) (i2 : Int32) (h : am_Hp) (r : (Int32 × am_Hp)) (hf : f_X10_found N i1 i2 h = some r) : am_Met l al dC dI aC aV 166 [.ref 193, .int i1, .int i2] h (am_oi r.1) r.2 :=
  am_met (tab := tX10_found) (orc := o_X10_found N) (ret := am_ri) (g := r) (by decide) (by decide) hy.1 hy.2 tok_X10_found am_os0 am_ri_inv (Nat.le_of_ble_eq_true rfl) (fun At cl wk => by
    have A2 : ∀ n : Nat, ∀ i1 : Int32, ∀ i2 : Int32, ∀ i3 : Int32, ∀ h, l_X10_found_2 N n i1 i2 i3 h = some r → At 2 [(0, .ref 193), (1, .int i1), (2, .int i2), (3, .int i3)] [] h := by
      intro n
      induction n with
      | zero => intro i1 i2 i3 h hr; cases hr
      | succ n ih =>
        intro i1 i2 i3 h hr
        exact cl (am_C1 2 (fun ρ st h => am_lda ρ 0 (fun z => bif Nat.beq z 193 then am_ldi ρ 1 (fun i1 => am_ldi ρ 2 (fun i2 => am_ldi ρ 3 (fun i3 => am_st0 st (l_X10_found_2 N n i1 i2 i3 h)))) else none)) am_C0) (am_c1 (fun ρ st h hc => by
        obtain ⟨z, m_a0, hc⟩ := am_lda_some hc
        obtain ⟨hz, hc⟩ := am_bif hc
        cases Nat.eq_of_beq_eq_true hz
        obtain ⟨i1, m_i1, hc⟩ := am_ldi_some hc
        obtain ⟨i2, m_i2, hc⟩ := am_ldi_some hc
        obtain ⟨i3, m_i3, hc⟩ := am_ldi_some hc
        obtain ⟨rfl, hc⟩ := am_st0_some hc
        exact wk 2 ρ [(0, .ref 193), (1, .int i1), (2, .int i2), (3, .int i3)] _ h (am_m1 m_a0 (am_m1 m_i1 (am_m1 m_i2 (am_m1 m_i3 am_m0)))) (ih i1 i2 i3 h hc)) am_c0) 400 2 _ _ h hr
    exact cl (am_C1 2 (fun ρ st h => am_lda ρ 0 (fun z => bif Nat.beq z 193 then am_ldi ρ 1 (fun i1 => am_ldi ρ 2 (fun i2 => am_ldi ρ 3 (fun i3 => am_st0 st (l_X10_found_2 N N i1 i2 i3 h)))) else none)) am_C0) (am_c1 (fun ρ st h hc => by
        obtain ⟨z, m_a0, hc⟩ := am_lda_some hc
        obtain ⟨hz, hc⟩ := am_bif hc
        cases Nat.eq_of_beq_eq_true hz
        obtain ⟨i1, m_i1, hc⟩ := am_ldi_some hc
        obtain ⟨i2, m_i2, hc⟩ := am_ldi_some hc
        obtain ⟨i3, m_i3, hc⟩ := am_ldi_some hc
        obtain ⟨rfl, hc⟩ := am_st0_some hc
        exact wk 2 ρ [(0, .ref 193), (1, .int i1), (2, .int i2), (3, .int i3)] _ h (am_m1 m_a0 (am_m1 m_i1 (am_m1 m_i2 (am_m1 m_i3 am_m0)))) (A2 N i1 i2 i3 h hc)) am_c0) 400 0 _ _ h hf)
theorem s_X10_found {l : Launch} {al : Nat → Nat} {dC : Nat → ClassId} {dI : Nat → Nat → Nat} {aC : Nat → ClassId} {aV : Nat → Nat} (hy : am_Hy l al) (N : Nat) : am_CS l al dC dI aC aV 166 (c_X10_found N) := by
  intro γ as h kk g hc0
  obtain ⟨z0, w0, e_0, hcz0⟩ := am_sa_some hc0
  obtain ⟨hz0, hc1⟩ := am_bif hcz0
  cases Nat.eq_of_beq_eq_true hz0
  obtain ⟨i1, w1, e_1, hc2⟩ := am_s1_some hc1
  obtain ⟨i2, w2, e_2, hc3⟩ := am_s1_some hc2
  obtain ⟨e_3, hc⟩ := am_st0_some hc3
  subst e_3
  subst e_2
  subst e_1
  subst e_0
  obtain ⟨q, e1, e2⟩ := am_bi_some hc
  exact ⟨_, _, m_X10_found hy N i1 i2 h _ e1, e2⟩
