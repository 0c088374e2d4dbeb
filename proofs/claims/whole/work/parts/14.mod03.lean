def f_X10_types (N : Nat) (i1 : Int32) (h : am_Hp) : Option (Unit × am_Hp) :=
  (if i1.toInt = 28 then
    am_bi (f_X10_goesDown N h) (fun _ h9 =>
    some ((), h9))
  else if i1.toInt = 29 then
    let h8 := am_pi h 193 12 (0 : Int32)
    some ((), h8)
  else if i1.toInt = 30 then
    let h7 := am_pi h 193 12 (if (0 : Int32) < ((h 193 12) - (1 : Int32)) then (h 193 12) - (1 : Int32) else (0 : Int32))
    some ((), h7)
  else if i1.toInt = 31 then
    am_bi (f_X10_empties N h) (fun _ h4 =>
    let h5 := am_pi h4 193 12 (0 : Int32)
    let h6 := am_pi h5 193 11 (0 : Int32)
    some ((), h6))
  else bif am_in (((16 : Int32) * (h 193 11)) + (h 193 12)) 96 then (let h1 := am_pi h 200 ((((16 : Int32) * (h 193 11)) + (h 193 12)).toNatClampNeg) i1
    let h2 := am_pi h1 193 12 ((h1 193 12) + (1 : Int32))
    (if (h2 193 12) = (h2 193 9) then
      am_bi (f_X10_goesDown N h2) (fun _ h3 =>
      some ((), h3))
    else
      some ((), h2))) else none)
def c_X10_types (N : Nat) : am_Cl := fun _ as h kk => am_sa as (fun z w0 => bif Nat.beq z 193 then am_s1 w0 (fun i1 w1 => am_st0 w1 (am_bi (f_X10_types N i1 h) (fun v h => kk (am_ov v) h))) else none)
def o_X10_types (N : Nat) : am_Orc := (am_oc 140 (c_X10_goesDown N) (am_oc 137 (c_X10_empties N) am_o0))
set_option maxRecDepth 100000 in
theorem tok_X10_types : am_tok 141 tX10_types := by
  unfold am_tok
  decide +kernel
set_option maxHeartbeats 4000000 in
set_option maxRecDepth 100000 in
theorem m_X10_types {l : Launch} {al : Nat → Nat} {dC : Nat → ClassId} {dI : Nat → Nat → Nat} {aC : Nat → ClassId} {aV : Nat → Nat} (hy : am_Hy l al) (N : Nat) (i1 : Int32) (h : am_Hp) (r : (Unit × am_Hp)) (hf : f_X10_types N i1 h = some r) : am_Met l al dC dI aC aV 141 [.ref 193, .int i1] h (am_ov r.1) r.2 :=
  am_met (tab := tX10_types) (orc := o_X10_types N) (ret := am_rv) (g := r) (by decide) (by decide) hy.1 hy.2 tok_X10_types (am_os1 (s_X10_goesDown hy N) (am_os1 (s_X10_empties hy N) am_os0)) am_rv_inv (Nat.le_of_ble_eq_true rfl) (fun At cl wk => by
    skip
    exact cl am_C0 am_c0 400 0 _ _ h hf)
theorem s_X10_types {l : Launch} {al : Nat → Nat} {dC : Nat → ClassId} {dI : Nat → Nat → Nat} {aC : Nat → ClassId} {aV : Nat → Nat} (hy : am_Hy l al) (N : Nat) : am_CS l al dC dI aC aV 141 (c_X10_types N) := by
  intro γ as h kk g hc0
  obtain ⟨z0, w0, e_0, hcz0⟩ := am_sa_some hc0
  obtain ⟨hz0, hc1⟩ := am_bif hcz0
  cases Nat.eq_of_beq_eq_true hz0
  obtain ⟨i1, w1, e_1, hc2⟩ := am_s1_some hc1
  obtain ⟨e_2, hc⟩ := am_st0_some hc2
  subst e_2
  subst e_1
  subst e_0
  obtain ⟨q, e1, e2⟩ := am_bi_some hc
  exact ⟨_, _, m_X10_types hy N i1 h _ e1, e2⟩

def l_X10_sizes_102 (N : Nat) : Nat → Int32 → am_Hp → Option (Unit × am_Hp)
  | 0, _, _ => none
  | n + 1, i3, h =>
    (if (96 : Int32) ≤ i3 then
      some ((), h)
    else
      bif am_in i3 96 then (let h1 := am_pi h 200 i3.toNatClampNeg (27 : Int32)
      l_X10_sizes_102 N n (i3 + (1 : Int32)) h1) else none)
def l_X10_sizes_64 (N : Nat) : Nat → Int32 → am_Hp → Option (Unit × am_Hp)
  | 0, _, _ => none
  | n + 1, i2, h =>
    (if (h 193 11) < i2 then
      let h1 := am_pi h 193 10 i2
      l_X10_sizes_102 N N ((16 : Int32) * (h1 193 10)) h1
    else
      am_bi (f_X10_goesUp N h) (fun _ h2 =>
      let h3 := am_pi h2 193 11 ((h2 193 11) - (1 : Int32))
      l_X10_sizes_64 N n i2 h3))
def l_X10_sizes_7 (N : Nat) : Nat → Int32 → Int32 → am_Hp → Option (Unit × am_Hp)
  | 0, _, _, _ => none
  | n + 1, i2, i3, h =>
    (if (96 : Int32) ≤ i3 then
      let h1 := am_pi h 193 12 (if ((h 193 9) - (1 : Int32)) < (h 193 12) then (h 193 9) - (1 : Int32) else h 193 12)
      l_X10_sizes_64 N N i2 h1
    else
      if (16 : Int32) = 0 then none else (if (h 193 9) ≤ (i3 - i3 / (16 : Int32) * (16 : Int32)) then
        bif am_in i3 96 then (let h2 := am_pi h 200 i3.toNatClampNeg (27 : Int32)
        l_X10_sizes_7 N n i2 (i3 + (1 : Int32)) h2) else none
      else
        bif am_in i3 96 then bif am_in i3 96 then (let h3 := am_pi h 200 i3.toNatClampNeg (h 200 i3.toNatClampNeg)
        l_X10_sizes_7 N n i2 (i3 + (1 : Int32)) h3) else none else none))
def f_X10_sizes (N : Nat) (i1 : Int32) (i2 : Int32) (h : am_Hp) : Option (Unit × am_Hp) :=
  let h1 := am_pi h 193 9 i1
  l_X10_sizes_7 N N i2 (0 : Int32) h1
def c_X10_sizes (N : Nat) : am_Cl := fun _ as h kk => am_sa as (fun z w0 => bif Nat.beq z 193 then am_s1 w0 (fun i1 w1 => am_s1 w1 (fun i2 w2 => am_st0 w2 (am_bi (f_X10_sizes N i1 i2 h) (fun v h => kk (am_ov v) h)))) else none)
def o_X10_sizes (N : Nat) : am_Orc := (am_oc 139 (c_X10_goesUp N) am_o0)
set_option maxRecDepth 100000 in
theorem tok_X10_sizes : am_tok 142 tX10_sizes := by
  unfold am_tok
  decide +kernel
set_option maxHeartbeats 4000000 in
set_option maxRecDepth 100000 in
theorem m_X10_sizes {l : Launch} {al : Nat → Nat} {dC : Nat → ClassId} {dI : Nat → Nat → Nat} {aC : Nat → ClassId} {aV : Nat → Nat} (hy : am_Hy l al) (N : Nat) (i1 : Int32) (i2 : Int32) (h : am_Hp) (r : (Unit × am_Hp)) (hf : f_X10_sizes N i1 i2 h = some r) : am_Met l al dC dI aC aV 142 [.ref 193, .int i1, .int i2] h (am_ov r.1) r.2 :=
  am_met (tab := tX10_sizes) (orc := o_X10_sizes N) (ret := am_rv) (g := r) (by decide) (by decide) hy.1 hy.2 tok_X10_sizes (am_os1 (s_X10_goesUp hy N) am_os0) am_rv_inv (Nat.le_of_ble_eq_true rfl) (fun At cl wk => by
    have A102 : ∀ n : Nat, ∀ i3 : Int32, ∀ h, l_X10_sizes_102 N n i3 h = some r → At 102 [(0, .ref 193), (3, .int i3)] [] h := by
      intro n
      induction n with
      | zero => intro i3 h hr; cases hr
      | succ n ih =>
        intro i3 h hr
        exact cl (am_C1 102 (fun ρ st h => am_lda ρ 0 (fun z => bif Nat.beq z 193 then am_ldi ρ 3 (fun i3 => am_st0 st (l_X10_sizes_102 N n i3 h)) else none)) am_C0) (am_c1 (fun ρ st h hc => by
        obtain ⟨z, m_a0, hc⟩ := am_lda_some hc
        obtain ⟨hz, hc⟩ := am_bif hc
        cases Nat.eq_of_beq_eq_true hz
        obtain ⟨i3, m_i3, hc⟩ := am_ldi_some hc
        obtain ⟨rfl, hc⟩ := am_st0_some hc
        exact wk 102 ρ [(0, .ref 193), (3, .int i3)] _ h (am_m1 m_a0 (am_m1 m_i3 am_m0)) (ih i3 h hc)) am_c0) 400 102 _ _ h hr
    have A64 : ∀ n : Nat, ∀ i2 : Int32, ∀ h, l_X10_sizes_64 N n i2 h = some r → At 64 [(0, .ref 193), (2, .int i2)] [] h := by
      intro n
      induction n with
      | zero => intro i2 h hr; cases hr
      | succ n ih =>
        intro i2 h hr
        exact cl (am_C1 64 (fun ρ st h => am_lda ρ 0 (fun z => bif Nat.beq z 193 then am_ldi ρ 2 (fun i2 => am_st0 st (l_X10_sizes_64 N n i2 h)) else none)) (am_C1 102 (fun ρ st h => am_lda ρ 0 (fun z => bif Nat.beq z 193 then am_ldi ρ 3 (fun i3 => am_st0 st (l_X10_sizes_102 N N i3 h)) else none)) am_C0)) (am_c1 (fun ρ st h hc => by
        obtain ⟨z, m_a0, hc⟩ := am_lda_some hc
        obtain ⟨hz, hc⟩ := am_bif hc
        cases Nat.eq_of_beq_eq_true hz
        obtain ⟨i2, m_i2, hc⟩ := am_ldi_some hc
        obtain ⟨rfl, hc⟩ := am_st0_some hc
        exact wk 64 ρ [(0, .ref 193), (2, .int i2)] _ h (am_m1 m_a0 (am_m1 m_i2 am_m0)) (ih i2 h hc)) (am_c1 (fun ρ st h hc => by
        obtain ⟨z, m_a0, hc⟩ := am_lda_some hc
        obtain ⟨hz, hc⟩ := am_bif hc
        cases Nat.eq_of_beq_eq_true hz
        obtain ⟨i3, m_i3, hc⟩ := am_ldi_some hc
        obtain ⟨rfl, hc⟩ := am_st0_some hc
        exact wk 102 ρ [(0, .ref 193), (3, .int i3)] _ h (am_m1 m_a0 (am_m1 m_i3 am_m0)) (A102 N i3 h hc)) am_c0)) 400 64 _ _ h hr
    have A7 : ∀ n : Nat, ∀ i2 : Int32, ∀ i3 : Int32, ∀ h, l_X10_sizes_7 N n i2 i3 h = some r → At 7 [(0, .ref 193), (2, .int i2), (3, .int i3)] [] h := by
      intro n
      induction n with
      | zero => intro i2 i3 h hr; cases hr
      | succ n ih =>
        intro i2 i3 h hr
        exact cl (am_C1 7 (fun ρ st h => am_lda ρ 0 (fun z => bif Nat.beq z 193 then am_ldi ρ 2 (fun i2 => am_ldi ρ 3 (fun i3 => am_st0 st (l_X10_sizes_7 N n i2 i3 h))) else none)) (am_C1 64 (fun ρ st h => am_lda ρ 0 (fun z => bif Nat.beq z 193 then am_ldi ρ 2 (fun i2 => am_st0 st (l_X10_sizes_64 N N i2 h)) else none)) am_C0)) (am_c1 (fun ρ st h hc => by
        obtain ⟨z, m_a0, hc⟩ := am_lda_some hc
        obtain ⟨hz, hc⟩ := am_bif hc
        cases Nat.eq_of_beq_eq_true hz
        obtain ⟨i2, m_i2, hc⟩ := am_ldi_some hc
        obtain ⟨i3, m_i3, hc⟩ := am_ldi_some hc
        obtain ⟨rfl, hc⟩ := am_st0_some hc
        exact wk 7 ρ [(0, .ref 193), (2, .int i2), (3, .int i3)] _ h (am_m1 m_a0 (am_m1 m_i2 (am_m1 m_i3 am_m0))) (ih i2 i3 h hc)) (am_c1 (fun ρ st h hc => by
        obtain ⟨z, m_a0, hc⟩ := am_lda_some hc
        obtain ⟨hz, hc⟩ := am_bif hc
        cases Nat.eq_of_beq_eq_true hz
        obtain ⟨i2, m_i2, hc⟩ := am_ldi_some hc
        obtain ⟨rfl, hc⟩ := am_st0_some hc
        exact wk 64 ρ [(0, .ref 193), (2, .int i2)] _ h (am_m1 m_a0 (am_m1 m_i2 am_m0)) (A64 N i2 h hc)) am_c0)) 400 7 _ _ h hr
    exact cl (am_C1 7 (fun ρ st h => am_lda ρ 0 (fun z => bif Nat.beq z 193 then am_ldi ρ 2 (fun i2 => am_ldi ρ 3 (fun i3 => am_st0 st (l_X10_sizes_7 N N i2 i3 h))) else none)) am_C0) (am_c1 (fun ρ st h hc => by
        obtain ⟨z, m_a0, hc⟩ := am_lda_some hc
        obtain ⟨hz, hc⟩ := am_bif hc
        cases Nat.eq_of_beq_eq_true hz
        obtain ⟨i2, m_i2, hc⟩ := am_ldi_some hc
        obtain ⟨i3, m_i3, hc⟩ := am_ldi_some hc
        obtain ⟨rfl, hc⟩ := am_st0_some hc
        exact wk 7 ρ [(0, .ref 193), (2, .int i2), (3, .int i3)] _ h (am_m1 m_a0 (am_m1 m_i2 (am_m1 m_i3 am_m0))) (A7 N i2 i3 h hc)) am_c0) 400 0 _ _ h hf)
theorem s_X10_sizes {l : Launch} {al : Nat → Nat} {dC : Nat → ClassId} {dI : Nat → Nat → Nat} {aC : Nat → ClassId} {aV : Nat → Nat} (hy : am_Hy l al) (N : Nat) : am_CS l al dC dI aC aV 142 (c_X10_sizes N) := by
  intro γ as h kk g hc0
  obtain ⟨z0, w0, e_0, hcz0⟩ := am_sa_some hc0
  obtain ⟨hz0, hc1⟩ := am_bif hcz0
  cases Nat.eq_of_beq_eq_true hz0
  obtain ⟨i1, w1, e_1, hc2⟩ := am_s1_some hc1
  obtain ⟨i2, w2, e_2, hc3⟩ := am_s1_some hc2
  obtain ⟨e_3, hc⟩ := am_st0_some hc3
  subst e_3
  subst e_2
  subst e_1
  subst e_0
  obtain ⟨q, e1, e2⟩ := am_bi_some hc
  exact ⟨_, _, m_X10_sizes hy N i1 i2 h _ e1, e2⟩

def f_X10_comes (N : Nat) (i1 : Int32) (i2 : Int32) (h : am_Hp) : Option (Unit × am_Hp) :=
  am_bi (f_X10_ofE N i1 i2 (0 : Int32) h) (fun x2 h1 =>
  (if x2 = 0 then
    am_bi (f_X10_ofE N i1 i2 (1 : Int32) h1) (fun x9 h8 =>
    am_bi (f_X10_types N x9 h8) (fun _ h10 =>
    some ((), h10)))
  else
    am_bi (f_X10_ofE N i1 i2 (1 : Int32) h1) (fun x4 h3 =>
    am_bi (f_X10_ofE N i1 i2 (2 : Int32) h3) (fun x6 h5 =>
    am_bi (f_X10_sizes N x4 x6 h5) (fun _ h7 =>
    some ((), h7))))))
def c_X10_comes (N : Nat) : am_Cl := fun _ as h kk => am_sa as (fun z w0 => bif Nat.beq z 193 then am_s1 w0 (fun i1 w1 => am_s1 w1 (fun i2 w2 => am_st0 w2 (am_bi (f_X10_comes N i1 i2 h) (fun v h => kk (am_ov v) h)))) else none)
def o_X10_comes (N : Nat) : am_Orc := (am_oc 133 (c_X10_ofE N) (am_oc 141 (c_X10_types N) (am_oc 142 (c_X10_sizes N) am_o0)))
set_option maxRecDepth 100000 in
theorem tok_X10_comes : am_tok 143 tX10_comes := by
  unfold am_tok
  decide +kernel
set_option maxHeartbeats 4000000 in
set_option maxRecDepth 100000 in
theorem m_X10_comes {l : Launch} {al : Nat → Nat} {dC : Nat → ClassId} {dI : Nat → Nat → Nat} {aC : Nat → ClassId} {aV : Nat → Nat} (hy : am_Hy l al) (N : Nat) (i1 : Int32) (i2 : Int32) (h : am_Hp) (r : (Unit × am_Hp)) (hf : f_X10_comes N i1 i2 h = some r) : am_Met l al dC dI aC aV 143 [.ref 193, .int i1, .int i2] h (am_ov r.1) r.2 :=
  am_met (tab := tX10_comes) (orc := o_X10_comes N) (ret := am_rv) (g := r) (by decide) (by decide) hy.1 hy.2 tok_X10_comes (am_os1 (s_X10_ofE hy N) (am_os1 (s_X10_types hy N) (am_os1 (s_X10_sizes hy N) am_os0))) am_rv_inv (Nat.le_of_ble_eq_true rfl) (fun At cl wk => by
    skip
    exact cl am_C0 am_c0 400 0 _ _ h hf)
theorem s_X10_comes {l : Launch} {al : Nat → Nat} {dC : Nat → ClassId} {dI : Nat → Nat → Nat} {aC : Nat → ClassId} {aV : Nat → Nat} (hy : am_Hy l al) (N : Nat) : am_CS l al dC dI aC aV 143 (c_X10_comes N) := by
  intro γ as h kk g hc0
  obtain ⟨z0, w0, e_0, hcz0⟩ := am_sa_some hc0
  obtain ⟨hz0, hc1⟩ := am_bif hcz0
  cases Nat.eq_of_beq_eq_true hz0
  obtain ⟨i1, w1, e_1, hc2⟩ := am_s1_some hc1
  obtain ⟨i2, w2, e_2, hc3⟩ := am_s1_some hc2
  obtain ⟨e_3, hc⟩ := am_st0_some hc3
  subst e_3
  subst e_2
  subst e_1
  subst e_0
  obtain ⟨q, e1, e2⟩ := am_bi_some hc
  exact ⟨_, _, m_X10_comes hy N i1 i2 h _ e1, e2⟩

def l_X10_lays_7 (N : Nat) : Nat → Int32 → Int32 → Int32 → am_Hp → Option (Unit × am_Hp)
  | 0, _, _, _, _ => none
  | n + 1, i1, i2, i3, h =>
    (if i2 ≤ i3 then
      some ((), h)
    else
      am_bi (f_X10_comes N i1 i3 h) (fun _ h1 =>
      l_X10_lays_7 N n i1 i2 (i3 + (1 : Int32)) h1))
def f_X10_lays (N : Nat) (i1 : Int32) (i2 : Int32) (h : am_Hp) : Option (Unit × am_Hp) :=
  am_bi (f_X10_begins N i1 h) (fun _ h1 =>
  l_X10_lays_7 N N i1 i2 (0 : Int32) h1)
def c_X10_lays (N : Nat) : am_Cl := fun _ as h kk => am_sa as (fun z w0 => bif Nat.beq z 193 then am_s1 w0 (fun i1 w1 => am_s1 w1 (fun i2 w2 => am_st0 w2 (am_bi (f_X10_lays N i1 i2 h) (fun v h => kk (am_ov v) h)))) else none)
def o_X10_lays (N : Nat) : am_Orc := (am_oc 138 (c_X10_begins N) (am_oc 143 (c_X10_comes N) am_o0))
set_option maxRecDepth 100000 in
theorem tok_X10_lays : am_tok 144 tX10_lays := by
  unfold am_tok
  decide +kernel
set_option maxHeartbeats 4000000 in
set_option maxRecDepth 100000 in
theorem m_X10_lays {l : Launch} {al : Nat → Nat} {dC : Nat → ClassId} {dI : Nat → Nat → Nat} {aC : Nat → ClassId} {aV : Nat → Nat} (hy : am_Hy l al) (N : Nat) (i1 : Int32) (i2 : Int32) (h : am_Hp) (r : (Unit × am_Hp)) (hf : f_X10_lays N i1 i2 h = some r) : am_Met l al dC dI aC aV 144 [.ref 193, .int i1, .int i2] h (am_ov r.1) r.2 :=
  am_met (tab := tX10_lays) (orc := o_X10_lays N) (ret := am_rv) (g := r) (by decide) (by decide) hy.1 hy.2 tok_X10_lays (am_os1 (s_X10_begins hy N) (am_os1 (s_X10_comes hy N) am_os0)) am_rv_inv (Nat.le_of_ble_eq_true rfl) (fun At cl wk => by
    have A7 : ∀ n : Nat, ∀ i1 : Int32, ∀ i2 : Int32, ∀ i3 : Int32, ∀ h, l_X10_lays_7 N n i1 i2 i3 h = some r → At 7 [(0, .ref 193), (1, .int i1), (2, .int i2), (3, .int i3)] [] h := by
      intro n
      induction n with
      | zero => intro i1 i2 i3 h hr; cases hr
      | succ n ih =>
        intro i1 i2 i3 h hr
        exact cl (am_C1 7 (fun ρ st h => am_lda ρ 0 (fun z => bif Nat.beq z 193 then am_ldi ρ 1 (fun i1 => am_ldi ρ 2 (fun i2 => am_ldi ρ 3 (fun i3 => am_st0 st (l_X10_lays_7 N n i1 i2 i3 h)))) else none)) am_C0) (am_c1 (fun ρ st h hc => by
        obtain ⟨z, m_a0, hc⟩ := am_lda_some hc
        obtain ⟨hz, hc⟩ := am_bif hc
        cases Nat.eq_of_beq_eq_true hz
        obtain ⟨i1, m_i1, hc⟩ := am_ldi_some hc
        obtain ⟨i2, m_i2, hc⟩ := am_ldi_some hc
        obtain ⟨i3, m_i3, hc⟩ := am_ldi_some hc
        obtain ⟨rfl, hc⟩ := am_st0_some hc
        exact wk 7 ρ [(0, .ref 193), (1, .int i1), (2, .int i2), (3, .int i3)] _ h (am_m1 m_a0 (am_m1 m_i1 (am_m1 m_i2 (am_m1 m_i3 am_m0)))) (ih i1 i2 i3 h hc)) am_c0) 400 7 _ _ h hr
    exact cl (am_C1 7 (fun ρ st h => am_lda ρ 0 (fun z => bif Nat.beq z 193 then am_ldi ρ 1 (fun i1 => am_ldi ρ 2 (fun i2 => am_ldi ρ 3 (fun i3 => am_st0 st (l_X10_lays_7 N N i1 i2 i3 h)))) else none)) am_C0) (am_c1 (fun ρ st h hc => by
        obtain ⟨z, m_a0, hc⟩ := am_lda_some hc
        obtain ⟨hz, hc⟩ := am_bif hc
        cases Nat.eq_of_beq_eq_true hz
        obtain ⟨i1, m_i1, hc⟩ := am_ldi_some hc
        obtain ⟨i2, m_i2, hc⟩ := am_ldi_some hc
        obtain ⟨i3, m_i3, hc⟩ := am_ldi_some hc
        obtain ⟨rfl, hc⟩ := am_st0_some hc
        exact wk 7 ρ [(0, .ref 193), (1, .int i1), (2, .int i2), (3, .int i3)] _ h (am_m1 m_a0 (am_m1 m_i1 (am_m1 m_i2 (am_m1 m_i3 am_m0)))) (A7 N i1 i2 i3 h hc)) am_c0) 400 0 _ _ h hf)
theorem s_X10_lays {l : Launch} {al : Nat → Nat} {dC : Nat → ClassId} {dI : Nat → Nat → Nat} {aC : Nat → ClassId} {aV : Nat → Nat} (hy : am_Hy l al) (N : Nat) : am_CS l al dC dI aC aV 144 (c_X10_lays N) := by
  intro γ as h kk g hc0
  obtain ⟨z0, w0, e_0, hcz0⟩ := am_sa_some hc0
  obtain ⟨hz0, hc1⟩ := am_bif hcz0
  cases Nat.eq_of_beq_eq_true hz0
  obtain ⟨i1, w1, e_1, hc2⟩ := am_s1_some hc1
  obtain ⟨i2, w2, e_2, hc3⟩ := am_s1_some hc2
  obtain ⟨e_3, hc⟩ := am_st0_some hc3
  subst e_3
  subst e_2
  subst e_1
  subst e_0
  obtain ⟨q, e1, e2⟩ := am_bi_some hc
  exact ⟨_, _, m_X10_lays hy N i1 i2 h _ e1, e2⟩
