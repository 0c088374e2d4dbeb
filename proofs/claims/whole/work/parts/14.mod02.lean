def l_X10_goesUp_150 (N : Nat) : Nat → Int32 → am_Hp → Option (Unit × am_Hp)
  | 0, _, _ => none
  | n + 1, i1, h =>
    (if (96 : Int32) ≤ i1 then
      some ((), h)
    else
      (if (96 : Int32) ≤ (i1 + (16 : Int32)) then
        bif am_in i1 96 then (let h1 := am_pi h 200 i1.toNatClampNeg (27 : Int32)
        l_X10_goesUp_150 N n (i1 + (1 : Int32)) h1) else none
      else
        bif am_in (i1 + (16 : Int32)) 96 then bif am_in i1 96 then (let h2 := am_pi h 200 i1.toNatClampNeg (h 200 ((i1 + (16 : Int32)).toNatClampNeg))
        l_X10_goesUp_150 N n (i1 + (1 : Int32)) h2) else none else none))
def l_X10_goesUp_80 (N : Nat) : Nat → Int32 → am_Hp → Option (Unit × am_Hp)
  | 0, _, _ => none
  | n + 1, i1, h =>
    (if (16 : Int32) ≤ i1 then
      bif am_in (h 193 14) 40 then (let h1 := am_pi h 202 ((h 193 14).toNatClampNeg) (h 193 9)
      let h2 := am_pi h1 193 14 ((h1 193 14) + (1 : Int32))
      l_X10_goesUp_150 N N (0 : Int32) h2) else none
    else
      (if (h 193 9) ≤ i1 then
        bif am_in (((16 : Int32) * (h 193 14)) + i1) 640 then (let h3 := am_pi h 201 ((((16 : Int32) * (h 193 14)) + i1).toNatClampNeg) (27 : Int32)
        l_X10_goesUp_80 N n (i1 + (1 : Int32)) h3) else none
      else
        bif am_in i1 96 then bif am_in (((16 : Int32) * (h 193 14)) + i1) 640 then (let h4 := am_pi h 201 ((((16 : Int32) * (h 193 14)) + i1).toNatClampNeg) (h 200 i1.toNatClampNeg)
        l_X10_goesUp_80 N n (i1 + (1 : Int32)) h4) else none else none))
def l_X10_goesUp_42 (N : Nat) : Nat → Int32 → am_Hp → Option (Unit × am_Hp)
  | 0, _, _ => none
  | n + 1, i1, h =>
    (if (40 : Int32) ≤ i1 then
      let h1 := am_pi h 193 14 ((h 193 14) - (1 : Int32))
      l_X10_goesUp_80 N N (0 : Int32) h1
    else
      bif am_in i1 40 then bif am_in (i1 - (1 : Int32)) 40 then (let h2 := am_pi h 202 ((i1 - (1 : Int32)).toNatClampNeg) (h 202 i1.toNatClampNeg)
      l_X10_goesUp_42 N n (i1 + (1 : Int32)) h2) else none else none)
def l_X10_goesUp_12 (N : Nat) : Nat → Int32 → am_Hp → Option (Unit × am_Hp)
  | 0, _, _ => none
  | n + 1, i1, h =>
    (if (640 : Int32) ≤ i1 then
      l_X10_goesUp_42 N N (1 : Int32) h
    else
      bif am_in i1 640 then bif am_in (i1 - (16 : Int32)) 640 then (let h1 := am_pi h 201 ((i1 - (16 : Int32)).toNatClampNeg) (h 201 i1.toNatClampNeg)
      l_X10_goesUp_12 N n (i1 + (1 : Int32)) h1) else none else none)
def f_X10_goesUp (N : Nat)  (h : am_Hp) : Option (Unit × am_Hp) :=
  (if (h 193 14) = (40 : Int32) then
    l_X10_goesUp_12 N N (16 : Int32) h
  else
    l_X10_goesUp_80 N N (0 : Int32) h)
def c_X10_goesUp (N : Nat) : am_Cl := fun _ as h kk => am_sa as (fun z w0 => bif Nat.beq z 193 then am_st0 w0 (am_bi (f_X10_goesUp N  h) (fun v h => kk (am_ov v) h)) else none)
def o_X10_goesUp (N : Nat) : am_Orc := am_o0
set_option maxRecDepth 100000 in
theorem tok_X10_goesUp : am_tok 139 tX10_goesUp := by
  unfold am_tok
  decide +kernel
set_option maxHeartbeats 4000000 in
set_option maxRecDepth 100000 in
theorem m_X10_goesUp {l : Launch} {al : Nat → Nat} {dC : Nat → ClassId} {dI : Nat → Nat → Nat} {aC : Nat → ClassId} {aV : Nat → Nat} (hy : am_Hy l al) (N : Nat)  (h : am_Hp) (r : (Unit × am_Hp)) (hf : f_X10_goesUp N  h = some r) : am_Met l al dC dI aC aV 139 [.ref 193] h (am_ov r.1) r.2 :=
  am_met (tab := tX10_goesUp) (orc := o_X10_goesUp N) (ret := am_rv) (g := r) (by decide) (by decide) hy.1 hy.2 tok_X10_goesUp am_os0 am_rv_inv (Nat.le_of_ble_eq_true rfl) (fun At cl wk => by
    have A150 : ∀ n : Nat, ∀ i1 : Int32, ∀ h, l_X10_goesUp_150 N n i1 h = some r → At 150 [(0, .ref 193), (1, .int i1)] [] h := by
      intro n
      induction n with
      | zero => intro i1 h hr; cases hr
      | succ n ih =>
        intro i1 h hr
        exact cl (am_C1 150 (fun ρ st h => am_lda ρ 0 (fun z => bif Nat.beq z 193 then am_ldi ρ 1 (fun i1 => am_st0 st (l_X10_goesUp_150 N n i1 h)) else none)) am_C0) (am_c1 (fun ρ st h hc => by
        obtain ⟨z, m_a0, hc⟩ := am_lda_some hc
        obtain ⟨hz, hc⟩ := am_bif hc
        cases Nat.eq_of_beq_eq_true hz
        obtain ⟨i1, m_i1, hc⟩ := am_ldi_some hc
        obtain ⟨rfl, hc⟩ := am_st0_some hc
        exact wk 150 ρ [(0, .ref 193), (1, .int i1)] _ h (am_m1 m_a0 (am_m1 m_i1 am_m0)) (ih i1 h hc)) am_c0) 400 150 _ _ h hr
    have A80 : ∀ n : Nat, ∀ i1 : Int32, ∀ h, l_X10_goesUp_80 N n i1 h = some r → At 80 [(0, .ref 193), (1, .int i1)] [] h := by
      intro n
      induction n with
      | zero => intro i1 h hr; cases hr
      | succ n ih =>
        intro i1 h hr
        exact cl (am_C1 80 (fun ρ st h => am_lda ρ 0 (fun z => bif Nat.beq z 193 then am_ldi ρ 1 (fun i1 => am_st0 st (l_X10_goesUp_80 N n i1 h)) else none)) (am_C1 150 (fun ρ st h => am_lda ρ 0 (fun z => bif Nat.beq z 193 then am_ldi ρ 1 (fun i1 => am_st0 st (l_X10_goesUp_150 N N i1 h)) else none)) am_C0)) (am_c1 (fun ρ st h hc => by
        obtain ⟨z, m_a0, hc⟩ := am_lda_some hc
        obtain ⟨hz, hc⟩ := am_bif hc
        cases Nat.eq_of_beq_eq_true hz
        obtain ⟨i1, m_i1, hc⟩ := am_ldi_some hc
        obtain ⟨rfl, hc⟩ := am_st0_some hc
        exact wk 80 ρ [(0, .ref 193), (1, .int i1)] _ h (am_m1 m_a0 (am_m1 m_i1 am_m0)) (ih i1 h hc)) (am_c1 (fun ρ st h hc => by
        obtain ⟨z, m_a0, hc⟩ := am_lda_some hc
        obtain ⟨hz, hc⟩ := am_bif hc
        cases Nat.eq_of_beq_eq_true hz
        obtain ⟨i1, m_i1, hc⟩ := am_ldi_some hc
        obtain ⟨rfl, hc⟩ := am_st0_some hc
        exact wk 150 ρ [(0, .ref 193), (1, .int i1)] _ h (am_m1 m_a0 (am_m1 m_i1 am_m0)) (A150 N i1 h hc)) am_c0)) 400 80 _ _ h hr
    have A42 : ∀ n : Nat, ∀ i1 : Int32, ∀ h, l_X10_goesUp_42 N n i1 h = some r → At 42 [(0, .ref 193), (1, .int i1)] [] h := by
      intro n
      induction n with
      | zero => intro i1 h hr; cases hr
      | succ n ih =>
        intro i1 h hr
        exact cl (am_C1 42 (fun ρ st h => am_lda ρ 0 (fun z => bif Nat.beq z 193 then am_ldi ρ 1 (fun i1 => am_st0 st (l_X10_goesUp_42 N n i1 h)) else none)) (am_C1 80 (fun ρ st h => am_lda ρ 0 (fun z => bif Nat.beq z 193 then am_ldi ρ 1 (fun i1 => am_st0 st (l_X10_goesUp_80 N N i1 h)) else none)) am_C0)) (am_c1 (fun ρ st h hc => by
        obtain ⟨z, m_a0, hc⟩ := am_lda_some hc
        obtain ⟨hz, hc⟩ := am_bif hc
        cases Nat.eq_of_beq_eq_true hz
        obtain ⟨i1, m_i1, hc⟩ := am_ldi_some hc
        obtain ⟨rfl, hc⟩ := am_st0_some hc
        exact wk 42 ρ [(0, .ref 193), (1, .int i1)] _ h (am_m1 m_a0 (am_m1 m_i1 am_m0)) (ih i1 h hc)) (am_c1 (fun ρ st h hc => by
        obtain ⟨z, m_a0, hc⟩ := am_lda_some hc
        obtain ⟨hz, hc⟩ := am_bif hc
        cases Nat.eq_of_beq_eq_true hz
        obtain ⟨i1, m_i1, hc⟩ := am_ldi_some hc
        obtain ⟨rfl, hc⟩ := am_st0_some hc
        exact wk 80 ρ [(0, .ref 193), (1, .int i1)] _ h (am_m1 m_a0 (am_m1 m_i1 am_m0)) (A80 N i1 h hc)) am_c0)) 400 42 _ _ h hr
    have A12 : ∀ n : Nat, ∀ i1 : Int32, ∀ h, l_X10_goesUp_12 N n i1 h = some r → At 12 [(0, .ref 193), (1, .int i1)] [] h := by
      intro n
      induction n with
      | zero => intro i1 h hr; cases hr
      | succ n ih =>
        intro i1 h hr
        exact cl (am_C1 12 (fun ρ st h => am_lda ρ 0 (fun z => bif Nat.beq z 193 then am_ldi ρ 1 (fun i1 => am_st0 st (l_X10_goesUp_12 N n i1 h)) else none)) (am_C1 42 (fun ρ st h => am_lda ρ 0 (fun z => bif Nat.beq z 193 then am_ldi ρ 1 (fun i1 => am_st0 st (l_X10_goesUp_42 N N i1 h)) else none)) am_C0)) (am_c1 (fun ρ st h hc => by
        obtain ⟨z, m_a0, hc⟩ := am_lda_some hc
        obtain ⟨hz, hc⟩ := am_bif hc
        cases Nat.eq_of_beq_eq_true hz
        obtain ⟨i1, m_i1, hc⟩ := am_ldi_some hc
        obtain ⟨rfl, hc⟩ := am_st0_some hc
        exact wk 12 ρ [(0, .ref 193), (1, .int i1)] _ h (am_m1 m_a0 (am_m1 m_i1 am_m0)) (ih i1 h hc)) (am_c1 (fun ρ st h hc => by
        obtain ⟨z, m_a0, hc⟩ := am_lda_some hc
        obtain ⟨hz, hc⟩ := am_bif hc
        cases Nat.eq_of_beq_eq_true hz
        obtain ⟨i1, m_i1, hc⟩ := am_ldi_some hc
        obtain ⟨rfl, hc⟩ := am_st0_some hc
        exact wk 42 ρ [(0, .ref 193), (1, .int i1)] _ h (am_m1 m_a0 (am_m1 m_i1 am_m0)) (A42 N i1 h hc)) am_c0)) 400 12 _ _ h hr
    exact cl (am_C1 12 (fun ρ st h => am_lda ρ 0 (fun z => bif Nat.beq z 193 then am_ldi ρ 1 (fun i1 => am_st0 st (l_X10_goesUp_12 N N i1 h)) else none)) (am_C1 80 (fun ρ st h => am_lda ρ 0 (fun z => bif Nat.beq z 193 then am_ldi ρ 1 (fun i1 => am_st0 st (l_X10_goesUp_80 N N i1 h)) else none)) am_C0)) (am_c1 (fun ρ st h hc => by
        obtain ⟨z, m_a0, hc⟩ := am_lda_some hc
        obtain ⟨hz, hc⟩ := am_bif hc
        cases Nat.eq_of_beq_eq_true hz
        obtain ⟨i1, m_i1, hc⟩ := am_ldi_some hc
        obtain ⟨rfl, hc⟩ := am_st0_some hc
        exact wk 12 ρ [(0, .ref 193), (1, .int i1)] _ h (am_m1 m_a0 (am_m1 m_i1 am_m0)) (A12 N i1 h hc)) (am_c1 (fun ρ st h hc => by
        obtain ⟨z, m_a0, hc⟩ := am_lda_some hc
        obtain ⟨hz, hc⟩ := am_bif hc
        cases Nat.eq_of_beq_eq_true hz
        obtain ⟨i1, m_i1, hc⟩ := am_ldi_some hc
        obtain ⟨rfl, hc⟩ := am_st0_some hc
        exact wk 80 ρ [(0, .ref 193), (1, .int i1)] _ h (am_m1 m_a0 (am_m1 m_i1 am_m0)) (A80 N i1 h hc)) am_c0)) 400 0 _ _ h hf)
theorem s_X10_goesUp {l : Launch} {al : Nat → Nat} {dC : Nat → ClassId} {dI : Nat → Nat → Nat} {aC : Nat → ClassId} {aV : Nat → Nat} (hy : am_Hy l al) (N : Nat) : am_CS l al dC dI aC aV 139 (c_X10_goesUp N) := by
  intro γ as h kk g hc0
  obtain ⟨z0, w0, e_0, hcz0⟩ := am_sa_some hc0
  obtain ⟨hz0, hc1⟩ := am_bif hcz0
  cases Nat.eq_of_beq_eq_true hz0
  obtain ⟨e_1, hc⟩ := am_st0_some hc1
  subst e_1
  subst e_0
  obtain ⟨q, e1, e2⟩ := am_bi_some hc
  exact ⟨_, _, m_X10_goesUp hy N  h _ e1, e2⟩

def f_X10_goesDown (N : Nat)  (h : am_Hp) : Option (Unit × am_Hp) :=
  let h1 := am_pi h 193 12 (0 : Int32)
  (if (h1 193 10) ≤ ((h1 193 11) + (1 : Int32)) then
    am_bi (f_X10_goesUp N h1) (fun _ h2 =>
    some ((), h2))
  else
    let h3 := am_pi h1 193 11 ((h1 193 11) + (1 : Int32))
    some ((), h3))
def c_X10_goesDown (N : Nat) : am_Cl := fun _ as h kk => am_sa as (fun z w0 => bif Nat.beq z 193 then am_st0 w0 (am_bi (f_X10_goesDown N  h) (fun v h => kk (am_ov v) h)) else none)
def o_X10_goesDown (N : Nat) : am_Orc := (am_oc 139 (c_X10_goesUp N) am_o0)
set_option maxRecDepth 100000 in
theorem tok_X10_goesDown : am_tok 140 tX10_goesDown := by
  unfold am_tok
  decide +kernel
set_option maxHeartbeats 4000000 in
set_option maxRecDepth 100000 in
theorem m_X10_goesDown {l : Launch} {al : Nat → Nat} {dC : Nat → ClassId} {dI : Nat → Nat → Nat} {aC : Nat → ClassId} {aV : Nat → Nat} (hy : am_Hy l al) (N : Nat)  (h : am_Hp) (r : (Unit × am_Hp)) (hf : f_X10_goesDown N  h = some r) : am_Met l al dC dI aC aV 140 [.ref 193] h (am_ov r.1) r.2 :=
  am_met (tab := tX10_goesDown) (orc := o_X10_goesDown N) (ret := am_rv) (g := r) (by decide) (by decide) hy.1 hy.2 tok_X10_goesDown (am_os1 (s_X10_goesUp hy N) am_os0) am_rv_inv (Nat.le_of_ble_eq_true rfl) (fun At cl wk => by
    skip
    exact cl am_C0 am_c0 400 0 _ _ h hf)
theorem s_X10_goesDown {l : Launch} {al : Nat → Nat} {dC : Nat → ClassId} {dI : Nat → Nat → Nat} {aC : Nat → ClassId} {aV : Nat → Nat} (hy : am_Hy l al) (N : Nat) : am_CS l al dC dI aC aV 140 (c_X10_goesDown N) := by
  intro γ as h kk g hc0
  obtain ⟨z0, w0, e_0, hcz0⟩ := am_sa_some hc0
  obtain ⟨hz0, hc1⟩ := am_bif hcz0
  cases Nat.eq_of_beq_eq_true hz0
  obtain ⟨e_1, hc⟩ := am_st0_some hc1
  subst e_1
  subst e_0
  obtain ⟨q, e1, e2⟩ := am_bi_some hc
  exact ⟨_, _, m_X10_goesDown hy N  h _ e1, e2⟩
