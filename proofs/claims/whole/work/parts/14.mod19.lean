def l_X10_typedBy_31 (N : Nat) (K18 : Int32 → Int32 → Int32 → am_Hp → Option (Int32 × am_Hp)) : Nat → Int32 → Int32 → Int32 → Int32 → am_Hp → Option (Int32 × am_Hp)
  | 0, _, _, _, _, _ => none
  | n + 1, i1, i2, i3, i4, h =>
    am_bi (f_X10_events N i3 h) (fun x2 h1 =>
    (if x2 ≤ i4 then
      K18 i1 i2 (i3 + (1 : Int32)) h1
    else
      am_bi (f_X10_ofE N i3 i4 (0 : Int32) h1) (fun x4 h3 =>
      (if x4 = 0 then
        am_bi (f_X10_ofE N i3 i4 (4 : Int32) h3) (fun x6 h5 =>
        (if x6 = i1 then
          l_X10_typedBy_31 N K18 n i1 (i2 + (1 : Int32)) i3 (i4 + (1 : Int32)) h5
        else
          l_X10_typedBy_31 N K18 n i1 (i2 + (0 : Int32)) i3 (i4 + (1 : Int32)) h5))
      else
        l_X10_typedBy_31 N K18 n i1 (i2 + (0 : Int32)) i3 (i4 + (1 : Int32)) h3))))
def l_X10_typedBy_18 (N : Nat) : Nat → Int32 → Int32 → Int32 → am_Hp → Option (Int32 × am_Hp)
  | 0, _, _, _, _ => none
  | n + 1, i1, i2, i3, h =>
    bif am_in (0 : Int32) 20 then (if (h 195 0) ≤ i3 then
      some (i2, h)
    else
      l_X10_typedBy_31 N (l_X10_typedBy_18 N n) N i1 i2 i3 (0 : Int32) h) else none
def f_X10_typedBy (N : Nat) (i1 : Int32) (h : am_Hp) : Option (Int32 × am_Hp) :=
  am_bi (f_X10_isUser N i1 h) (fun x2 h1 =>
  am_bi (f_X10_checks N x2 h1) (fun x4 h3 =>
  (if x4 = 0 then
    some ((0 : Int32), h3)
  else
    l_X10_typedBy_18 N N i1 (0 : Int32) (0 : Int32) h3)))
def c_X10_typedBy (N : Nat) : am_Cl := fun _ as h kk => am_sa as (fun z w0 => bif Nat.beq z 193 then am_s1 w0 (fun i1 w1 => am_st0 w1 (am_bi (f_X10_typedBy N i1 h) (fun v h => kk (am_oi v) h))) else none)
def o_X10_typedBy (N : Nat) : am_Orc := (am_oc 175 (c_X10_isUser N) (am_oc 178 (c_X10_checks N) (am_oc 134 (c_X10_events N) (am_oc 133 (c_X10_ofE N) am_o0))))
set_option maxRecDepth 100000 in
theorem tok_X10_typedBy : am_tok 207 tX10_typedBy := by
  unfold am_tok
  decide +kernel
set_option maxHeartbeats 4000000 in
set_option maxRecDepth 100000 in
theorem m_X10_typedBy {l : Launch} {al : Nat → Nat} {dC : Nat → ClassId} {dI : Nat → Nat → Nat} {aC : Nat → ClassId} {aV : Nat → Nat} (hy : am_Hy l al) (N : Nat) (i1 : Int32) (h : am_Hp) (r : (Int32 × am_Hp)) (hf : f_X10_typedBy N i1 h = some r) : am_Met l al dC dI aC aV 207 [.ref 193, .int i1] h (am_oi r.1) r.2 :=
  am_met (tab := tX10_typedBy) (orc := o_X10_typedBy N) (ret := am_ri) (g := r) (by decide) (by decide) hy.1 hy.2 tok_X10_typedBy (am_os1 (s_X10_isUser hy N) (am_os1 (s_X10_checks hy N) (am_os1 (s_X10_events hy N) (am_os1 (s_X10_ofE hy N) am_os0)))) am_ri_inv (Nat.le_of_ble_eq_true rfl) (fun At cl wk => by
    have A31 : ∀ (K18 : Int32 → Int32 → Int32 → am_Hp → Option (Int32 × am_Hp)), (∀ i1 : Int32, ∀ i2 : Int32, ∀ i3 : Int32, ∀ h, K18 i1 i2 i3 h = some r → At 18 [(0, .ref 193), (1, .int i1), (2, .int i2), (3, .int i3)] [] h) → ∀ n : Nat, ∀ i1 : Int32, ∀ i2 : Int32, ∀ i3 : Int32, ∀ i4 : Int32, ∀ h, l_X10_typedBy_31 N K18 n i1 i2 i3 i4 h = some r → At 31 [(0, .ref 193), (1, .int i1), (2, .int i2), (3, .int i3), (4, .int i4)] [] h := by
      intro K18 hK18 n
      induction n with
      | zero => intro i1 i2 i3 i4 h hr; cases hr
      | succ n ih =>
        intro i1 i2 i3 i4 h hr
        exact cl (am_C1 18 (fun ρ st h => am_lda ρ 0 (fun z => bif Nat.beq z 193 then am_ldi ρ 1 (fun i1 => am_ldi ρ 2 (fun i2 => am_ldi ρ 3 (fun i3 => am_st0 st (K18 i1 i2 i3 h)))) else none)) (am_C1 31 (fun ρ st h => am_lda ρ 0 (fun z => bif Nat.beq z 193 then am_ldi ρ 1 (fun i1 => am_ldi ρ 2 (fun i2 => am_ldi ρ 3 (fun i3 => am_ldi ρ 4 (fun i4 => am_st0 st (l_X10_typedBy_31 N K18 n i1 i2 i3 i4 h))))) else none)) am_C0)) (am_c1 (fun ρ st h hc => by
        obtain ⟨z, m_a0, hc⟩ := am_lda_some hc
        obtain ⟨hz, hc⟩ := am_bif hc
        cases Nat.eq_of_beq_eq_true hz
        obtain ⟨i1, m_i1, hc⟩ := am_ldi_some hc
        obtain ⟨i2, m_i2, hc⟩ := am_ldi_some hc
        obtain ⟨i3, m_i3, hc⟩ := am_ldi_some hc
        obtain ⟨rfl, hc⟩ := am_st0_some hc
        exact wk 18 ρ [(0, .ref 193), (1, .int i1), (2, .int i2), (3, .int i3)] _ h (am_m1 m_a0 (am_m1 m_i1 (am_m1 m_i2 (am_m1 m_i3 am_m0)))) (hK18 i1 i2 i3 h hc)) (am_c1 (fun ρ st h hc => by
        obtain ⟨z, m_a0, hc⟩ := am_lda_some hc
        obtain ⟨hz, hc⟩ := am_bif hc
        cases Nat.eq_of_beq_eq_true hz
        obtain ⟨i1, m_i1, hc⟩ := am_ldi_some hc
        obtain ⟨i2, m_i2, hc⟩ := am_ldi_some hc
        obtain ⟨i3, m_i3, hc⟩ := am_ldi_some hc
        obtain ⟨i4, m_i4, hc⟩ := am_ldi_some hc
        obtain ⟨rfl, hc⟩ := am_st0_some hc
        exact wk 31 ρ [(0, .ref 193), (1, .int i1), (2, .int i2), (3, .int i3), (4, .int i4)] _ h (am_m1 m_a0 (am_m1 m_i1 (am_m1 m_i2 (am_m1 m_i3 (am_m1 m_i4 am_m0))))) (ih i1 i2 i3 i4 h hc)) am_c0)) 400 31 _ _ h hr
    have A18 : ∀ n : Nat, ∀ i1 : Int32, ∀ i2 : Int32, ∀ i3 : Int32, ∀ h, l_X10_typedBy_18 N n i1 i2 i3 h = some r → At 18 [(0, .ref 193), (1, .int i1), (2, .int i2), (3, .int i3)] [] h := by
      intro n
      induction n with
      | zero => intro i1 i2 i3 h hr; cases hr
      | succ n ih =>
        intro i1 i2 i3 h hr
        exact cl (am_C1 31 (fun ρ st h => am_lda ρ 0 (fun z => bif Nat.beq z 193 then am_ldi ρ 1 (fun i1 => am_ldi ρ 2 (fun i2 => am_ldi ρ 3 (fun i3 => am_ldi ρ 4 (fun i4 => am_st0 st (l_X10_typedBy_31 N (l_X10_typedBy_18 N n) N i1 i2 i3 i4 h))))) else none)) am_C0) (am_c1 (fun ρ st h hc => by
        obtain ⟨z, m_a0, hc⟩ := am_lda_some hc
        obtain ⟨hz, hc⟩ := am_bif hc
        cases Nat.eq_of_beq_eq_true hz
        obtain ⟨i1, m_i1, hc⟩ := am_ldi_some hc
        obtain ⟨i2, m_i2, hc⟩ := am_ldi_some hc
        obtain ⟨i3, m_i3, hc⟩ := am_ldi_some hc
        obtain ⟨i4, m_i4, hc⟩ := am_ldi_some hc
        obtain ⟨rfl, hc⟩ := am_st0_some hc
        exact wk 31 ρ [(0, .ref 193), (1, .int i1), (2, .int i2), (3, .int i3), (4, .int i4)] _ h (am_m1 m_a0 (am_m1 m_i1 (am_m1 m_i2 (am_m1 m_i3 (am_m1 m_i4 am_m0))))) (A31 (l_X10_typedBy_18 N n) ih N i1 i2 i3 i4 h hc)) am_c0) 400 18 _ _ h hr
    exact cl (am_C1 18 (fun ρ st h => am_lda ρ 0 (fun z => bif Nat.beq z 193 then am_ldi ρ 1 (fun i1 => am_ldi ρ 2 (fun i2 => am_ldi ρ 3 (fun i3 => am_st0 st (l_X10_typedBy_18 N N i1 i2 i3 h)))) else none)) am_C0) (am_c1 (fun ρ st h hc => by
        obtain ⟨z, m_a0, hc⟩ := am_lda_some hc
        obtain ⟨hz, hc⟩ := am_bif hc
        cases Nat.eq_of_beq_eq_true hz
        obtain ⟨i1, m_i1, hc⟩ := am_ldi_some hc
        obtain ⟨i2, m_i2, hc⟩ := am_ldi_some hc
        obtain ⟨i3, m_i3, hc⟩ := am_ldi_some hc
        obtain ⟨rfl, hc⟩ := am_st0_some hc
        exact wk 18 ρ [(0, .ref 193), (1, .int i1), (2, .int i2), (3, .int i3)] _ h (am_m1 m_a0 (am_m1 m_i1 (am_m1 m_i2 (am_m1 m_i3 am_m0)))) (A18 N i1 i2 i3 h hc)) am_c0) 400 0 _ _ h hf)
theorem s_X10_typedBy {l : Launch} {al : Nat → Nat} {dC : Nat → ClassId} {dI : Nat → Nat → Nat} {aC : Nat → ClassId} {aV : Nat → Nat} (hy : am_Hy l al) (N : Nat) : am_CS l al dC dI aC aV 207 (c_X10_typedBy N) := by
  intro γ as h kk g hc0
  obtain ⟨z0, w0, e_0, hcz0⟩ := am_sa_some hc0
  obtain ⟨hz0, hc1⟩ := am_bif hcz0
  cases Nat.eq_of_beq_eq_true hz0
  obtain ⟨i1, w1, e_1, hc2⟩ := am_s1_some hc1
  obtain ⟨e_2, hc⟩ := am_st0_some hc2
  subst e_2
  subst e_1
  subst e_0
  obtain ⟨q, e1, e2⟩ := am_bi_some hc
  exact ⟨_, _, m_X10_typedBy hy N i1 h _ e1, e2⟩

def f_X10_account (N : Nat) (i1 : Int32) (h : am_Hp) : Option (Int32 × am_Hp) :=
  let h1 := am_pi h 193 0 (0 : Int32)
  (if i1 < 0 then
    some ((-2 : Int32), h1)
  else
    (if i1 ≤ (3 : Int32) then
      bif am_in ((3 : Int32) + i1) 6071 then some (h1 197 (((3 : Int32) + i1).toNatClampNeg), h1) else none
    else
      some ((-2 : Int32), h1)))
def c_X10_account (N : Nat) : am_Cl := fun _ as h kk => am_sa as (fun z w0 => bif Nat.beq z 193 then am_s1 w0 (fun i1 w1 => am_st0 w1 (am_bi (f_X10_account N i1 h) (fun v h => kk (am_oi v) h))) else none)
def o_X10_account (N : Nat) : am_Orc := am_o0
set_option maxRecDepth 100000 in
theorem tok_X10_account : am_tok 208 tX10_account := by
  unfold am_tok
  decide +kernel
set_option maxHeartbeats 4000000 in
set_option maxRecDepth 100000 in
theorem m_X10_account {l : Launch} {al : Nat → Nat} {dC : Nat → ClassId} {dI : Nat → Nat → Nat} {aC : Nat → ClassId} {aV : Nat → Nat} (hy : am_Hy l al) (N : Nat) (i1 : Int32) (h : am_Hp) (r : (Int32 × am_Hp)) (hf : f_X10_account N i1 h = some r) : am_Met l al dC dI aC aV 208 [.ref 193, .int i1] h (am_oi r.1) r.2 :=
  am_met (tab := tX10_account) (orc := o_X10_account N) (ret := am_ri) (g := r) (by decide) (by decide) hy.1 hy.2 tok_X10_account am_os0 am_ri_inv (Nat.le_of_ble_eq_true rfl) (fun At cl wk => by
    skip
    exact cl am_C0 am_c0 400 0 _ _ h hf)
theorem s_X10_account {l : Launch} {al : Nat → Nat} {dC : Nat → ClassId} {dI : Nat → Nat → Nat} {aC : Nat → ClassId} {aV : Nat → Nat} (hy : am_Hy l al) (N : Nat) : am_CS l al dC dI aC aV 208 (c_X10_account N) := by
  intro γ as h kk g hc0
  obtain ⟨z0, w0, e_0, hcz0⟩ := am_sa_some hc0
  obtain ⟨hz0, hc1⟩ := am_bif hcz0
  cases Nat.eq_of_beq_eq_true hz0
  obtain ⟨i1, w1, e_1, hc2⟩ := am_s1_some hc1
  obtain ⟨e_2, hc⟩ := am_st0_some hc2
  subst e_2
  subst e_1
  subst e_0
  obtain ⟨q, e1, e2⟩ := am_bi_some hc
  exact ⟨_, _, m_X10_account hy N i1 h _ e1, e2⟩

def l_X10_keeps_53 (N : Nat) : Nat → Int32 → am_Hp → Option (Unit × am_Hp)
  | 0, _, _ => none
  | n + 1, i1, h =>
    (if (6071 : Int32) ≤ i1 then
      let h1 := am_pi h 193 8 ((h 193 8) + (1 : Int32))
      some ((), h1)
    else
      bif am_in i1 6071 then bif am_in (((6071 : Int32) * (h 193 8)) + i1) 48568 then (let h2 := am_pi h 199 ((((6071 : Int32) * (h 193 8)) + i1).toNatClampNeg) (h 197 i1.toNatClampNeg)
      l_X10_keeps_53 N n (i1 + (1 : Int32)) h2) else none else none)
def l_X10_keeps_13 (N : Nat) : Nat → Int32 → am_Hp → Option (Unit × am_Hp)
  | 0, _, _ => none
  | n + 1, i1, h =>
    (if (48568 : Int32) ≤ i1 then
      let h1 := am_pi h 193 8 ((h 193 8) - (1 : Int32))
      l_X10_keeps_53 N N (0 : Int32) h1
    else
      bif am_in i1 48568 then bif am_in (i1 - (6071 : Int32)) 48568 then (let h2 := am_pi h 199 ((i1 - (6071 : Int32)).toNatClampNeg) (h 199 i1.toNatClampNeg)
      l_X10_keeps_13 N n (i1 + (1 : Int32)) h2) else none else none)
def f_X10_keeps (N : Nat)  (h : am_Hp) : Option (Unit × am_Hp) :=
  (if (h 193 8) = (8 : Int32) then
    l_X10_keeps_13 N N (6071 : Int32) h
  else
    l_X10_keeps_53 N N (0 : Int32) h)
def c_X10_keeps (N : Nat) : am_Cl := fun _ as h kk => am_sa as (fun z w0 => bif Nat.beq z 193 then am_st0 w0 (am_bi (f_X10_keeps N  h) (fun v h => kk (am_ov v) h)) else none)
def o_X10_keeps (N : Nat) : am_Orc := am_o0
set_option maxRecDepth 100000 in
theorem tok_X10_keeps : am_tok 209 tX10_keeps := by
  unfold am_tok
  decide +kernel
set_option maxHeartbeats 4000000 in
set_option maxRecDepth 100000 in
theorem m_X10_keeps {l : Launch} {al : Nat → Nat} {dC : Nat → ClassId} {dI : Nat → Nat → Nat} {aC : Nat → ClassId} {aV : Nat → Nat} (hy : am_Hy l al) (N : Nat)  (h : am_Hp) (r : (Unit × am_Hp)) (hf : f_X10_keeps N  h = some r) : am_Met l al dC dI aC aV 209 [.ref 193] h (am_ov r.1) r.2 :=
  am_met (tab := tX10_keeps) (orc := o_X10_keeps N) (ret := am_rv) (g := r) (by decide) (by decide) hy.1 hy.2 tok_X10_keeps am_os0 am_rv_inv (Nat.le_of_ble_eq_true rfl) (fun At cl wk => by
    have A53 : ∀ n : Nat, ∀ i1 : Int32, ∀ h, l_X10_keeps_53 N n i1 h = some r → At 53 [(0, .ref 193), (1, .int i1)] [] h := by
      intro n
      induction n with
      | zero => intro i1 h hr; cases hr
      | succ n ih =>
        intro i1 h hr
        exact cl (am_C1 53 (fun ρ st h => am_lda ρ 0 (fun z => bif Nat.beq z 193 then am_ldi ρ 1 (fun i1 => am_st0 st (l_X10_keeps_53 N n i1 h)) else none)) am_C0) (am_c1 (fun ρ st h hc => by
        obtain ⟨z, m_a0, hc⟩ := am_lda_some hc
        obtain ⟨hz, hc⟩ := am_bif hc
        cases Nat.eq_of_beq_eq_true hz
        obtain ⟨i1, m_i1, hc⟩ := am_ldi_some hc
        obtain ⟨rfl, hc⟩ := am_st0_some hc
        exact wk 53 ρ [(0, .ref 193), (1, .int i1)] _ h (am_m1 m_a0 (am_m1 m_i1 am_m0)) (ih i1 h hc)) am_c0) 400 53 _ _ h hr
    have A13 : ∀ n : Nat, ∀ i1 : Int32, ∀ h, l_X10_keeps_13 N n i1 h = some r → At 13 [(0, .ref 193), (1, .int i1)] [] h := by
      intro n
      induction n with
      | zero => intro i1 h hr; cases hr
      | succ n ih =>
        intro i1 h hr
        exact cl (am_C1 13 (fun ρ st h => am_lda ρ 0 (fun z => bif Nat.beq z 193 then am_ldi ρ 1 (fun i1 => am_st0 st (l_X10_keeps_13 N n i1 h)) else none)) (am_C1 53 (fun ρ st h => am_lda ρ 0 (fun z => bif Nat.beq z 193 then am_ldi ρ 1 (fun i1 => am_st0 st (l_X10_keeps_53 N N i1 h)) else none)) am_C0)) (am_c1 (fun ρ st h hc => by
        obtain ⟨z, m_a0, hc⟩ := am_lda_some hc
        obtain ⟨hz, hc⟩ := am_bif hc
        cases Nat.eq_of_beq_eq_true hz
        obtain ⟨i1, m_i1, hc⟩ := am_ldi_some hc
        obtain ⟨rfl, hc⟩ := am_st0_some hc
        exact wk 13 ρ [(0, .ref 193), (1, .int i1)] _ h (am_m1 m_a0 (am_m1 m_i1 am_m0)) (ih i1 h hc)) (am_c1 (fun ρ st h hc => by
        obtain ⟨z, m_a0, hc⟩ := am_lda_some hc
        obtain ⟨hz, hc⟩ := am_bif hc
        cases Nat.eq_of_beq_eq_true hz
        obtain ⟨i1, m_i1, hc⟩ := am_ldi_some hc
        obtain ⟨rfl, hc⟩ := am_st0_some hc
        exact wk 53 ρ [(0, .ref 193), (1, .int i1)] _ h (am_m1 m_a0 (am_m1 m_i1 am_m0)) (A53 N i1 h hc)) am_c0)) 400 13 _ _ h hr
    exact cl (am_C1 13 (fun ρ st h => am_lda ρ 0 (fun z => bif Nat.beq z 193 then am_ldi ρ 1 (fun i1 => am_st0 st (l_X10_keeps_13 N N i1 h)) else none)) (am_C1 53 (fun ρ st h => am_lda ρ 0 (fun z => bif Nat.beq z 193 then am_ldi ρ 1 (fun i1 => am_st0 st (l_X10_keeps_53 N N i1 h)) else none)) am_C0)) (am_c1 (fun ρ st h hc => by
        obtain ⟨z, m_a0, hc⟩ := am_lda_some hc
        obtain ⟨hz, hc⟩ := am_bif hc
        cases Nat.eq_of_beq_eq_true hz
        obtain ⟨i1, m_i1, hc⟩ := am_ldi_some hc
        obtain ⟨rfl, hc⟩ := am_st0_some hc
        exact wk 13 ρ [(0, .ref 193), (1, .int i1)] _ h (am_m1 m_a0 (am_m1 m_i1 am_m0)) (A13 N i1 h hc)) (am_c1 (fun ρ st h hc => by
        obtain ⟨z, m_a0, hc⟩ := am_lda_some hc
        obtain ⟨hz, hc⟩ := am_bif hc
        cases Nat.eq_of_beq_eq_true hz
        obtain ⟨i1, m_i1, hc⟩ := am_ldi_some hc
        obtain ⟨rfl, hc⟩ := am_st0_some hc
        exact wk 53 ρ [(0, .ref 193), (1, .int i1)] _ h (am_m1 m_a0 (am_m1 m_i1 am_m0)) (A53 N i1 h hc)) am_c0)) 400 0 _ _ h hf)
theorem s_X10_keeps {l : Launch} {al : Nat → Nat} {dC : Nat → ClassId} {dI : Nat → Nat → Nat} {aC : Nat → ClassId} {aV : Nat → Nat} (hy : am_Hy l al) (N : Nat) : am_CS l al dC dI aC aV 209 (c_X10_keeps N) := by
  intro γ as h kk g hc0
  obtain ⟨z0, w0, e_0, hcz0⟩ := am_sa_some hc0
  obtain ⟨hz0, hc1⟩ := am_bif hcz0
  cases Nat.eq_of_beq_eq_true hz0
  obtain ⟨e_1, hc⟩ := am_st0_some hc1
  subst e_1
  subst e_0
  obtain ⟨q, e1, e2⟩ := am_bi_some hc
  exact ⟨_, _, m_X10_keeps hy N  h _ e1, e2⟩

def l_X10_undo_26 (N : Nat) : Nat → Int32 → am_Hp → Option (Int32 × am_Hp)
  | 0, _, _ => none
  | n + 1, i1, h =>
    (if (6071 : Int32) ≤ i1 then
      some (h 193 8, h)
    else
      bif am_in (((6071 : Int32) * (h 193 8)) + i1) 48568 then bif am_in i1 6071 then (let h1 := am_pi h 197 i1.toNatClampNeg (h 199 ((((6071 : Int32) * (h 193 8)) + i1).toNatClampNeg))
      l_X10_undo_26 N n (i1 + (1 : Int32)) h1) else none else none)
def f_X10_undo (N : Nat)  (h : am_Hp) : Option (Int32 × am_Hp) :=
  let h1 := am_pi h 193 0 (0 : Int32)
  (if (h1 193 8) = 0 then
    some ((-1 : Int32), h1)
  else
    let h2 := am_pi h1 193 8 ((h1 193 8) - (1 : Int32))
    l_X10_undo_26 N N (0 : Int32) h2)
def c_X10_undo (N : Nat) : am_Cl := fun _ as h kk => am_sa as (fun z w0 => bif Nat.beq z 193 then am_st0 w0 (am_bi (f_X10_undo N  h) (fun v h => kk (am_oi v) h)) else none)
def o_X10_undo (N : Nat) : am_Orc := am_o0
set_option maxRecDepth 100000 in
theorem tok_X10_undo : am_tok 210 tX10_undo := by
  unfold am_tok
  decide +kernel
set_option maxHeartbeats 4000000 in
set_option maxRecDepth 100000 in
theorem m_X10_undo {l : Launch} {al : Nat → Nat} {dC : Nat → ClassId} {dI : Nat → Nat → Nat} {aC : Nat → ClassId} {aV : Nat → Nat} (hy : am_Hy l al) (N : Nat)  (h : am_Hp) (r : (Int32 × am_Hp)) (hf : f_X10_undo N  h = some r) : am_Met l al dC dI aC aV 210 [.ref 193] h (am_oi r.1) r.2 :=
  am_met (tab := tX10_undo) (orc := o_X10_undo N) (ret := am_ri) (g := r) (by decide) (by decide) hy.1 hy.2 tok_X10_undo am_os0 am_ri_inv (Nat.le_of_ble_eq_true rfl) (fun At cl wk => by
    have A26 : ∀ n : Nat, ∀ i1 : Int32, ∀ h, l_X10_undo_26 N n i1 h = some r → At 26 [(0, .ref 193), (1, .int i1)] [] h := by
      intro n
      induction n with
      | zero => intro i1 h hr; cases hr
      | succ n ih =>
        intro i1 h hr
        exact cl (am_C1 26 (fun ρ st h => am_lda ρ 0 (fun z => bif Nat.beq z 193 then am_ldi ρ 1 (fun i1 => am_st0 st (l_X10_undo_26 N n i1 h)) else none)) am_C0) (am_c1 (fun ρ st h hc => by
        obtain ⟨z, m_a0, hc⟩ := am_lda_some hc
        obtain ⟨hz, hc⟩ := am_bif hc
        cases Nat.eq_of_beq_eq_true hz
        obtain ⟨i1, m_i1, hc⟩ := am_ldi_some hc
        obtain ⟨rfl, hc⟩ := am_st0_some hc
        exact wk 26 ρ [(0, .ref 193), (1, .int i1)] _ h (am_m1 m_a0 (am_m1 m_i1 am_m0)) (ih i1 h hc)) am_c0) 400 26 _ _ h hr
    exact cl (am_C1 26 (fun ρ st h => am_lda ρ 0 (fun z => bif Nat.beq z 193 then am_ldi ρ 1 (fun i1 => am_st0 st (l_X10_undo_26 N N i1 h)) else none)) am_C0) (am_c1 (fun ρ st h hc => by
        obtain ⟨z, m_a0, hc⟩ := am_lda_some hc
        obtain ⟨hz, hc⟩ := am_bif hc
        cases Nat.eq_of_beq_eq_true hz
        obtain ⟨i1, m_i1, hc⟩ := am_ldi_some hc
        obtain ⟨rfl, hc⟩ := am_st0_some hc
        exact wk 26 ρ [(0, .ref 193), (1, .int i1)] _ h (am_m1 m_a0 (am_m1 m_i1 am_m0)) (A26 N i1 h hc)) am_c0) 400 0 _ _ h hf)
theorem s_X10_undo {l : Launch} {al : Nat → Nat} {dC : Nat → ClassId} {dI : Nat → Nat → Nat} {aC : Nat → ClassId} {aV : Nat → Nat} (hy : am_Hy l al) (N : Nat) : am_CS l al dC dI aC aV 210 (c_X10_undo N) := by
  intro γ as h kk g hc0
  obtain ⟨z0, w0, e_0, hcz0⟩ := am_sa_some hc0
  obtain ⟨hz0, hc1⟩ := am_bif hcz0
  cases Nat.eq_of_beq_eq_true hz0
  obtain ⟨e_1, hc⟩ := am_st0_some hc1
  subst e_1
  subst e_0
  obtain ⟨q, e1, e2⟩ := am_bi_some hc
  exact ⟨_, _, m_X10_undo hy N  h _ e1, e2⟩
