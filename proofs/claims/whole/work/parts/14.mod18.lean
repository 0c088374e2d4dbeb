def l_X10_firstDifference_87 (N : Nat) (K70 : Int32 → Int32 → Int32 → am_Hp → Option (Int32 × am_Hp)) : Nat → Int32 → Int32 → Int32 → Int32 → am_Hp → Option (Int32 × am_Hp)
  | 0, _, _, _, _, _ => none
  | n + 1, i4, i5, i6, i7, h =>
    (if (if (h 193 9) < i4 then h 193 9 else i4) ≤ i7 then
      K70 i4 i5 (i6 + (1 : Int32)) h
    else
      bif am_in (((16 : Int32) * i6) + i7) 96 then bif am_in (((16 : Int32) * i6) + i7) 96 then (if (h 200 ((((16 : Int32) * i6) + i7).toNatClampNeg)) = (h 203 ((((16 : Int32) * i6) + i7).toNatClampNeg)) then
        l_X10_firstDifference_87 N K70 n i4 i5 i6 (i7 + (1 : Int32)) h
      else
        some (((16 : Int32) * i6) + i7, h)) else none else none)
def l_X10_firstDifference_70 (N : Nat) : Nat → Int32 → Int32 → Int32 → am_Hp → Option (Int32 × am_Hp)
  | 0, _, _, _, _ => none
  | n + 1, i4, i5, i6, h =>
    (if (if (h 193 10) < i5 then h 193 10 else i5) ≤ i6 then
      some ((-1 : Int32), h)
    else
      l_X10_firstDifference_87 N (l_X10_firstDifference_70 N n) N i4 i5 i6 (0 : Int32) h)
def f_X10_firstDifference (N : Nat) (i1 : Int32) (i2 : Int32) (i3 : Int32) (h : am_Hp) : Option (Int32 × am_Hp) :=
  am_bi (f_X10_isPosition N i1 i2 h) (fun x2 h1 =>
  (if x2 = 0 then
    am_bi (f_X10_checks N (0 : Int32) h1) (fun x4 h3 =>
    (if x4 = 0 then
      some ((0 : Int32), h3)
    else
      am_bi (f_X10_lays N i1 i2 h3) (fun _ h5 =>
      am_bi (f_X10_copies N 200 203 h5) (fun _ h6 =>
      am_bi (f_X10_lays N i1 i3 h6) (fun _ h7 =>
      l_X10_firstDifference_70 N N (h6 193 9) (h6 193 10) (0 : Int32) h7)))))
  else
    am_bi (f_X10_isPosition N i1 i3 h1) (fun x9 h8 =>
    (if x9 = 0 then
      am_bi (f_X10_checks N (0 : Int32) h8) (fun x11 h10 =>
      (if x11 = 0 then
        some ((0 : Int32), h10)
      else
        am_bi (f_X10_lays N i1 i2 h10) (fun _ h12 =>
        am_bi (f_X10_copies N 200 203 h12) (fun _ h13 =>
        am_bi (f_X10_lays N i1 i3 h13) (fun _ h14 =>
        l_X10_firstDifference_70 N N (h13 193 9) (h13 193 10) (0 : Int32) h14)))))
    else
      am_bi (f_X10_checks N (1 : Int32) h8) (fun x16 h15 =>
      (if x16 = 0 then
        some ((0 : Int32), h15)
      else
        am_bi (f_X10_lays N i1 i2 h15) (fun _ h17 =>
        am_bi (f_X10_copies N 200 203 h17) (fun _ h18 =>
        am_bi (f_X10_lays N i1 i3 h18) (fun _ h19 =>
        l_X10_firstDifference_70 N N (h18 193 9) (h18 193 10) (0 : Int32) h19)))))))))
def c_X10_firstDifference (N : Nat) : am_Cl := fun _ as h kk => am_sa as (fun z w0 => bif Nat.beq z 193 then am_s1 w0 (fun i1 w1 => am_s1 w1 (fun i2 w2 => am_s1 w2 (fun i3 w3 => am_st0 w3 (am_bi (f_X10_firstDifference N i1 i2 i3 h) (fun v h => kk (am_oi v) h))))) else none)
def o_X10_firstDifference (N : Nat) : am_Orc := (am_oc 176 (c_X10_isPosition N) (am_oc 178 (c_X10_checks N) (am_oc 144 (c_X10_lays N) (am_oc 127 (c_X10_copies N) am_o0))))
set_option maxRecDepth 100000 in
theorem tok_X10_firstDifference : am_tok 205 tX10_firstDifference := by
  unfold am_tok
  decide +kernel
set_option maxHeartbeats 4000000 in
set_option maxRecDepth 100000 in
theorem m_X10_firstDifference {l : Launch} {al : Nat → Nat} {dC : Nat → ClassId} {dI : Nat → Nat → Nat} {aC : Nat → ClassId} {aV : Nat → Nat} (hy : am_Hy l al) (N : Nat) (i1 : Int32) (i2 : Int32) (i3 : Int32) (h : am_Hp) (r : (Int32 × am_Hp)) (hf : f_X10_firstDifference N i1 i2 i3 h = some r) : am_Met l al dC dI aC aV 205 [.ref 193, .int i1, .int i2, .int i3] h (am_oi r.1) r.2 :=
  am_met (tab := tX10_firstDifference) (orc := o_X10_firstDifference N) (ret := am_ri) (g := r) (by decide) (by decide) hy.1 hy.2 tok_X10_firstDifference (am_os1 (s_X10_isPosition hy N) (am_os1 (s_X10_checks hy N) (am_os1 (s_X10_lays hy N) (am_os1 (s_X10_copies hy N) am_os0)))) am_ri_inv (Nat.le_of_ble_eq_true rfl) (fun At cl wk => by
    have A87 : ∀ (K70 : Int32 → Int32 → Int32 → am_Hp → Option (Int32 × am_Hp)), (∀ i4 : Int32, ∀ i5 : Int32, ∀ i6 : Int32, ∀ h, K70 i4 i5 i6 h = some r → At 70 [(0, .ref 193), (4, .int i4), (5, .int i5), (6, .int i6)] [] h) → ∀ n : Nat, ∀ i4 : Int32, ∀ i5 : Int32, ∀ i6 : Int32, ∀ i7 : Int32, ∀ h, l_X10_firstDifference_87 N K70 n i4 i5 i6 i7 h = some r → At 87 [(0, .ref 193), (4, .int i4), (5, .int i5), (6, .int i6), (7, .int i7)] [] h := by
      intro K70 hK70 n
      induction n with
      | zero => intro i4 i5 i6 i7 h hr; cases hr
      | succ n ih =>
        intro i4 i5 i6 i7 h hr
        exact cl (am_C1 70 (fun ρ st h => am_lda ρ 0 (fun z => bif Nat.beq z 193 then am_ldi ρ 4 (fun i4 => am_ldi ρ 5 (fun i5 => am_ldi ρ 6 (fun i6 => am_st0 st (K70 i4 i5 i6 h)))) else none)) (am_C1 87 (fun ρ st h => am_lda ρ 0 (fun z => bif Nat.beq z 193 then am_ldi ρ 4 (fun i4 => am_ldi ρ 5 (fun i5 => am_ldi ρ 6 (fun i6 => am_ldi ρ 7 (fun i7 => am_st0 st (l_X10_firstDifference_87 N K70 n i4 i5 i6 i7 h))))) else none)) am_C0)) (am_c1 (fun ρ st h hc => by
        obtain ⟨z, m_a0, hc⟩ := am_lda_some hc
        obtain ⟨hz, hc⟩ := am_bif hc
        cases Nat.eq_of_beq_eq_true hz
        obtain ⟨i4, m_i4, hc⟩ := am_ldi_some hc
        obtain ⟨i5, m_i5, hc⟩ := am_ldi_some hc
        obtain ⟨i6, m_i6, hc⟩ := am_ldi_some hc
        obtain ⟨rfl, hc⟩ := am_st0_some hc
        exact wk 70 ρ [(0, .ref 193), (4, .int i4), (5, .int i5), (6, .int i6)] _ h (am_m1 m_a0 (am_m1 m_i4 (am_m1 m_i5 (am_m1 m_i6 am_m0)))) (hK70 i4 i5 i6 h hc)) (am_c1 (fun ρ st h hc => by
        obtain ⟨z, m_a0, hc⟩ := am_lda_some hc
        obtain ⟨hz, hc⟩ := am_bif hc
        cases Nat.eq_of_beq_eq_true hz
        obtain ⟨i4, m_i4, hc⟩ := am_ldi_some hc
        obtain ⟨i5, m_i5, hc⟩ := am_ldi_some hc
        obtain ⟨i6, m_i6, hc⟩ := am_ldi_some hc
        obtain ⟨i7, m_i7, hc⟩ := am_ldi_some hc
        obtain ⟨rfl, hc⟩ := am_st0_some hc
        exact wk 87 ρ [(0, .ref 193), (4, .int i4), (5, .int i5), (6, .int i6), (7, .int i7)] _ h (am_m1 m_a0 (am_m1 m_i4 (am_m1 m_i5 (am_m1 m_i6 (am_m1 m_i7 am_m0))))) (ih i4 i5 i6 i7 h hc)) am_c0)) 400 87 _ _ h hr
    have A70 : ∀ n : Nat, ∀ i4 : Int32, ∀ i5 : Int32, ∀ i6 : Int32, ∀ h, l_X10_firstDifference_70 N n i4 i5 i6 h = some r → At 70 [(0, .ref 193), (4, .int i4), (5, .int i5), (6, .int i6)] [] h := by
      intro n
      induction n with
      | zero => intro i4 i5 i6 h hr; cases hr
      | succ n ih =>
        intro i4 i5 i6 h hr
        exact cl (am_C1 87 (fun ρ st h => am_lda ρ 0 (fun z => bif Nat.beq z 193 then am_ldi ρ 4 (fun i4 => am_ldi ρ 5 (fun i5 => am_ldi ρ 6 (fun i6 => am_ldi ρ 7 (fun i7 => am_st0 st (l_X10_firstDifference_87 N (l_X10_firstDifference_70 N n) N i4 i5 i6 i7 h))))) else none)) am_C0) (am_c1 (fun ρ st h hc => by
        obtain ⟨z, m_a0, hc⟩ := am_lda_some hc
        obtain ⟨hz, hc⟩ := am_bif hc
        cases Nat.eq_of_beq_eq_true hz
        obtain ⟨i4, m_i4, hc⟩ := am_ldi_some hc
        obtain ⟨i5, m_i5, hc⟩ := am_ldi_some hc
        obtain ⟨i6, m_i6, hc⟩ := am_ldi_some hc
        obtain ⟨i7, m_i7, hc⟩ := am_ldi_some hc
        obtain ⟨rfl, hc⟩ := am_st0_some hc
        exact wk 87 ρ [(0, .ref 193), (4, .int i4), (5, .int i5), (6, .int i6), (7, .int i7)] _ h (am_m1 m_a0 (am_m1 m_i4 (am_m1 m_i5 (am_m1 m_i6 (am_m1 m_i7 am_m0))))) (A87 (l_X10_firstDifference_70 N n) ih N i4 i5 i6 i7 h hc)) am_c0) 400 70 _ _ h hr
    exact cl (am_C1 70 (fun ρ st h => am_lda ρ 0 (fun z => bif Nat.beq z 193 then am_ldi ρ 4 (fun i4 => am_ldi ρ 5 (fun i5 => am_ldi ρ 6 (fun i6 => am_st0 st (l_X10_firstDifference_70 N N i4 i5 i6 h)))) else none)) am_C0) (am_c1 (fun ρ st h hc => by
        obtain ⟨z, m_a0, hc⟩ := am_lda_some hc
        obtain ⟨hz, hc⟩ := am_bif hc
        cases Nat.eq_of_beq_eq_true hz
        obtain ⟨i4, m_i4, hc⟩ := am_ldi_some hc
        obtain ⟨i5, m_i5, hc⟩ := am_ldi_some hc
        obtain ⟨i6, m_i6, hc⟩ := am_ldi_some hc
        obtain ⟨rfl, hc⟩ := am_st0_some hc
        exact wk 70 ρ [(0, .ref 193), (4, .int i4), (5, .int i5), (6, .int i6)] _ h (am_m1 m_a0 (am_m1 m_i4 (am_m1 m_i5 (am_m1 m_i6 am_m0)))) (A70 N i4 i5 i6 h hc)) am_c0) 400 0 _ _ h hf)
theorem s_X10_firstDifference {l : Launch} {al : Nat → Nat} {dC : Nat → ClassId} {dI : Nat → Nat → Nat} {aC : Nat → ClassId} {aV : Nat → Nat} (hy : am_Hy l al) (N : Nat) : am_CS l al dC dI aC aV 205 (c_X10_firstDifference N) := by
  intro γ as h kk g hc0
  obtain ⟨z0, w0, e_0, hcz0⟩ := am_sa_some hc0
  obtain ⟨hz0, hc1⟩ := am_bif hcz0
  cases Nat.eq_of_beq_eq_true hz0
  obtain ⟨i1, w1, e_1, hc2⟩ := am_s1_some hc1
  obtain ⟨i2, w2, e_2, hc3⟩ := am_s1_some hc2
  obtain ⟨i3, w3, e_3, hc4⟩ := am_s1_some hc3
  obtain ⟨e_4, hc⟩ := am_st0_some hc4
  subst e_4
  subst e_3
  subst e_2
  subst e_1
  subst e_0
  obtain ⟨q, e1, e2⟩ := am_bi_some hc
  exact ⟨_, _, m_X10_firstDifference hy N i1 i2 i3 h _ e1, e2⟩

def l_X10_fullness_38 (N : Nat) (K26 : Int32 → Int32 → am_Hp → Option (UInt32 × am_Hp)) : Nat → Int32 → Int32 → Int32 → am_Hp → Option (UInt32 × am_Hp)
  | 0, _, _, _, _ => none
  | n + 1, i3, i4, i5, h =>
    (if (h 193 9) ≤ i5 then
      K26 i3 (i4 + (1 : Int32)) h
    else
      am_bi (f_X10_place N i4 i5 h) (fun x2 h1 =>
      (if x2 = (27 : Int32) then
        l_X10_fullness_38 N K26 n (i3 + (0 : Int32)) i4 (i5 + (1 : Int32)) h1
      else
        l_X10_fullness_38 N K26 n (i3 + (1 : Int32)) i4 (i5 + (1 : Int32)) h1)))
def l_X10_fullness_26 (N : Nat) : Nat → Int32 → Int32 → am_Hp → Option (UInt32 × am_Hp)
  | 0, _, _, _ => none
  | n + 1, i3, i4, h =>
    (if (h 193 10) ≤ i4 then
      if FP.fdiv (FP.i2f i3) (FP.i2f ((h 193 9) * (h 193 10))) &&& 0x7fffffff ≤ 0x7f800000 then some (FP.fdiv (FP.i2f i3) (FP.i2f ((h 193 9) * (h 193 10))), h) else none
    else
      l_X10_fullness_38 N (l_X10_fullness_26 N n) N i3 i4 (0 : Int32) h)
def f_X10_fullness (N : Nat) (i1 : Int32) (i2 : Int32) (h : am_Hp) : Option (UInt32 × am_Hp) :=
  am_bi (f_X10_isPosition N i1 i2 h) (fun x2 h1 =>
  am_bi (f_X10_checks N x2 h1) (fun x4 h3 =>
  (if x4 = 0 then
    some ((0 : UInt32), h3)
  else
    am_bi (f_X10_lays N i1 i2 h3) (fun _ h5 =>
    l_X10_fullness_26 N N (0 : Int32) (0 : Int32) h5))))
def c_X10_fullness (N : Nat) : am_Cl := fun _ as h kk => am_sa as (fun z w0 => bif Nat.beq z 193 then am_s1 w0 (fun i1 w1 => am_s1 w1 (fun i2 w2 => am_st0 w2 (am_bi (f_X10_fullness N i1 i2 h) (fun v h => kk (am_of v) h)))) else none)
def o_X10_fullness (N : Nat) : am_Orc := (am_oc 176 (c_X10_isPosition N) (am_oc 178 (c_X10_checks N) (am_oc 144 (c_X10_lays N) (am_oc 145 (c_X10_place N) am_o0))))
set_option maxRecDepth 100000 in
theorem tok_X10_fullness : am_tok 206 tX10_fullness := by
  unfold am_tok
  decide +kernel
set_option maxHeartbeats 4000000 in
set_option maxRecDepth 100000 in
theorem m_X10_fullness {l : Launch} {al : Nat → Nat} {dC : Nat → ClassId} {dI : Nat → Nat → Nat} {aC : Nat → ClassId} {aV : Nat → Nat} (hy : am_Hy l al) (N : Nat) (i1 : Int32) (i2 : Int32) (h : am_Hp) (r : (UInt32 × am_Hp)) (hf : f_X10_fullness N i1 i2 h = some r) : am_Met l al dC dI aC aV 206 [.ref 193, .int i1, .int i2] h (am_of r.1) r.2 :=
  am_met (tab := tX10_fullness) (orc := o_X10_fullness N) (ret := am_rf) (g := r) (by decide) (by decide) hy.1 hy.2 tok_X10_fullness (am_os1 (s_X10_isPosition hy N) (am_os1 (s_X10_checks hy N) (am_os1 (s_X10_lays hy N) (am_os1 (s_X10_place hy N) am_os0)))) am_rf_inv (Nat.le_of_ble_eq_true rfl) (fun At cl wk => by
    have A38 : ∀ (K26 : Int32 → Int32 → am_Hp → Option (UInt32 × am_Hp)), (∀ i3 : Int32, ∀ i4 : Int32, ∀ h, K26 i3 i4 h = some r → At 26 [(0, .ref 193), (3, .int i3), (4, .int i4)] [] h) → ∀ n : Nat, ∀ i3 : Int32, ∀ i4 : Int32, ∀ i5 : Int32, ∀ h, l_X10_fullness_38 N K26 n i3 i4 i5 h = some r → At 38 [(0, .ref 193), (3, .int i3), (4, .int i4), (5, .int i5)] [] h := by
      intro K26 hK26 n
      induction n with
      | zero => intro i3 i4 i5 h hr; cases hr
      | succ n ih =>
        intro i3 i4 i5 h hr
        exact cl (am_C1 26 (fun ρ st h => am_lda ρ 0 (fun z => bif Nat.beq z 193 then am_ldi ρ 3 (fun i3 => am_ldi ρ 4 (fun i4 => am_st0 st (K26 i3 i4 h))) else none)) (am_C1 38 (fun ρ st h => am_lda ρ 0 (fun z => bif Nat.beq z 193 then am_ldi ρ 3 (fun i3 => am_ldi ρ 4 (fun i4 => am_ldi ρ 5 (fun i5 => am_st0 st (l_X10_fullness_38 N K26 n i3 i4 i5 h)))) else none)) am_C0)) (am_c1 (fun ρ st h hc => by
        obtain ⟨z, m_a0, hc⟩ := am_lda_some hc
        obtain ⟨hz, hc⟩ := am_bif hc
        cases Nat.eq_of_beq_eq_true hz
        obtain ⟨i3, m_i3, hc⟩ := am_ldi_some hc
        obtain ⟨i4, m_i4, hc⟩ := am_ldi_some hc
        obtain ⟨rfl, hc⟩ := am_st0_some hc
        exact wk 26 ρ [(0, .ref 193), (3, .int i3), (4, .int i4)] _ h (am_m1 m_a0 (am_m1 m_i3 (am_m1 m_i4 am_m0))) (hK26 i3 i4 h hc)) (am_c1 (fun ρ st h hc => by
        obtain ⟨z, m_a0, hc⟩ := am_lda_some hc
        obtain ⟨hz, hc⟩ := am_bif hc
        cases Nat.eq_of_beq_eq_true hz
        obtain ⟨i3, m_i3, hc⟩ := am_ldi_some hc
        obtain ⟨i4, m_i4, hc⟩ := am_ldi_some hc
        obtain ⟨i5, m_i5, hc⟩ := am_ldi_some hc
        obtain ⟨rfl, hc⟩ := am_st0_some hc
        exact wk 38 ρ [(0, .ref 193), (3, .int i3), (4, .int i4), (5, .int i5)] _ h (am_m1 m_a0 (am_m1 m_i3 (am_m1 m_i4 (am_m1 m_i5 am_m0)))) (ih i3 i4 i5 h hc)) am_c0)) 400 38 _ _ h hr
    have A26 : ∀ n : Nat, ∀ i3 : Int32, ∀ i4 : Int32, ∀ h, l_X10_fullness_26 N n i3 i4 h = some r → At 26 [(0, .ref 193), (3, .int i3), (4, .int i4)] [] h := by
      intro n
      induction n with
      | zero => intro i3 i4 h hr; cases hr
      | succ n ih =>
        intro i3 i4 h hr
        exact cl (am_C1 38 (fun ρ st h => am_lda ρ 0 (fun z => bif Nat.beq z 193 then am_ldi ρ 3 (fun i3 => am_ldi ρ 4 (fun i4 => am_ldi ρ 5 (fun i5 => am_st0 st (l_X10_fullness_38 N (l_X10_fullness_26 N n) N i3 i4 i5 h)))) else none)) am_C0) (am_c1 (fun ρ st h hc => by
        obtain ⟨z, m_a0, hc⟩ := am_lda_some hc
        obtain ⟨hz, hc⟩ := am_bif hc
        cases Nat.eq_of_beq_eq_true hz
        obtain ⟨i3, m_i3, hc⟩ := am_ldi_some hc
        obtain ⟨i4, m_i4, hc⟩ := am_ldi_some hc
        obtain ⟨i5, m_i5, hc⟩ := am_ldi_some hc
        obtain ⟨rfl, hc⟩ := am_st0_some hc
        exact wk 38 ρ [(0, .ref 193), (3, .int i3), (4, .int i4), (5, .int i5)] _ h (am_m1 m_a0 (am_m1 m_i3 (am_m1 m_i4 (am_m1 m_i5 am_m0)))) (A38 (l_X10_fullness_26 N n) ih N i3 i4 i5 h hc)) am_c0) 400 26 _ _ h hr
    exact cl (am_C1 26 (fun ρ st h => am_lda ρ 0 (fun z => bif Nat.beq z 193 then am_ldi ρ 3 (fun i3 => am_ldi ρ 4 (fun i4 => am_st0 st (l_X10_fullness_26 N N i3 i4 h))) else none)) am_C0) (am_c1 (fun ρ st h hc => by
        obtain ⟨z, m_a0, hc⟩ := am_lda_some hc
        obtain ⟨hz, hc⟩ := am_bif hc
        cases Nat.eq_of_beq_eq_true hz
        obtain ⟨i3, m_i3, hc⟩ := am_ldi_some hc
        obtain ⟨i4, m_i4, hc⟩ := am_ldi_some hc
        obtain ⟨rfl, hc⟩ := am_st0_some hc
        exact wk 26 ρ [(0, .ref 193), (3, .int i3), (4, .int i4)] _ h (am_m1 m_a0 (am_m1 m_i3 (am_m1 m_i4 am_m0))) (A26 N i3 i4 h hc)) am_c0) 400 0 _ _ h hf)
theorem s_X10_fullness {l : Launch} {al : Nat → Nat} {dC : Nat → ClassId} {dI : Nat → Nat → Nat} {aC : Nat → ClassId} {aV : Nat → Nat} (hy : am_Hy l al) (N : Nat) : am_CS l al dC dI aC aV 206 (c_X10_fullness N) := by
  intro γ as h kk g hc0
  obtain ⟨z0, w0, e_0, hcz0⟩ := am_sa_some hc0
  obtain ⟨hz0, hc1⟩ := am_bif hcz0
  cases Nat.eq_of_beq_eq_true hz0
  obtain ⟨i1, w1, e_1, hc2⟩ := am_s1_some hc1
  obtain ⟨i2, w2, e_2, hc3⟩ := am_s1_some hc2
  obtain ⟨e_3, hc⟩ := am_st0_some hc3
  subst e_3
  subst e_2
  subst e_1
  subst e_0
  obtain ⟨q, e1, e2⟩ := am_bi_some hc
  exact ⟨_, _, m_X10_fullness hy N i1 i2 h _ e1, e2⟩
