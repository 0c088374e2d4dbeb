def l_X10_lengthOf_36 (N : Nat) : Nat → Int32 → Int32 → Int32 → am_Hp → Option (Int32 × am_Hp)
  | 0, _, _, _, _ => none
  | n + 1, i0, i1, i2, h =>
    (if (6 : Int32) ≤ i2 then
      (if i0 < 0 then
        some ((0 : Int32), h)
      else
        (if (i0 >>> ((30 : Int32) &&& 31)) = 0 then
          some (i1, h)
        else
          some ((0 : Int32), h)))
    else
      am_bi (f_X10_letterOf N i0 i2 h) (fun x2 h1 =>
      (if x2 ≤ 0 then
        l_X10_lengthOf_36 N n i0 i1 (i2 + (1 : Int32)) h1
      else
        some ((0 : Int32), h1))))
def l_X10_lengthOf_2 (N : Nat) : Nat → Int32 → Int32 → am_Hp → Option (Int32 × am_Hp)
  | 0, _, _, _ => none
  | n + 1, i0, i1, h =>
    (if (6 : Int32) ≤ i1 then
      l_X10_lengthOf_36 N N i0 i1 i1 h
    else
      am_bi (f_X10_letterOf N i0 i1 h) (fun x2 h1 =>
      (if x2 ≤ 0 then
        l_X10_lengthOf_36 N N i0 i1 i1 h1
      else
        am_bi (f_X10_letterOf N i0 i1 h1) (fun x4 h3 =>
        (if x4 ≤ (26 : Int32) then
          l_X10_lengthOf_2 N n i0 (i1 + (1 : Int32)) h3
        else
          some ((0 : Int32), h3))))))
def f_X10_lengthOf (N : Nat) (i0 : Int32) (h : am_Hp) : Option (Int32 × am_Hp) :=
  l_X10_lengthOf_2 N N i0 (0 : Int32) h
def c_X10_lengthOf (N : Nat) : am_Cl := fun _ as h kk => am_s1 as (fun i0 w0 => am_st0 w0 (am_bi (f_X10_lengthOf N i0 h) (fun v h => kk (am_oi v) h)))
def o_X10_lengthOf (N : Nat) : am_Orc := (am_oc 201 (c_X10_letterOf N) am_o0)
set_option maxRecDepth 100000 in
theorem tok_X10_lengthOf : am_tok 202 tX10_lengthOf := by
  unfold am_tok
  decide +kernel
set_option maxHeartbeats 4000000 in
set_option maxRecDepth 100000 in
theorem m_X10_lengthOf {l : Launch} {al : Nat → Nat} {dC : Nat → ClassId} {dI : Nat → Nat → Nat} {aC : Nat → ClassId} {aV : Nat → Nat} (hy : am_Hy l al) (N : Nat) (i0 : Int32) (h : am_Hp) (r : (Int32 × am_Hp)) (hf : f_X10_lengthOf N i0 h = some r) : am_Met l al dC dI aC aV 202 [.int i0] h (am_oi r.1) r.2 :=
  am_met (tab := tX10_lengthOf) (orc := o_X10_lengthOf N) (ret := am_ri) (g := r) (by decide) (by decide) hy.1 hy.2 tok_X10_lengthOf (am_os1 (s_X10_letterOf hy N) am_os0) am_ri_inv (Nat.le_of_ble_eq_true rfl) (fun At cl wk => by
    have A36 : ∀ n : Nat, ∀ i0 : Int32, ∀ i1 : Int32, ∀ i2 : Int32, ∀ h, l_X10_lengthOf_36 N n i0 i1 i2 h = some r → At 36 [(0, .int i0), (1, .int i1), (2, .int i2)] [] h := by
      intro n
      induction n with
      | zero => intro i0 i1 i2 h hr; cases hr
      | succ n ih =>
        intro i0 i1 i2 h hr
        exact cl (am_C1 36 (fun ρ st h => am_ldi ρ 0 (fun i0 => am_ldi ρ 1 (fun i1 => am_ldi ρ 2 (fun i2 => am_st0 st (l_X10_lengthOf_36 N n i0 i1 i2 h))))) am_C0) (am_c1 (fun ρ st h hc => by
        obtain ⟨i0, m_i0, hc⟩ := am_ldi_some hc
        obtain ⟨i1, m_i1, hc⟩ := am_ldi_some hc
        obtain ⟨i2, m_i2, hc⟩ := am_ldi_some hc
        obtain ⟨rfl, hc⟩ := am_st0_some hc
        exact wk 36 ρ [(0, .int i0), (1, .int i1), (2, .int i2)] _ h (am_m1 m_i0 (am_m1 m_i1 (am_m1 m_i2 am_m0))) (ih i0 i1 i2 h hc)) am_c0) 400 36 _ _ h hr
    have A2 : ∀ n : Nat, ∀ i0 : Int32, ∀ i1 : Int32, ∀ h, l_X10_lengthOf_2 N n i0 i1 h = some r → At 2 [(0, .int i0), (1, .int i1)] [] h := by
      intro n
      induction n with
      | zero => intro i0 i1 h hr; cases hr
      | succ n ih =>
        intro i0 i1 h hr
        exact cl (am_C1 2 (fun ρ st h => am_ldi ρ 0 (fun i0 => am_ldi ρ 1 (fun i1 => am_st0 st (l_X10_lengthOf_2 N n i0 i1 h)))) (am_C1 36 (fun ρ st h => am_ldi ρ 0 (fun i0 => am_ldi ρ 1 (fun i1 => am_ldi ρ 2 (fun i2 => am_st0 st (l_X10_lengthOf_36 N N i0 i1 i2 h))))) am_C0)) (am_c1 (fun ρ st h hc => by
        obtain ⟨i0, m_i0, hc⟩ := am_ldi_some hc
        obtain ⟨i1, m_i1, hc⟩ := am_ldi_some hc
        obtain ⟨rfl, hc⟩ := am_st0_some hc
        exact wk 2 ρ [(0, .int i0), (1, .int i1)] _ h (am_m1 m_i0 (am_m1 m_i1 am_m0)) (ih i0 i1 h hc)) (am_c1 (fun ρ st h hc => by
        obtain ⟨i0, m_i0, hc⟩ := am_ldi_some hc
        obtain ⟨i1, m_i1, hc⟩ := am_ldi_some hc
        obtain ⟨i2, m_i2, hc⟩ := am_ldi_some hc
        obtain ⟨rfl, hc⟩ := am_st0_some hc
        exact wk 36 ρ [(0, .int i0), (1, .int i1), (2, .int i2)] _ h (am_m1 m_i0 (am_m1 m_i1 (am_m1 m_i2 am_m0))) (A36 N i0 i1 i2 h hc)) am_c0)) 400 2 _ _ h hr
    exact cl (am_C1 2 (fun ρ st h => am_ldi ρ 0 (fun i0 => am_ldi ρ 1 (fun i1 => am_st0 st (l_X10_lengthOf_2 N N i0 i1 h)))) am_C0) (am_c1 (fun ρ st h hc => by
        obtain ⟨i0, m_i0, hc⟩ := am_ldi_some hc
        obtain ⟨i1, m_i1, hc⟩ := am_ldi_some hc
        obtain ⟨rfl, hc⟩ := am_st0_some hc
        exact wk 2 ρ [(0, .int i0), (1, .int i1)] _ h (am_m1 m_i0 (am_m1 m_i1 am_m0)) (A2 N i0 i1 h hc)) am_c0) 400 0 _ _ h hf)
theorem s_X10_lengthOf {l : Launch} {al : Nat → Nat} {dC : Nat → ClassId} {dI : Nat → Nat → Nat} {aC : Nat → ClassId} {aV : Nat → Nat} (hy : am_Hy l al) (N : Nat) : am_CS l al dC dI aC aV 202 (c_X10_lengthOf N) := by
  intro γ as h kk g hc0
  obtain ⟨i0, w0, e_0, hc1⟩ := am_s1_some hc0
  obtain ⟨e_1, hc⟩ := am_st0_some hc1
  subst e_1
  subst e_0
  obtain ⟨q, e1, e2⟩ := am_bi_some hc
  exact ⟨_, _, m_X10_lengthOf hy N i0 h _ e1, e2⟩

def l_X10_shows_30 (N : Nat) (K2 : Int32 → Int32 → Int32 → am_Hp → Option (Int32 × am_Hp)) (K13 : Int32 → Int32 → Int32 → Int32 → am_Hp → Option (Int32 × am_Hp)) : Nat → Int32 → Int32 → Int32 → Int32 → Int32 → Int32 → am_Hp → Option (Int32 × am_Hp)
  | 0, _, _, _, _, _, _, _ => none
  | n + 1, i1, i2, i3, i4, i5, i6, h =>
    (if i2 ≤ i6 then
      (if i5 = 0 then
        K13 i1 i2 i3 (i4 + (1 : Int32)) h
      else
        if (1 : Int32) &&& 1 = (1 : Int32) then some ((1 : Int32), h) else none)
    else
      (if i5 = 0 then
        l_X10_shows_30 N K2 K13 n i1 i2 i3 i4 (0 : Int32) (i6 + (1 : Int32)) h
      else
        am_bi (f_X10_place N i3 (i4 + i6) h) (fun x2 h1 =>
        am_bi (f_X10_letterOf N i1 i6 h1) (fun x4 h3 =>
        (if x2 = x4 then
          l_X10_shows_30 N K2 K13 n i1 i2 i3 i4 (1 : Int32) (i6 + (1 : Int32)) h3
        else
          l_X10_shows_30 N K2 K13 n i1 i2 i3 i4 (0 : Int32) (i6 + (1 : Int32)) h3)))))
def l_X10_shows_13 (N : Nat) (K2 : Int32 → Int32 → Int32 → am_Hp → Option (Int32 × am_Hp)) : Nat → Int32 → Int32 → Int32 → Int32 → am_Hp → Option (Int32 × am_Hp)
  | 0, _, _, _, _, _ => none
  | n + 1, i1, i2, i3, i4, h =>
    (if (h 193 9) < (i4 + i2) then
      K2 i1 i2 (i3 + (1 : Int32)) h
    else
      l_X10_shows_30 N K2 (l_X10_shows_13 N K2 n) N i1 i2 i3 i4 (1 : Int32) (0 : Int32) h)
def l_X10_shows_2 (N : Nat) : Nat → Int32 → Int32 → Int32 → am_Hp → Option (Int32 × am_Hp)
  | 0, _, _, _, _ => none
  | n + 1, i1, i2, i3, h =>
    (if (h 193 10) ≤ i3 then
      if (0 : Int32) &&& 1 = (0 : Int32) then some ((0 : Int32), h) else none
    else
      l_X10_shows_13 N (l_X10_shows_2 N n) N i1 i2 i3 (0 : Int32) h)
def f_X10_shows (N : Nat) (i1 : Int32) (i2 : Int32) (h : am_Hp) : Option (Int32 × am_Hp) :=
  l_X10_shows_2 N N i1 i2 (0 : Int32) h
def c_X10_shows (N : Nat) : am_Cl := fun _ as h kk => am_sa as (fun z w0 => bif Nat.beq z 193 then am_s1 w0 (fun i1 w1 => am_s1 w1 (fun i2 w2 => am_st0 w2 (am_bi (f_X10_shows N i1 i2 h) (fun v h => kk (am_oi v) h)))) else none)
def o_X10_shows (N : Nat) : am_Orc := (am_oc 145 (c_X10_place N) (am_oc 201 (c_X10_letterOf N) am_o0))
set_option maxRecDepth 100000 in
theorem tok_X10_shows : am_tok 203 tX10_shows := by
  unfold am_tok
  decide +kernel
set_option maxHeartbeats 4000000 in
set_option maxRecDepth 100000 in
theorem m_X10_shows {l : Launch} {al : Nat → Nat} {dC : Nat → ClassId} {dI : Nat → Nat → Nat} {aC : Nat → ClassId} {aV : Nat → Nat} (hy : am_Hy l al) (N : Nat) (i1 : Int32) (i2 : Int32) (h : am_Hp) (r : (Int32 × am_Hp)) (hf : f_X10_shows N i1 i2 h = some r) : am_Met l al dC dI aC aV 203 [.ref 193, .int i1, .int i2] h (am_oi r.1) r.2 :=
  am_met (tab := tX10_shows) (orc := o_X10_shows N) (ret := am_ri) (g := r) (by decide) (by decide) hy.1 hy.2 tok_X10_shows (am_os1 (s_X10_place hy N) (am_os1 (s_X10_letterOf hy N) am_os0)) am_ri_inv (Nat.le_of_ble_eq_true rfl) (fun At cl wk => by
    have A30 : ∀ (K2 : Int32 → Int32 → Int32 → am_Hp → Option (Int32 × am_Hp)), (∀ i1 : Int32, ∀ i2 : Int32, ∀ i3 : Int32, ∀ h, K2 i1 i2 i3 h = some r → At 2 [(0, .ref 193), (1, .int i1), (2, .int i2), (3, .int i3)] [] h) → ∀ (K13 : Int32 → Int32 → Int32 → Int32 → am_Hp → Option (Int32 × am_Hp)), (∀ i1 : Int32, ∀ i2 : Int32, ∀ i3 : Int32, ∀ i4 : Int32, ∀ h, K13 i1 i2 i3 i4 h = some r → At 13 [(0, .ref 193), (1, .int i1), (2, .int i2), (3, .int i3), (4, .int i4)] [] h) → ∀ n : Nat, ∀ i1 : Int32, ∀ i2 : Int32, ∀ i3 : Int32, ∀ i4 : Int32, ∀ i5 : Int32, ∀ i6 : Int32, ∀ h, l_X10_shows_30 N K2 K13 n i1 i2 i3 i4 i5 i6 h = some r → At 30 [(0, .ref 193), (1, .int i1), (2, .int i2), (3, .int i3), (4, .int i4), (5, .int i5), (6, .int i6)] [] h := by
      intro K2 hK2 K13 hK13 n
      induction n with
      | zero => intro i1 i2 i3 i4 i5 i6 h hr; cases hr
      | succ n ih =>
        intro i1 i2 i3 i4 i5 i6 h hr
        exact cl (am_C1 13 (fun ρ st h => am_lda ρ 0 (fun z => bif Nat.beq z 193 then am_ldi ρ 1 (fun i1 => am_ldi ρ 2 (fun i2 => am_ldi ρ 3 (fun i3 => am_ldi ρ 4 (fun i4 => am_st0 st (K13 i1 i2 i3 i4 h))))) else none)) (am_C1 30 (fun ρ st h => am_lda ρ 0 (fun z => bif Nat.beq z 193 then am_ldi ρ 1 (fun i1 => am_ldi ρ 2 (fun i2 => am_ldi ρ 3 (fun i3 => am_ldi ρ 4 (fun i4 => am_ldi ρ 5 (fun i5 => am_ldi ρ 6 (fun i6 => am_st0 st (l_X10_shows_30 N K2 K13 n i1 i2 i3 i4 i5 i6 h))))))) else none)) am_C0)) (am_c1 (fun ρ st h hc => by
        obtain ⟨z, m_a0, hc⟩ := am_lda_some hc
        obtain ⟨hz, hc⟩ := am_bif hc
        cases Nat.eq_of_beq_eq_true hz
        obtain ⟨i1, m_i1, hc⟩ := am_ldi_some hc
        obtain ⟨i2, m_i2, hc⟩ := am_ldi_some hc
        obtain ⟨i3, m_i3, hc⟩ := am_ldi_some hc
        obtain ⟨i4, m_i4, hc⟩ := am_ldi_some hc
        obtain ⟨rfl, hc⟩ := am_st0_some hc
        exact wk 13 ρ [(0, .ref 193), (1, .int i1), (2, .int i2), (3, .int i3), (4, .int i4)] _ h (am_m1 m_a0 (am_m1 m_i1 (am_m1 m_i2 (am_m1 m_i3 (am_m1 m_i4 am_m0))))) (hK13 i1 i2 i3 i4 h hc)) (am_c1 (fun ρ st h hc => by
        obtain ⟨z, m_a0, hc⟩ := am_lda_some hc
        obtain ⟨hz, hc⟩ := am_bif hc
        cases Nat.eq_of_beq_eq_true hz
        obtain ⟨i1, m_i1, hc⟩ := am_ldi_some hc
        obtain ⟨i2, m_i2, hc⟩ := am_ldi_some hc
        obtain ⟨i3, m_i3, hc⟩ := am_ldi_some hc
        obtain ⟨i4, m_i4, hc⟩ := am_ldi_some hc
        obtain ⟨i5, m_i5, hc⟩ := am_ldi_some hc
        obtain ⟨i6, m_i6, hc⟩ := am_ldi_some hc
        obtain ⟨rfl, hc⟩ := am_st0_some hc
        exact wk 30 ρ [(0, .ref 193), (1, .int i1), (2, .int i2), (3, .int i3), (4, .int i4), (5, .int i5), (6, .int i6)] _ h (am_m1 m_a0 (am_m1 m_i1 (am_m1 m_i2 (am_m1 m_i3 (am_m1 m_i4 (am_m1 m_i5 (am_m1 m_i6 am_m0))))))) (ih i1 i2 i3 i4 i5 i6 h hc)) am_c0)) 400 30 _ _ h hr
    have A13 : ∀ (K2 : Int32 → Int32 → Int32 → am_Hp → Option (Int32 × am_Hp)), (∀ i1 : Int32, ∀ i2 : Int32, ∀ i3 : Int32, ∀ h, K2 i1 i2 i3 h = some r → At 2 [(0, .ref 193), (1, .int i1), (2, .int i2), (3, .int i3)] [] h) → ∀ n : Nat, ∀ i1 : Int32, ∀ i2 : Int32, ∀ i3 : Int32, ∀ i4 : Int32, ∀ h, l_X10_shows_13 N K2 n i1 i2 i3 i4 h = some r → At 13 [(0, .ref 193), (1, .int i1), (2, .int i2), (3, .int i3), (4, .int i4)] [] h := by
      intro K2 hK2 n
      induction n with
      | zero => intro i1 i2 i3 i4 h hr; cases hr
      | succ n ih =>
        intro i1 i2 i3 i4 h hr
        exact cl (am_C1 2 (fun ρ st h => am_lda ρ 0 (fun z => bif Nat.beq z 193 then am_ldi ρ 1 (fun i1 => am_ldi ρ 2 (fun i2 => am_ldi ρ 3 (fun i3 => am_st0 st (K2 i1 i2 i3 h)))) else none)) (am_C1 30 (fun ρ st h => am_lda ρ 0 (fun z => bif Nat.beq z 193 then am_ldi ρ 1 (fun i1 => am_ldi ρ 2 (fun i2 => am_ldi ρ 3 (fun i3 => am_ldi ρ 4 (fun i4 => am_ldi ρ 5 (fun i5 => am_ldi ρ 6 (fun i6 => am_st0 st (l_X10_shows_30 N K2 (l_X10_shows_13 N K2 n) N i1 i2 i3 i4 i5 i6 h))))))) else none)) am_C0)) (am_c1 (fun ρ st h hc => by
        obtain ⟨z, m_a0, hc⟩ := am_lda_some hc
        obtain ⟨hz, hc⟩ := am_bif hc
        cases Nat.eq_of_beq_eq_true hz
        obtain ⟨i1, m_i1, hc⟩ := am_ldi_some hc
        obtain ⟨i2, m_i2, hc⟩ := am_ldi_some hc
        obtain ⟨i3, m_i3, hc⟩ := am_ldi_some hc
        obtain ⟨rfl, hc⟩ := am_st0_some hc
        exact wk 2 ρ [(0, .ref 193), (1, .int i1), (2, .int i2), (3, .int i3)] _ h (am_m1 m_a0 (am_m1 m_i1 (am_m1 m_i2 (am_m1 m_i3 am_m0)))) (hK2 i1 i2 i3 h hc)) (am_c1 (fun ρ st h hc => by
        obtain ⟨z, m_a0, hc⟩ := am_lda_some hc
        obtain ⟨hz, hc⟩ := am_bif hc
        cases Nat.eq_of_beq_eq_true hz
        obtain ⟨i1, m_i1, hc⟩ := am_ldi_some hc
        obtain ⟨i2, m_i2, hc⟩ := am_ldi_some hc
        obtain ⟨i3, m_i3, hc⟩ := am_ldi_some hc
        obtain ⟨i4, m_i4, hc⟩ := am_ldi_some hc
        obtain ⟨i5, m_i5, hc⟩ := am_ldi_some hc
        obtain ⟨i6, m_i6, hc⟩ := am_ldi_some hc
        obtain ⟨rfl, hc⟩ := am_st0_some hc
        exact wk 30 ρ [(0, .ref 193), (1, .int i1), (2, .int i2), (3, .int i3), (4, .int i4), (5, .int i5), (6, .int i6)] _ h (am_m1 m_a0 (am_m1 m_i1 (am_m1 m_i2 (am_m1 m_i3 (am_m1 m_i4 (am_m1 m_i5 (am_m1 m_i6 am_m0))))))) (A30 K2 hK2 (l_X10_shows_13 N K2 n) ih N i1 i2 i3 i4 i5 i6 h hc)) am_c0)) 400 13 _ _ h hr
    have A2 : ∀ n : Nat, ∀ i1 : Int32, ∀ i2 : Int32, ∀ i3 : Int32, ∀ h, l_X10_shows_2 N n i1 i2 i3 h = some r → At 2 [(0, .ref 193), (1, .int i1), (2, .int i2), (3, .int i3)] [] h := by
      intro n
      induction n with
      | zero => intro i1 i2 i3 h hr; cases hr
      | succ n ih =>
        intro i1 i2 i3 h hr
        exact cl (am_C1 13 (fun ρ st h => am_lda ρ 0 (fun z => bif Nat.beq z 193 then am_ldi ρ 1 (fun i1 => am_ldi ρ 2 (fun i2 => am_ldi ρ 3 (fun i3 => am_ldi ρ 4 (fun i4 => am_st0 st (l_X10_shows_13 N (l_X10_shows_2 N n) N i1 i2 i3 i4 h))))) else none)) am_C0) (am_c1 (fun ρ st h hc => by
        obtain ⟨z, m_a0, hc⟩ := am_lda_some hc
        obtain ⟨hz, hc⟩ := am_bif hc
        cases Nat.eq_of_beq_eq_true hz
        obtain ⟨i1, m_i1, hc⟩ := am_ldi_some hc
        obtain ⟨i2, m_i2, hc⟩ := am_ldi_some hc
        obtain ⟨i3, m_i3, hc⟩ := am_ldi_some hc
        obtain ⟨i4, m_i4, hc⟩ := am_ldi_some hc
        obtain ⟨rfl, hc⟩ := am_st0_some hc
        exact wk 13 ρ [(0, .ref 193), (1, .int i1), (2, .int i2), (3, .int i3), (4, .int i4)] _ h (am_m1 m_a0 (am_m1 m_i1 (am_m1 m_i2 (am_m1 m_i3 (am_m1 m_i4 am_m0))))) (A13 (l_X10_shows_2 N n) ih N i1 i2 i3 i4 h hc)) am_c0) 400 2 _ _ h hr
    exact cl (am_C1 2 (fun ρ st h => am_lda ρ 0 (fun z => bif Nat.beq z 193 then am_ldi ρ 1 (fun i1 => am_ldi ρ 2 (fun i2 => am_ldi ρ 3 (fun i3 => am_st0 st (l_X10_shows_2 N N i1 i2 i3 h)))) else none)) am_C0) (am_c1 (fun ρ st h hc => by
        obtain ⟨z, m_a0, hc⟩ := am_lda_some hc
        obtain ⟨hz, hc⟩ := am_bif hc
        cases Nat.eq_of_beq_eq_true hz
        obtain ⟨i1, m_i1, hc⟩ := am_ldi_some hc
        obtain ⟨i2, m_i2, hc⟩ := am_ldi_some hc
        obtain ⟨i3, m_i3, hc⟩ := am_ldi_some hc
        obtain ⟨rfl, hc⟩ := am_st0_some hc
        exact wk 2 ρ [(0, .ref 193), (1, .int i1), (2, .int i2), (3, .int i3)] _ h (am_m1 m_a0 (am_m1 m_i1 (am_m1 m_i2 (am_m1 m_i3 am_m0)))) (A2 N i1 i2 i3 h hc)) am_c0) 400 0 _ _ h hf)
theorem s_X10_shows {l : Launch} {al : Nat → Nat} {dC : Nat → ClassId} {dI : Nat → Nat → Nat} {aC : Nat → ClassId} {aV : Nat → Nat} (hy : am_Hy l al) (N : Nat) : am_CS l al dC dI aC aV 203 (c_X10_shows N) := by
  intro γ as h kk g hc0
  obtain ⟨z0, w0, e_0, hcz0⟩ := am_sa_some hc0
  obtain ⟨hz0, hc1⟩ := am_bif hcz0
  cases Nat.eq_of_beq_eq_true hz0
  obtain ⟨i1, w1, e_1, hc2⟩ := am_s1_some hc1
  obtain ⟨i2, w2, e_2, hc3⟩ := am_s1_some hc2
  obtain ⟨e_3, hc⟩ := am_st0_some hc3
  subst e_3
  subst e_2
  subst e_1
  subst e_0
  obtain ⟨q, e1, e2⟩ := am_bi_some hc
  exact ⟨_, _, m_X10_shows hy N i1 i2 h _ e1, e2⟩

def l_X10_firstShowing_33 (N : Nat) : Nat → Int32 → Int32 → Int32 → Int32 → am_Hp → Option (Int32 × am_Hp)
  | 0, _, _, _, _, _ => none
  | n + 1, i1, i2, i3, i4, h =>
    am_bi (f_X10_events N i1 h) (fun x2 h1 =>
    (if x2 < i4 then
      some ((-1 : Int32), h1)
    else
      am_bi (f_X10_shows N i2 i3 h1) (fun x4 h3 =>
      (if x4 = 0 then
        am_bi (f_X10_events N i1 h3) (fun x6 h5 =>
        (if x6 ≤ i4 then
          l_X10_firstShowing_33 N n i1 i2 i3 (i4 + (1 : Int32)) h5
        else
          am_bi (f_X10_comes N i1 i4 h5) (fun _ h7 =>
          l_X10_firstShowing_33 N n i1 i2 i3 (i4 + (1 : Int32)) h7)))
      else
        some (i4, h3)))))
def f_X10_firstShowing (N : Nat) (i1 : Int32) (i2 : Int32) (h : am_Hp) : Option (Int32 × am_Hp) :=
  am_bi (f_X10_isSession N i1 h) (fun x2 h1 =>
  am_bi (f_X10_checks N x2 h1) (fun x4 h3 =>
  (if x4 = 0 then
    some ((0 : Int32), h3)
  else
    am_bi (f_X10_lengthOf N i2 h3) (fun x6 h5 =>
    (if x6 = 0 then
      some ((-1 : Int32), h5)
    else
      am_bi (f_X10_begins N i1 h5) (fun _ h7 =>
      l_X10_firstShowing_33 N N i1 i2 x6 (0 : Int32) h7))))))
def c_X10_firstShowing (N : Nat) : am_Cl := fun _ as h kk => am_sa as (fun z w0 => bif Nat.beq z 193 then am_s1 w0 (fun i1 w1 => am_s1 w1 (fun i2 w2 => am_st0 w2 (am_bi (f_X10_firstShowing N i1 i2 h) (fun v h => kk (am_oi v) h)))) else none)
def o_X10_firstShowing (N : Nat) : am_Orc := (am_oc 174 (c_X10_isSession N) (am_oc 178 (c_X10_checks N) (am_oc 202 (c_X10_lengthOf N) (am_oc 138 (c_X10_begins N) (am_oc 134 (c_X10_events N) (am_oc 203 (c_X10_shows N) (am_oc 143 (c_X10_comes N) am_o0)))))))
set_option maxRecDepth 100000 in
theorem tok_X10_firstShowing : am_tok 204 tX10_firstShowing := by
  unfold am_tok
  decide +kernel
set_option maxHeartbeats 4000000 in
set_option maxRecDepth 100000 in
theorem m_X10_firstShowing {l : Launch} {al : Nat → Nat} {dC : Nat → ClassId} {dI : Nat → Nat → Nat} {aC : Nat → ClassId} {aV : Nat → Nat} (hy : am_Hy l al) (N : Nat) (i1 : Int32) (i2 : Int32) (h : am_Hp) (r : (Int32 × am_Hp)) (hf : f_X10_firstShowing N i1 i2 h = some r) : am_Met l al dC dI aC aV 204 [.ref 193, .int i1, .int i2] h (am_oi r.1) r.2 :=
  am_met (tab := tX10_firstShowing) (orc := o_X10_firstShowing N) (ret := am_ri) (g := r) (by decide) (by decide) hy.1 hy.2 tok_X10_firstShowing (am_os1 (s_X10_isSession hy N) (am_os1 (s_X10_checks hy N) (am_os1 (s_X10_lengthOf hy N) (am_os1 (s_X10_begins hy N) (am_os1 (s_X10_events hy N) (am_os1 (s_X10_shows hy N) (am_os1 (s_X10_comes hy N) am_os0))))))) am_ri_inv (Nat.le_of_ble_eq_true rfl) (fun At cl wk => by
    have A33 : ∀ n : Nat, ∀ i1 : Int32, ∀ i2 : Int32, ∀ i3 : Int32, ∀ i4 : Int32, ∀ h, l_X10_firstShowing_33 N n i1 i2 i3 i4 h = some r → At 33 [(0, .ref 193), (1, .int i1), (2, .int i2), (3, .int i3), (4, .int i4)] [] h := by
      intro n
      induction n with
      | zero => intro i1 i2 i3 i4 h hr; cases hr
      | succ n ih =>
        intro i1 i2 i3 i4 h hr
        exact cl (am_C1 33 (fun ρ st h => am_lda ρ 0 (fun z => bif Nat.beq z 193 then am_ldi ρ 1 (fun i1 => am_ldi ρ 2 (fun i2 => am_ldi ρ 3 (fun i3 => am_ldi ρ 4 (fun i4 => am_st0 st (l_X10_firstShowing_33 N n i1 i2 i3 i4 h))))) else none)) am_C0) (am_c1 (fun ρ st h hc => by
        obtain ⟨z, m_a0, hc⟩ := am_lda_some hc
        obtain ⟨hz, hc⟩ := am_bif hc
        cases Nat.eq_of_beq_eq_true hz
        obtain ⟨i1, m_i1, hc⟩ := am_ldi_some hc
        obtain ⟨i2, m_i2, hc⟩ := am_ldi_some hc
        obtain ⟨i3, m_i3, hc⟩ := am_ldi_some hc
        obtain ⟨i4, m_i4, hc⟩ := am_ldi_some hc
        obtain ⟨rfl, hc⟩ := am_st0_some hc
        exact wk 33 ρ [(0, .ref 193), (1, .int i1), (2, .int i2), (3, .int i3), (4, .int i4)] _ h (am_m1 m_a0 (am_m1 m_i1 (am_m1 m_i2 (am_m1 m_i3 (am_m1 m_i4 am_m0))))) (ih i1 i2 i3 i4 h hc)) am_c0) 400 33 _ _ h hr
    exact cl (am_C1 33 (fun ρ st h => am_lda ρ 0 (fun z => bif Nat.beq z 193 then am_ldi ρ 1 (fun i1 => am_ldi ρ 2 (fun i2 => am_ldi ρ 3 (fun i3 => am_ldi ρ 4 (fun i4 => am_st0 st (l_X10_firstShowing_33 N N i1 i2 i3 i4 h))))) else none)) am_C0) (am_c1 (fun ρ st h hc => by
        obtain ⟨z, m_a0, hc⟩ := am_lda_some hc
        obtain ⟨hz, hc⟩ := am_bif hc
        cases Nat.eq_of_beq_eq_true hz
        obtain ⟨i1, m_i1, hc⟩ := am_ldi_some hc
        obtain ⟨i2, m_i2, hc⟩ := am_ldi_some hc
        obtain ⟨i3, m_i3, hc⟩ := am_ldi_some hc
        obtain ⟨i4, m_i4, hc⟩ := am_ldi_some hc
        obtain ⟨rfl, hc⟩ := am_st0_some hc
        exact wk 33 ρ [(0, .ref 193), (1, .int i1), (2, .int i2), (3, .int i3), (4, .int i4)] _ h (am_m1 m_a0 (am_m1 m_i1 (am_m1 m_i2 (am_m1 m_i3 (am_m1 m_i4 am_m0))))) (A33 N i1 i2 i3 i4 h hc)) am_c0) 400 0 _ _ h hf)
theorem s_X10_firstShowing {l : Launch} {al : Nat → Nat} {dC : Nat → ClassId} {dI : Nat → Nat → Nat} {aC : Nat → ClassId} {aV : Nat → Nat} (hy : am_Hy l al) (N : Nat) : am_CS l al dC dI aC aV 204 (c_X10_firstShowing N) := by
  intro γ as h kk g hc0
  obtain ⟨z0, w0, e_0, hcz0⟩ := am_sa_some hc0
  obtain ⟨hz0, hc1⟩ := am_bif hcz0
  cases Nat.eq_of_beq_eq_true hz0
  obtain ⟨i1, w1, e_1, hc2⟩ := am_s1_some hc1
  obtain ⟨i2, w2, e_2, hc3⟩ := am_s1_some hc2
  obtain ⟨e_3, hc⟩ := am_st0_some hc3
  subst e_3
  subst e_2
  subst e_1
  subst e_0
  obtain ⟨q, e1, e2⟩ := am_bi_some hc
  exact ⟨_, _, m_X10_firstShowing hy N i1 i2 h _ e1, e2⟩
