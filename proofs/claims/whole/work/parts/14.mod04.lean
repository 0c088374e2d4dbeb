def f_X10_place (N : Nat) (i1 : Int32) (i2 : Int32) (h : am_Hp) : Option (Int32 × am_Hp) :=
  (if i1 < 0 then
    some ((-1 : Int32), h)
  else
    (if (h 193 10) ≤ i1 then
      some ((-1 : Int32), h)
    else
      (if i2 < 0 then
        some ((-1 : Int32), h)
      else
        (if i2 < (h 193 9) then
          bif am_in (((16 : Int32) * i1) + i2) 96 then some (h 200 ((((16 : Int32) * i1) + i2).toNatClampNeg), h) else none
        else
          some ((-1 : Int32), h)))))
def c_X10_place (N : Nat) : am_Cl := fun _ as h kk => am_sa as (fun z w0 => bif Nat.beq z 193 then am_s1 w0 (fun i1 w1 => am_s1 w1 (fun i2 w2 => am_st0 w2 (am_bi (f_X10_place N i1 i2 h) (fun v h => kk (am_oi v) h)))) else none)
def o_X10_place (N : Nat) : am_Orc := am_o0
set_option maxRecDepth 100000 in
theorem tok_X10_place : am_tok 145 tX10_place := by
  unfold am_tok
  decide +kernel
set_option maxHeartbeats 4000000 in
set_option maxRecDepth 100000 in
theorem m_X10_place {l : Launch} {al : Nat → Nat} {dC : Nat → ClassId} {dI : Nat → Nat → Nat} {aC : Nat → ClassId} {aV : Nat → Nat} (hy : am_Hy l al) (N : Nat) (i1 : Int32) (i2 : Int32) (h : am_Hp) (r : (Int32 × am_Hp)) (hf : f_X10_place N i1 i2 h = some r) : am_Met l al dC dI aC aV 145 [.ref 193, .int i1, .int i2] h (am_oi r.1) r.2 :=
  am_met (tab := tX10_place) (orc := o_X10_place N) (ret := am_ri) (g := r) (by decide) (by decide) hy.1 hy.2 tok_X10_place am_os0 am_ri_inv (Nat.le_of_ble_eq_true rfl) (fun At cl wk => by
    skip
    exact cl am_C0 am_c0 400 0 _ _ h hf)
theorem s_X10_place {l : Launch} {al : Nat → Nat} {dC : Nat → ClassId} {dI : Nat → Nat → Nat} {aC : Nat → ClassId} {aV : Nat → Nat} (hy : am_Hy l al) (N : Nat) : am_CS l al dC dI aC aV 145 (c_X10_place N) := by
  intro γ as h kk g hc0
  obtain ⟨z0, w0, e_0, hcz0⟩ := am_sa_some hc0
  obtain ⟨hz0, hc1⟩ := am_bif hcz0
  cases Nat.eq_of_beq_eq_true hz0
  obtain ⟨i1, w1, e_1, hc2⟩ := am_s1_some hc1
  obtain ⟨i2, w2, e_2, hc3⟩ := am_s1_some hc2
  obtain ⟨e_3, hc⟩ := am_st0_some hc3
  subst e_3
  subst e_2
  subst e_1
  subst e_0
  obtain ⟨q, e1, e2⟩ := am_bi_some hc
  exact ⟨_, _, m_X10_place hy N i1 i2 h _ e1, e2⟩

def f_X10_hasCome (N : Nat) (i1 : Int32) (i2 : Int32) (i3 : Int32) (i4 : Int32) (i5 : Int32) (h : am_Hp) : Option (Int32 × am_Hp) :=
  am_bi (f_X10_ofE N i1 i3 (3 : Int32) h) (fun x2 h1 =>
  am_bi (f_X10_ofE N i1 i2 (3 : Int32) h1) (fun x4 h3 =>
  (if (i4 * i5) < ((x2 - x4) * (100 : Int32)) then
    if (0 : Int32) &&& 1 = (0 : Int32) then some ((0 : Int32), h3) else none
  else
    if (1 : Int32) &&& 1 = (1 : Int32) then some ((1 : Int32), h3) else none)))
def c_X10_hasCome (N : Nat) : am_Cl := fun _ as h kk => am_sa as (fun z w0 => bif Nat.beq z 193 then am_s1 w0 (fun i1 w1 => am_s1 w1 (fun i2 w2 => am_s1 w2 (fun i3 w3 => am_s1 w3 (fun i4 w4 => am_s1 w4 (fun i5 w5 => am_st0 w5 (am_bi (f_X10_hasCome N i1 i2 i3 i4 i5 h) (fun v h => kk (am_oi v) h))))))) else none)
def o_X10_hasCome (N : Nat) : am_Orc := (am_oc 133 (c_X10_ofE N) am_o0)
set_option maxRecDepth 100000 in
theorem tok_X10_hasCome : am_tok 146 tX10_hasCome := by
  unfold am_tok
  decide +kernel
set_option maxHeartbeats 4000000 in
set_option maxRecDepth 100000 in
theorem m_X10_hasCome {l : Launch} {al : Nat → Nat} {dC : Nat → ClassId} {dI : Nat → Nat → Nat} {aC : Nat → ClassId} {aV : Nat → Nat} (hy : am_Hy l al) (N : Nat) (i1 : Int32) (i2 : Int32) (i3 : Int32) (i4 : Int32) (i5 : Int32) (h : am_Hp) (r : (Int32 × am_Hp)) (hf : f_X10_hasCome N i1 i2 i3 i4 i5 h = some r) : am_Met l al dC dI aC aV 146 [.ref 193, .int i1, .int i2, .int i3, .int i4, .int i5] h (am_oi r.1) r.2 :=
  am_met (tab := tX10_hasCome) (orc := o_X10_hasCome N) (ret := am_ri) (g := r) (by decide) (by decide) hy.1 hy.2 tok_X10_hasCome (am_os1 (s_X10_ofE hy N) am_os0) am_ri_inv (Nat.le_of_ble_eq_true rfl) (fun At cl wk => by
    skip
    exact cl am_C0 am_c0 400 0 _ _ h hf)
theorem s_X10_hasCome {l : Launch} {al : Nat → Nat} {dC : Nat → ClassId} {dI : Nat → Nat → Nat} {aC : Nat → ClassId} {aV : Nat → Nat} (hy : am_Hy l al) (N : Nat) : am_CS l al dC dI aC aV 146 (c_X10_hasCome N) := by
  intro γ as h kk g hc0
  obtain ⟨z0, w0, e_0, hcz0⟩ := am_sa_some hc0
  obtain ⟨hz0, hc1⟩ := am_bif hcz0
  cases Nat.eq_of_beq_eq_true hz0
  obtain ⟨i1, w1, e_1, hc2⟩ := am_s1_some hc1
  obtain ⟨i2, w2, e_2, hc3⟩ := am_s1_some hc2
  obtain ⟨i3, w3, e_3, hc4⟩ := am_s1_some hc3
  obtain ⟨i4, w4, e_4, hc5⟩ := am_s1_some hc4
  obtain ⟨i5, w5, e_5, hc6⟩ := am_s1_some hc5
  obtain ⟨e_6, hc⟩ := am_st0_some hc6
  subst e_6
  subst e_5
  subst e_4
  subst e_3
  subst e_2
  subst e_1
  subst e_0
  obtain ⟨q, e1, e2⟩ := am_bi_some hc
  exact ⟨_, _, m_X10_hasCome hy N i1 i2 i3 i4 i5 h _ e1, e2⟩

def l_X10_positionOf_60 (N : Nat) : Nat → Int32 → Int32 → Int32 → Int32 → Int32 → am_Hp → Option (Int32 × am_Hp)
  | 0, _, _, _, _, _, _ => none
  | n + 1, i1, i2, i3, i4, i5, h =>
    am_bi (f_X10_events N i2 h) (fun x2 h1 =>
    (if x2 ≤ i3 then
      some (i3, h1)
    else
      am_bi (f_X10_ofU N i1 (6 : Int32) h1) (fun x4 h3 =>
      am_bi (f_X10_hasCome N i2 i4 i3 i5 x4 h3) (fun x6 h5 =>
      (if x6 = 0 then
        some (i3, h5)
      else
        l_X10_positionOf_60 N n i1 i2 (i3 + (1 : Int32)) i4 i5 h5)))))
def f_X10_positionOf (N : Nat) (i1 : Int32) (h : am_Hp) : Option (Int32 × am_Hp) :=
  am_bi (f_X10_ofU N i1 (3 : Int32) h) (fun x2 h1 =>
  am_bi (f_X10_ofU N i1 (4 : Int32) h1) (fun x4 h3 =>
  am_bi (f_X10_ofU N i1 (2 : Int32) h3) (fun x6 h5 =>
  (if x6 = (1 : Int32) then
    am_bi (f_X10_events N x2 h5) (fun x12 h11 =>
    some (x12, h11))
  else
    am_bi (f_X10_ofU N i1 (2 : Int32) h5) (fun x8 h7 =>
    (if x8 = (2 : Int32) then
      some (x4, h7)
    else
      bif am_in (2 : Int32) 6071 then am_bi (f_X10_ofU N i1 (5 : Int32) h7) (fun x10 h9 =>
      l_X10_positionOf_60 N N i1 x2 x4 x4 ((h7 197 2) - x10) h9) else none))))))
def c_X10_positionOf (N : Nat) : am_Cl := fun _ as h kk => am_sa as (fun z w0 => bif Nat.beq z 193 then am_s1 w0 (fun i1 w1 => am_st0 w1 (am_bi (f_X10_positionOf N i1 h) (fun v h => kk (am_oi v) h))) else none)
def o_X10_positionOf (N : Nat) : am_Orc := (am_oc 131 (c_X10_ofU N) (am_oc 134 (c_X10_events N) (am_oc 146 (c_X10_hasCome N) am_o0)))
set_option maxRecDepth 100000 in
theorem tok_X10_positionOf : am_tok 147 tX10_positionOf := by
  unfold am_tok
  decide +kernel
set_option maxHeartbeats 4000000 in
set_option maxRecDepth 100000 in
theorem m_X10_positionOf {l : Launch} {al : Nat → Nat} {dC : Nat → ClassId} {dI : Nat → Nat → Nat} {aC : Nat → ClassId} {aV : Nat → Nat} (hy : am_Hy l al) (N : Nat) (i1 : Int32) (h : am_Hp) (r : (Int32 × am_Hp)) (hf : f_X10_positionOf N i1 h = some r) : am_Met l al dC dI aC aV 147 [.ref 193, .int i1] h (am_oi r.1) r.2 :=
  am_met (tab := tX10_positionOf) (orc := o_X10_positionOf N) (ret := am_ri) (g := r) (by decide) (by decide) hy.1 hy.2 tok_X10_positionOf (am_os1 (s_X10_ofU hy N) (am_os1 (s_X10_events hy N) (am_os1 (s_X10_hasCome hy N) am_os0))) am_ri_inv (Nat.le_of_ble_eq_true rfl) (fun At cl wk => by
    have A60 : ∀ n : Nat, ∀ i1 : Int32, ∀ i2 : Int32, ∀ i3 : Int32, ∀ i4 : Int32, ∀ i5 : Int32, ∀ h, l_X10_positionOf_60 N n i1 i2 i3 i4 i5 h = some r → At 60 [(0, .ref 193), (1, .int i1), (2, .int i2), (3, .int i3), (4, .int i4), (5, .int i5)] [] h := by
      intro n
      induction n with
      | zero => intro i1 i2 i3 i4 i5 h hr; cases hr
      | succ n ih =>
        intro i1 i2 i3 i4 i5 h hr
        exact cl (am_C1 60 (fun ρ st h => am_lda ρ 0 (fun z => bif Nat.beq z 193 then am_ldi ρ 1 (fun i1 => am_ldi ρ 2 (fun i2 => am_ldi ρ 3 (fun i3 => am_ldi ρ 4 (fun i4 => am_ldi ρ 5 (fun i5 => am_st0 st (l_X10_positionOf_60 N n i1 i2 i3 i4 i5 h)))))) else none)) am_C0) (am_c1 (fun ρ st h hc => by
        obtain ⟨z, m_a0, hc⟩ := am_lda_some hc
        obtain ⟨hz, hc⟩ := am_bif hc
        cases Nat.eq_of_beq_eq_true hz
        obtain ⟨i1, m_i1, hc⟩ := am_ldi_some hc
        obtain ⟨i2, m_i2, hc⟩ := am_ldi_some hc
        obtain ⟨i3, m_i3, hc⟩ := am_ldi_some hc
        obtain ⟨i4, m_i4, hc⟩ := am_ldi_some hc
        obtain ⟨i5, m_i5, hc⟩ := am_ldi_some hc
        obtain ⟨rfl, hc⟩ := am_st0_some hc
        exact wk 60 ρ [(0, .ref 193), (1, .int i1), (2, .int i2), (3, .int i3), (4, .int i4), (5, .int i5)] _ h (am_m1 m_a0 (am_m1 m_i1 (am_m1 m_i2 (am_m1 m_i3 (am_m1 m_i4 (am_m1 m_i5 am_m0)))))) (ih i1 i2 i3 i4 i5 h hc)) am_c0) 400 60 _ _ h hr
    exact cl (am_C1 60 (fun ρ st h => am_lda ρ 0 (fun z => bif Nat.beq z 193 then am_ldi ρ 1 (fun i1 => am_ldi ρ 2 (fun i2 => am_ldi ρ 3 (fun i3 => am_ldi ρ 4 (fun i4 => am_ldi ρ 5 (fun i5 => am_st0 st (l_X10_positionOf_60 N N i1 i2 i3 i4 i5 h)))))) else none)) am_C0) (am_c1 (fun ρ st h hc => by
        obtain ⟨z, m_a0, hc⟩ := am_lda_some hc
        obtain ⟨hz, hc⟩ := am_bif hc
        cases Nat.eq_of_beq_eq_true hz
        obtain ⟨i1, m_i1, hc⟩ := am_ldi_some hc
        obtain ⟨i2, m_i2, hc⟩ := am_ldi_some hc
        obtain ⟨i3, m_i3, hc⟩ := am_ldi_some hc
        obtain ⟨i4, m_i4, hc⟩ := am_ldi_some hc
        obtain ⟨i5, m_i5, hc⟩ := am_ldi_some hc
        obtain ⟨rfl, hc⟩ := am_st0_some hc
        exact wk 60 ρ [(0, .ref 193), (1, .int i1), (2, .int i2), (3, .int i3), (4, .int i4), (5, .int i5)] _ h (am_m1 m_a0 (am_m1 m_i1 (am_m1 m_i2 (am_m1 m_i3 (am_m1 m_i4 (am_m1 m_i5 am_m0)))))) (A60 N i1 i2 i3 i4 i5 h hc)) am_c0) 400 0 _ _ h hf)
theorem s_X10_positionOf {l : Launch} {al : Nat → Nat} {dC : Nat → ClassId} {dI : Nat → Nat → Nat} {aC : Nat → ClassId} {aV : Nat → Nat} (hy : am_Hy l al) (N : Nat) : am_CS l al dC dI aC aV 147 (c_X10_positionOf N) := by
  intro γ as h kk g hc0
  obtain ⟨z0, w0, e_0, hcz0⟩ := am_sa_some hc0
  obtain ⟨hz0, hc1⟩ := am_bif hcz0
  cases Nat.eq_of_beq_eq_true hz0
  obtain ⟨i1, w1, e_1, hc2⟩ := am_s1_some hc1
  obtain ⟨e_2, hc⟩ := am_st0_some hc2
  subst e_2
  subst e_1
  subst e_0
  obtain ⟨q, e1, e2⟩ := am_bi_some hc
  exact ⟨_, _, m_X10_positionOf hy N i1 h _ e1, e2⟩

def f_X10_records (N : Nat) (i1 : Int32) (i2 : Int32) (i3 : Int32) (i4 : Int32) (i5 : Int32) (h : am_Hp) : Option (Unit × am_Hp) :=
  am_bi (f_X10_events N i1 h) (fun x2 h1 =>
  am_bi (f_X10_setS N i1 (((4 : Int32) + ((5 : Int32) * x2)) + (0 : Int32)) i2 h1) (fun _ h3 =>
  am_bi (f_X10_setS N i1 (((4 : Int32) + ((5 : Int32) * x2)) + (1 : Int32)) i3 h3) (fun _ h4 =>
  am_bi (f_X10_setS N i1 (((4 : Int32) + ((5 : Int32) * x2)) + (2 : Int32)) i4 h4) (fun _ h5 =>
  bif am_in (2 : Int32) 6071 then am_bi (f_X10_setS N i1 (((4 : Int32) + ((5 : Int32) * x2)) + (3 : Int32)) (h5 197 2) h5) (fun _ h6 =>
  am_bi (f_X10_setS N i1 (((4 : Int32) + ((5 : Int32) * x2)) + (4 : Int32)) i5 h6) (fun _ h7 =>
  am_bi (f_X10_events N i1 h7) (fun x9 h8 =>
  am_bi (f_X10_setS N i1 (0 : Int32) (x9 + (1 : Int32)) h8) (fun _ h10 =>
  some ((), h10))))) else none))))
def c_X10_records (N : Nat) : am_Cl := fun _ as h kk => am_sa as (fun z w0 => bif Nat.beq z 193 then am_s1 w0 (fun i1 w1 => am_s1 w1 (fun i2 w2 => am_s1 w2 (fun i3 w3 => am_s1 w3 (fun i4 w4 => am_s1 w4 (fun i5 w5 => am_st0 w5 (am_bi (f_X10_records N i1 i2 i3 i4 i5 h) (fun v h => kk (am_ov v) h))))))) else none)
def o_X10_records (N : Nat) : am_Orc := (am_oc 134 (c_X10_events N) (am_oc 130 (c_X10_setS N) am_o0))
set_option maxRecDepth 100000 in
theorem tok_X10_records : am_tok 148 tX10_records := by
  unfold am_tok
  decide +kernel
set_option maxHeartbeats 4000000 in
set_option maxRecDepth 100000 in
theorem m_X10_records {l : Launch} {al : Nat → Nat} {dC : Nat → ClassId} {dI : Nat → Nat → Nat} {aC : Nat → ClassId} {aV : Nat → Nat} (hy : am_Hy l al) (N : Nat) (i1 : Int32) (i2 : Int32) (i3 : Int32) (i4 : Int32) (i5 : Int32) (h : am_Hp) (r : (Unit × am_Hp)) (hf : f_X10_records N i1 i2 i3 i4 i5 h = some r) : am_Met l al dC dI aC aV 148 [.ref 193, .int i1, .int i2, .int i3, .int i4, .int i5] h (am_ov r.1) r.2 :=
  am_met (tab := tX10_records) (orc := o_X10_records N) (ret := am_rv) (g := r) (by decide) (by decide) hy.1 hy.2 tok_X10_records (am_os1 (s_X10_events hy N) (am_os1 (s_X10_setS hy N) am_os0)) am_rv_inv (Nat.le_of_ble_eq_true rfl) (fun At cl wk => by
    skip
    exact cl am_C0 am_c0 400 0 _ _ h hf)
theorem s_X10_records {l : Launch} {al : Nat → Nat} {dC : Nat → ClassId} {dI : Nat → Nat → Nat} {aC : Nat → ClassId} {aV : Nat → Nat} (hy : am_Hy l al) (N : Nat) : am_CS l al dC dI aC aV 148 (c_X10_records N) := by
  intro γ as h kk g hc0
  obtain ⟨z0, w0, e_0, hcz0⟩ := am_sa_some hc0
  obtain ⟨hz0, hc1⟩ := am_bif hcz0
  cases Nat.eq_of_beq_eq_true hz0
  obtain ⟨i1, w1, e_1, hc2⟩ := am_s1_some hc1
  obtain ⟨i2, w2, e_2, hc3⟩ := am_s1_some hc2
  obtain ⟨i3, w3, e_3, hc4⟩ := am_s1_some hc3
  obtain ⟨i4, w4, e_4, hc5⟩ := am_s1_some hc4
  obtain ⟨i5, w5, e_5, hc6⟩ := am_s1_some hc5
  obtain ⟨e_6, hc⟩ := am_st0_some hc6
  subst e_6
  subst e_5
  subst e_4
  subst e_3
  subst e_2
  subst e_1
  subst e_0
  obtain ⟨q, e1, e2⟩ := am_bi_some hc
  exact ⟨_, _, m_X10_records hy N i1 i2 i3 i4 i5 h _ e1, e2⟩
