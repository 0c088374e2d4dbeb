def f_X9_yield (N : Nat) (i1 : Int32) (h : am_Hp) : Option (Option Int32 × am_Hp) :=
  am_bi (f_X8_has N 19 i1 h) (fun x2 h1 =>
  (if x2 = 0 then
    some (some (-2 : Int32), h1)
  else
    am_bt (f_X9_seatOf N i1 h1) (fun h3 => some (none, h3)) (fun b4 h3 => am_bt (f_X9_controlsItsSession N i1 b4 h3) (fun h5 => some (none, h5)) (fun x6 h5 => (if x6 = 0 then
      some (some (-4 : Int32), h5)
    else
      am_bi (f_X2_keep N 24 h5) (fun _ h7 =>
      bif am_isO b4 5 then am_bt (f_X9_deskOf N (h7 b4 3) h7) (fun h8 => some (none, h8)) (fun b9 h8 => bif am_isO b9 0 then am_bi (f_X0_handOver N b9 h8) (fun _ h10 =>
      am_bt (f_X9_recordRightSizes N h10) (fun h11 => some (none, h11)) (fun _ h11 => bif am_isO b9 0 then some (some (h11 b9 1), h11) else none)) else none) else none))))))
def c_X9_yield (N : Nat) : am_Cl := fun _ as h kk => am_sa as (fun z w0 => bif Nat.beq z 0 then am_s1 w0 (fun i1 w1 => am_st0 w1 (am_bt (f_X9_yield N i1 h) (fun h => kk none h) (fun v h => kk (am_oi v) h))) else none)
def o_X9_yield (N : Nat) : am_Orc := (am_oc 51 (c_X8_has N) (am_oc 87 (c_X9_seatOf N) (am_oc 99 (c_X9_controlsItsSession N) (am_oc 14 (c_X2_keep N) (am_oc 85 (c_X9_deskOf N) (am_oc 5 (c_X0_handOver N) (am_oc 96 (c_X9_recordRightSizes N) am_o0)))))))
set_option maxRecDepth 100000 in
theorem tok_X9_yield : am_tok 80 tX9_yield := by
  unfold am_tok
  decide +kernel
set_option maxHeartbeats 4000000 in
set_option maxRecDepth 100000 in
theorem m_X9_yield {l : Launch} {al : Nat → Nat} {dC : Nat → ClassId} {dI : Nat → Nat → Nat} {aC : Nat → ClassId} {aV : Nat → Nat} (hy : am_Hy l al) (N : Nat) (i1 : Int32) (h : am_Hp) (r : (Option Int32 × am_Hp)) (hf : f_X9_yield N i1 h = some r) : am_Met l al dC dI aC aV 80 [.ref 0, .int i1] h (am_ot am_oi r.1) r.2 :=
  am_met (tab := tX9_yield) (orc := o_X9_yield N) (ret := am_ti) (g := r) (by decide) (by decide) hy.1 hy.2 tok_X9_yield (am_os1 (s_X8_has hy N) (am_os1 (s_X9_seatOf hy N) (am_os1 (s_X9_controlsItsSession hy N) (am_os1 (s_X2_keep hy N) (am_os1 (s_X9_deskOf hy N) (am_os1 (s_X0_handOver hy N) (am_os1 (s_X9_recordRightSizes hy N) am_os0))))))) am_ti_inv (Nat.le_of_ble_eq_true rfl) (fun At cl wk => by
    skip
    exact cl am_C0 am_c0 400 0 _ _ h hf)
theorem s_X9_yield {l : Launch} {al : Nat → Nat} {dC : Nat → ClassId} {dI : Nat → Nat → Nat} {aC : Nat → ClassId} {aV : Nat → Nat} (hy : am_Hy l al) (N : Nat) : am_CS l al dC dI aC aV 80 (c_X9_yield N) := by
  intro γ as h kk g hc0
  obtain ⟨z0, w0, e_0, hcz0⟩ := am_sa_some hc0
  obtain ⟨hz0, hc1⟩ := am_bif hcz0
  cases Nat.eq_of_beq_eq_true hz0
  obtain ⟨i1, w1, e_1, hc2⟩ := am_s1_some hc1
  obtain ⟨e_2, hc⟩ := am_st0_some hc2
  subst e_2
  subst e_1
  subst e_0
  rcases am_bt_some hc with ⟨h1, e1, e2⟩ | ⟨v, h1, e1, e2⟩
  · exact ⟨_, _, m_X9_yield hy N i1 h _ e1, e2⟩
  · exact ⟨_, _, m_X9_yield hy N i1 h _ e1, e2⟩

def l_X9_grantOldRequests_4 (N : Nat) : Nat → Int32 → Int32 → am_Hp → Option (Option Int32 × am_Hp)
  | 0, _, _, _ => none
  | n + 1, i1, i2, h =>
    (if (h 15 4) ≤ i2 then
      some (some i1, h)
    else
      am_bt (f_X9_deskOf N i2 h) (fun h1 => some (none, h1)) (fun b2 h1 => bif am_isO b2 0 then (if (h1 b2 2) = (-1 : Int32) then
        l_X9_grantOldRequests_4 N n i1 (i2 + (1 : Int32)) h1
      else
        bif am_isO b2 0 then bif am_in (0 : Int32) 2 then (if ((h1 24 0) - (h1 b2 3)) < (h1 25 0) then
          l_X9_grantOldRequests_4 N n i1 (i2 + (1 : Int32)) h1
        else
          bif am_isO b2 0 then am_bi (f_X0_handOver N b2 h1) (fun _ h3 =>
          bif am_in (2 : Int32) 4 then bif am_in (2 : Int32) 4 then (let h4 := am_pi h3 26 2 ((h3 26 2) + (1 : Int32))
          l_X9_grantOldRequests_4 N n (i1 + (1 : Int32)) (i2 + (1 : Int32)) h4) else none else none) else none) else none else none) else none))
def f_X9_grantOldRequests (N : Nat)  (h : am_Hp) : Option (Option Int32 × am_Hp) :=
  l_X9_grantOldRequests_4 N N (0 : Int32) (0 : Int32) h
def c_X9_grantOldRequests (N : Nat) : am_Cl := fun _ as h kk => am_sa as (fun z w0 => bif Nat.beq z 0 then am_st0 w0 (am_bt (f_X9_grantOldRequests N  h) (fun h => kk none h) (fun v h => kk (am_oi v) h)) else none)
def o_X9_grantOldRequests (N : Nat) : am_Orc := (am_oc 85 (c_X9_deskOf N) (am_oc 5 (c_X0_handOver N) am_o0))
set_option maxRecDepth 100000 in
theorem tok_X9_grantOldRequests : am_tok 101 tX9_grantOldRequests := by
  unfold am_tok
  decide +kernel
set_option maxHeartbeats 4000000 in
set_option maxRecDepth 100000 in
theorem m_X9_grantOldRequests {l : Launch} {al : Nat → Nat} {dC : Nat → ClassId} {dI : Nat → Nat → Nat} {aC : Nat → ClassId} {aV : Nat → Nat} (hy : am_Hy l al) (N : Nat)  (h : am_Hp) (r : (Option Int32 × am_Hp)) (hf : f_X9_grantOldRequests N  h = some r) : am_Met l al dC dI aC aV 101 [.ref 0] h (am_ot am_oi r.1) r.2 :=
  am_met (tab := tX9_grantOldRequests) (orc := o_X9_grantOldRequests N) (ret := am_ti) (g := r) (by decide) (by decide) hy.1 hy.2 tok_X9_grantOldRequests (am_os1 (s_X9_deskOf hy N) (am_os1 (s_X0_handOver hy N) am_os0)) am_ti_inv (Nat.le_of_ble_eq_true rfl) (fun At cl wk => by
    have A4 : ∀ n : Nat, ∀ i1 : Int32, ∀ i2 : Int32, ∀ h, l_X9_grantOldRequests_4 N n i1 i2 h = some r → At 4 [(0, .ref 0), (1, .int i1), (2, .int i2)] [] h := by
      intro n
      induction n with
      | zero => intro i1 i2 h hr; cases hr
      | succ n ih =>
        intro i1 i2 h hr
        exact cl (am_C1 4 (fun ρ st h => am_lda ρ 0 (fun z => bif Nat.beq z 0 then am_ldi ρ 1 (fun i1 => am_ldi ρ 2 (fun i2 => am_st0 st (l_X9_grantOldRequests_4 N n i1 i2 h))) else none)) am_C0) (am_c1 (fun ρ st h hc => by
        obtain ⟨z, m_a0, hc⟩ := am_lda_some hc
        obtain ⟨hz, hc⟩ := am_bif hc
        cases Nat.eq_of_beq_eq_true hz
        obtain ⟨i1, m_i1, hc⟩ := am_ldi_some hc
        obtain ⟨i2, m_i2, hc⟩ := am_ldi_some hc
        obtain ⟨rfl, hc⟩ := am_st0_some hc
        exact wk 4 ρ [(0, .ref 0), (1, .int i1), (2, .int i2)] _ h (am_m1 m_a0 (am_m1 m_i1 (am_m1 m_i2 am_m0))) (ih i1 i2 h hc)) am_c0) 400 4 _ _ h hr
    exact cl (am_C1 4 (fun ρ st h => am_lda ρ 0 (fun z => bif Nat.beq z 0 then am_ldi ρ 1 (fun i1 => am_ldi ρ 2 (fun i2 => am_st0 st (l_X9_grantOldRequests_4 N N i1 i2 h))) else none)) am_C0) (am_c1 (fun ρ st h hc => by
        obtain ⟨z, m_a0, hc⟩ := am_lda_some hc
        obtain ⟨hz, hc⟩ := am_bif hc
        cases Nat.eq_of_beq_eq_true hz
        obtain ⟨i1, m_i1, hc⟩ := am_ldi_some hc
        obtain ⟨i2, m_i2, hc⟩ := am_ldi_some hc
        obtain ⟨rfl, hc⟩ := am_st0_some hc
        exact wk 4 ρ [(0, .ref 0), (1, .int i1), (2, .int i2)] _ h (am_m1 m_a0 (am_m1 m_i1 (am_m1 m_i2 am_m0))) (A4 N i1 i2 h hc)) am_c0) 400 0 _ _ h hf)
theorem s_X9_grantOldRequests {l : Launch} {al : Nat → Nat} {dC : Nat → ClassId} {dI : Nat → Nat → Nat} {aC : Nat → ClassId} {aV : Nat → Nat} (hy : am_Hy l al) (N : Nat) : am_CS l al dC dI aC aV 101 (c_X9_grantOldRequests N) := by
  intro γ as h kk g hc0
  obtain ⟨z0, w0, e_0, hcz0⟩ := am_sa_some hc0
  obtain ⟨hz0, hc1⟩ := am_bif hcz0
  cases Nat.eq_of_beq_eq_true hz0
  obtain ⟨e_1, hc⟩ := am_st0_some hc1
  subst e_1
  subst e_0
  rcases am_bt_some hc with ⟨h1, e1, e2⟩ | ⟨v, h1, e1, e2⟩
  · exact ⟨_, _, m_X9_grantOldRequests hy N  h _ e1, e2⟩
  · exact ⟨_, _, m_X9_grantOldRequests hy N  h _ e1, e2⟩

def l_X9_pass_48 (N : Nat) : Nat → Int32 → Int32 → Int32 → am_Hp → Option (Option Int32 × am_Hp)
  | 0, _, _, _, _ => none
  | n + 1, i1, i2, i3, h =>
    (if i1 ≤ i3 then
      am_bt (f_X9_recordRightSizes N h) (fun h1 => some (none, h1)) (fun _ h1 => some (some i2, h1))
    else
      let h2 := am_pi h 24 0 ((h 24 0) + (1 : Int32))
      am_bt (f_X9_grantOldRequests N h2) (fun h3 => some (none, h3)) (fun x4 h3 => l_X9_pass_48 N n i1 (i2 + x4) (i3 + (1 : Int32)) h3))
def f_X9_pass (N : Nat) (i1 : Int32) (h : am_Hp) : Option (Option Int32 × am_Hp) :=
  (if i1 < (1 : Int32) then
    some (some (-2 : Int32), h)
  else
    (if i1 ≤ (500 : Int32) then
      (if ((h 24 0) + i1) ≤ (9999 : Int32) then
        am_bi (f_X2_keep N 24 h) (fun _ h1 =>
        l_X9_pass_48 N N i1 (0 : Int32) (0 : Int32) h1)
      else
        some (some (-3 : Int32), h))
    else
      some (some (-2 : Int32), h)))
def c_X9_pass (N : Nat) : am_Cl := fun _ as h kk => am_sa as (fun z w0 => bif Nat.beq z 0 then am_s1 w0 (fun i1 w1 => am_st0 w1 (am_bt (f_X9_pass N i1 h) (fun h => kk none h) (fun v h => kk (am_oi v) h))) else none)
def o_X9_pass (N : Nat) : am_Orc := (am_oc 14 (c_X2_keep N) (am_oc 101 (c_X9_grantOldRequests N) (am_oc 96 (c_X9_recordRightSizes N) am_o0)))
set_option maxRecDepth 100000 in
theorem tok_X9_pass : am_tok 81 tX9_pass := by
  unfold am_tok
  decide +kernel
set_option maxHeartbeats 4000000 in
set_option maxRecDepth 100000 in
theorem m_X9_pass {l : Launch} {al : Nat → Nat} {dC : Nat → ClassId} {dI : Nat → Nat → Nat} {aC : Nat → ClassId} {aV : Nat → Nat} (hy : am_Hy l al) (N : Nat) (i1 : Int32) (h : am_Hp) (r : (Option Int32 × am_Hp)) (hf : f_X9_pass N i1 h = some r) : am_Met l al dC dI aC aV 81 [.ref 0, .int i1] h (am_ot am_oi r.1) r.2 :=
  am_met (tab := tX9_pass) (orc := o_X9_pass N) (ret := am_ti) (g := r) (by decide) (by decide) hy.1 hy.2 tok_X9_pass (am_os1 (s_X2_keep hy N) (am_os1 (s_X9_grantOldRequests hy N) (am_os1 (s_X9_recordRightSizes hy N) am_os0))) am_ti_inv (Nat.le_of_ble_eq_true rfl) (fun At cl wk => by
    have A48 : ∀ n : Nat, ∀ i1 : Int32, ∀ i2 : Int32, ∀ i3 : Int32, ∀ h, l_X9_pass_48 N n i1 i2 i3 h = some r → At 48 [(0, .ref 0), (1, .int i1), (2, .int i2), (3, .int i3)] [] h := by
      intro n
      induction n with
      | zero => intro i1 i2 i3 h hr; cases hr
      | succ n ih =>
        intro i1 i2 i3 h hr
        exact cl (am_C1 48 (fun ρ st h => am_lda ρ 0 (fun z => bif Nat.beq z 0 then am_ldi ρ 1 (fun i1 => am_ldi ρ 2 (fun i2 => am_ldi ρ 3 (fun i3 => am_st0 st (l_X9_pass_48 N n i1 i2 i3 h)))) else none)) am_C0) (am_c1 (fun ρ st h hc => by
        obtain ⟨z, m_a0, hc⟩ := am_lda_some hc
        obtain ⟨hz, hc⟩ := am_bif hc
        cases Nat.eq_of_beq_eq_true hz
        obtain ⟨i1, m_i1, hc⟩ := am_ldi_some hc
        obtain ⟨i2, m_i2, hc⟩ := am_ldi_some hc
        obtain ⟨i3, m_i3, hc⟩ := am_ldi_some hc
        obtain ⟨rfl, hc⟩ := am_st0_some hc
        exact wk 48 ρ [(0, .ref 0), (1, .int i1), (2, .int i2), (3, .int i3)] _ h (am_m1 m_a0 (am_m1 m_i1 (am_m1 m_i2 (am_m1 m_i3 am_m0)))) (ih i1 i2 i3 h hc)) am_c0) 400 48 _ _ h hr
    exact cl (am_C1 48 (fun ρ st h => am_lda ρ 0 (fun z => bif Nat.beq z 0 then am_ldi ρ 1 (fun i1 => am_ldi ρ 2 (fun i2 => am_ldi ρ 3 (fun i3 => am_st0 st (l_X9_pass_48 N N i1 i2 i3 h)))) else none)) am_C0) (am_c1 (fun ρ st h hc => by
        obtain ⟨z, m_a0, hc⟩ := am_lda_some hc
        obtain ⟨hz, hc⟩ := am_bif hc
        cases Nat.eq_of_beq_eq_true hz
        obtain ⟨i1, m_i1, hc⟩ := am_ldi_some hc
        obtain ⟨i2, m_i2, hc⟩ := am_ldi_some hc
        obtain ⟨i3, m_i3, hc⟩ := am_ldi_some hc
        obtain ⟨rfl, hc⟩ := am_st0_some hc
        exact wk 48 ρ [(0, .ref 0), (1, .int i1), (2, .int i2), (3, .int i3)] _ h (am_m1 m_a0 (am_m1 m_i1 (am_m1 m_i2 (am_m1 m_i3 am_m0)))) (A48 N i1 i2 i3 h hc)) am_c0) 400 0 _ _ h hf)
theorem s_X9_pass {l : Launch} {al : Nat → Nat} {dC : Nat → ClassId} {dI : Nat → Nat → Nat} {aC : Nat → ClassId} {aV : Nat → Nat} (hy : am_Hy l al) (N : Nat) : am_CS l al dC dI aC aV 81 (c_X9_pass N) := by
  intro γ as h kk g hc0
  obtain ⟨z0, w0, e_0, hcz0⟩ := am_sa_some hc0
  obtain ⟨hz0, hc1⟩ := am_bif hcz0
  cases Nat.eq_of_beq_eq_true hz0
  obtain ⟨i1, w1, e_1, hc2⟩ := am_s1_some hc1
  obtain ⟨e_2, hc⟩ := am_st0_some hc2
  subst e_2
  subst e_1
  subst e_0
  rcases am_bt_some hc with ⟨h1, e1, e2⟩ | ⟨v, h1, e1, e2⟩
  · exact ⟨_, _, m_X9_pass hy N i1 h _ e1, e2⟩
  · exact ⟨_, _, m_X9_pass hy N i1 h _ e1, e2⟩

def f_X9_setSetting (N : Nat) (i1 : Int32) (i2 : Int32) (h : am_Hp) : Option (Option Int32 × am_Hp) :=
  (if i1 < 0 then
    some (some (-2 : Int32), h)
  else
    (if (2 : Int32) ≤ i1 then
      some (some (-2 : Int32), h)
    else
      bif am_in i1 2 then (if i2 < (am_sx 206 i1.toNatClampNeg) then
        some (some (-2 : Int32), h)
      else
        bif am_in i1 2 then (if i2 ≤ (am_sx 207 i1.toNatClampNeg) then
          am_bi (f_X2_keep N 24 h) (fun _ h1 =>
          bif am_in i1 2 then bif am_in i1 2 then (let h2 := am_pi h1 25 i1.toNatClampNeg i2
          am_bt (f_X9_recordRightSizes N h2) (fun h3 => some (none, h3)) (fun _ h3 => some (some (h1 25 i1.toNatClampNeg), h3))) else none else none)
        else
          some (some (-2 : Int32), h)) else none) else none))
def c_X9_setSetting (N : Nat) : am_Cl := fun _ as h kk => am_sa as (fun z w0 => bif Nat.beq z 0 then am_s1 w0 (fun i1 w1 => am_s1 w1 (fun i2 w2 => am_st0 w2 (am_bt (f_X9_setSetting N i1 i2 h) (fun h => kk none h) (fun v h => kk (am_oi v) h)))) else none)
def o_X9_setSetting (N : Nat) : am_Orc := (am_oc 14 (c_X2_keep N) (am_oc 96 (c_X9_recordRightSizes N) am_o0))
set_option maxRecDepth 100000 in
theorem tok_X9_setSetting : am_tok 82 tX9_setSetting := by
  unfold am_tok
  decide +kernel
set_option maxHeartbeats 4000000 in
set_option maxRecDepth 100000 in
theorem m_X9_setSetting {l : Launch} {al : Nat → Nat} {dC : Nat → ClassId} {dI : Nat → Nat → Nat} {aC : Nat → ClassId} {aV : Nat → Nat} (hy : am_Hy l al) (N : Nat) (i1 : Int32) (i2 : Int32) (h : am_Hp) (r : (Option Int32 × am_Hp)) (hf : f_X9_setSetting N i1 i2 h = some r) : am_Met l al dC dI aC aV 82 [.ref 0, .int i1, .int i2] h (am_ot am_oi r.1) r.2 :=
  am_met (tab := tX9_setSetting) (orc := o_X9_setSetting N) (ret := am_ti) (g := r) (by decide) (by decide) hy.1 hy.2 tok_X9_setSetting (am_os1 (s_X2_keep hy N) (am_os1 (s_X9_recordRightSizes hy N) am_os0)) am_ti_inv (Nat.le_of_ble_eq_true rfl) (fun At cl wk => by
    skip
    exact cl am_C0 am_c0 400 0 _ _ h hf)
theorem s_X9_setSetting {l : Launch} {al : Nat → Nat} {dC : Nat → ClassId} {dI : Nat → Nat → Nat} {aC : Nat → ClassId} {aV : Nat → Nat} (hy : am_Hy l al) (N : Nat) : am_CS l al dC dI aC aV 82 (c_X9_setSetting N) := by
  intro γ as h kk g hc0
  obtain ⟨z0, w0, e_0, hcz0⟩ := am_sa_some hc0
  obtain ⟨hz0, hc1⟩ := am_bif hcz0
  cases Nat.eq_of_beq_eq_true hz0
  obtain ⟨i1, w1, e_1, hc2⟩ := am_s1_some hc1
  obtain ⟨i2, w2, e_2, hc3⟩ := am_s1_some hc2
  obtain ⟨e_3, hc⟩ := am_st0_some hc3
  subst e_3
  subst e_2
  subst e_1
  subst e_0
  rcases am_bt_some hc with ⟨h1, e1, e2⟩ | ⟨v, h1, e1, e2⟩
  · exact ⟨_, _, m_X9_setSetting hy N i1 i2 h _ e1, e2⟩
  · exact ⟨_, _, m_X9_setSetting hy N i1 i2 h _ e1, e2⟩
