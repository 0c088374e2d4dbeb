def f_X9_sizeThatIsRight (N : Nat) (i1 : Int32) (i2 : Int32) (h : am_Hp) : Option (Option Int32 × am_Hp) :=
  bif am_in (1 : Int32) 2 then (if (h 25 1) = 0 then
    (if (-1 : Int32) = (-1 : Int32) then
      am_bi (f_X8_sizeOf N 15 i1 i2 h) (fun x14 h13 =>
      some (some x14, h13))
    else
      am_bt (f_X9_seatOf N (-1 : Int32) h) (fun h9 => some (none, h9)) (fun b10 h9 => bif am_isO b10 5 then am_bi (f_X5_windowSize N b10 i2 h9) (fun x12 h11 =>
      some (some x12, h11)) else none))
  else
    am_bt (f_X9_userWithLeastWindow N i1 i2 h) (fun h1 => some (none, h1)) (fun x2 h1 => (if x2 = (-1 : Int32) then
      am_bi (f_X8_sizeOf N 15 i1 i2 h1) (fun x8 h7 =>
      some (some x8, h7))
    else
      am_bt (f_X9_seatOf N x2 h1) (fun h3 => some (none, h3)) (fun b4 h3 => bif am_isO b4 5 then am_bi (f_X5_windowSize N b4 i2 h3) (fun x6 h5 =>
      some (some x6, h5)) else none)))) else none
def c_X9_sizeThatIsRight (N : Nat) : am_Cl := fun _ as h kk => am_sa as (fun z w0 => bif Nat.beq z 0 then am_s1 w0 (fun i1 w1 => am_s1 w1 (fun i2 w2 => am_st0 w2 (am_bt (f_X9_sizeThatIsRight N i1 i2 h) (fun h => kk none h) (fun v h => kk (am_oi v) h)))) else none)
def o_X9_sizeThatIsRight (N : Nat) : am_Orc := (am_oc 94 (c_X9_userWithLeastWindow N) (am_oc 54 (c_X8_sizeOf N) (am_oc 87 (c_X9_seatOf N) (am_oc 37 (c_X5_windowSize N) am_o0))))
set_option maxRecDepth 100000 in
theorem tok_X9_sizeThatIsRight : am_tok 95 tX9_sizeThatIsRight := by
  unfold am_tok
  decide +kernel
set_option maxHeartbeats 4000000 in
set_option maxRecDepth 100000 in
theorem m_X9_sizeThatIsRight {l : Launch} {al : Nat → Nat} {dC : Nat → ClassId} {dI : Nat → Nat → Nat} {aC : Nat → ClassId} {aV : Nat → Nat} (hy : am_Hy l al) (N : Nat) (i1 : Int32) (i2 : Int32) (h : am_Hp) (r : (Option Int32 × am_Hp)) (hf : f_X9_sizeThatIsRight N i1 i2 h = some r) : am_Met l al dC dI aC aV 95 [.ref 0, .int i1, .int i2] h (am_ot am_oi r.1) r.2 :=
  am_met (tab := tX9_sizeThatIsRight) (orc := o_X9_sizeThatIsRight N) (ret := am_ti) (g := r) (by decide) (by decide) hy.1 hy.2 tok_X9_sizeThatIsRight (am_os1 (s_X9_userWithLeastWindow hy N) (am_os1 (s_X8_sizeOf hy N) (am_os1 (s_X9_seatOf hy N) (am_os1 (s_X5_windowSize hy N) am_os0)))) am_ti_inv (Nat.le_of_ble_eq_true rfl) (fun At cl wk => by
    skip
    exact cl am_C0 am_c0 400 0 _ _ h hf)
theorem s_X9_sizeThatIsRight {l : Launch} {al : Nat → Nat} {dC : Nat → ClassId} {dI : Nat → Nat → Nat} {aC : Nat → ClassId} {aV : Nat → Nat} (hy : am_Hy l al) (N : Nat) : am_CS l al dC dI aC aV 95 (c_X9_sizeThatIsRight N) := by
  intro γ as h kk g hc0
  obtain ⟨z0, w0, e_0, hcz0⟩ := am_sa_some hc0
  obtain ⟨hz0, hc1⟩ := am_bif hcz0
  cases Nat.eq_of_beq_eq_true hz0
  obtain ⟨i1, w1, e_1, hc2⟩ := am_s1_some hc1
  obtain ⟨i2, w2, e_2, hc3⟩ := am_s1_some hc2
  obtain ⟨e_3, hc⟩ := am_st0_some hc3
  subst e_3
  subst e_2
  subst e_1
  subst e_0
  rcases am_bt_some hc with ⟨h1, e1, e2⟩ | ⟨v, h1, e1, e2⟩
  · exact ⟨_, _, m_X9_sizeThatIsRight hy N i1 i2 h _ e1, e2⟩
  · exact ⟨_, _, m_X9_sizeThatIsRight hy N i1 i2 h _ e1, e2⟩

def l_X9_lastSize_18 (N : Nat) : Nat → Int32 → Int32 → Nat → Int32 → am_Hp → Option (Option Int32 × am_Hp)
  | 0, _, _, _, _, _ => none
  | n + 1, i1, i2, a3, i4, h =>
    (if i4 < 0 then
      am_bi (f_X8_sizeOf N 15 i1 i2 h) (fun x2 h1 =>
      some (some x2, h1))
    else
      bif am_isO a3 3 then am_bi (f_X3_number N a3 (0 : Int32) i4 h) (fun x4 h3 =>
      (if x4 = (1 : Int32) then
        (if i2 = 0 then
          bif am_isO a3 3 then am_bi (f_X3_number N a3 (1 : Int32) i4 h3) (fun x6 h5 =>
          some (some x6, h5)) else none
        else
          bif am_isO a3 3 then am_bi (f_X3_number N a3 (2 : Int32) i4 h3) (fun x8 h7 =>
          some (some x8, h7)) else none)
      else
        l_X9_lastSize_18 N n i1 i2 a3 (i4 + (-1 : Int32)) h3)) else none)
def f_X9_lastSize (N : Nat) (i1 : Int32) (i2 : Int32) (h : am_Hp) : Option (Option Int32 × am_Hp) :=
  am_bt (f_X9_recordingOf N i1 h) (fun h1 => some (none, h1)) (fun b2 h1 => am_bt (f_X9_deskOf N i1 h1) (fun h3 => some (none, h3)) (fun b4 h3 => bif am_isO b4 0 then l_X9_lastSize_18 N N i1 i2 b2 ((h3 b4 0) - (1 : Int32)) h3 else none))
def c_X9_lastSize (N : Nat) : am_Cl := fun _ as h kk => am_sa as (fun z w0 => bif Nat.beq z 0 then am_s1 w0 (fun i1 w1 => am_s1 w1 (fun i2 w2 => am_st0 w2 (am_bt (f_X9_lastSize N i1 i2 h) (fun h => kk none h) (fun v h => kk (am_oi v) h)))) else none)
def o_X9_lastSize (N : Nat) : am_Orc := (am_oc 86 (c_X9_recordingOf N) (am_oc 85 (c_X9_deskOf N) (am_oc 16 (c_X3_number N) (am_oc 54 (c_X8_sizeOf N) am_o0))))
set_option maxRecDepth 100000 in
theorem tok_X9_lastSize : am_tok 97 tX9_lastSize := by
  unfold am_tok
  decide +kernel
set_option maxHeartbeats 4000000 in
set_option maxRecDepth 100000 in
theorem m_X9_lastSize {l : Launch} {al : Nat → Nat} {dC : Nat → ClassId} {dI : Nat → Nat → Nat} {aC : Nat → ClassId} {aV : Nat → Nat} (hy : am_Hy l al) (N : Nat) (i1 : Int32) (i2 : Int32) (h : am_Hp) (r : (Option Int32 × am_Hp)) (hf : f_X9_lastSize N i1 i2 h = some r) : am_Met l al dC dI aC aV 97 [.ref 0, .int i1, .int i2] h (am_ot am_oi r.1) r.2 :=
  am_met (tab := tX9_lastSize) (orc := o_X9_lastSize N) (ret := am_ti) (g := r) (by decide) (by decide) hy.1 hy.2 tok_X9_lastSize (am_os1 (s_X9_recordingOf hy N) (am_os1 (s_X9_deskOf hy N) (am_os1 (s_X3_number hy N) (am_os1 (s_X8_sizeOf hy N) am_os0)))) am_ti_inv (Nat.le_of_ble_eq_true rfl) (fun At cl wk => by
    have A18 : ∀ n : Nat, ∀ i1 : Int32, ∀ i2 : Int32, ∀ a3 : Nat, ∀ i4 : Int32, ∀ h, l_X9_lastSize_18 N n i1 i2 a3 i4 h = some r → At 18 [(0, .ref 0), (1, .int i1), (2, .int i2), (3, .ref a3), (4, .int i4)] [] h := by
      intro n
      induction n with
      | zero => intro i1 i2 a3 i4 h hr; cases hr
      | succ n ih =>
        intro i1 i2 a3 i4 h hr
        exact cl (am_C1 18 (fun ρ st h => am_lda ρ 0 (fun z => bif Nat.beq z 0 then am_ldi ρ 1 (fun i1 => am_ldi ρ 2 (fun i2 => am_lda ρ 3 (fun a3 => am_ldi ρ 4 (fun i4 => am_st0 st (l_X9_lastSize_18 N n i1 i2 a3 i4 h))))) else none)) am_C0) (am_c1 (fun ρ st h hc => by
        obtain ⟨z, m_a0, hc⟩ := am_lda_some hc
        obtain ⟨hz, hc⟩ := am_bif hc
        cases Nat.eq_of_beq_eq_true hz
        obtain ⟨i1, m_i1, hc⟩ := am_ldi_some hc
        obtain ⟨i2, m_i2, hc⟩ := am_ldi_some hc
        obtain ⟨a3, m_a3, hc⟩ := am_lda_some hc
        obtain ⟨i4, m_i4, hc⟩ := am_ldi_some hc
        obtain ⟨rfl, hc⟩ := am_st0_some hc
        exact wk 18 ρ [(0, .ref 0), (1, .int i1), (2, .int i2), (3, .ref a3), (4, .int i4)] _ h (am_m1 m_a0 (am_m1 m_i1 (am_m1 m_i2 (am_m1 m_a3 (am_m1 m_i4 am_m0))))) (ih i1 i2 a3 i4 h hc)) am_c0) 400 18 _ _ h hr
    exact cl (am_C1 18 (fun ρ st h => am_lda ρ 0 (fun z => bif Nat.beq z 0 then am_ldi ρ 1 (fun i1 => am_ldi ρ 2 (fun i2 => am_lda ρ 3 (fun a3 => am_ldi ρ 4 (fun i4 => am_st0 st (l_X9_lastSize_18 N N i1 i2 a3 i4 h))))) else none)) am_C0) (am_c1 (fun ρ st h hc => by
        obtain ⟨z, m_a0, hc⟩ := am_lda_some hc
        obtain ⟨hz, hc⟩ := am_bif hc
        cases Nat.eq_of_beq_eq_true hz
        obtain ⟨i1, m_i1, hc⟩ := am_ldi_some hc
        obtain ⟨i2, m_i2, hc⟩ := am_ldi_some hc
        obtain ⟨a3, m_a3, hc⟩ := am_lda_some hc
        obtain ⟨i4, m_i4, hc⟩ := am_ldi_some hc
        obtain ⟨rfl, hc⟩ := am_st0_some hc
        exact wk 18 ρ [(0, .ref 0), (1, .int i1), (2, .int i2), (3, .ref a3), (4, .int i4)] _ h (am_m1 m_a0 (am_m1 m_i1 (am_m1 m_i2 (am_m1 m_a3 (am_m1 m_i4 am_m0))))) (A18 N i1 i2 a3 i4 h hc)) am_c0) 400 0 _ _ h hf)
theorem s_X9_lastSize {l : Launch} {al : Nat → Nat} {dC : Nat → ClassId} {dI : Nat → Nat → Nat} {aC : Nat → ClassId} {aV : Nat → Nat} (hy : am_Hy l al) (N : Nat) : am_CS l al dC dI aC aV 97 (c_X9_lastSize N) := by
  intro γ as h kk g hc0
  obtain ⟨z0, w0, e_0, hcz0⟩ := am_sa_some hc0
  obtain ⟨hz0, hc1⟩ := am_bif hcz0
  cases Nat.eq_of_beq_eq_true hz0
  obtain ⟨i1, w1, e_1, hc2⟩ := am_s1_some hc1
  obtain ⟨i2, w2, e_2, hc3⟩ := am_s1_some hc2
  obtain ⟨e_3, hc⟩ := am_st0_some hc3
  subst e_3
  subst e_2
  subst e_1
  subst e_0
  rcases am_bt_some hc with ⟨h1, e1, e2⟩ | ⟨v, h1, e1, e2⟩
  · exact ⟨_, _, m_X9_lastSize hy N i1 i2 h _ e1, e2⟩
  · exact ⟨_, _, m_X9_lastSize hy N i1 i2 h _ e1, e2⟩

def l_X9_recordRightSizes_2 (N : Nat) : Nat → Int32 → am_Hp → Option (Option Unit × am_Hp)
  | 0, _, _ => none
  | n + 1, i1, h =>
    (if (h 15 4) ≤ i1 then
      some (some (), h)
    else
      am_bt (f_X9_deskOf N i1 h) (fun h1 => some (none, h1)) (fun b2 h1 => am_bt (f_X9_sizeThatIsRight N i1 (0 : Int32) h1) (fun h3 => some (none, h3)) (fun x4 h3 => am_bt (f_X9_sizeThatIsRight N i1 (1 : Int32) h3) (fun h5 => some (none, h5)) (fun x6 h5 => am_bt (f_X9_lastSize N i1 (0 : Int32) h5) (fun h7 => some (none, h7)) (fun x8 h7 => (if x8 = x4 then
        am_bt (f_X9_lastSize N i1 (1 : Int32) h7) (fun h13 => some (none, h13)) (fun x14 h13 => (if x14 = x6 then
          (if (1 : Int32) = 0 then
            bif am_isO b2 0 then (if (300 : Int32) ≤ (h13 b2 0) then
              l_X9_recordRightSizes_2 N n (i1 + (1 : Int32)) h13
            else
              am_bt (f_X9_recordingOf N i1 h13) (fun h19 => some (none, h19)) (fun b20 h19 => bif am_isO b2 0 then bif am_isO b20 3 then am_bi (f_X3_putSized N b20 (h19 b2 0) x4 x6 (h19 24 0) h19) (fun _ h21 =>
              bif am_isO b2 0 then bif am_isO b2 0 then (let h22 := am_pi h21 b2 0 ((h21 b2 0) + (1 : Int32))
              l_X9_recordRightSizes_2 N n (i1 + (1 : Int32)) h22) else none else none) else none else none)) else none
          else
            l_X9_recordRightSizes_2 N n (i1 + (1 : Int32)) h13)
        else
          (if (0 : Int32) = 0 then
            bif am_isO b2 0 then (if (300 : Int32) ≤ (h13 b2 0) then
              l_X9_recordRightSizes_2 N n (i1 + (1 : Int32)) h13
            else
              am_bt (f_X9_recordingOf N i1 h13) (fun h15 => some (none, h15)) (fun b16 h15 => bif am_isO b2 0 then bif am_isO b16 3 then am_bi (f_X3_putSized N b16 (h15 b2 0) x4 x6 (h15 24 0) h15) (fun _ h17 =>
              bif am_isO b2 0 then bif am_isO b2 0 then (let h18 := am_pi h17 b2 0 ((h17 b2 0) + (1 : Int32))
              l_X9_recordRightSizes_2 N n (i1 + (1 : Int32)) h18) else none else none) else none else none)) else none
          else
            l_X9_recordRightSizes_2 N n (i1 + (1 : Int32)) h13)))
      else
        (if (0 : Int32) = 0 then
          bif am_isO b2 0 then (if (300 : Int32) ≤ (h7 b2 0) then
            l_X9_recordRightSizes_2 N n (i1 + (1 : Int32)) h7
          else
            am_bt (f_X9_recordingOf N i1 h7) (fun h9 => some (none, h9)) (fun b10 h9 => bif am_isO b2 0 then bif am_isO b10 3 then am_bi (f_X3_putSized N b10 (h9 b2 0) x4 x6 (h9 24 0) h9) (fun _ h11 =>
            bif am_isO b2 0 then bif am_isO b2 0 then (let h12 := am_pi h11 b2 0 ((h11 b2 0) + (1 : Int32))
            l_X9_recordRightSizes_2 N n (i1 + (1 : Int32)) h12) else none else none) else none else none)) else none
        else
          l_X9_recordRightSizes_2 N n (i1 + (1 : Int32)) h7)))))))
def f_X9_recordRightSizes (N : Nat)  (h : am_Hp) : Option (Option Unit × am_Hp) :=
  l_X9_recordRightSizes_2 N N (0 : Int32) h
def c_X9_recordRightSizes (N : Nat) : am_Cl := fun _ as h kk => am_sa as (fun z w0 => bif Nat.beq z 0 then am_st0 w0 (am_bt (f_X9_recordRightSizes N  h) (fun h => kk none h) (fun v h => kk (am_ov v) h)) else none)
def o_X9_recordRightSizes (N : Nat) : am_Orc := (am_oc 85 (c_X9_deskOf N) (am_oc 95 (c_X9_sizeThatIsRight N) (am_oc 97 (c_X9_lastSize N) (am_oc 86 (c_X9_recordingOf N) (am_oc 18 (c_X3_putSized N) am_o0)))))
set_option maxRecDepth 100000 in
theorem tok_X9_recordRightSizes : am_tok 96 tX9_recordRightSizes := by
  unfold am_tok
  decide +kernel
set_option maxHeartbeats 4000000 in
set_option maxRecDepth 100000 in
theorem m_X9_recordRightSizes {l : Launch} {al : Nat → Nat} {dC : Nat → ClassId} {dI : Nat → Nat → Nat} {aC : Nat → ClassId} {aV : Nat → Nat} (hy : am_Hy l al) (N : Nat)  (h : am_Hp) (r : (Option Unit × am_Hp)) (hf : f_X9_recordRightSizes N  h = some r) : am_Met l al dC dI aC aV 96 [.ref 0] h (am_ot am_ov r.1) r.2 :=
  am_met (tab := tX9_recordRightSizes) (orc := o_X9_recordRightSizes N) (ret := am_tv) (g := r) (by decide) (by decide) hy.1 hy.2 tok_X9_recordRightSizes (am_os1 (s_X9_deskOf hy N) (am_os1 (s_X9_sizeThatIsRight hy N) (am_os1 (s_X9_lastSize hy N) (am_os1 (s_X9_recordingOf hy N) (am_os1 (s_X3_putSized hy N) am_os0))))) am_tv_inv (Nat.le_of_ble_eq_true rfl) (fun At cl wk => by
    have A2 : ∀ n : Nat, ∀ i1 : Int32, ∀ h, l_X9_recordRightSizes_2 N n i1 h = some r → At 2 [(0, .ref 0), (1, .int i1)] [] h := by
      intro n
      induction n with
      | zero => intro i1 h hr; cases hr
      | succ n ih =>
        intro i1 h hr
        exact cl (am_C1 2 (fun ρ st h => am_lda ρ 0 (fun z => bif Nat.beq z 0 then am_ldi ρ 1 (fun i1 => am_st0 st (l_X9_recordRightSizes_2 N n i1 h)) else none)) am_C0) (am_c1 (fun ρ st h hc => by
        obtain ⟨z, m_a0, hc⟩ := am_lda_some hc
        obtain ⟨hz, hc⟩ := am_bif hc
        cases Nat.eq_of_beq_eq_true hz
        obtain ⟨i1, m_i1, hc⟩ := am_ldi_some hc
        obtain ⟨rfl, hc⟩ := am_st0_some hc
        exact wk 2 ρ [(0, .ref 0), (1, .int i1)] _ h (am_m1 m_a0 (am_m1 m_i1 am_m0)) (ih i1 h hc)) am_c0) 400 2 _ _ h hr
    exact cl (am_C1 2 (fun ρ st h => am_lda ρ 0 (fun z => bif Nat.beq z 0 then am_ldi ρ 1 (fun i1 => am_st0 st (l_X9_recordRightSizes_2 N N i1 h)) else none)) am_C0) (am_c1 (fun ρ st h hc => by
        obtain ⟨z, m_a0, hc⟩ := am_lda_some hc
        obtain ⟨hz, hc⟩ := am_bif hc
        cases Nat.eq_of_beq_eq_true hz
        obtain ⟨i1, m_i1, hc⟩ := am_ldi_some hc
        obtain ⟨rfl, hc⟩ := am_st0_some hc
        exact wk 2 ρ [(0, .ref 0), (1, .int i1)] _ h (am_m1 m_a0 (am_m1 m_i1 am_m0)) (A2 N i1 h hc)) am_c0) 400 0 _ _ h hf)
theorem s_X9_recordRightSizes {l : Launch} {al : Nat → Nat} {dC : Nat → ClassId} {dI : Nat → Nat → Nat} {aC : Nat → ClassId} {aV : Nat → Nat} (hy : am_Hy l al) (N : Nat) : am_CS l al dC dI aC aV 96 (c_X9_recordRightSizes N) := by
  intro γ as h kk g hc0
  obtain ⟨z0, w0, e_0, hcz0⟩ := am_sa_some hc0
  obtain ⟨hz0, hc1⟩ := am_bif hcz0
  cases Nat.eq_of_beq_eq_true hz0
  obtain ⟨e_1, hc⟩ := am_st0_some hc1
  subst e_1
  subst e_0
  rcases am_bt_some hc with ⟨h1, e1, e2⟩ | ⟨v, h1, e1, e2⟩
  · exact ⟨_, _, m_X9_recordRightSizes hy N  h _ e1, e2⟩
  · exact ⟨_, _, m_X9_recordRightSizes hy N  h _ e1, e2⟩

def l_X9_usersWhoWatchSession_4 (N : Nat) : Nat → Int32 → Int32 → Int32 → am_Hp → Option (Option Int32 × am_Hp)
  | 0, _, _, _, _ => none
  | n + 1, i1, i2, i3, h =>
    (if (h 19 4) ≤ i3 then
      some (some i2, h)
    else
      am_bt (f_X9_seatOf N i3 h) (fun h1 => some (none, h1)) (fun b2 h1 => bif am_isO b2 5 then (if (h1 b2 2) = 0 then
        l_X9_usersWhoWatchSession_4 N n i1 i2 (i3 + (1 : Int32)) h1
      else
        bif am_isO b2 5 then (if (h1 b2 3) = i1 then
          l_X9_usersWhoWatchSession_4 N n i1 (i2 + (1 : Int32)) (i3 + (1 : Int32)) h1
        else
          l_X9_usersWhoWatchSession_4 N n i1 i2 (i3 + (1 : Int32)) h1) else none) else none))
def f_X9_usersWhoWatchSession (N : Nat) (i1 : Int32) (h : am_Hp) : Option (Option Int32 × am_Hp) :=
  l_X9_usersWhoWatchSession_4 N N i1 (0 : Int32) (0 : Int32) h
def c_X9_usersWhoWatchSession (N : Nat) : am_Cl := fun _ as h kk => am_sa as (fun z w0 => bif Nat.beq z 0 then am_s1 w0 (fun i1 w1 => am_st0 w1 (am_bt (f_X9_usersWhoWatchSession N i1 h) (fun h => kk none h) (fun v h => kk (am_oi v) h))) else none)
def o_X9_usersWhoWatchSession (N : Nat) : am_Orc := (am_oc 87 (c_X9_seatOf N) am_o0)
set_option maxRecDepth 100000 in
theorem tok_X9_usersWhoWatchSession : am_tok 90 tX9_usersWhoWatchSession := by
  unfold am_tok
  decide +kernel
set_option maxHeartbeats 4000000 in
set_option maxRecDepth 100000 in
theorem m_X9_usersWhoWatchSession {l : Launch} {al : Nat → Nat} {dC : Nat → ClassId} {dI : Nat → Nat → Nat} {aC : Nat → ClassId} {aV : Nat → Nat} (hy : am_Hy l al) (N : Nat) (i1 : Int32) (h : am_Hp) (r : (Option Int32 × am_Hp)) (hf : f_X9_usersWhoWatchSession N i1 h = some r) : am_Met l al dC dI aC aV 90 [.ref 0, .int i1] h (am_ot am_oi r.1) r.2 :=
  am_met (tab := tX9_usersWhoWatchSession) (orc := o_X9_usersWhoWatchSession N) (ret := am_ti) (g := r) (by decide) (by decide) hy.1 hy.2 tok_X9_usersWhoWatchSession (am_os1 (s_X9_seatOf hy N) am_os0) am_ti_inv (Nat.le_of_ble_eq_true rfl) (fun At cl wk => by
    have A4 : ∀ n : Nat, ∀ i1 : Int32, ∀ i2 : Int32, ∀ i3 : Int32, ∀ h, l_X9_usersWhoWatchSession_4 N n i1 i2 i3 h = some r → At 4 [(0, .ref 0), (1, .int i1), (2, .int i2), (3, .int i3)] [] h := by
      intro n
      induction n with
      | zero => intro i1 i2 i3 h hr; cases hr
      | succ n ih =>
        intro i1 i2 i3 h hr
        exact cl (am_C1 4 (fun ρ st h => am_lda ρ 0 (fun z => bif Nat.beq z 0 then am_ldi ρ 1 (fun i1 => am_ldi ρ 2 (fun i2 => am_ldi ρ 3 (fun i3 => am_st0 st (l_X9_usersWhoWatchSession_4 N n i1 i2 i3 h)))) else none)) am_C0) (am_c1 (fun ρ st h hc => by
        obtain ⟨z, m_a0, hc⟩ := am_lda_some hc
        obtain ⟨hz, hc⟩ := am_bif hc
        cases Nat.eq_of_beq_eq_true hz
        obtain ⟨i1, m_i1, hc⟩ := am_ldi_some hc
        obtain ⟨i2, m_i2, hc⟩ := am_ldi_some hc
        obtain ⟨i3, m_i3, hc⟩ := am_ldi_some hc
        obtain ⟨rfl, hc⟩ := am_st0_some hc
        exact wk 4 ρ [(0, .ref 0), (1, .int i1), (2, .int i2), (3, .int i3)] _ h (am_m1 m_a0 (am_m1 m_i1 (am_m1 m_i2 (am_m1 m_i3 am_m0)))) (ih i1 i2 i3 h hc)) am_c0) 400 4 _ _ h hr
    exact cl (am_C1 4 (fun ρ st h => am_lda ρ 0 (fun z => bif Nat.beq z 0 then am_ldi ρ 1 (fun i1 => am_ldi ρ 2 (fun i2 => am_ldi ρ 3 (fun i3 => am_st0 st (l_X9_usersWhoWatchSession_4 N N i1 i2 i3 h)))) else none)) am_C0) (am_c1 (fun ρ st h hc => by
        obtain ⟨z, m_a0, hc⟩ := am_lda_some hc
        obtain ⟨hz, hc⟩ := am_bif hc
        cases Nat.eq_of_beq_eq_true hz
        obtain ⟨i1, m_i1, hc⟩ := am_ldi_some hc
        obtain ⟨i2, m_i2, hc⟩ := am_ldi_some hc
        obtain ⟨i3, m_i3, hc⟩ := am_ldi_some hc
        obtain ⟨rfl, hc⟩ := am_st0_some hc
        exact wk 4 ρ [(0, .ref 0), (1, .int i1), (2, .int i2), (3, .int i3)] _ h (am_m1 m_a0 (am_m1 m_i1 (am_m1 m_i2 (am_m1 m_i3 am_m0)))) (A4 N i1 i2 i3 h hc)) am_c0) 400 0 _ _ h hf)
theorem s_X9_usersWhoWatchSession {l : Launch} {al : Nat → Nat} {dC : Nat → ClassId} {dI : Nat → Nat → Nat} {aC : Nat → ClassId} {aV : Nat → Nat} (hy : am_Hy l al) (N : Nat) : am_CS l al dC dI aC aV 90 (c_X9_usersWhoWatchSession N) := by
  intro γ as h kk g hc0
  obtain ⟨z0, w0, e_0, hcz0⟩ := am_sa_some hc0
  obtain ⟨hz0, hc1⟩ := am_bif hcz0
  cases Nat.eq_of_beq_eq_true hz0
  obtain ⟨i1, w1, e_1, hc2⟩ := am_s1_some hc1
  obtain ⟨e_2, hc⟩ := am_st0_some hc2
  subst e_2
  subst e_1
  subst e_0
  rcases am_bt_some hc with ⟨h1, e1, e2⟩ | ⟨v, h1, e1, e2⟩
  · exact ⟨_, _, m_X9_usersWhoWatchSession hy N i1 h _ e1, e2⟩
  · exact ⟨_, _, m_X9_usersWhoWatchSession hy N i1 h _ e1, e2⟩
