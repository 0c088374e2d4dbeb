def l_X9_firstDifference_71 (N : Nat) (K61 : Int32 → Int32 → Int32 → am_Hp → Option (Option Int32 × am_Hp)) : Nat → Int32 → Int32 → Int32 → Int32 → am_Hp → Option (Option Int32 × am_Hp)
  | 0, _, _, _, _, _ => none
  | n + 1, i4, i5, i6, i7, h =>
    (if i5 ≤ i7 then
      K61 i4 i5 (i6 + (1 : Int32)) h
    else
      am_bi (f_X4_symbolOnScreen N 161 i6 i7 h) (fun x2 h1 =>
      am_bi (f_X4_symbolOnScreen N 163 i6 i7 h1) (fun x4 h3 =>
      (if x2 = x4 then
        l_X9_firstDifference_71 N K61 n i4 i5 i6 (i7 + (1 : Int32)) h3
      else
        some (some (((16 : Int32) * i6) + i7), h3)))))
def l_X9_firstDifference_61 (N : Nat) : Nat → Int32 → Int32 → Int32 → am_Hp → Option (Option Int32 × am_Hp)
  | 0, _, _, _, _ => none
  | n + 1, i4, i5, i6, h =>
    (if i4 ≤ i6 then
      some (some (-1 : Int32), h)
    else
      l_X9_firstDifference_71 N (l_X9_firstDifference_61 N n) N i4 i5 i6 (0 : Int32) h)
def f_X9_firstDifference (N : Nat) (i1 : Int32) (i2 : Int32) (i3 : Int32) (h : am_Hp) : Option (Option Int32 × am_Hp) :=
  am_bt (f_X9_draw N 161 i1 i2 h) (fun h1 => some (none, h1)) (fun _ h1 => am_bt (f_X9_draw N 163 i1 i3 h1) (fun h2 => some (none, h2)) (fun _ h2 => l_X9_firstDifference_61 N N (if (h2 163 4) < (h2 161 4) then h2 163 4 else h2 161 4) (if (h2 163 3) < (h2 161 3) then h2 163 3 else h2 161 3) (0 : Int32) h2))
def c_X9_firstDifference (N : Nat) : am_Cl := fun _ as h kk => am_sa as (fun z w0 => bif Nat.beq z 0 then am_s1 w0 (fun i1 w1 => am_s1 w1 (fun i2 w2 => am_s1 w2 (fun i3 w3 => am_st0 w3 (am_bt (f_X9_firstDifference N i1 i2 i3 h) (fun h => kk none h) (fun v h => kk (am_oi v) h))))) else none)
def o_X9_firstDifference (N : Nat) : am_Orc := (am_oc 91 (c_X9_draw N) (am_oc 25 (c_X4_symbolOnScreen N) am_o0))
set_option maxRecDepth 100000 in
theorem tok_X9_firstDifference : am_tok 68 tX9_firstDifference := by
  unfold am_tok
  decide +kernel
set_option maxHeartbeats 4000000 in
set_option maxRecDepth 100000 in
theorem m_X9_firstDifference {l : Launch} {al : Nat → Nat} {dC : Nat → ClassId} {dI : Nat → Nat → Nat} {aC : Nat → ClassId} {aV : Nat → Nat} (hy : am_Hy l al) (N : Nat) (i1 : Int32) (i2 : Int32) (i3 : Int32) (h : am_Hp) (r : (Option Int32 × am_Hp)) (hf : f_X9_firstDifference N i1 i2 i3 h = some r) : am_Met l al dC dI aC aV 68 [.ref 0, .int i1, .int i2, .int i3] h (am_ot am_oi r.1) r.2 :=
  am_met (tab := tX9_firstDifference) (orc := o_X9_firstDifference N) (ret := am_ti) (g := r) (by decide) (by decide) hy.1 hy.2 tok_X9_firstDifference (am_os1 (s_X9_draw hy N) (am_os1 (s_X4_symbolOnScreen hy N) am_os0)) am_ti_inv (Nat.le_of_ble_eq_true rfl) (fun At cl wk => by
    have A71 : ∀ (K61 : Int32 → Int32 → Int32 → am_Hp → Option (Option Int32 × am_Hp)), (∀ i4 : Int32, ∀ i5 : Int32, ∀ i6 : Int32, ∀ h, K61 i4 i5 i6 h = some r → At 61 [(0, .ref 0), (4, .int i4), (5, .int i5), (6, .int i6)] [] h) → ∀ n : Nat, ∀ i4 : Int32, ∀ i5 : Int32, ∀ i6 : Int32, ∀ i7 : Int32, ∀ h, l_X9_firstDifference_71 N K61 n i4 i5 i6 i7 h = some r → At 71 [(0, .ref 0), (4, .int i4), (5, .int i5), (6, .int i6), (7, .int i7)] [] h := by
      intro K61 hK61 n
      induction n with
      | zero => intro i4 i5 i6 i7 h hr; cases hr
      | succ n ih =>
        intro i4 i5 i6 i7 h hr
        exact cl (am_C1 61 (fun ρ st h => am_lda ρ 0 (fun z => bif Nat.beq z 0 then am_ldi ρ 4 (fun i4 => am_ldi ρ 5 (fun i5 => am_ldi ρ 6 (fun i6 => am_st0 st (K61 i4 i5 i6 h)))) else none)) (am_C1 71 (fun ρ st h => am_lda ρ 0 (fun z => bif Nat.beq z 0 then am_ldi ρ 4 (fun i4 => am_ldi ρ 5 (fun i5 => am_ldi ρ 6 (fun i6 => am_ldi ρ 7 (fun i7 => am_st0 st (l_X9_firstDifference_71 N K61 n i4 i5 i6 i7 h))))) else none)) am_C0)) (am_c1 (fun ρ st h hc => by
        obtain ⟨z, m_a0, hc⟩ := am_lda_some hc
        obtain ⟨hz, hc⟩ := am_bif hc
        cases Nat.eq_of_beq_eq_true hz
        obtain ⟨i4, m_i4, hc⟩ := am_ldi_some hc
        obtain ⟨i5, m_i5, hc⟩ := am_ldi_some hc
        obtain ⟨i6, m_i6, hc⟩ := am_ldi_some hc
        obtain ⟨rfl, hc⟩ := am_st0_some hc
        exact wk 61 ρ [(0, .ref 0), (4, .int i4), (5, .int i5), (6, .int i6)] _ h (am_m1 m_a0 (am_m1 m_i4 (am_m1 m_i5 (am_m1 m_i6 am_m0)))) (hK61 i4 i5 i6 h hc)) (am_c1 (fun ρ st h hc => by
        obtain ⟨z, m_a0, hc⟩ := am_lda_some hc
        obtain ⟨hz, hc⟩ := am_bif hc
        cases Nat.eq_of_beq_eq_true hz
        obtain ⟨i4, m_i4, hc⟩ := am_ldi_some hc
        obtain ⟨i5, m_i5, hc⟩ := am_ldi_some hc
        obtain ⟨i6, m_i6, hc⟩ := am_ldi_some hc
        obtain ⟨i7, m_i7, hc⟩ := am_ldi_some hc
        obtain ⟨rfl, hc⟩ := am_st0_some hc
        exact wk 71 ρ [(0, .ref 0), (4, .int i4), (5, .int i5), (6, .int i6), (7, .int i7)] _ h (am_m1 m_a0 (am_m1 m_i4 (am_m1 m_i5 (am_m1 m_i6 (am_m1 m_i7 am_m0))))) (ih i4 i5 i6 i7 h hc)) am_c0)) 400 71 _ _ h hr
    have A61 : ∀ n : Nat, ∀ i4 : Int32, ∀ i5 : Int32, ∀ i6 : Int32, ∀ h, l_X9_firstDifference_61 N n i4 i5 i6 h = some r → At 61 [(0, .ref 0), (4, .int i4), (5, .int i5), (6, .int i6)] [] h := by
      intro n
      induction n with
      | zero => intro i4 i5 i6 h hr; cases hr
      | succ n ih =>
        intro i4 i5 i6 h hr
        exact cl (am_C1 71 (fun ρ st h => am_lda ρ 0 (fun z => bif Nat.beq z 0 then am_ldi ρ 4 (fun i4 => am_ldi ρ 5 (fun i5 => am_ldi ρ 6 (fun i6 => am_ldi ρ 7 (fun i7 => am_st0 st (l_X9_firstDifference_71 N (l_X9_firstDifference_61 N n) N i4 i5 i6 i7 h))))) else none)) am_C0) (am_c1 (fun ρ st h hc => by
        obtain ⟨z, m_a0, hc⟩ := am_lda_some hc
        obtain ⟨hz, hc⟩ := am_bif hc
        cases Nat.eq_of_beq_eq_true hz
        obtain ⟨i4, m_i4, hc⟩ := am_ldi_some hc
        obtain ⟨i5, m_i5, hc⟩ := am_ldi_some hc
        obtain ⟨i6, m_i6, hc⟩ := am_ldi_some hc
        obtain ⟨i7, m_i7, hc⟩ := am_ldi_some hc
        obtain ⟨rfl, hc⟩ := am_st0_some hc
        exact wk 71 ρ [(0, .ref 0), (4, .int i4), (5, .int i5), (6, .int i6), (7, .int i7)] _ h (am_m1 m_a0 (am_m1 m_i4 (am_m1 m_i5 (am_m1 m_i6 (am_m1 m_i7 am_m0))))) (A71 (l_X9_firstDifference_61 N n) ih N i4 i5 i6 i7 h hc)) am_c0) 400 61 _ _ h hr
    exact cl (am_C1 61 (fun ρ st h => am_lda ρ 0 (fun z => bif Nat.beq z 0 then am_ldi ρ 4 (fun i4 => am_ldi ρ 5 (fun i5 => am_ldi ρ 6 (fun i6 => am_st0 st (l_X9_firstDifference_61 N N i4 i5 i6 h)))) else none)) am_C0) (am_c1 (fun ρ st h hc => by
        obtain ⟨z, m_a0, hc⟩ := am_lda_some hc
        obtain ⟨hz, hc⟩ := am_bif hc
        cases Nat.eq_of_beq_eq_true hz
        obtain ⟨i4, m_i4, hc⟩ := am_ldi_some hc
        obtain ⟨i5, m_i5, hc⟩ := am_ldi_some hc
        obtain ⟨i6, m_i6, hc⟩ := am_ldi_some hc
        obtain ⟨rfl, hc⟩ := am_st0_some hc
        exact wk 61 ρ [(0, .ref 0), (4, .int i4), (5, .int i5), (6, .int i6)] _ h (am_m1 m_a0 (am_m1 m_i4 (am_m1 m_i5 (am_m1 m_i6 am_m0)))) (A61 N i4 i5 i6 h hc)) am_c0) 400 0 _ _ h hf)
theorem s_X9_firstDifference {l : Launch} {al : Nat → Nat} {dC : Nat → ClassId} {dI : Nat → Nat → Nat} {aC : Nat → ClassId} {aV : Nat → Nat} (hy : am_Hy l al) (N : Nat) : am_CS l al dC dI aC aV 68 (c_X9_firstDifference N) := by
  intro γ as h kk g hc0
  obtain ⟨z0, w0, e_0, hcz0⟩ := am_sa_some hc0
  obtain ⟨hz0, hc1⟩ := am_bif hcz0
  cases Nat.eq_of_beq_eq_true hz0
  obtain ⟨i1, w1, e_1, hc2⟩ := am_s1_some hc1
  obtain ⟨i2, w2, e_2, hc3⟩ := am_s1_some hc2
  obtain ⟨i3, w3, e_3, hc4⟩ := am_s1_some hc3
  obtain ⟨e_4, hc⟩ := am_st0_some hc4
  subst e_4
  subst e_3
  subst e_2
  subst e_1
  subst e_0
  rcases am_bt_some hc with ⟨h1, e1, e2⟩ | ⟨v, h1, e1, e2⟩
  · exact ⟨_, _, m_X9_firstDifference hy N i1 i2 i3 h _ e1, e2⟩
  · exact ⟨_, _, m_X9_firstDifference hy N i1 i2 i3 h _ e1, e2⟩

def f_X9_fullness (N : Nat) (i1 : Int32) (i2 : Int32) (h : am_Hp) : Option (Option UInt32 × am_Hp) :=
  am_bt (f_X9_draw N 161 i1 i2 h) (fun h1 => some (none, h1)) (fun _ h1 => (if 0 < ((h1 161 4) * (h1 161 3)) then
    am_bi (f_X4_fullPlaces N 161 h1) (fun x3 h2 =>
    if FP.fdiv (FP.i2f x3) (FP.i2f ((h1 161 4) * (h1 161 3))) &&& 0x7fffffff ≤ 0x7f800000 then some (some (FP.fdiv (FP.i2f x3) (FP.i2f ((h1 161 4) * (h1 161 3)))), h2) else none)
  else
    some (some (0 : UInt32), h1)))
def c_X9_fullness (N : Nat) : am_Cl := fun _ as h kk => am_sa as (fun z w0 => bif Nat.beq z 0 then am_s1 w0 (fun i1 w1 => am_s1 w1 (fun i2 w2 => am_st0 w2 (am_bt (f_X9_fullness N i1 i2 h) (fun h => kk none h) (fun v h => kk (am_of v) h)))) else none)
def o_X9_fullness (N : Nat) : am_Orc := (am_oc 91 (c_X9_draw N) (am_oc 26 (c_X4_fullPlaces N) am_o0))
set_option maxRecDepth 100000 in
theorem tok_X9_fullness : am_tok 69 tX9_fullness := by
  unfold am_tok
  decide +kernel
set_option maxHeartbeats 4000000 in
set_option maxRecDepth 100000 in
theorem m_X9_fullness {l : Launch} {al : Nat → Nat} {dC : Nat → ClassId} {dI : Nat → Nat → Nat} {aC : Nat → ClassId} {aV : Nat → Nat} (hy : am_Hy l al) (N : Nat) (i1 : Int32) (i2 : Int32) (h : am_Hp) (r : (Option UInt32 × am_Hp)) (hf : f_X9_fullness N i1 i2 h = some r) : am_Met l al dC dI aC aV 69 [.ref 0, .int i1, .int i2] h (am_ot am_of r.1) r.2 :=
  am_met (tab := tX9_fullness) (orc := o_X9_fullness N) (ret := am_tf) (g := r) (by decide) (by decide) hy.1 hy.2 tok_X9_fullness (am_os1 (s_X9_draw hy N) (am_os1 (s_X4_fullPlaces hy N) am_os0)) am_tf_inv (Nat.le_of_ble_eq_true rfl) (fun At cl wk => by
    skip
    exact cl am_C0 am_c0 400 0 _ _ h hf)
theorem s_X9_fullness {l : Launch} {al : Nat → Nat} {dC : Nat → ClassId} {dI : Nat → Nat → Nat} {aC : Nat → ClassId} {aV : Nat → Nat} (hy : am_Hy l al) (N : Nat) : am_CS l al dC dI aC aV 69 (c_X9_fullness N) := by
  intro γ as h kk g hc0
  obtain ⟨z0, w0, e_0, hcz0⟩ := am_sa_some hc0
  obtain ⟨hz0, hc1⟩ := am_bif hcz0
  cases Nat.eq_of_beq_eq_true hz0
  obtain ⟨i1, w1, e_1, hc2⟩ := am_s1_some hc1
  obtain ⟨i2, w2, e_2, hc3⟩ := am_s1_some hc2
  obtain ⟨e_3, hc⟩ := am_st0_some hc3
  subst e_3
  subst e_2
  subst e_1
  subst e_0
  rcases am_bt_some hc with ⟨h1, e1, e2⟩ | ⟨v, h1, e1, e2⟩
  · exact ⟨_, _, m_X9_fullness hy N i1 i2 h _ e1, e2⟩
  · exact ⟨_, _, m_X9_fullness hy N i1 i2 h _ e1, e2⟩

def f_X9_loseControl (N : Nat) (i1 : Int32) (a2 : Nat) (h : am_Hp) : Option (Option Unit × am_Hp) :=
  bif am_isO a2 5 then (if (h a2 2) = (1 : Int32) then
    bif am_isO a2 5 then am_bt (f_X9_deskOf N (h a2 3) h) (fun h1 => some (none, h1)) (fun b2 h1 => bif am_isO b2 0 then (if (h1 b2 2) = i1 then
      bif am_isO b2 0 then (let h4 := am_pi h1 b2 2 (-1 : Int32)
      bif am_isO b2 0 then (if (h4 b2 1) = i1 then
        bif am_isO b2 0 then am_bi (f_X0_handOver N b2 h4) (fun _ h5 =>
        some (some (), h5)) else none
      else
        some (some (), h4)) else none) else none
    else
      bif am_isO b2 0 then (if (h1 b2 1) = i1 then
        bif am_isO b2 0 then am_bi (f_X0_handOver N b2 h1) (fun _ h3 =>
        some (some (), h3)) else none
      else
        some (some (), h1)) else none) else none) else none
  else
    some (some (), h)) else none
def c_X9_loseControl (N : Nat) : am_Cl := fun _ as h kk => am_sa as (fun z w0 => bif Nat.beq z 0 then am_s1 w0 (fun i1 w1 => am_sa w1 (fun a2 w2 => am_st0 w2 (am_bt (f_X9_loseControl N i1 a2 h) (fun h => kk none h) (fun v h => kk (am_ov v) h)))) else none)
def o_X9_loseControl (N : Nat) : am_Orc := (am_oc 85 (c_X9_deskOf N) (am_oc 5 (c_X0_handOver N) am_o0))
set_option maxRecDepth 100000 in
theorem tok_X9_loseControl : am_tok 100 tX9_loseControl := by
  unfold am_tok
  decide +kernel
set_option maxHeartbeats 4000000 in
set_option maxRecDepth 100000 in
theorem m_X9_loseControl {l : Launch} {al : Nat → Nat} {dC : Nat → ClassId} {dI : Nat → Nat → Nat} {aC : Nat → ClassId} {aV : Nat → Nat} (hy : am_Hy l al) (N : Nat) (i1 : Int32) (a2 : Nat) (h : am_Hp) (r : (Option Unit × am_Hp)) (hf : f_X9_loseControl N i1 a2 h = some r) : am_Met l al dC dI aC aV 100 [.ref 0, .int i1, .ref a2] h (am_ot am_ov r.1) r.2 :=
  am_met (tab := tX9_loseControl) (orc := o_X9_loseControl N) (ret := am_tv) (g := r) (by decide) (by decide) hy.1 hy.2 tok_X9_loseControl (am_os1 (s_X9_deskOf hy N) (am_os1 (s_X0_handOver hy N) am_os0)) am_tv_inv (Nat.le_of_ble_eq_true rfl) (fun At cl wk => by
    skip
    exact cl am_C0 am_c0 400 0 _ _ h hf)
theorem s_X9_loseControl {l : Launch} {al : Nat → Nat} {dC : Nat → ClassId} {dI : Nat → Nat → Nat} {aC : Nat → ClassId} {aV : Nat → Nat} (hy : am_Hy l al) (N : Nat) : am_CS l al dC dI aC aV 100 (c_X9_loseControl N) := by
  intro γ as h kk g hc0
  obtain ⟨z0, w0, e_0, hcz0⟩ := am_sa_some hc0
  obtain ⟨hz0, hc1⟩ := am_bif hcz0
  cases Nat.eq_of_beq_eq_true hz0
  obtain ⟨i1, w1, e_1, hc2⟩ := am_s1_some hc1
  obtain ⟨a2, w2, e_2, hc3⟩ := am_sa_some hc2
  obtain ⟨e_3, hc⟩ := am_st0_some hc3
  subst e_3
  subst e_2
  subst e_1
  subst e_0
  rcases am_bt_some hc with ⟨h1, e1, e2⟩ | ⟨v, h1, e1, e2⟩
  · exact ⟨_, _, m_X9_loseControl hy N i1 a2 h _ e1, e2⟩
  · exact ⟨_, _, m_X9_loseControl hy N i1 a2 h _ e1, e2⟩

def l_X9_userWithLeastWindow_16 (N : Nat) : Nat → Int32 → Int32 → Int32 → Int32 → Int32 → am_Hp → Option (Option Int32 × am_Hp)
  | 0, _, _, _, _, _, _ => none
  | n + 1, i1, i2, i3, i4, i5, h =>
    (if (h 19 4) ≤ i5 then
      some (some i4, h)
    else
      am_bt (f_X9_seatOf N i5 h) (fun h1 => some (none, h1)) (fun b2 h1 => bif am_isO b2 5 then am_bi (f_X5_watches N b2 i1 (1 : Int32) h1) (fun x4 h3 =>
      (if x4 = 0 then
        l_X9_userWithLeastWindow_16 N n i1 i2 i3 i4 (i5 + (1 : Int32)) h3
      else
        bif am_isO b2 5 then am_bi (f_X5_windowSize N b2 i2 h3) (fun x6 h5 =>
        (if i3 ≤ x6 then
          l_X9_userWithLeastWindow_16 N n i1 i2 i3 i4 (i5 + (1 : Int32)) h5
        else
          bif am_isO b2 5 then am_bi (f_X5_windowSize N b2 i2 h5) (fun x8 h7 =>
          l_X9_userWithLeastWindow_16 N n i1 i2 x8 i5 (i5 + (1 : Int32)) h7) else none)) else none)) else none))
def f_X9_userWithLeastWindow (N : Nat) (i1 : Int32) (i2 : Int32) (h : am_Hp) : Option (Option Int32 × am_Hp) :=
  am_bi (f_X8_sizeOf N 15 i1 i2 h) (fun x2 h1 =>
  l_X9_userWithLeastWindow_16 N N i1 i2 x2 (-1 : Int32) (0 : Int32) h1)
def c_X9_userWithLeastWindow (N : Nat) : am_Cl := fun _ as h kk => am_sa as (fun z w0 => bif Nat.beq z 0 then am_s1 w0 (fun i1 w1 => am_s1 w1 (fun i2 w2 => am_st0 w2 (am_bt (f_X9_userWithLeastWindow N i1 i2 h) (fun h => kk none h) (fun v h => kk (am_oi v) h)))) else none)
def o_X9_userWithLeastWindow (N : Nat) : am_Orc := (am_oc 54 (c_X8_sizeOf N) (am_oc 87 (c_X9_seatOf N) (am_oc 36 (c_X5_watches N) (am_oc 37 (c_X5_windowSize N) am_o0))))
set_option maxRecDepth 100000 in
theorem tok_X9_userWithLeastWindow : am_tok 94 tX9_userWithLeastWindow := by
  unfold am_tok
  decide +kernel
set_option maxHeartbeats 4000000 in
set_option maxRecDepth 100000 in
theorem m_X9_userWithLeastWindow {l : Launch} {al : Nat → Nat} {dC : Nat → ClassId} {dI : Nat → Nat → Nat} {aC : Nat → ClassId} {aV : Nat → Nat} (hy : am_Hy l al) (N : Nat) (i1 : Int32) (i2 : Int32) (h : am_Hp) (r : (Option Int32 × am_Hp)) (hf : f_X9_userWithLeastWindow N i1 i2 h = some r) : am_Met l al dC dI aC aV 94 [.ref 0, .int i1, .int i2] h (am_ot am_oi r.1) r.2 :=
  am_met (tab := tX9_userWithLeastWindow) (orc := o_X9_userWithLeastWindow N) (ret := am_ti) (g := r) (by decide) (by decide) hy.1 hy.2 tok_X9_userWithLeastWindow (am_os1 (s_X8_sizeOf hy N) (am_os1 (s_X9_seatOf hy N) (am_os1 (s_X5_watches hy N) (am_os1 (s_X5_windowSize hy N) am_os0)))) am_ti_inv (Nat.le_of_ble_eq_true rfl) (fun At cl wk => by
    have A16 : ∀ n : Nat, ∀ i1 : Int32, ∀ i2 : Int32, ∀ i3 : Int32, ∀ i4 : Int32, ∀ i5 : Int32, ∀ h, l_X9_userWithLeastWindow_16 N n i1 i2 i3 i4 i5 h = some r → At 16 [(0, .ref 0), (1, .int i1), (2, .int i2), (3, .int i3), (4, .int i4), (5, .int i5)] [] h := by
      intro n
      induction n with
      | zero => intro i1 i2 i3 i4 i5 h hr; cases hr
      | succ n ih =>
        intro i1 i2 i3 i4 i5 h hr
        exact cl (am_C1 16 (fun ρ st h => am_lda ρ 0 (fun z => bif Nat.beq z 0 then am_ldi ρ 1 (fun i1 => am_ldi ρ 2 (fun i2 => am_ldi ρ 3 (fun i3 => am_ldi ρ 4 (fun i4 => am_ldi ρ 5 (fun i5 => am_st0 st (l_X9_userWithLeastWindow_16 N n i1 i2 i3 i4 i5 h)))))) else none)) am_C0) (am_c1 (fun ρ st h hc => by
        obtain ⟨z, m_a0, hc⟩ := am_lda_some hc
        obtain ⟨hz, hc⟩ := am_bif hc
        cases Nat.eq_of_beq_eq_true hz
        obtain ⟨i1, m_i1, hc⟩ := am_ldi_some hc
        obtain ⟨i2, m_i2, hc⟩ := am_ldi_some hc
        obtain ⟨i3, m_i3, hc⟩ := am_ldi_some hc
        obtain ⟨i4, m_i4, hc⟩ := am_ldi_some hc
        obtain ⟨i5, m_i5, hc⟩ := am_ldi_some hc
        obtain ⟨rfl, hc⟩ := am_st0_some hc
        exact wk 16 ρ [(0, .ref 0), (1, .int i1), (2, .int i2), (3, .int i3), (4, .int i4), (5, .int i5)] _ h (am_m1 m_a0 (am_m1 m_i1 (am_m1 m_i2 (am_m1 m_i3 (am_m1 m_i4 (am_m1 m_i5 am_m0)))))) (ih i1 i2 i3 i4 i5 h hc)) am_c0) 400 16 _ _ h hr
    exact cl (am_C1 16 (fun ρ st h => am_lda ρ 0 (fun z => bif Nat.beq z 0 then am_ldi ρ 1 (fun i1 => am_ldi ρ 2 (fun i2 => am_ldi ρ 3 (fun i3 => am_ldi ρ 4 (fun i4 => am_ldi ρ 5 (fun i5 => am_st0 st (l_X9_userWithLeastWindow_16 N N i1 i2 i3 i4 i5 h)))))) else none)) am_C0) (am_c1 (fun ρ st h hc => by
        obtain ⟨z, m_a0, hc⟩ := am_lda_some hc
        obtain ⟨hz, hc⟩ := am_bif hc
        cases Nat.eq_of_beq_eq_true hz
        obtain ⟨i1, m_i1, hc⟩ := am_ldi_some hc
        obtain ⟨i2, m_i2, hc⟩ := am_ldi_some hc
        obtain ⟨i3, m_i3, hc⟩ := am_ldi_some hc
        obtain ⟨i4, m_i4, hc⟩ := am_ldi_some hc
        obtain ⟨i5, m_i5, hc⟩ := am_ldi_some hc
        obtain ⟨rfl, hc⟩ := am_st0_some hc
        exact wk 16 ρ [(0, .ref 0), (1, .int i1), (2, .int i2), (3, .int i3), (4, .int i4), (5, .int i5)] _ h (am_m1 m_a0 (am_m1 m_i1 (am_m1 m_i2 (am_m1 m_i3 (am_m1 m_i4 (am_m1 m_i5 am_m0)))))) (A16 N i1 i2 i3 i4 i5 h hc)) am_c0) 400 0 _ _ h hf)
theorem s_X9_userWithLeastWindow {l : Launch} {al : Nat → Nat} {dC : Nat → ClassId} {dI : Nat → Nat → Nat} {aC : Nat → ClassId} {aV : Nat → Nat} (hy : am_Hy l al) (N : Nat) : am_CS l al dC dI aC aV 94 (c_X9_userWithLeastWindow N) := by
  intro γ as h kk g hc0
  obtain ⟨z0, w0, e_0, hcz0⟩ := am_sa_some hc0
  obtain ⟨hz0, hc1⟩ := am_bif hcz0
  cases Nat.eq_of_beq_eq_true hz0
  obtain ⟨i1, w1, e_1, hc2⟩ := am_s1_some hc1
  obtain ⟨i2, w2, e_2, hc3⟩ := am_s1_some hc2
  obtain ⟨e_3, hc⟩ := am_st0_some hc3
  subst e_3
  subst e_2
  subst e_1
  subst e_0
  rcases am_bt_some hc with ⟨h1, e1, e2⟩ | ⟨v, h1, e1, e2⟩
  · exact ⟨_, _, m_X9_userWithLeastWindow hy N i1 i2 h _ e1, e2⟩
  · exact ⟨_, _, m_X9_userWithLeastWindow hy N i1 i2 h _ e1, e2⟩
