def f_X9_screen (N : Nat) (i1 : Int32) (i2 : Int32) (i3 : Int32) (h : am_Hp) : Option (Option Int32 × am_Hp) :=
  am_bt (f_X9_draw N 161 i1 i2 h) (fun h1 => some (none, h1)) (fun _ h1 => (if i3.toInt = 0 then
    some (some (h1 161 3), h1)
  else if i3.toInt = 1 then
    some (some (h1 161 4), h1)
  else if i3.toInt = 2 then
    some (some (h1 161 5), h1)
  else if i3.toInt = 3 then
    some (some (h1 161 6), h1)
  else if i3.toInt = 4 then
    some (some (h1 161 2), h1)
  else some (some (-2 : Int32), h1)))
def c_X9_screen (N : Nat) : am_Cl := fun _ as h kk => am_sa as (fun z w0 => bif Nat.beq z 0 then am_s1 w0 (fun i1 w1 => am_s1 w1 (fun i2 w2 => am_s1 w2 (fun i3 w3 => am_st0 w3 (am_bt (f_X9_screen N i1 i2 i3 h) (fun h => kk none h) (fun v h => kk (am_oi v) h))))) else none)
def o_X9_screen (N : Nat) : am_Orc := (am_oc 91 (c_X9_draw N) am_o0)
set_option maxRecDepth 100000 in
theorem tok_X9_screen : am_tok 62 tX9_screen := by
  unfold am_tok
  decide +kernel
set_option maxHeartbeats 4000000 in
set_option maxRecDepth 100000 in
theorem m_X9_screen {l : Launch} {al : Nat → Nat} {dC : Nat → ClassId} {dI : Nat → Nat → Nat} {aC : Nat → ClassId} {aV : Nat → Nat} (hy : am_Hy l al) (N : Nat) (i1 : Int32) (i2 : Int32) (i3 : Int32) (h : am_Hp) (r : (Option Int32 × am_Hp)) (hf : f_X9_screen N i1 i2 i3 h = some r) : am_Met l al dC dI aC aV 62 [.ref 0, .int i1, .int i2, .int i3] h (am_ot am_oi r.1) r.2 :=
  am_met (tab := tX9_screen) (orc := o_X9_screen N) (ret := am_ti) (g := r) (by decide) (by decide) hy.1 hy.2 tok_X9_screen (am_os1 (s_X9_draw hy N) am_os0) am_ti_inv (Nat.le_of_ble_eq_true rfl) (fun At cl wk => by
    skip
    exact cl am_C0 am_c0 400 0 _ _ h hf)
theorem s_X9_screen {l : Launch} {al : Nat → Nat} {dC : Nat → ClassId} {dI : Nat → Nat → Nat} {aC : Nat → ClassId} {aV : Nat → Nat} (hy : am_Hy l al) (N : Nat) : am_CS l al dC dI aC aV 62 (c_X9_screen N) := by
  intro γ as h kk g hc0
  obtain ⟨z0, w0, e_0, hcz0⟩ := am_sa_some hc0
  obtain ⟨hz0, hc1⟩ := am_bif hcz0
  cases Nat.eq_of_beq_eq_true hz0
  obtain ⟨i1, w1, e_1, hc2⟩ := am_s1_some hc1
  obtain ⟨i2, w2, e_2, hc3⟩ := am_s1_some hc2
  obtain ⟨i3, w3, e_3, hc4⟩ := am_s1_some hc3
  obtain ⟨e_4, hc⟩ := am_st0_some hc4
  subst e_4
  subst e_3
  subst e_2
  subst e_1
  subst e_0
  rcases am_bt_some hc with ⟨h1, e1, e2⟩ | ⟨v, h1, e1, e2⟩
  · exact ⟨_, _, m_X9_screen hy N i1 i2 i3 h _ e1, e2⟩
  · exact ⟨_, _, m_X9_screen hy N i1 i2 i3 h _ e1, e2⟩

def f_X9_at (N : Nat) (i1 : Int32) (i2 : Int32) (i3 : Int32) (i4 : Int32) (h : am_Hp) : Option (Option Int32 × am_Hp) :=
  am_bt (f_X9_draw N 161 i1 i2 h) (fun h1 => some (none, h1)) (fun _ h1 => (if i3 < 0 then
    some (some (-1 : Int32), h1)
  else
    (if (h1 161 4) ≤ i3 then
      some (some (-1 : Int32), h1)
    else
      (if i4 < 0 then
        some (some (-1 : Int32), h1)
      else
        (if i4 < (h1 161 3) then
          am_bi (f_X4_symbolOnScreen N 161 i3 i4 h1) (fun x3 h2 =>
          some (some x3, h2))
        else
          some (some (-1 : Int32), h1))))))
def c_X9_at (N : Nat) : am_Cl := fun _ as h kk => am_sa as (fun z w0 => bif Nat.beq z 0 then am_s1 w0 (fun i1 w1 => am_s1 w1 (fun i2 w2 => am_s1 w2 (fun i3 w3 => am_s1 w3 (fun i4 w4 => am_st0 w4 (am_bt (f_X9_at N i1 i2 i3 i4 h) (fun h => kk none h) (fun v h => kk (am_oi v) h)))))) else none)
def o_X9_at (N : Nat) : am_Orc := (am_oc 91 (c_X9_draw N) (am_oc 25 (c_X4_symbolOnScreen N) am_o0))
set_option maxRecDepth 100000 in
theorem tok_X9_at : am_tok 63 tX9_at := by
  unfold am_tok
  decide +kernel
set_option maxHeartbeats 4000000 in
set_option maxRecDepth 100000 in
theorem m_X9_at {l : Launch} {al : Nat → Nat} {dC : Nat → ClassId} {dI : Nat → Nat → Nat} {aC : Nat → ClassId} {aV : Nat → Nat} (hy : am_Hy l al) (N : Nat) (i1 : Int32) (i2 : Int32) (i3 : Int32) (i4 : Int32) (h : am_Hp) (r : (Option Int32 × am_Hp)) (hf : f_X9_at N i1 i2 i3 i4 h = some r) : am_Met l al dC dI aC aV 63 [.ref 0, .int i1, .int i2, .int i3, .int i4] h (am_ot am_oi r.1) r.2 :=
  am_met (tab := tX9_at) (orc := o_X9_at N) (ret := am_ti) (g := r) (by decide) (by decide) hy.1 hy.2 tok_X9_at (am_os1 (s_X9_draw hy N) (am_os1 (s_X4_symbolOnScreen hy N) am_os0)) am_ti_inv (Nat.le_of_ble_eq_true rfl) (fun At cl wk => by
    skip
    exact cl am_C0 am_c0 400 0 _ _ h hf)
theorem s_X9_at {l : Launch} {al : Nat → Nat} {dC : Nat → ClassId} {dI : Nat → Nat → Nat} {aC : Nat → ClassId} {aV : Nat → Nat} (hy : am_Hy l al) (N : Nat) : am_CS l al dC dI aC aV 63 (c_X9_at N) := by
  intro γ as h kk g hc0
  obtain ⟨z0, w0, e_0, hcz0⟩ := am_sa_some hc0
  obtain ⟨hz0, hc1⟩ := am_bif hcz0
  cases Nat.eq_of_beq_eq_true hz0
  obtain ⟨i1, w1, e_1, hc2⟩ := am_s1_some hc1
  obtain ⟨i2, w2, e_2, hc3⟩ := am_s1_some hc2
  obtain ⟨i3, w3, e_3, hc4⟩ := am_s1_some hc3
  obtain ⟨i4, w4, e_4, hc5⟩ := am_s1_some hc4
  obtain ⟨e_5, hc⟩ := am_st0_some hc5
  subst e_5
  subst e_4
  subst e_3
  subst e_2
  subst e_1
  subst e_0
  rcases am_bt_some hc with ⟨h1, e1, e2⟩ | ⟨v, h1, e1, e2⟩
  · exact ⟨_, _, m_X9_at hy N i1 i2 i3 i4 h _ e1, e2⟩
  · exact ⟨_, _, m_X9_at hy N i1 i2 i3 i4 h _ e1, e2⟩

def f_X9_above (N : Nat) (i1 : Int32) (i2 : Int32) (i3 : Int32) (i4 : Int32) (h : am_Hp) : Option (Option Int32 × am_Hp) :=
  am_bt (f_X9_draw N 161 i1 i2 h) (fun h1 => some (none, h1)) (fun _ h1 => (if i3 < 0 then
    some (some (-1 : Int32), h1)
  else
    (if (h1 161 2) ≤ i3 then
      some (some (-1 : Int32), h1)
    else
      (if i4 < 0 then
        some (some (-1 : Int32), h1)
      else
        (if i4 < (16 : Int32) then
          am_bi (f_X4_symbolInLine N 161 i3 i4 h1) (fun x3 h2 =>
          some (some x3, h2))
        else
          some (some (-1 : Int32), h1))))))
def c_X9_above (N : Nat) : am_Cl := fun _ as h kk => am_sa as (fun z w0 => bif Nat.beq z 0 then am_s1 w0 (fun i1 w1 => am_s1 w1 (fun i2 w2 => am_s1 w2 (fun i3 w3 => am_s1 w3 (fun i4 w4 => am_st0 w4 (am_bt (f_X9_above N i1 i2 i3 i4 h) (fun h => kk none h) (fun v h => kk (am_oi v) h)))))) else none)
def o_X9_above (N : Nat) : am_Orc := (am_oc 91 (c_X9_draw N) (am_oc 24 (c_X4_symbolInLine N) am_o0))
set_option maxRecDepth 100000 in
theorem tok_X9_above : am_tok 64 tX9_above := by
  unfold am_tok
  decide +kernel
set_option maxHeartbeats 4000000 in
set_option maxRecDepth 100000 in
theorem m_X9_above {l : Launch} {al : Nat → Nat} {dC : Nat → ClassId} {dI : Nat → Nat → Nat} {aC : Nat → ClassId} {aV : Nat → Nat} (hy : am_Hy l al) (N : Nat) (i1 : Int32) (i2 : Int32) (i3 : Int32) (i4 : Int32) (h : am_Hp) (r : (Option Int32 × am_Hp)) (hf : f_X9_above N i1 i2 i3 i4 h = some r) : am_Met l al dC dI aC aV 64 [.ref 0, .int i1, .int i2, .int i3, .int i4] h (am_ot am_oi r.1) r.2 :=
  am_met (tab := tX9_above) (orc := o_X9_above N) (ret := am_ti) (g := r) (by decide) (by decide) hy.1 hy.2 tok_X9_above (am_os1 (s_X9_draw hy N) (am_os1 (s_X4_symbolInLine hy N) am_os0)) am_ti_inv (Nat.le_of_ble_eq_true rfl) (fun At cl wk => by
    skip
    exact cl am_C0 am_c0 400 0 _ _ h hf)
theorem s_X9_above {l : Launch} {al : Nat → Nat} {dC : Nat → ClassId} {dI : Nat → Nat → Nat} {aC : Nat → ClassId} {aV : Nat → Nat} (hy : am_Hy l al) (N : Nat) : am_CS l al dC dI aC aV 64 (c_X9_above N) := by
  intro γ as h kk g hc0
  obtain ⟨z0, w0, e_0, hcz0⟩ := am_sa_some hc0
  obtain ⟨hz0, hc1⟩ := am_bif hcz0
  cases Nat.eq_of_beq_eq_true hz0
  obtain ⟨i1, w1, e_1, hc2⟩ := am_s1_some hc1
  obtain ⟨i2, w2, e_2, hc3⟩ := am_s1_some hc2
  obtain ⟨i3, w3, e_3, hc4⟩ := am_s1_some hc3
  obtain ⟨i4, w4, e_4, hc5⟩ := am_s1_some hc4
  obtain ⟨e_5, hc⟩ := am_st0_some hc5
  subst e_5
  subst e_4
  subst e_3
  subst e_2
  subst e_1
  subst e_0
  rcases am_bt_some hc with ⟨h1, e1, e2⟩ | ⟨v, h1, e1, e2⟩
  · exact ⟨_, _, m_X9_above hy N i1 i2 i3 i4 h _ e1, e2⟩
  · exact ⟨_, _, m_X9_above hy N i1 i2 i3 i4 h _ e1, e2⟩

def l_X9_positionOf_69 (N : Nat) : Nat → Nat → Int32 → Nat → Int32 → Int32 → am_Hp → Option (Option Int32 × am_Hp)
  | 0, _, _, _, _, _, _ => none
  | n + 1, a1, i2, a3, i4, i5, h =>
    (if i2 ≤ i5 then
      some (some i5, h)
    else
      bif am_isO a1 5 then bif am_isO a3 3 then am_bi (f_X3_timeBetween N a3 (h a1 4) i5 h) (fun x2 h1 =>
      (if i4 < (x2 * (100 : Int32)) then
        some (some i5, h1)
      else
        l_X9_positionOf_69 N n a1 i2 a3 i4 (i5 + (1 : Int32)) h1)) else none else none)
def f_X9_positionOf (N : Nat) (a1 : Nat) (h : am_Hp) : Option (Option Int32 × am_Hp) :=
  bif am_isO a1 5 then am_bt (f_X9_deskOf N (h a1 3) h) (fun h1 => some (none, h1)) (fun b2 h1 => bif am_isO b2 0 then bif am_isO a1 5 then (if (h1 a1 2) = (1 : Int32) then
    some (some (h1 b2 0), h1)
  else
    bif am_isO a1 5 then (if (h1 a1 2) = (2 : Int32) then
      bif am_isO a1 5 then some (some (h1 a1 4), h1) else none
    else
      bif am_isO a1 5 then am_bt (f_X9_recordingOf N (h1 a1 3) h1) (fun h3 => some (none, h3)) (fun b4 h3 => bif am_isO a1 5 then bif am_isO a1 5 then bif am_isO a1 5 then l_X9_positionOf_69 N N a1 (h1 b2 0) b4 (((h3 24 0) - (h3 a1 5)) * (h3 a1 6)) (h3 a1 4) h3 else none else none else none) else none) else none) else none else none) else none
def c_X9_positionOf (N : Nat) : am_Cl := fun _ as h kk => am_sa as (fun z w0 => bif Nat.beq z 0 then am_sa w0 (fun a1 w1 => am_st0 w1 (am_bt (f_X9_positionOf N a1 h) (fun h => kk none h) (fun v h => kk (am_oi v) h))) else none)
def o_X9_positionOf (N : Nat) : am_Orc := (am_oc 85 (c_X9_deskOf N) (am_oc 86 (c_X9_recordingOf N) (am_oc 19 (c_X3_timeBetween N) am_o0)))
set_option maxRecDepth 100000 in
theorem tok_X9_positionOf : am_tok 92 tX9_positionOf := by
  unfold am_tok
  decide +kernel
set_option maxHeartbeats 4000000 in
set_option maxRecDepth 100000 in
theorem m_X9_positionOf {l : Launch} {al : Nat → Nat} {dC : Nat → ClassId} {dI : Nat → Nat → Nat} {aC : Nat → ClassId} {aV : Nat → Nat} (hy : am_Hy l al) (N : Nat) (a1 : Nat) (h : am_Hp) (r : (Option Int32 × am_Hp)) (hf : f_X9_positionOf N a1 h = some r) : am_Met l al dC dI aC aV 92 [.ref 0, .ref a1] h (am_ot am_oi r.1) r.2 :=
  am_met (tab := tX9_positionOf) (orc := o_X9_positionOf N) (ret := am_ti) (g := r) (by decide) (by decide) hy.1 hy.2 tok_X9_positionOf (am_os1 (s_X9_deskOf hy N) (am_os1 (s_X9_recordingOf hy N) (am_os1 (s_X3_timeBetween hy N) am_os0))) am_ti_inv (Nat.le_of_ble_eq_true rfl) (fun At cl wk => by
    have A69 : ∀ n : Nat, ∀ a1 : Nat, ∀ i2 : Int32, ∀ a3 : Nat, ∀ i4 : Int32, ∀ i5 : Int32, ∀ h, l_X9_positionOf_69 N n a1 i2 a3 i4 i5 h = some r → At 69 [(1, .ref a1), (2, .int i2), (3, .ref a3), (4, .int i4), (5, .int i5)] [] h := by
      intro n
      induction n with
      | zero => intro a1 i2 a3 i4 i5 h hr; cases hr
      | succ n ih =>
        intro a1 i2 a3 i4 i5 h hr
        exact cl (am_C1 69 (fun ρ st h => am_lda ρ 1 (fun a1 => am_ldi ρ 2 (fun i2 => am_lda ρ 3 (fun a3 => am_ldi ρ 4 (fun i4 => am_ldi ρ 5 (fun i5 => am_st0 st (l_X9_positionOf_69 N n a1 i2 a3 i4 i5 h))))))) am_C0) (am_c1 (fun ρ st h hc => by
        obtain ⟨a1, m_a1, hc⟩ := am_lda_some hc
        obtain ⟨i2, m_i2, hc⟩ := am_ldi_some hc
        obtain ⟨a3, m_a3, hc⟩ := am_lda_some hc
        obtain ⟨i4, m_i4, hc⟩ := am_ldi_some hc
        obtain ⟨i5, m_i5, hc⟩ := am_ldi_some hc
        obtain ⟨rfl, hc⟩ := am_st0_some hc
        exact wk 69 ρ [(1, .ref a1), (2, .int i2), (3, .ref a3), (4, .int i4), (5, .int i5)] _ h (am_m1 m_a1 (am_m1 m_i2 (am_m1 m_a3 (am_m1 m_i4 (am_m1 m_i5 am_m0))))) (ih a1 i2 a3 i4 i5 h hc)) am_c0) 400 69 _ _ h hr
    exact cl (am_C1 69 (fun ρ st h => am_lda ρ 1 (fun a1 => am_ldi ρ 2 (fun i2 => am_lda ρ 3 (fun a3 => am_ldi ρ 4 (fun i4 => am_ldi ρ 5 (fun i5 => am_st0 st (l_X9_positionOf_69 N N a1 i2 a3 i4 i5 h))))))) am_C0) (am_c1 (fun ρ st h hc => by
        obtain ⟨a1, m_a1, hc⟩ := am_lda_some hc
        obtain ⟨i2, m_i2, hc⟩ := am_ldi_some hc
        obtain ⟨a3, m_a3, hc⟩ := am_lda_some hc
        obtain ⟨i4, m_i4, hc⟩ := am_ldi_some hc
        obtain ⟨i5, m_i5, hc⟩ := am_ldi_some hc
        obtain ⟨rfl, hc⟩ := am_st0_some hc
        exact wk 69 ρ [(1, .ref a1), (2, .int i2), (3, .ref a3), (4, .int i4), (5, .int i5)] _ h (am_m1 m_a1 (am_m1 m_i2 (am_m1 m_a3 (am_m1 m_i4 (am_m1 m_i5 am_m0))))) (A69 N a1 i2 a3 i4 i5 h hc)) am_c0) 400 0 _ _ h hf)
theorem s_X9_positionOf {l : Launch} {al : Nat → Nat} {dC : Nat → ClassId} {dI : Nat → Nat → Nat} {aC : Nat → ClassId} {aV : Nat → Nat} (hy : am_Hy l al) (N : Nat) : am_CS l al dC dI aC aV 92 (c_X9_positionOf N) := by
  intro γ as h kk g hc0
  obtain ⟨z0, w0, e_0, hcz0⟩ := am_sa_some hc0
  obtain ⟨hz0, hc1⟩ := am_bif hcz0
  cases Nat.eq_of_beq_eq_true hz0
  obtain ⟨a1, w1, e_1, hc2⟩ := am_sa_some hc1
  obtain ⟨e_2, hc⟩ := am_st0_some hc2
  subst e_2
  subst e_1
  subst e_0
  rcases am_bt_some hc with ⟨h1, e1, e2⟩ | ⟨v, h1, e1, e2⟩
  · exact ⟨_, _, m_X9_positionOf hy N a1 h _ e1, e2⟩
  · exact ⟨_, _, m_X9_positionOf hy N a1 h _ e1, e2⟩
