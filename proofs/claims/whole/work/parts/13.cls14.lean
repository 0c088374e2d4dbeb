def f_X9_cursorRow (N : Nat) (i1 : Int32) (h : am_Hp) : Option (Option Int32 × am_Hp) :=
  am_bt (f_X9_seatOf N i1 h) (fun h1 => some (none, h1)) (fun b2 h1 => bif am_isO b2 5 then (if (h1 b2 2) = 0 then
    some (some (-1 : Int32), h1)
  else
    bif am_isO b2 5 then am_bt (f_X9_positionOf N b2 h1) (fun h3 => some (none, h3)) (fun x4 h3 => am_bt (f_X9_draw N 161 (h1 b2 3) x4 h3) (fun h5 => some (none, h5)) (fun _ h5 => am_bi (f_X4_cursorLine N 161 h5) (fun x7 h6 =>
    am_bi (f_X9_uppermostLine N b2 h6) (fun x9 h8 =>
    bif am_isO b2 5 then (if (h8 b2 1) ≤ (x7 - x9) then
      some (some (-1 : Int32), h8)
    else
      some (some (x7 - x9), h8)) else none)))) else none) else none)
def c_X9_cursorRow (N : Nat) : am_Cl := fun _ as h kk => am_sa as (fun z w0 => bif Nat.beq z 0 then am_s1 w0 (fun i1 w1 => am_st0 w1 (am_bt (f_X9_cursorRow N i1 h) (fun h => kk none h) (fun v h => kk (am_oi v) h))) else none)
def o_X9_cursorRow (N : Nat) : am_Orc := (am_oc 106 (c_X9_seatOf N) (am_oc 111 (c_X9_positionOf N) (am_oc 110 (c_X9_draw N) (am_oc 25 (c_X4_cursorLine N) (am_oc 112 (c_X9_uppermostLine N) am_o0)))))
set_option maxRecDepth 100000 in
theorem tok_X9_cursorRow : am_tok 75 tX9_cursorRow := by
  unfold am_tok
  decide +kernel
set_option maxHeartbeats 4000000 in
set_option maxRecDepth 100000 in
theorem m_X9_cursorRow {l : Launch} {al : Nat → Nat} {dC : Nat → ClassId} {dI : Nat → Nat → Nat} {aC : Nat → ClassId} {aV : Nat → Nat} (hy : am_Hy l al) (N : Nat) (i1 : Int32) (h : am_Hp) (r : (Option Int32 × am_Hp)) (hf : f_X9_cursorRow N i1 h = some r) : am_Met l al dC dI aC aV 75 [.ref 0, .int i1] h (am_ot am_oi r.1) r.2 :=
  am_met (tab := tX9_cursorRow) (orc := o_X9_cursorRow N) (ret := am_ti) (g := r) (by decide) (by decide) hy.1 hy.2 tok_X9_cursorRow (am_os1 (s_X9_seatOf hy N) (am_os1 (s_X9_positionOf hy N) (am_os1 (s_X9_draw hy N) (am_os1 (s_X4_cursorLine hy N) (am_os1 (s_X9_uppermostLine hy N) am_os0))))) am_ti_inv (Nat.le_of_ble_eq_true rfl) (fun At cl wk => by
    skip
    exact cl am_C0 am_c0 400 0 _ _ h hf)
theorem s_X9_cursorRow {l : Launch} {al : Nat → Nat} {dC : Nat → ClassId} {dI : Nat → Nat → Nat} {aC : Nat → ClassId} {aV : Nat → Nat} (hy : am_Hy l al) (N : Nat) : am_CS l al dC dI aC aV 75 (c_X9_cursorRow N) := by
  intro γ as h kk g hc0
  obtain ⟨z0, w0, e_0, hcz0⟩ := am_sa_some hc0
  obtain ⟨hz0, hc1⟩ := am_bif hcz0
  cases Nat.eq_of_beq_eq_true hz0
  obtain ⟨i1, w1, e_1, hc2⟩ := am_s1_some hc1
  obtain ⟨e_2, hc⟩ := am_st0_some hc2
  subst e_2
  subst e_1
  subst e_0
  rcases am_bt_some hc with ⟨h1, e1, e2⟩ | ⟨v, h1, e1, e2⟩
  · exact ⟨_, _, m_X9_cursorRow hy N i1 h _ e1, e2⟩
  · exact ⟨_, _, m_X9_cursorRow hy N i1 h _ e1, e2⟩

def l_X9_watchers_28 (N : Nat) : Nat → Int32 → Int32 → Int32 → Int32 → am_Hp → Option (Option Int32 × am_Hp)
  | 0, _, _, _, _, _ => none
  | n + 1, i1, i2, i3, i4, h =>
    (if (h 19 4) ≤ i4 then
      some (some i3, h)
    else
      am_bt (f_X9_seatOf N i4 h) (fun h1 => some (none, h1)) (fun b2 h1 => bif am_isO b2 5 then am_bi (f_X5_watches N b2 i1 i2 h1) (fun x4 h3 =>
      (if x4 = 0 then
        l_X9_watchers_28 N n i1 i2 i3 (i4 + (1 : Int32)) h3
      else
        l_X9_watchers_28 N n i1 i2 (i3 ||| ((1 : Int32) <<< (i4 &&& 31))) (i4 + (1 : Int32)) h3)) else none))
def f_X9_watchers (N : Nat) (i1 : Int32) (i2 : Int32) (h : am_Hp) : Option (Option Int32 × am_Hp) :=
  am_bt (f_X9_deskOf N i1 h) (fun h1 => some (none, h1)) (fun b2 h1 => (if i2 = (1 : Int32) then
    l_X9_watchers_28 N N i1 i2 (0 : Int32) (0 : Int32) h1
  else
    (if i2 = (2 : Int32) then
      l_X9_watchers_28 N N i1 i2 (0 : Int32) (0 : Int32) h1
    else
      (if i2 = (3 : Int32) then
        l_X9_watchers_28 N N i1 i2 (0 : Int32) (0 : Int32) h1
      else
        some (some (0 : Int32), h1)))))
def c_X9_watchers (N : Nat) : am_Cl := fun _ as h kk => am_sa as (fun z w0 => bif Nat.beq z 0 then am_s1 w0 (fun i1 w1 => am_s1 w1 (fun i2 w2 => am_st0 w2 (am_bt (f_X9_watchers N i1 i2 h) (fun h => kk none h) (fun v h => kk (am_oi v) h)))) else none)
def o_X9_watchers (N : Nat) : am_Orc := (am_oc 104 (c_X9_deskOf N) (am_oc 106 (c_X9_seatOf N) (am_oc 40 (c_X5_watches N) am_o0)))
set_option maxRecDepth 100000 in
theorem tok_X9_watchers : am_tok 76 tX9_watchers := by
  unfold am_tok
  decide +kernel
set_option maxHeartbeats 4000000 in
set_option maxRecDepth 100000 in
theorem m_X9_watchers {l : Launch} {al : Nat → Nat} {dC : Nat → ClassId} {dI : Nat → Nat → Nat} {aC : Nat → ClassId} {aV : Nat → Nat} (hy : am_Hy l al) (N : Nat) (i1 : Int32) (i2 : Int32) (h : am_Hp) (r : (Option Int32 × am_Hp)) (hf : f_X9_watchers N i1 i2 h = some r) : am_Met l al dC dI aC aV 76 [.ref 0, .int i1, .int i2] h (am_ot am_oi r.1) r.2 :=
  am_met (tab := tX9_watchers) (orc := o_X9_watchers N) (ret := am_ti) (g := r) (by decide) (by decide) hy.1 hy.2 tok_X9_watchers (am_os1 (s_X9_deskOf hy N) (am_os1 (s_X9_seatOf hy N) (am_os1 (s_X5_watches hy N) am_os0))) am_ti_inv (Nat.le_of_ble_eq_true rfl) (fun At cl wk => by
    have A28 : ∀ n : Nat, ∀ i1 : Int32, ∀ i2 : Int32, ∀ i3 : Int32, ∀ i4 : Int32, ∀ h, l_X9_watchers_28 N n i1 i2 i3 i4 h = some r → At 28 [(0, .ref 0), (1, .int i1), (2, .int i2), (3, .int i3), (4, .int i4)] [] h := by
      intro n
      induction n with
      | zero => intro i1 i2 i3 i4 h hr; cases hr
      | succ n ih =>
        intro i1 i2 i3 i4 h hr
        exact cl (am_C1 28 (fun ρ st h => am_lda ρ 0 (fun z => bif Nat.beq z 0 then am_ldi ρ 1 (fun i1 => am_ldi ρ 2 (fun i2 => am_ldi ρ 3 (fun i3 => am_ldi ρ 4 (fun i4 => am_st0 st (l_X9_watchers_28 N n i1 i2 i3 i4 h))))) else none)) am_C0) (am_c1 (fun ρ st h hc => by
        obtain ⟨z, m_a0, hc⟩ := am_lda_some hc
        obtain ⟨hz, hc⟩ := am_bif hc
        cases Nat.eq_of_beq_eq_true hz
        obtain ⟨i1, m_i1, hc⟩ := am_ldi_some hc
        obtain ⟨i2, m_i2, hc⟩ := am_ldi_some hc
        obtain ⟨i3, m_i3, hc⟩ := am_ldi_some hc
        obtain ⟨i4, m_i4, hc⟩ := am_ldi_some hc
        obtain ⟨rfl, hc⟩ := am_st0_some hc
        exact wk 28 ρ [(0, .ref 0), (1, .int i1), (2, .int i2), (3, .int i3), (4, .int i4)] _ h (am_m1 m_a0 (am_m1 m_i1 (am_m1 m_i2 (am_m1 m_i3 (am_m1 m_i4 am_m0))))) (ih i1 i2 i3 i4 h hc)) am_c0) 400 28 _ _ h hr
    exact cl (am_C1 28 (fun ρ st h => am_lda ρ 0 (fun z => bif Nat.beq z 0 then am_ldi ρ 1 (fun i1 => am_ldi ρ 2 (fun i2 => am_ldi ρ 3 (fun i3 => am_ldi ρ 4 (fun i4 => am_st0 st (l_X9_watchers_28 N N i1 i2 i3 i4 h))))) else none)) am_C0) (am_c1 (fun ρ st h hc => by
        obtain ⟨z, m_a0, hc⟩ := am_lda_some hc
        obtain ⟨hz, hc⟩ := am_bif hc
        cases Nat.eq_of_beq_eq_true hz
        obtain ⟨i1, m_i1, hc⟩ := am_ldi_some hc
        obtain ⟨i2, m_i2, hc⟩ := am_ldi_some hc
        obtain ⟨i3, m_i3, hc⟩ := am_ldi_some hc
        obtain ⟨i4, m_i4, hc⟩ := am_ldi_some hc
        obtain ⟨rfl, hc⟩ := am_st0_some hc
        exact wk 28 ρ [(0, .ref 0), (1, .int i1), (2, .int i2), (3, .int i3), (4, .int i4)] _ h (am_m1 m_a0 (am_m1 m_i1 (am_m1 m_i2 (am_m1 m_i3 (am_m1 m_i4 am_m0))))) (A28 N i1 i2 i3 i4 h hc)) am_c0) 400 0 _ _ h hf)
theorem s_X9_watchers {l : Launch} {al : Nat → Nat} {dC : Nat → ClassId} {dI : Nat → Nat → Nat} {aC : Nat → ClassId} {aV : Nat → Nat} (hy : am_Hy l al) (N : Nat) : am_CS l al dC dI aC aV 76 (c_X9_watchers N) := by
  intro γ as h kk g hc0
  obtain ⟨z0, w0, e_0, hcz0⟩ := am_sa_some hc0
  obtain ⟨hz0, hc1⟩ := am_bif hcz0
  cases Nat.eq_of_beq_eq_true hz0
  obtain ⟨i1, w1, e_1, hc2⟩ := am_s1_some hc1
  obtain ⟨i2, w2, e_2, hc3⟩ := am_s1_some hc2
  obtain ⟨e_3, hc⟩ := am_st0_some hc3
  subst e_3
  subst e_2
  subst e_1
  subst e_0
  rcases am_bt_some hc with ⟨h1, e1, e2⟩ | ⟨v, h1, e1, e2⟩
  · exact ⟨_, _, m_X9_watchers hy N i1 i2 h _ e1, e2⟩
  · exact ⟨_, _, m_X9_watchers hy N i1 i2 h _ e1, e2⟩

def l_X9_userWithLeastWindow_16 (N : Nat) : Nat → Int32 → Int32 → Int32 → Int32 → Int32 → am_Hp → Option (Option Int32 × am_Hp)
  | 0, _, _, _, _, _, _ => none
  | n + 1, i1, i2, i3, i4, i5, h =>
    (if (h 19 4) ≤ i5 then
      some (some i4, h)
    else
      am_bt (f_X9_seatOf N i5 h) (fun h1 => some (none, h1)) (fun b2 h1 => bif am_isO b2 5 then am_bi (f_X5_watches N b2 i1 (1 : Int32) h1) (fun x4 h3 =>
      (if x4 = 0 then
        l_X9_userWithLeastWindow_16 N n i1 i2 i3 i4 (i5 + (1 : Int32)) h3
      else
        bif am_isO b2 5 then am_bi (f_X5_windowSize N b2 i2 h3) (fun x6 h5 =>
        (if i3 ≤ x6 then
          l_X9_userWithLeastWindow_16 N n i1 i2 i3 i4 (i5 + (1 : Int32)) h5
        else
          bif am_isO b2 5 then am_bi (f_X5_windowSize N b2 i2 h5) (fun x8 h7 =>
          l_X9_userWithLeastWindow_16 N n i1 i2 x8 i5 (i5 + (1 : Int32)) h7) else none)) else none)) else none))
def f_X9_userWithLeastWindow (N : Nat) (i1 : Int32) (i2 : Int32) (h : am_Hp) : Option (Option Int32 × am_Hp) :=
  am_bi (f_X8_sizeOf N 15 i1 i2 h) (fun x2 h1 =>
  l_X9_userWithLeastWindow_16 N N i1 i2 x2 (-1 : Int32) (0 : Int32) h1)
def c_X9_userWithLeastWindow (N : Nat) : am_Cl := fun _ as h kk => am_sa as (fun z w0 => bif Nat.beq z 0 then am_s1 w0 (fun i1 w1 => am_s1 w1 (fun i2 w2 => am_st0 w2 (am_bt (f_X9_userWithLeastWindow N i1 i2 h) (fun h => kk none h) (fun v h => kk (am_oi v) h)))) else none)
def o_X9_userWithLeastWindow (N : Nat) : am_Orc := (am_oc 58 (c_X8_sizeOf N) (am_oc 106 (c_X9_seatOf N) (am_oc 40 (c_X5_watches N) (am_oc 41 (c_X5_windowSize N) am_o0))))
set_option maxRecDepth 100000 in
theorem tok_X9_userWithLeastWindow : am_tok 113 tX9_userWithLeastWindow := by
  unfold am_tok
  decide +kernel
set_option maxHeartbeats 4000000 in
set_option maxRecDepth 100000 in
theorem m_X9_userWithLeastWindow {l : Launch} {al : Nat → Nat} {dC : Nat → ClassId} {dI : Nat → Nat → Nat} {aC : Nat → ClassId} {aV : Nat → Nat} (hy : am_Hy l al) (N : Nat) (i1 : Int32) (i2 : Int32) (h : am_Hp) (r : (Option Int32 × am_Hp)) (hf : f_X9_userWithLeastWindow N i1 i2 h = some r) : am_Met l al dC dI aC aV 113 [.ref 0, .int i1, .int i2] h (am_ot am_oi r.1) r.2 :=
  am_met (tab := tX9_userWithLeastWindow) (orc := o_X9_userWithLeastWindow N) (ret := am_ti) (g := r) (by decide) (by decide) hy.1 hy.2 tok_X9_userWithLeastWindow (am_os1 (s_X8_sizeOf hy N) (am_os1 (s_X9_seatOf hy N) (am_os1 (s_X5_watches hy N) (am_os1 (s_X5_windowSize hy N) am_os0)))) am_ti_inv (Nat.le_of_ble_eq_true rfl) (fun At cl wk => by
    have A16 : ∀ n : Nat, ∀ i1 : Int32, ∀ i2 : Int32, ∀ i3 : Int32, ∀ i4 : Int32, ∀ i5 : Int32, ∀ h, l_X9_userWithLeastWindow_16 N n i1 i2 i3 i4 i5 h = some r → At 16 [(0, .ref 0), (1, .int i1), (2, .int i2), (3, .int i3), (4, .int i4), (5, .int i5)] [] h := by
      intro n
      induction n with
      | zero => intro i1 i2 i3 i4 i5 h hr; cases hr
      | succ n ih =>
        intro i1 i2 i3 i4 i5 h hr
        exact cl (am_C1 16 (fun ρ st h => am_lda ρ 0 (fun z => bif Nat.beq z 0 then am_ldi ρ 1 (fun i1 => am_ldi ρ 2 (fun i2 => am_ldi ρ 3 (fun i3 => am_ldi ρ 4 (fun i4 => am_ldi ρ 5 (fun i5 => am_st0 st (l_X9_userWithLeastWindow_16 N n i1 i2 i3 i4 i5 h)))))) else none)) am_C0) (am_c1 (fun ρ st h hc => by
        obtain ⟨z, m_a0, hc⟩ := am_lda_some hc
        obtain ⟨hz, hc⟩ := am_bif hc
        cases Nat.eq_of_beq_eq_true hz
        obtain ⟨i1, m_i1, hc⟩ := am_ldi_some hc
        obtain ⟨i2, m_i2, hc⟩ := am_ldi_some hc
        obtain ⟨i3, m_i3, hc⟩ := am_ldi_some hc
        obtain ⟨i4, m_i4, hc⟩ := am_ldi_some hc
        obtain ⟨i5, m_i5, hc⟩ := am_ldi_some hc
        obtain ⟨rfl, hc⟩ := am_st0_some hc
        exact wk 16 ρ [(0, .ref 0), (1, .int i1), (2, .int i2), (3, .int i3), (4, .int i4), (5, .int i5)] _ h (am_m1 m_a0 (am_m1 m_i1 (am_m1 m_i2 (am_m1 m_i3 (am_m1 m_i4 (am_m1 m_i5 am_m0)))))) (ih i1 i2 i3 i4 i5 h hc)) am_c0) 400 16 _ _ h hr
    exact cl (am_C1 16 (fun ρ st h => am_lda ρ 0 (fun z => bif Nat.beq z 0 then am_ldi ρ 1 (fun i1 => am_ldi ρ 2 (fun i2 => am_ldi ρ 3 (fun i3 => am_ldi ρ 4 (fun i4 => am_ldi ρ 5 (fun i5 => am_st0 st (l_X9_userWithLeastWindow_16 N N i1 i2 i3 i4 i5 h)))))) else none)) am_C0) (am_c1 (fun ρ st h hc => by
        obtain ⟨z, m_a0, hc⟩ := am_lda_some hc
        obtain ⟨hz, hc⟩ := am_bif hc
        cases Nat.eq_of_beq_eq_true hz
        obtain ⟨i1, m_i1, hc⟩ := am_ldi_some hc
        obtain ⟨i2, m_i2, hc⟩ := am_ldi_some hc
        obtain ⟨i3, m_i3, hc⟩ := am_ldi_some hc
        obtain ⟨i4, m_i4, hc⟩ := am_ldi_some hc
        obtain ⟨i5, m_i5, hc⟩ := am_ldi_some hc
        obtain ⟨rfl, hc⟩ := am_st0_some hc
        exact wk 16 ρ [(0, .ref 0), (1, .int i1), (2, .int i2), (3, .int i3), (4, .int i4), (5, .int i5)] _ h (am_m1 m_a0 (am_m1 m_i1 (am_m1 m_i2 (am_m1 m_i3 (am_m1 m_i4 (am_m1 m_i5 am_m0)))))) (A16 N i1 i2 i3 i4 i5 h hc)) am_c0) 400 0 _ _ h hf)
theorem s_X9_userWithLeastWindow {l : Launch} {al : Nat → Nat} {dC : Nat → ClassId} {dI : Nat → Nat → Nat} {aC : Nat → ClassId} {aV : Nat → Nat} (hy : am_Hy l al) (N : Nat) : am_CS l al dC dI aC aV 113 (c_X9_userWithLeastWindow N) := by
  intro γ as h kk g hc0
  obtain ⟨z0, w0, e_0, hcz0⟩ := am_sa_some hc0
  obtain ⟨hz0, hc1⟩ := am_bif hcz0
  cases Nat.eq_of_beq_eq_true hz0
  obtain ⟨i1, w1, e_1, hc2⟩ := am_s1_some hc1
  obtain ⟨i2, w2, e_2, hc3⟩ := am_s1_some hc2
  obtain ⟨e_3, hc⟩ := am_st0_some hc3
  subst e_3
  subst e_2
  subst e_1
  subst e_0
  rcases am_bt_some hc with ⟨h1, e1, e2⟩ | ⟨v, h1, e1, e2⟩
  · exact ⟨_, _, m_X9_userWithLeastWindow hy N i1 i2 h _ e1, e2⟩
  · exact ⟨_, _, m_X9_userWithLeastWindow hy N i1 i2 h _ e1, e2⟩

def f_X9_sizeThatIsRight (N : Nat) (i1 : Int32) (i2 : Int32) (h : am_Hp) : Option (Option Int32 × am_Hp) :=
  bif am_in (1 : Int32) 2 then (if (h 25 1) = 0 then
    (if (-1 : Int32) = (-1 : Int32) then
      am_bi (f_X8_sizeOf N 15 i1 i2 h) (fun x14 h13 =>
      some (some x14, h13))
    else
      am_bt (f_X9_seatOf N (-1 : Int32) h) (fun h9 => some (none, h9)) (fun b10 h9 => bif am_isO b10 5 then am_bi (f_X5_windowSize N b10 i2 h9) (fun x12 h11 =>
      some (some x12, h11)) else none))
  else
    am_bt (f_X9_userWithLeastWindow N i1 i2 h) (fun h1 => some (none, h1)) (fun x2 h1 => (if x2 = (-1 : Int32) then
      am_bi (f_X8_sizeOf N 15 i1 i2 h1) (fun x8 h7 =>
      some (some x8, h7))
    else
      am_bt (f_X9_seatOf N x2 h1) (fun h3 => some (none, h3)) (fun b4 h3 => bif am_isO b4 5 then am_bi (f_X5_windowSize N b4 i2 h3) (fun x6 h5 =>
      some (some x6, h5)) else none)))) else none
def c_X9_sizeThatIsRight (N : Nat) : am_Cl := fun _ as h kk => am_sa as (fun z w0 => bif Nat.beq z 0 then am_s1 w0 (fun i1 w1 => am_s1 w1 (fun i2 w2 => am_st0 w2 (am_bt (f_X9_sizeThatIsRight N i1 i2 h) (fun h => kk none h) (fun v h => kk (am_oi v) h)))) else none)
def o_X9_sizeThatIsRight (N : Nat) : am_Orc := (am_oc 113 (c_X9_userWithLeastWindow N) (am_oc 58 (c_X8_sizeOf N) (am_oc 106 (c_X9_seatOf N) (am_oc 41 (c_X5_windowSize N) am_o0))))
set_option maxRecDepth 100000 in
theorem tok_X9_sizeThatIsRight : am_tok 114 tX9_sizeThatIsRight := by
  unfold am_tok
  decide +kernel
set_option maxHeartbeats 4000000 in
set_option maxRecDepth 100000 in
theorem m_X9_sizeThatIsRight {l : Launch} {al : Nat → Nat} {dC : Nat → ClassId} {dI : Nat → Nat → Nat} {aC : Nat → ClassId} {aV : Nat → Nat} (hy : am_Hy l al) (N : Nat) (i1 : Int32) (i2 : Int32) (h : am_Hp) (r : (Option Int32 × am_Hp)) (hf : f_X9_sizeThatIsRight N i1 i2 h = some r) : am_Met l al dC dI aC aV 114 [.ref 0, .int i1, .int i2] h (am_ot am_oi r.1) r.2 :=
  am_met (tab := tX9_sizeThatIsRight) (orc := o_X9_sizeThatIsRight N) (ret := am_ti) (g := r) (by decide) (by decide) hy.1 hy.2 tok_X9_sizeThatIsRight (am_os1 (s_X9_userWithLeastWindow hy N) (am_os1 (s_X8_sizeOf hy N) (am_os1 (s_X9_seatOf hy N) (am_os1 (s_X5_windowSize hy N) am_os0)))) am_ti_inv (Nat.le_of_ble_eq_true rfl) (fun At cl wk => by
    skip
    exact cl am_C0 am_c0 400 0 _ _ h hf)
theorem s_X9_sizeThatIsRight {l : Launch} {al : Nat → Nat} {dC : Nat → ClassId} {dI : Nat → Nat → Nat} {aC : Nat → ClassId} {aV : Nat → Nat} (hy : am_Hy l al) (N : Nat) : am_CS l al dC dI aC aV 114 (c_X9_sizeThatIsRight N) := by
  intro γ as h kk g hc0
  obtain ⟨z0, w0, e_0, hcz0⟩ := am_sa_some hc0
  obtain ⟨hz0, hc1⟩ := am_bif hcz0
  cases Nat.eq_of_beq_eq_true hz0
  obtain ⟨i1, w1, e_1, hc2⟩ := am_s1_some hc1
  obtain ⟨i2, w2, e_2, hc3⟩ := am_s1_some hc2
  obtain ⟨e_3, hc⟩ := am_st0_some hc3
  subst e_3
  subst e_2
  subst e_1
  subst e_0
  rcases am_bt_some hc with ⟨h1, e1, e2⟩ | ⟨v, h1, e1, e2⟩
  · exact ⟨_, _, m_X9_sizeThatIsRight hy N i1 i2 h _ e1, e2⟩
  · exact ⟨_, _, m_X9_sizeThatIsRight hy N i1 i2 h _ e1, e2⟩

def f_X9_rightSize (N : Nat) (i1 : Int32) (i2 : Int32) (h : am_Hp) : Option (Option Int32 × am_Hp) :=
  am_bt (f_X9_deskOf N i1 h) (fun h1 => some (none, h1)) (fun b2 h1 => am_bt (f_X9_sizeThatIsRight N i1 i2 h1) (fun h3 => some (none, h3)) (fun x4 h3 => some (some x4, h3)))
def c_X9_rightSize (N : Nat) : am_Cl := fun _ as h kk => am_sa as (fun z w0 => bif Nat.beq z 0 then am_s1 w0 (fun i1 w1 => am_s1 w1 (fun i2 w2 => am_st0 w2 (am_bt (f_X9_rightSize N i1 i2 h) (fun h => kk none h) (fun v h => kk (am_oi v) h)))) else none)
def o_X9_rightSize (N : Nat) : am_Orc := (am_oc 104 (c_X9_deskOf N) (am_oc 114 (c_X9_sizeThatIsRight N) am_o0))
set_option maxRecDepth 100000 in
theorem tok_X9_rightSize : am_tok 77 tX9_rightSize := by
  unfold am_tok
  decide +kernel
set_option maxHeartbeats 4000000 in
set_option maxRecDepth 100000 in
theorem m_X9_rightSize {l : Launch} {al : Nat → Nat} {dC : Nat → ClassId} {dI : Nat → Nat → Nat} {aC : Nat → ClassId} {aV : Nat → Nat} (hy : am_Hy l al) (N : Nat) (i1 : Int32) (i2 : Int32) (h : am_Hp) (r : (Option Int32 × am_Hp)) (hf : f_X9_rightSize N i1 i2 h = some r) : am_Met l al dC dI aC aV 77 [.ref 0, .int i1, .int i2] h (am_ot am_oi r.1) r.2 :=
  am_met (tab := tX9_rightSize) (orc := o_X9_rightSize N) (ret := am_ti) (g := r) (by decide) (by decide) hy.1 hy.2 tok_X9_rightSize (am_os1 (s_X9_deskOf hy N) (am_os1 (s_X9_sizeThatIsRight hy N) am_os0)) am_ti_inv (Nat.le_of_ble_eq_true rfl) (fun At cl wk => by
    skip
    exact cl am_C0 am_c0 400 0 _ _ h hf)
theorem s_X9_rightSize {l : Launch} {al : Nat → Nat} {dC : Nat → ClassId} {dI : Nat → Nat → Nat} {aC : Nat → ClassId} {aV : Nat → Nat} (hy : am_Hy l al) (N : Nat) : am_CS l al dC dI aC aV 77 (c_X9_rightSize N) := by
  intro γ as h kk g hc0
  obtain ⟨z0, w0, e_0, hcz0⟩ := am_sa_some hc0
  obtain ⟨hz0, hc1⟩ := am_bif hcz0
  cases Nat.eq_of_beq_eq_true hz0
  obtain ⟨i1, w1, e_1, hc2⟩ := am_s1_some hc1
  obtain ⟨i2, w2, e_2, hc3⟩ := am_s1_some hc2
  obtain ⟨e_3, hc⟩ := am_st0_some hc3
  subst e_3
  subst e_2
  subst e_1
  subst e_0
  rcases am_bt_some hc with ⟨h1, e1, e2⟩ | ⟨v, h1, e1, e2⟩
  · exact ⟨_, _, m_X9_rightSize hy N i1 i2 h _ e1, e2⟩
  · exact ⟨_, _, m_X9_rightSize hy N i1 i2 h _ e1, e2⟩

def f_X9_narrowest (N : Nat) (i1 : Int32) (i2 : Int32) (h : am_Hp) : Option (Option Int32 × am_Hp) :=
  am_bt (f_X9_deskOf N i1 h) (fun h1 => some (none, h1)) (fun b2 h1 => am_bt (f_X9_userWithLeastWindow N i1 i2 h1) (fun h3 => some (none, h3)) (fun x4 h3 => some (some x4, h3)))
def c_X9_narrowest (N : Nat) : am_Cl := fun _ as h kk => am_sa as (fun z w0 => bif Nat.beq z 0 then am_s1 w0 (fun i1 w1 => am_s1 w1 (fun i2 w2 => am_st0 w2 (am_bt (f_X9_narrowest N i1 i2 h) (fun h => kk none h) (fun v h => kk (am_oi v) h)))) else none)
def o_X9_narrowest (N : Nat) : am_Orc := (am_oc 104 (c_X9_deskOf N) (am_oc 113 (c_X9_userWithLeastWindow N) am_o0))
set_option maxRecDepth 100000 in
theorem tok_X9_narrowest : am_tok 78 tX9_narrowest := by
  unfold am_tok
  decide +kernel
set_option maxHeartbeats 4000000 in
set_option maxRecDepth 100000 in
theorem m_X9_narrowest {l : Launch} {al : Nat → Nat} {dC : Nat → ClassId} {dI : Nat → Nat → Nat} {aC : Nat → ClassId} {aV : Nat → Nat} (hy : am_Hy l al) (N : Nat) (i1 : Int32) (i2 : Int32) (h : am_Hp) (r : (Option Int32 × am_Hp)) (hf : f_X9_narrowest N i1 i2 h = some r) : am_Met l al dC dI aC aV 78 [.ref 0, .int i1, .int i2] h (am_ot am_oi r.1) r.2 :=
  am_met (tab := tX9_narrowest) (orc := o_X9_narrowest N) (ret := am_ti) (g := r) (by decide) (by decide) hy.1 hy.2 tok_X9_narrowest (am_os1 (s_X9_deskOf hy N) (am_os1 (s_X9_userWithLeastWindow hy N) am_os0)) am_ti_inv (Nat.le_of_ble_eq_true rfl) (fun At cl wk => by
    skip
    exact cl am_C0 am_c0 400 0 _ _ h hf)
theorem s_X9_narrowest {l : Launch} {al : Nat → Nat} {dC : Nat → ClassId} {dI : Nat → Nat → Nat} {aC : Nat → ClassId} {aV : Nat → Nat} (hy : am_Hy l al) (N : Nat) : am_CS l al dC dI aC aV 78 (c_X9_narrowest N) := by
  intro γ as h kk g hc0
  obtain ⟨z0, w0, e_0, hcz0⟩ := am_sa_some hc0
  obtain ⟨hz0, hc1⟩ := am_bif hcz0
  cases Nat.eq_of_beq_eq_true hz0
  obtain ⟨i1, w1, e_1, hc2⟩ := am_s1_some hc1
  obtain ⟨i2, w2, e_2, hc3⟩ := am_s1_some hc2
  obtain ⟨e_3, hc⟩ := am_st0_some hc3
  subst e_3
  subst e_2
  subst e_1
  subst e_0
  rcases am_bt_some hc with ⟨h1, e1, e2⟩ | ⟨v, h1, e1, e2⟩
  · exact ⟨_, _, m_X9_narrowest hy N i1 i2 h _ e1, e2⟩
  · exact ⟨_, _, m_X9_narrowest hy N i1 i2 h _ e1, e2⟩
