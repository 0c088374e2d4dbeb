def f_X9_user (N : Nat) (i1 : Int32) (i2 : Int32) (h : am_Hp) : Option (Option Int32 × am_Hp) :=
  am_bt (f_X9_seatOf N i1 h) (fun h1 => some (none, h1)) (fun b2 h1 => (if i2.toInt = 0 then
    bif am_isO b2 5 then some (some (h1 b2 0), h1) else none
  else if i2.toInt = 1 then
    bif am_isO b2 5 then some (some (h1 b2 1), h1) else none
  else if i2.toInt = 2 then
    bif am_isO b2 5 then some (some (h1 b2 2), h1) else none
  else if i2.toInt = 3 then
    bif am_isO b2 5 then (if (h1 b2 2) = 0 then
      some (some (-1 : Int32), h1)
    else
      bif am_isO b2 5 then some (some (h1 b2 3), h1) else none) else none
  else if i2.toInt = 4 then
    bif am_isO b2 5 then (if (h1 b2 2) = 0 then
      some (some (-1 : Int32), h1)
    else
      am_bt (f_X9_positionOf N b2 h1) (fun h3 => some (none, h3)) (fun x4 h3 => some (some x4, h3))) else none
  else if i2.toInt = 5 then
    bif am_isO b2 5 then some (some (h1 b2 7), h1) else none
  else if i2.toInt = 6 then
    bif am_isO b2 5 then (if (h1 b2 2) = (3 : Int32) then
      bif am_isO b2 5 then some (some (h1 b2 6), h1) else none
    else
      some (some (0 : Int32), h1)) else none
  else some (some (-2 : Int32), h1)))
def c_X9_user (N : Nat) : am_Cl := fun _ as h kk => am_sa as (fun z w0 => bif Nat.beq z 0 then am_s1 w0 (fun i1 w1 => am_s1 w1 (fun i2 w2 => am_st0 w2 (am_bt (f_X9_user N i1 i2 h) (fun h => kk none h) (fun v h => kk (am_oi v) h)))) else none)
def o_X9_user (N : Nat) : am_Orc := (am_oc 87 (c_X9_seatOf N) (am_oc 92 (c_X9_positionOf N) am_o0))
set_option maxRecDepth 100000 in
theorem tok_X9_user : am_tok 65 tX9_user := by
  unfold am_tok
  decide +kernel
set_option maxHeartbeats 4000000 in
set_option maxRecDepth 100000 in
theorem m_X9_user {l : Launch} {al : Nat → Nat} {dC : Nat → ClassId} {dI : Nat → Nat → Nat} {aC : Nat → ClassId} {aV : Nat → Nat} (hy : am_Hy l al) (N : Nat) (i1 : Int32) (i2 : Int32) (h : am_Hp) (r : (Option Int32 × am_Hp)) (hf : f_X9_user N i1 i2 h = some r) : am_Met l al dC dI aC aV 65 [.ref 0, .int i1, .int i2] h (am_ot am_oi r.1) r.2 :=
  am_met (tab := tX9_user) (orc := o_X9_user N) (ret := am_ti) (g := r) (by decide) (by decide) hy.1 hy.2 tok_X9_user (am_os1 (s_X9_seatOf hy N) (am_os1 (s_X9_positionOf hy N) am_os0)) am_ti_inv (Nat.le_of_ble_eq_true rfl) (fun At cl wk => by
    skip
    exact cl am_C0 am_c0 400 0 _ _ h hf)
theorem s_X9_user {l : Launch} {al : Nat → Nat} {dC : Nat → ClassId} {dI : Nat → Nat → Nat} {aC : Nat → ClassId} {aV : Nat → Nat} (hy : am_Hy l al) (N : Nat) : am_CS l al dC dI aC aV 65 (c_X9_user N) := by
  intro γ as h kk g hc0
  obtain ⟨z0, w0, e_0, hcz0⟩ := am_sa_some hc0
  obtain ⟨hz0, hc1⟩ := am_bif hcz0
  cases Nat.eq_of_beq_eq_true hz0
  obtain ⟨i1, w1, e_1, hc2⟩ := am_s1_some hc1
  obtain ⟨i2, w2, e_2, hc3⟩ := am_s1_some hc2
  obtain ⟨e_3, hc⟩ := am_st0_some hc3
  subst e_3
  subst e_2
  subst e_1
  subst e_0
  rcases am_bt_some hc with ⟨h1, e1, e2⟩ | ⟨v, h1, e1, e2⟩
  · exact ⟨_, _, m_X9_user hy N i1 i2 h _ e1, e2⟩
  · exact ⟨_, _, m_X9_user hy N i1 i2 h _ e1, e2⟩

def f_X9_uppermostLine (N : Nat) (a1 : Nat) (h : am_Hp) : Option (Int32 × am_Hp) :=
  am_bi (f_X4_cursorLine N 161 h) (fun x2 h1 =>
  bif am_isO a1 5 then bif am_isO a1 5 then some ((if (((x2 - (h1 a1 7)) - (h1 a1 1)) + (1 : Int32)) < (0 : Int32) then (0 : Int32) else ((x2 - (h1 a1 7)) - (h1 a1 1)) + (1 : Int32)), h1) else none else none)
def c_X9_uppermostLine (N : Nat) : am_Cl := fun _ as h kk => am_sa as (fun z w0 => bif Nat.beq z 0 then am_sa w0 (fun a1 w1 => am_st0 w1 (am_bi (f_X9_uppermostLine N a1 h) (fun v h => kk (am_oi v) h))) else none)
def o_X9_uppermostLine (N : Nat) : am_Orc := (am_oc 23 (c_X4_cursorLine N) am_o0)
set_option maxRecDepth 100000 in
theorem tok_X9_uppermostLine : am_tok 93 tX9_uppermostLine := by
  unfold am_tok
  decide +kernel
set_option maxHeartbeats 4000000 in
set_option maxRecDepth 100000 in
theorem m_X9_uppermostLine {l : Launch} {al : Nat → Nat} {dC : Nat → ClassId} {dI : Nat → Nat → Nat} {aC : Nat → ClassId} {aV : Nat → Nat} (hy : am_Hy l al) (N : Nat) (a1 : Nat) (h : am_Hp) (r : (Int32 × am_Hp)) (hf : f_X9_uppermostLine N a1 h = some r) : am_Met l al dC dI aC aV 93 [.ref 0, .ref a1] h (am_oi r.1) r.2 :=
  am_met (tab := tX9_uppermostLine) (orc := o_X9_uppermostLine N) (ret := am_ri) (g := r) (by decide) (by decide) hy.1 hy.2 tok_X9_uppermostLine (am_os1 (s_X4_cursorLine hy N) am_os0) am_ri_inv (Nat.le_of_ble_eq_true rfl) (fun At cl wk => by
    skip
    exact cl am_C0 am_c0 400 0 _ _ h hf)
theorem s_X9_uppermostLine {l : Launch} {al : Nat → Nat} {dC : Nat → ClassId} {dI : Nat → Nat → Nat} {aC : Nat → ClassId} {aV : Nat → Nat} (hy : am_Hy l al) (N : Nat) : am_CS l al dC dI aC aV 93 (c_X9_uppermostLine N) := by
  intro γ as h kk g hc0
  obtain ⟨z0, w0, e_0, hcz0⟩ := am_sa_some hc0
  obtain ⟨hz0, hc1⟩ := am_bif hcz0
  cases Nat.eq_of_beq_eq_true hz0
  obtain ⟨a1, w1, e_1, hc2⟩ := am_sa_some hc1
  obtain ⟨e_2, hc⟩ := am_st0_some hc2
  subst e_2
  subst e_1
  subst e_0
  obtain ⟨q, e1, e2⟩ := am_bi_some hc
  exact ⟨_, _, m_X9_uppermostLine hy N a1 h _ e1, e2⟩

def f_X9_shown (N : Nat) (i1 : Int32) (i2 : Int32) (i3 : Int32) (h : am_Hp) : Option (Option Int32 × am_Hp) :=
  am_bt (f_X9_seatOf N i1 h) (fun h1 => some (none, h1)) (fun b2 h1 => bif am_isO b2 5 then (if (h1 b2 2) = 0 then
    some (some (-1 : Int32), h1)
  else
    (if i2 < 0 then
      some (some (-1 : Int32), h1)
    else
      bif am_isO b2 5 then (if (h1 b2 1) ≤ i2 then
        some (some (-1 : Int32), h1)
      else
        (if i3 < 0 then
          some (some (-1 : Int32), h1)
        else
          bif am_isO b2 5 then (if i3 < (h1 b2 0) then
            bif am_isO b2 5 then am_bt (f_X9_positionOf N b2 h1) (fun h3 => some (none, h3)) (fun x4 h3 => am_bt (f_X9_draw N 161 (h1 b2 3) x4 h3) (fun h5 => some (none, h5)) (fun _ h5 => am_bi (f_X9_uppermostLine N b2 h5) (fun x7 h6 =>
            am_bi (f_X4_symbolInLine N 161 (x7 + i2) i3 h6) (fun x9 h8 =>
            some (some x9, h8))))) else none
          else
            some (some (-1 : Int32), h1)) else none)) else none)) else none)
def c_X9_shown (N : Nat) : am_Cl := fun _ as h kk => am_sa as (fun z w0 => bif Nat.beq z 0 then am_s1 w0 (fun i1 w1 => am_s1 w1 (fun i2 w2 => am_s1 w2 (fun i3 w3 => am_st0 w3 (am_bt (f_X9_shown N i1 i2 i3 h) (fun h => kk none h) (fun v h => kk (am_oi v) h))))) else none)
def o_X9_shown (N : Nat) : am_Orc := (am_oc 87 (c_X9_seatOf N) (am_oc 92 (c_X9_positionOf N) (am_oc 91 (c_X9_draw N) (am_oc 93 (c_X9_uppermostLine N) (am_oc 24 (c_X4_symbolInLine N) am_o0)))))
set_option maxRecDepth 100000 in
theorem tok_X9_shown : am_tok 66 tX9_shown := by
  unfold am_tok
  decide +kernel
set_option maxHeartbeats 4000000 in
set_option maxRecDepth 100000 in
theorem m_X9_shown {l : Launch} {al : Nat → Nat} {dC : Nat → ClassId} {dI : Nat → Nat → Nat} {aC : Nat → ClassId} {aV : Nat → Nat} (hy : am_Hy l al) (N : Nat) (i1 : Int32) (i2 : Int32) (i3 : Int32) (h : am_Hp) (r : (Option Int32 × am_Hp)) (hf : f_X9_shown N i1 i2 i3 h = some r) : am_Met l al dC dI aC aV 66 [.ref 0, .int i1, .int i2, .int i3] h (am_ot am_oi r.1) r.2 :=
  am_met (tab := tX9_shown) (orc := o_X9_shown N) (ret := am_ti) (g := r) (by decide) (by decide) hy.1 hy.2 tok_X9_shown (am_os1 (s_X9_seatOf hy N) (am_os1 (s_X9_positionOf hy N) (am_os1 (s_X9_draw hy N) (am_os1 (s_X9_uppermostLine hy N) (am_os1 (s_X4_symbolInLine hy N) am_os0))))) am_ti_inv (Nat.le_of_ble_eq_true rfl) (fun At cl wk => by
    skip
    exact cl am_C0 am_c0 400 0 _ _ h hf)
theorem s_X9_shown {l : Launch} {al : Nat → Nat} {dC : Nat → ClassId} {dI : Nat → Nat → Nat} {aC : Nat → ClassId} {aV : Nat → Nat} (hy : am_Hy l al) (N : Nat) : am_CS l al dC dI aC aV 66 (c_X9_shown N) := by
  intro γ as h kk g hc0
  obtain ⟨z0, w0, e_0, hcz0⟩ := am_sa_some hc0
  obtain ⟨hz0, hc1⟩ := am_bif hcz0
  cases Nat.eq_of_beq_eq_true hz0
  obtain ⟨i1, w1, e_1, hc2⟩ := am_s1_some hc1
  obtain ⟨i2, w2, e_2, hc3⟩ := am_s1_some hc2
  obtain ⟨i3, w3, e_3, hc4⟩ := am_s1_some hc3
  obtain ⟨e_4, hc⟩ := am_st0_some hc4
  subst e_4
  subst e_3
  subst e_2
  subst e_1
  subst e_0
  rcases am_bt_some hc with ⟨h1, e1, e2⟩ | ⟨v, h1, e1, e2⟩
  · exact ⟨_, _, m_X9_shown hy N i1 i2 i3 h _ e1, e2⟩
  · exact ⟨_, _, m_X9_shown hy N i1 i2 i3 h _ e1, e2⟩

def f_X9_cursorRow (N : Nat) (i1 : Int32) (h : am_Hp) : Option (Option Int32 × am_Hp) :=
  am_bt (f_X9_seatOf N i1 h) (fun h1 => some (none, h1)) (fun b2 h1 => bif am_isO b2 5 then (if (h1 b2 2) = 0 then
    some (some (-1 : Int32), h1)
  else
    bif am_isO b2 5 then am_bt (f_X9_positionOf N b2 h1) (fun h3 => some (none, h3)) (fun x4 h3 => am_bt (f_X9_draw N 161 (h1 b2 3) x4 h3) (fun h5 => some (none, h5)) (fun _ h5 => am_bi (f_X4_cursorLine N 161 h5) (fun x7 h6 =>
    am_bi (f_X9_uppermostLine N b2 h6) (fun x9 h8 =>
    bif am_isO b2 5 then (if (h8 b2 1) ≤ (x7 - x9) then
      some (some (-1 : Int32), h8)
    else
      some (some (x7 - x9), h8)) else none)))) else none) else none)
def c_X9_cursorRow (N : Nat) : am_Cl := fun _ as h kk => am_sa as (fun z w0 => bif Nat.beq z 0 then am_s1 w0 (fun i1 w1 => am_st0 w1 (am_bt (f_X9_cursorRow N i1 h) (fun h => kk none h) (fun v h => kk (am_oi v) h))) else none)
def o_X9_cursorRow (N : Nat) : am_Orc := (am_oc 87 (c_X9_seatOf N) (am_oc 92 (c_X9_positionOf N) (am_oc 91 (c_X9_draw N) (am_oc 23 (c_X4_cursorLine N) (am_oc 93 (c_X9_uppermostLine N) am_o0)))))
set_option maxRecDepth 100000 in
theorem tok_X9_cursorRow : am_tok 67 tX9_cursorRow := by
  unfold am_tok
  decide +kernel
set_option maxHeartbeats 4000000 in
set_option maxRecDepth 100000 in
theorem m_X9_cursorRow {l : Launch} {al : Nat → Nat} {dC : Nat → ClassId} {dI : Nat → Nat → Nat} {aC : Nat → ClassId} {aV : Nat → Nat} (hy : am_Hy l al) (N : Nat) (i1 : Int32) (h : am_Hp) (r : (Option Int32 × am_Hp)) (hf : f_X9_cursorRow N i1 h = some r) : am_Met l al dC dI aC aV 67 [.ref 0, .int i1] h (am_ot am_oi r.1) r.2 :=
  am_met (tab := tX9_cursorRow) (orc := o_X9_cursorRow N) (ret := am_ti) (g := r) (by decide) (by decide) hy.1 hy.2 tok_X9_cursorRow (am_os1 (s_X9_seatOf hy N) (am_os1 (s_X9_positionOf hy N) (am_os1 (s_X9_draw hy N) (am_os1 (s_X4_cursorLine hy N) (am_os1 (s_X9_uppermostLine hy N) am_os0))))) am_ti_inv (Nat.le_of_ble_eq_true rfl) (fun At cl wk => by
    skip
    exact cl am_C0 am_c0 400 0 _ _ h hf)
theorem s_X9_cursorRow {l : Launch} {al : Nat → Nat} {dC : Nat → ClassId} {dI : Nat → Nat → Nat} {aC : Nat → ClassId} {aV : Nat → Nat} (hy : am_Hy l al) (N : Nat) : am_CS l al dC dI aC aV 67 (c_X9_cursorRow N) := by
  intro γ as h kk g hc0
  obtain ⟨z0, w0, e_0, hcz0⟩ := am_sa_some hc0
  obtain ⟨hz0, hc1⟩ := am_bif hcz0
  cases Nat.eq_of_beq_eq_true hz0
  obtain ⟨i1, w1, e_1, hc2⟩ := am_s1_some hc1
  obtain ⟨e_2, hc⟩ := am_st0_some hc2
  subst e_2
  subst e_1
  subst e_0
  rcases am_bt_some hc with ⟨h1, e1, e2⟩ | ⟨v, h1, e1, e2⟩
  · exact ⟨_, _, m_X9_cursorRow hy N i1 h _ e1, e2⟩
  · exact ⟨_, _, m_X9_cursorRow hy N i1 h _ e1, e2⟩
