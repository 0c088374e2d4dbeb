def f_X9_named (N : Nat) (i1 : Int32) (i2 : Int32) (h : am_Hp) : Option (Int32 × am_Hp) :=
  (if i1 = 0 then
    am_bi (f_X8_indexOf N 15 i2 h) (fun x2 h1 =>
    some (x2, h1))
  else
    am_bi (f_X8_indexOf N 19 i2 h) (fun x4 h3 =>
    some (x4, h3)))
def c_X9_named (N : Nat) : am_Cl := fun _ as h kk => am_sa as (fun z w0 => bif Nat.beq z 0 then am_s1 w0 (fun i1 w1 => am_s1 w1 (fun i2 w2 => am_st0 w2 (am_bi (f_X9_named N i1 i2 h) (fun v h => kk (am_oi v) h)))) else none)
def o_X9_named (N : Nat) : am_Orc := (am_oc 57 (c_X8_indexOf N) am_o0)
set_option maxRecDepth 100000 in
theorem tok_X9_named : am_tok 66 tX9_named := by
  unfold am_tok
  decide +kernel
set_option maxHeartbeats 4000000 in
set_option maxRecDepth 100000 in
theorem m_X9_named {l : Launch} {al : Nat → Nat} {dC : Nat → ClassId} {dI : Nat → Nat → Nat} {aC : Nat → ClassId} {aV : Nat → Nat} (hy : am_Hy l al) (N : Nat) (i1 : Int32) (i2 : Int32) (h : am_Hp) (r : (Int32 × am_Hp)) (hf : f_X9_named N i1 i2 h = some r) : am_Met l al dC dI aC aV 66 [.ref 0, .int i1, .int i2] h (am_oi r.1) r.2 :=
  am_met (tab := tX9_named) (orc := o_X9_named N) (ret := am_ri) (g := r) (by decide) (by decide) hy.1 hy.2 tok_X9_named (am_os1 (s_X8_indexOf hy N) am_os0) am_ri_inv (Nat.le_of_ble_eq_true rfl) (fun At cl wk => by
    skip
    exact cl am_C0 am_c0 400 0 _ _ h hf)
theorem s_X9_named {l : Launch} {al : Nat → Nat} {dC : Nat → ClassId} {dI : Nat → Nat → Nat} {aC : Nat → ClassId} {aV : Nat → Nat} (hy : am_Hy l al) (N : Nat) : am_CS l al dC dI aC aV 66 (c_X9_named N) := by
  intro γ as h kk g hc0
  obtain ⟨z0, w0, e_0, hcz0⟩ := am_sa_some hc0
  obtain ⟨hz0, hc1⟩ := am_bif hcz0
  cases Nat.eq_of_beq_eq_true hz0
  obtain ⟨i1, w1, e_1, hc2⟩ := am_s1_some hc1
  obtain ⟨i2, w2, e_2, hc3⟩ := am_s1_some hc2
  obtain ⟨e_3, hc⟩ := am_st0_some hc3
  subst e_3
  subst e_2
  subst e_1
  subst e_0
  obtain ⟨q, e1, e2⟩ := am_bi_some hc
  exact ⟨_, _, m_X9_named hy N i1 i2 h _ e1, e2⟩

def f_X9_getSetting (N : Nat) (i1 : Int32) (h : am_Hp) : Option (Int32 × am_Hp) :=
  (if i1 < 0 then
    some ((-2 : Int32), h)
  else
    (if i1 < (2 : Int32) then
      bif am_in i1 2 then some (h 25 i1.toNatClampNeg, h) else none
    else
      some ((-2 : Int32), h)))
def c_X9_getSetting (N : Nat) : am_Cl := fun _ as h kk => am_sa as (fun z w0 => bif Nat.beq z 0 then am_s1 w0 (fun i1 w1 => am_st0 w1 (am_bi (f_X9_getSetting N i1 h) (fun v h => kk (am_oi v) h))) else none)
def o_X9_getSetting (N : Nat) : am_Orc := am_o0
set_option maxRecDepth 100000 in
theorem tok_X9_getSetting : am_tok 67 tX9_getSetting := by
  unfold am_tok
  decide +kernel
set_option maxHeartbeats 4000000 in
set_option maxRecDepth 100000 in
theorem m_X9_getSetting {l : Launch} {al : Nat → Nat} {dC : Nat → ClassId} {dI : Nat → Nat → Nat} {aC : Nat → ClassId} {aV : Nat → Nat} (hy : am_Hy l al) (N : Nat) (i1 : Int32) (h : am_Hp) (r : (Int32 × am_Hp)) (hf : f_X9_getSetting N i1 h = some r) : am_Met l al dC dI aC aV 67 [.ref 0, .int i1] h (am_oi r.1) r.2 :=
  am_met (tab := tX9_getSetting) (orc := o_X9_getSetting N) (ret := am_ri) (g := r) (by decide) (by decide) hy.1 hy.2 tok_X9_getSetting am_os0 am_ri_inv (Nat.le_of_ble_eq_true rfl) (fun At cl wk => by
    skip
    exact cl am_C0 am_c0 400 0 _ _ h hf)
theorem s_X9_getSetting {l : Launch} {al : Nat → Nat} {dC : Nat → ClassId} {dI : Nat → Nat → Nat} {aC : Nat → ClassId} {aV : Nat → Nat} (hy : am_Hy l al) (N : Nat) : am_CS l al dC dI aC aV 67 (c_X9_getSetting N) := by
  intro γ as h kk g hc0
  obtain ⟨z0, w0, e_0, hcz0⟩ := am_sa_some hc0
  obtain ⟨hz0, hc1⟩ := am_bif hcz0
  cases Nat.eq_of_beq_eq_true hz0
  obtain ⟨i1, w1, e_1, hc2⟩ := am_s1_some hc1
  obtain ⟨e_2, hc⟩ := am_st0_some hc2
  subst e_2
  subst e_1
  subst e_0
  obtain ⟨q, e1, e2⟩ := am_bi_some hc
  exact ⟨_, _, m_X9_getSetting hy N i1 h _ e1, e2⟩

def f_X9_deskOf (N : Nat) (i1 : Int32) (h : am_Hp) : Option (Option Nat × am_Hp) :=
  am_bi (f_X8_has N 15 i1 h) (fun x2 h1 =>
  (if x2 = 0 then
    some (none, h1)
  else
    (if i1 < (Int32.ofNat 4) then
      bif am_in i1 4 then (am_G 27 i1.toNatClampNeg).bind (fun b3 => some (some b3, h1)) else none
    else
      some (none, h1))))
def c_X9_deskOf (N : Nat) : am_Cl := fun _ as h kk => am_sa as (fun z w0 => bif Nat.beq z 0 then am_s1 w0 (fun i1 w1 => am_st0 w1 (am_bt (f_X9_deskOf N i1 h) (fun h => kk none h) (fun v h => kk (am_or v) h))) else none)
def uX9_deskOf : List (Nat × Instr × Nat) := [(0, .aload_n 0, 1), (1, .getfield 39, 3), (4, .iload_n 1, 1), (5, .invokevirtual 261, 3), (8, .ifCond .eq 15, 3), (11, .iload_n 1, 1), (12, .aload_n 0, 1), (13, .getfield 55, 3), (16, .getfield 313, 3), (19, .arraylength, 1), (20, .if_icmp .lt 11, 3), (23, .new 317, 3), (31, .aload_n 0, 1), (32, .getfield 55, 3), (35, .getfield 313, 3), (38, .iload_n 1, 1), (39, .aaload, 1), (40, .areturn, 1)]
def o_X9_deskOf (N : Nat) : am_Orc := (am_oc 55 (c_X8_has N) am_o0)
set_option maxRecDepth 100000 in
theorem tok_X9_deskOf : am_tok 104 uX9_deskOf := by
  unfold am_tok
  decide +kernel
set_option maxHeartbeats 4000000 in
set_option maxRecDepth 100000 in
theorem m_X9_deskOf {l : Launch} {al : Nat → Nat} {dC : Nat → ClassId} {dI : Nat → Nat → Nat} {aC : Nat → ClassId} {aV : Nat → Nat} (hy : am_Hy l al) (N : Nat) (i1 : Int32) (h : am_Hp) (r : (Option Nat × am_Hp)) (hf : f_X9_deskOf N i1 h = some r) : am_Met l al dC dI aC aV 104 [.ref 0, .int i1] h (am_ot am_or r.1) r.2 :=
  am_met (tab := uX9_deskOf) (orc := o_X9_deskOf N) (ret := am_tr) (g := r) (by decide) (by decide) hy.1 hy.2 tok_X9_deskOf (am_os1 (s_X8_has hy N) am_os0) am_tr_inv (Nat.le_of_ble_eq_true rfl) (fun At cl wk => by
    skip
    exact cl am_C0 am_c0 400 0 _ _ h hf)
theorem s_X9_deskOf {l : Launch} {al : Nat → Nat} {dC : Nat → ClassId} {dI : Nat → Nat → Nat} {aC : Nat → ClassId} {aV : Nat → Nat} (hy : am_Hy l al) (N : Nat) : am_CS l al dC dI aC aV 104 (c_X9_deskOf N) := by
  intro γ as h kk g hc0
  obtain ⟨z0, w0, e_0, hcz0⟩ := am_sa_some hc0
  obtain ⟨hz0, hc1⟩ := am_bif hcz0
  cases Nat.eq_of_beq_eq_true hz0
  obtain ⟨i1, w1, e_1, hc2⟩ := am_s1_some hc1
  obtain ⟨e_2, hc⟩ := am_st0_some hc2
  subst e_2
  subst e_1
  subst e_0
  rcases am_bt_some hc with ⟨h1, e1, e2⟩ | ⟨v, h1, e1, e2⟩
  · exact ⟨_, _, m_X9_deskOf hy N i1 h _ e1, e2⟩
  · exact ⟨_, _, m_X9_deskOf hy N i1 h _ e1, e2⟩

def f_X9_session (N : Nat) (i1 : Int32) (i2 : Int32) (h : am_Hp) : Option (Option Int32 × am_Hp) :=
  am_bt (f_X9_deskOf N i1 h) (fun h1 => some (none, h1)) (fun b2 h1 => (if i2.toInt = 0 then
    am_bi (f_X8_sizeOf N 15 i1 (0 : Int32) h1) (fun x6 h5 =>
    some (some x6, h5))
  else if i2.toInt = 1 then
    am_bi (f_X8_sizeOf N 15 i1 (1 : Int32) h1) (fun x4 h3 =>
    some (some x4, h3))
  else if i2.toInt = 2 then
    bif am_isO b2 0 then some (some (h1 b2 0), h1) else none
  else if i2.toInt = 3 then
    bif am_isO b2 0 then some (some (h1 b2 1), h1) else none
  else if i2.toInt = 4 then
    bif am_isO b2 0 then some (some (h1 b2 2), h1) else none
  else if i2.toInt = 5 then
    bif am_isO b2 0 then (if (h1 b2 2) = (-1 : Int32) then
      some (some (-1 : Int32), h1)
    else
      bif am_isO b2 0 then some (some (h1 b2 3), h1) else none) else none
  else some (some (-2 : Int32), h1)))
def c_X9_session (N : Nat) : am_Cl := fun _ as h kk => am_sa as (fun z w0 => bif Nat.beq z 0 then am_s1 w0 (fun i1 w1 => am_s1 w1 (fun i2 w2 => am_st0 w2 (am_bt (f_X9_session N i1 i2 h) (fun h => kk none h) (fun v h => kk (am_oi v) h)))) else none)
def o_X9_session (N : Nat) : am_Orc := (am_oc 104 (c_X9_deskOf N) (am_oc 58 (c_X8_sizeOf N) am_o0))
set_option maxRecDepth 100000 in
theorem tok_X9_session : am_tok 68 tX9_session := by
  unfold am_tok
  decide +kernel
set_option maxHeartbeats 4000000 in
set_option maxRecDepth 100000 in
theorem m_X9_session {l : Launch} {al : Nat → Nat} {dC : Nat → ClassId} {dI : Nat → Nat → Nat} {aC : Nat → ClassId} {aV : Nat → Nat} (hy : am_Hy l al) (N : Nat) (i1 : Int32) (i2 : Int32) (h : am_Hp) (r : (Option Int32 × am_Hp)) (hf : f_X9_session N i1 i2 h = some r) : am_Met l al dC dI aC aV 68 [.ref 0, .int i1, .int i2] h (am_ot am_oi r.1) r.2 :=
  am_met (tab := tX9_session) (orc := o_X9_session N) (ret := am_ti) (g := r) (by decide) (by decide) hy.1 hy.2 tok_X9_session (am_os1 (s_X9_deskOf hy N) (am_os1 (s_X8_sizeOf hy N) am_os0)) am_ti_inv (Nat.le_of_ble_eq_true rfl) (fun At cl wk => by
    skip
    exact cl am_C0 am_c0 400 0 _ _ h hf)
theorem s_X9_session {l : Launch} {al : Nat → Nat} {dC : Nat → ClassId} {dI : Nat → Nat → Nat} {aC : Nat → ClassId} {aV : Nat → Nat} (hy : am_Hy l al) (N : Nat) : am_CS l al dC dI aC aV 68 (c_X9_session N) := by
  intro γ as h kk g hc0
  obtain ⟨z0, w0, e_0, hcz0⟩ := am_sa_some hc0
  obtain ⟨hz0, hc1⟩ := am_bif hcz0
  cases Nat.eq_of_beq_eq_true hz0
  obtain ⟨i1, w1, e_1, hc2⟩ := am_s1_some hc1
  obtain ⟨i2, w2, e_2, hc3⟩ := am_s1_some hc2
  obtain ⟨e_3, hc⟩ := am_st0_some hc3
  subst e_3
  subst e_2
  subst e_1
  subst e_0
  rcases am_bt_some hc with ⟨h1, e1, e2⟩ | ⟨v, h1, e1, e2⟩
  · exact ⟨_, _, m_X9_session hy N i1 i2 h _ e1, e2⟩
  · exact ⟨_, _, m_X9_session hy N i1 i2 h _ e1, e2⟩

def f_X9_recordingOf (N : Nat) (i1 : Int32) (h : am_Hp) : Option (Option Nat × am_Hp) :=
  am_bi (f_X8_has N 15 i1 h) (fun x2 h1 =>
  (if x2 = 0 then
    some (none, h1)
  else
    (if i1 < (Int32.ofNat 4) then
      bif am_in i1 4 then (am_G 23 i1.toNatClampNeg).bind (fun b3 => some (some b3, h1)) else none
    else
      some (none, h1))))
def c_X9_recordingOf (N : Nat) : am_Cl := fun _ as h kk => am_sa as (fun z w0 => bif Nat.beq z 0 then am_s1 w0 (fun i1 w1 => am_st0 w1 (am_bt (f_X9_recordingOf N i1 h) (fun h => kk none h) (fun v h => kk (am_or v) h))) else none)
def uX9_recordingOf : List (Nat × Instr × Nat) := [(0, .aload_n 0, 1), (1, .getfield 39, 3), (4, .iload_n 1, 1), (5, .invokevirtual 261, 3), (8, .ifCond .eq 12, 3), (11, .iload_n 1, 1), (12, .aload_n 0, 1), (13, .getfield 48, 3), (16, .arraylength, 1), (17, .if_icmp .lt 11, 3), (20, .new 317, 3), (28, .aload_n 0, 1), (29, .getfield 48, 3), (32, .iload_n 1, 1), (33, .aaload, 1), (34, .areturn, 1)]
def o_X9_recordingOf (N : Nat) : am_Orc := (am_oc 55 (c_X8_has N) am_o0)
set_option maxRecDepth 100000 in
theorem tok_X9_recordingOf : am_tok 105 uX9_recordingOf := by
  unfold am_tok
  decide +kernel
set_option maxHeartbeats 4000000 in
set_option maxRecDepth 100000 in
theorem m_X9_recordingOf {l : Launch} {al : Nat → Nat} {dC : Nat → ClassId} {dI : Nat → Nat → Nat} {aC : Nat → ClassId} {aV : Nat → Nat} (hy : am_Hy l al) (N : Nat) (i1 : Int32) (h : am_Hp) (r : (Option Nat × am_Hp)) (hf : f_X9_recordingOf N i1 h = some r) : am_Met l al dC dI aC aV 105 [.ref 0, .int i1] h (am_ot am_or r.1) r.2 :=
  am_met (tab := uX9_recordingOf) (orc := o_X9_recordingOf N) (ret := am_tr) (g := r) (by decide) (by decide) hy.1 hy.2 tok_X9_recordingOf (am_os1 (s_X8_has hy N) am_os0) am_tr_inv (Nat.le_of_ble_eq_true rfl) (fun At cl wk => by
    skip
    exact cl am_C0 am_c0 400 0 _ _ h hf)
theorem s_X9_recordingOf {l : Launch} {al : Nat → Nat} {dC : Nat → ClassId} {dI : Nat → Nat → Nat} {aC : Nat → ClassId} {aV : Nat → Nat} (hy : am_Hy l al) (N : Nat) : am_CS l al dC dI aC aV 105 (c_X9_recordingOf N) := by
  intro γ as h kk g hc0
  obtain ⟨z0, w0, e_0, hcz0⟩ := am_sa_some hc0
  obtain ⟨hz0, hc1⟩ := am_bif hcz0
  cases Nat.eq_of_beq_eq_true hz0
  obtain ⟨i1, w1, e_1, hc2⟩ := am_s1_some hc1
  obtain ⟨e_2, hc⟩ := am_st0_some hc2
  subst e_2
  subst e_1
  subst e_0
  rcases am_bt_some hc with ⟨h1, e1, e2⟩ | ⟨v, h1, e1, e2⟩
  · exact ⟨_, _, m_X9_recordingOf hy N i1 h _ e1, e2⟩
  · exact ⟨_, _, m_X9_recordingOf hy N i1 h _ e1, e2⟩

def f_X9_event (N : Nat) (i1 : Int32) (i2 : Int32) (i3 : Int32) (h : am_Hp) : Option (Option Int32 × am_Hp) :=
  am_bt (f_X9_deskOf N i1 h) (fun h1 => some (none, h1)) (fun b2 h1 => (if i2 < 0 then
    some (some (-1 : Int32), h1)
  else
    bif am_isO b2 0 then (if i2 < (h1 b2 0) then
      am_bt (f_X9_recordingOf N i1 h1) (fun h3 => some (none, h3)) (fun b4 h3 => (if i3.toInt = 0 then
        bif am_isO b4 3 then am_bi (f_X3_number N b4 (0 : Int32) i2 h3) (fun x12 h11 =>
        some (some x12, h11)) else none
      else if i3.toInt = 1 then
        bif am_isO b4 3 then am_bi (f_X3_number N b4 (1 : Int32) i2 h3) (fun x10 h9 =>
        some (some x10, h9)) else none
      else if i3.toInt = 2 then
        bif am_isO b4 3 then am_bi (f_X3_number N b4 (2 : Int32) i2 h3) (fun x8 h7 =>
        some (some x8, h7)) else none
      else if i3.toInt = 3 then
        bif am_isO b4 3 then am_bi (f_X3_number N b4 (3 : Int32) i2 h3) (fun x6 h5 =>
        some (some x6, h5)) else none
      else some (some (-2 : Int32), h3)))
    else
      some (some (-1 : Int32), h1)) else none))
def c_X9_event (N : Nat) : am_Cl := fun _ as h kk => am_sa as (fun z w0 => bif Nat.beq z 0 then am_s1 w0 (fun i1 w1 => am_s1 w1 (fun i2 w2 => am_s1 w2 (fun i3 w3 => am_st0 w3 (am_bt (f_X9_event N i1 i2 i3 h) (fun h => kk none h) (fun v h => kk (am_oi v) h))))) else none)
def o_X9_event (N : Nat) : am_Orc := (am_oc 104 (c_X9_deskOf N) (am_oc 105 (c_X9_recordingOf N) (am_oc 17 (c_X3_number N) am_o0)))
set_option maxRecDepth 100000 in
theorem tok_X9_event : am_tok 69 tX9_event := by
  unfold am_tok
  decide +kernel
set_option maxHeartbeats 4000000 in
set_option maxRecDepth 100000 in
theorem m_X9_event {l : Launch} {al : Nat → Nat} {dC : Nat → ClassId} {dI : Nat → Nat → Nat} {aC : Nat → ClassId} {aV : Nat → Nat} (hy : am_Hy l al) (N : Nat) (i1 : Int32) (i2 : Int32) (i3 : Int32) (h : am_Hp) (r : (Option Int32 × am_Hp)) (hf : f_X9_event N i1 i2 i3 h = some r) : am_Met l al dC dI aC aV 69 [.ref 0, .int i1, .int i2, .int i3] h (am_ot am_oi r.1) r.2 :=
  am_met (tab := tX9_event) (orc := o_X9_event N) (ret := am_ti) (g := r) (by decide) (by decide) hy.1 hy.2 tok_X9_event (am_os1 (s_X9_deskOf hy N) (am_os1 (s_X9_recordingOf hy N) (am_os1 (s_X3_number hy N) am_os0))) am_ti_inv (Nat.le_of_ble_eq_true rfl) (fun At cl wk => by
    skip
    exact cl am_C0 am_c0 400 0 _ _ h hf)
theorem s_X9_event {l : Launch} {al : Nat → Nat} {dC : Nat → ClassId} {dI : Nat → Nat → Nat} {aC : Nat → ClassId} {aV : Nat → Nat} (hy : am_Hy l al) (N : Nat) : am_CS l al dC dI aC aV 69 (c_X9_event N) := by
  intro γ as h kk g hc0
  obtain ⟨z0, w0, e_0, hcz0⟩ := am_sa_some hc0
  obtain ⟨hz0, hc1⟩ := am_bif hcz0
  cases Nat.eq_of_beq_eq_true hz0
  obtain ⟨i1, w1, e_1, hc2⟩ := am_s1_some hc1
  obtain ⟨i2, w2, e_2, hc3⟩ := am_s1_some hc2
  obtain ⟨i3, w3, e_3, hc4⟩ := am_s1_some hc3
  obtain ⟨e_4, hc⟩ := am_st0_some hc4
  subst e_4
  subst e_3
  subst e_2
  subst e_1
  subst e_0
  rcases am_bt_some hc with ⟨h1, e1, e2⟩ | ⟨v, h1, e1, e2⟩
  · exact ⟨_, _, m_X9_event hy N i1 i2 i3 h _ e1, e2⟩
  · exact ⟨_, _, m_X9_event hy N i1 i2 i3 h _ e1, e2⟩
