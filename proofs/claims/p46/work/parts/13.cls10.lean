def f_X9_deskOf (N : Nat) (i1 : Int32) (h : am_Hp) : Option (Option Nat × am_Hp) :=
  am_bi (f_X8_has N 15 i1 h) (fun x2 h1 =>
  (if x2 = 0 then
    some (none, h1)
  else
    (if i1 < (Int32.ofNat 4) then
      bif am_in i1 4 then (am_G 27 i1.toNatClampNeg).bind (fun b3 => some (some b3, h1)) else none
    else
      some (none, h1))))
def c_X9_deskOf (N : Nat) : am_Cl := fun _ as h kk => am_sa as (fun z w0 => bif Nat.beq z 0 then am_s1 w0 (fun i1 w1 => am_st0 w1 (am_bt (f_X9_deskOf N i1 h) (fun h => kk none h) (fun v h => kk (am_or v) h))) else none)
def uX9_deskOf : List (Nat × Instr × Nat) := [(0, .aload_n 0, 1), (1, .getfield 39, 3), (4, .iload_n 1, 1), (5, .invokevirtual 261, 3), (8, .ifCond .eq 15, 3), (11, .iload_n 1, 1), (12, .aload_n 0, 1), (13, .getfield 55, 3), (16, .getfield 313, 3), (19, .arraylength, 1), (20, .if_icmp .lt 11, 3), (23, .new 317, 3), (31, .aload_n 0, 1), (32, .getfield 55, 3), (35, .getfield 313, 3), (38, .iload_n 1, 1), (39, .aaload, 1), (40, .areturn, 1)]
def o_X9_deskOf (N : Nat) : am_Orc := (am_oc 51 (c_X8_has N) am_o0)
set_option maxRecDepth 100000 in
theorem tok_X9_deskOf : am_tok 85 uX9_deskOf := by
  unfold am_tok
  decide +kernel
set_option maxHeartbeats 4000000 in
set_option maxRecDepth 100000 in
theorem m_X9_deskOf {l : Launch} {al : Nat → Nat} {dC : Nat → ClassId} {dI : Nat → Nat → Nat} {aC : Nat → ClassId} {aV : Nat → Nat} (hy : am_Hy l al) (N : Nat) (i1 : Int32) (h : am_Hp) (r : (Option Nat × am_Hp)) (hf : f_X9_deskOf N i1 h = some r) : am_Met l al dC dI aC aV 85 [.ref 0, .int i1] h (am_ot am_or r.1) r.2 :=
  am_met (tab := uX9_deskOf) (orc := o_X9_deskOf N) (ret := am_tr) (g := r) (by decide) (by decide) hy.1 hy.2 tok_X9_deskOf (am_os1 (s_X8_has hy N) am_os0) am_tr_inv (Nat.le_of_ble_eq_true rfl) (fun At cl wk => by
    skip
    exact cl am_C0 am_c0 400 0 _ _ h hf)
theorem s_X9_deskOf {l : Launch} {al : Nat → Nat} {dC : Nat → ClassId} {dI : Nat → Nat → Nat} {aC : Nat → ClassId} {aV : Nat → Nat} (hy : am_Hy l al) (N : Nat) : am_CS l al dC dI aC aV 85 (c_X9_deskOf N) := by
  intro γ as h kk g hc0
  obtain ⟨z0, w0, e_0, hcz0⟩ := am_sa_some hc0
  obtain ⟨hz0, hc1⟩ := am_bif hcz0
  cases Nat.eq_of_beq_eq_true hz0
  obtain ⟨i1, w1, e_1, hc2⟩ := am_s1_some hc1
  obtain ⟨e_2, hc⟩ := am_st0_some hc2
  subst e_2
  subst e_1
  subst e_0
  rcases am_bt_some hc with ⟨h1, e1, e2⟩ | ⟨v, h1, e1, e2⟩
  · exact ⟨_, _, m_X9_deskOf hy N i1 h _ e1, e2⟩
  · exact ⟨_, _, m_X9_deskOf hy N i1 h _ e1, e2⟩

def f_X9_session (N : Nat) (i1 : Int32) (i2 : Int32) (h : am_Hp) : Option (Option Int32 × am_Hp) :=
  am_bt (f_X9_deskOf N i1 h) (fun h1 => some (none, h1)) (fun b2 h1 => (if i2.toInt = 0 then
    am_bi (f_X8_sizeOf N 15 i1 (0 : Int32) h1) (fun x6 h5 =>
    some (some x6, h5))
  else if i2.toInt = 1 then
    am_bi (f_X8_sizeOf N 15 i1 (1 : Int32) h1) (fun x4 h3 =>
    some (some x4, h3))
  else if i2.toInt = 2 then
    bif am_isO b2 0 then some (some (h1 b2 0), h1) else none
  else if i2.toInt = 3 then
    bif am_isO b2 0 then some (some (h1 b2 1), h1) else none
  else if i2.toInt = 4 then
    bif am_isO b2 0 then some (some (h1 b2 2), h1) else none
  else if i2.toInt = 5 then
    bif am_isO b2 0 then (if (h1 b2 2) = (-1 : Int32) then
      some (some (-1 : Int32), h1)
    else
      bif am_isO b2 0 then some (some (h1 b2 3), h1) else none) else none
  else some (some (-2 : Int32), h1)))
def c_X9_session (N : Nat) : am_Cl := fun _ as h kk => am_sa as (fun z w0 => bif Nat.beq z 0 then am_s1 w0 (fun i1 w1 => am_s1 w1 (fun i2 w2 => am_st0 w2 (am_bt (f_X9_session N i1 i2 h) (fun h => kk none h) (fun v h => kk (am_oi v) h)))) else none)
def o_X9_session (N : Nat) : am_Orc := (am_oc 85 (c_X9_deskOf N) (am_oc 54 (c_X8_sizeOf N) am_o0))
set_option maxRecDepth 100000 in
theorem tok_X9_session : am_tok 60 tX9_session := by
  unfold am_tok
  decide +kernel
set_option maxHeartbeats 4000000 in
set_option maxRecDepth 100000 in
theorem m_X9_session {l : Launch} {al : Nat → Nat} {dC : Nat → ClassId} {dI : Nat → Nat → Nat} {aC : Nat → ClassId} {aV : Nat → Nat} (hy : am_Hy l al) (N : Nat) (i1 : Int32) (i2 : Int32) (h : am_Hp) (r : (Option Int32 × am_Hp)) (hf : f_X9_session N i1 i2 h = some r) : am_Met l al dC dI aC aV 60 [.ref 0, .int i1, .int i2] h (am_ot am_oi r.1) r.2 :=
  am_met (tab := tX9_session) (orc := o_X9_session N) (ret := am_ti) (g := r) (by decide) (by decide) hy.1 hy.2 tok_X9_session (am_os1 (s_X9_deskOf hy N) (am_os1 (s_X8_sizeOf hy N) am_os0)) am_ti_inv (Nat.le_of_ble_eq_true rfl) (fun At cl wk => by
    skip
    exact cl am_C0 am_c0 400 0 _ _ h hf)
theorem s_X9_session {l : Launch} {al : Nat → Nat} {dC : Nat → ClassId} {dI : Nat → Nat → Nat} {aC : Nat → ClassId} {aV : Nat → Nat} (hy : am_Hy l al) (N : Nat) : am_CS l al dC dI aC aV 60 (c_X9_session N) := by
  intro γ as h kk g hc0
  obtain ⟨z0, w0, e_0, hcz0⟩ := am_sa_some hc0
  obtain ⟨hz0, hc1⟩ := am_bif hcz0
  cases Nat.eq_of_beq_eq_true hz0
  obtain ⟨i1, w1, e_1, hc2⟩ := am_s1_some hc1
  obtain ⟨i2, w2, e_2, hc3⟩ := am_s1_some hc2
  obtain ⟨e_3, hc⟩ := am_st0_some hc3
  subst e_3
  subst e_2
  subst e_1
  subst e_0
  rcases am_bt_some hc with ⟨h1, e1, e2⟩ | ⟨v, h1, e1, e2⟩
  · exact ⟨_, _, m_X9_session hy N i1 i2 h _ e1, e2⟩
  · exact ⟨_, _, m_X9_session hy N i1 i2 h _ e1, e2⟩

def f_X9_recordingOf (N : Nat) (i1 : Int32) (h : am_Hp) : Option (Option Nat × am_Hp) :=
  am_bi (f_X8_has N 15 i1 h) (fun x2 h1 =>
  (if x2 = 0 then
    some (none, h1)
  else
    (if i1 < (Int32.ofNat 4) then
      bif am_in i1 4 then (am_G 23 i1.toNatClampNeg).bind (fun b3 => some (some b3, h1)) else none
    else
      some (none, h1))))
def c_X9_recordingOf (N : Nat) : am_Cl := fun _ as h kk => am_sa as (fun z w0 => bif Nat.beq z 0 then am_s1 w0 (fun i1 w1 => am_st0 w1 (am_bt (f_X9_recordingOf N i1 h) (fun h => kk none h) (fun v h => kk (am_or v) h))) else none)
def uX9_recordingOf : List (Nat × Instr × Nat) := [(0, .aload_n 0, 1), (1, .getfield 39, 3), (4, .iload_n 1, 1), (5, .invokevirtual 261, 3), (8, .ifCond .eq 12, 3), (11, .iload_n 1, 1), (12, .aload_n 0, 1), (13, .getfield 48, 3), (16, .arraylength, 1), (17, .if_icmp .lt 11, 3), (20, .new 317, 3), (28, .aload_n 0, 1), (29, .getfield 48, 3), (32, .iload_n 1, 1), (33, .aaload, 1), (34, .areturn, 1)]
def o_X9_recordingOf (N : Nat) : am_Orc := (am_oc 51 (c_X8_has N) am_o0)
set_option maxRecDepth 100000 in
theorem tok_X9_recordingOf : am_tok 86 uX9_recordingOf := by
  unfold am_tok
  decide +kernel
set_option maxHeartbeats 4000000 in
set_option maxRecDepth 100000 in
theorem m_X9_recordingOf {l : Launch} {al : Nat → Nat} {dC : Nat → ClassId} {dI : Nat → Nat → Nat} {aC : Nat → ClassId} {aV : Nat → Nat} (hy : am_Hy l al) (N : Nat) (i1 : Int32) (h : am_Hp) (r : (Option Nat × am_Hp)) (hf : f_X9_recordingOf N i1 h = some r) : am_Met l al dC dI aC aV 86 [.ref 0, .int i1] h (am_ot am_or r.1) r.2 :=
  am_met (tab := uX9_recordingOf) (orc := o_X9_recordingOf N) (ret := am_tr) (g := r) (by decide) (by decide) hy.1 hy.2 tok_X9_recordingOf (am_os1 (s_X8_has hy N) am_os0) am_tr_inv (Nat.le_of_ble_eq_true rfl) (fun At cl wk => by
    skip
    exact cl am_C0 am_c0 400 0 _ _ h hf)
theorem s_X9_recordingOf {l : Launch} {al : Nat → Nat} {dC : Nat → ClassId} {dI : Nat → Nat → Nat} {aC : Nat → ClassId} {aV : Nat → Nat} (hy : am_Hy l al) (N : Nat) : am_CS l al dC dI aC aV 86 (c_X9_recordingOf N) := by
  intro γ as h kk g hc0
  obtain ⟨z0, w0, e_0, hcz0⟩ := am_sa_some hc0
  obtain ⟨hz0, hc1⟩ := am_bif hcz0
  cases Nat.eq_of_beq_eq_true hz0
  obtain ⟨i1, w1, e_1, hc2⟩ := am_s1_some hc1
  obtain ⟨e_2, hc⟩ := am_st0_some hc2
  subst e_2
  subst e_1
  subst e_0
  rcases am_bt_some hc with ⟨h1, e1, e2⟩ | ⟨v, h1, e1, e2⟩
  · exact ⟨_, _, m_X9_recordingOf hy N i1 h _ e1, e2⟩
  · exact ⟨_, _, m_X9_recordingOf hy N i1 h _ e1, e2⟩

def f_X9_event (N : Nat) (i1 : Int32) (i2 : Int32) (i3 : Int32) (h : am_Hp) : Option (Option Int32 × am_Hp) :=
  am_bt (f_X9_deskOf N i1 h) (fun h1 => some (none, h1)) (fun b2 h1 => (if i2 < 0 then
    some (some (-1 : Int32), h1)
  else
    bif am_isO b2 0 then (if i2 < (h1 b2 0) then
      am_bt (f_X9_recordingOf N i1 h1) (fun h3 => some (none, h3)) (fun b4 h3 => (if i3.toInt = 0 then
        bif am_isO b4 3 then am_bi (f_X3_number N b4 (0 : Int32) i2 h3) (fun x12 h11 =>
        some (some x12, h11)) else none
      else if i3.toInt = 1 then
        bif am_isO b4 3 then am_bi (f_X3_number N b4 (1 : Int32) i2 h3) (fun x10 h9 =>
        some (some x10, h9)) else none
      else if i3.toInt = 2 then
        bif am_isO b4 3 then am_bi (f_X3_number N b4 (2 : Int32) i2 h3) (fun x8 h7 =>
        some (some x8, h7)) else none
      else if i3.toInt = 3 then
        bif am_isO b4 3 then am_bi (f_X3_number N b4 (3 : Int32) i2 h3) (fun x6 h5 =>
        some (some x6, h5)) else none
      else some (some (-2 : Int32), h3)))
    else
      some (some (-1 : Int32), h1)) else none))
def c_X9_event (N : Nat) : am_Cl := fun _ as h kk => am_sa as (fun z w0 => bif Nat.beq z 0 then am_s1 w0 (fun i1 w1 => am_s1 w1 (fun i2 w2 => am_s1 w2 (fun i3 w3 => am_st0 w3 (am_bt (f_X9_event N i1 i2 i3 h) (fun h => kk none h) (fun v h => kk (am_oi v) h))))) else none)
def o_X9_event (N : Nat) : am_Orc := (am_oc 85 (c_X9_deskOf N) (am_oc 86 (c_X9_recordingOf N) (am_oc 16 (c_X3_number N) am_o0)))
set_option maxRecDepth 100000 in
theorem tok_X9_event : am_tok 61 tX9_event := by
  unfold am_tok
  decide +kernel
set_option maxHeartbeats 4000000 in
set_option maxRecDepth 100000 in
theorem m_X9_event {l : Launch} {al : Nat → Nat} {dC : Nat → ClassId} {dI : Nat → Nat → Nat} {aC : Nat → ClassId} {aV : Nat → Nat} (hy : am_Hy l al) (N : Nat) (i1 : Int32) (i2 : Int32) (i3 : Int32) (h : am_Hp) (r : (Option Int32 × am_Hp)) (hf : f_X9_event N i1 i2 i3 h = some r) : am_Met l al dC dI aC aV 61 [.ref 0, .int i1, .int i2, .int i3] h (am_ot am_oi r.1) r.2 :=
  am_met (tab := tX9_event) (orc := o_X9_event N) (ret := am_ti) (g := r) (by decide) (by decide) hy.1 hy.2 tok_X9_event (am_os1 (s_X9_deskOf hy N) (am_os1 (s_X9_recordingOf hy N) (am_os1 (s_X3_number hy N) am_os0))) am_ti_inv (Nat.le_of_ble_eq_true rfl) (fun At cl wk => by
    skip
    exact cl am_C0 am_c0 400 0 _ _ h hf)
theorem s_X9_event {l : Launch} {al : Nat → Nat} {dC : Nat → ClassId} {dI : Nat → Nat → Nat} {aC : Nat → ClassId} {aV : Nat → Nat} (hy : am_Hy l al) (N : Nat) : am_CS l al dC dI aC aV 61 (c_X9_event N) := by
  intro γ as h kk g hc0
  obtain ⟨z0, w0, e_0, hcz0⟩ := am_sa_some hc0
  obtain ⟨hz0, hc1⟩ := am_bif hcz0
  cases Nat.eq_of_beq_eq_true hz0
  obtain ⟨i1, w1, e_1, hc2⟩ := am_s1_some hc1
  obtain ⟨i2, w2, e_2, hc3⟩ := am_s1_some hc2
  obtain ⟨i3, w3, e_3, hc4⟩ := am_s1_some hc3
  obtain ⟨e_4, hc⟩ := am_st0_some hc4
  subst e_4
  subst e_3
  subst e_2
  subst e_1
  subst e_0
  rcases am_bt_some hc with ⟨h1, e1, e2⟩ | ⟨v, h1, e1, e2⟩
  · exact ⟨_, _, m_X9_event hy N i1 i2 i3 h _ e1, e2⟩
  · exact ⟨_, _, m_X9_event hy N i1 i2 i3 h _ e1, e2⟩

def l_X9_draw_56 (N : Nat) : Nat → Nat → Int32 → Nat → Int32 → am_Hp → Option (Option Unit × am_Hp)
  | 0, _, _, _, _, _ => none
  | n + 1, a1, i3, a4, i5, h =>
    (if i3 ≤ i5 then
      some (some (), h)
    else
      bif am_isO a1 4 then am_bi (f_X4_play N a1 a4 i5 h) (fun _ h1 =>
      l_X9_draw_56 N n a1 i3 a4 (i5 + (1 : Int32)) h1) else none)
def f_X9_draw (N : Nat) (a1 : Nat) (i2 : Int32) (i3 : Int32) (h : am_Hp) : Option (Option Unit × am_Hp) :=
  (if i3 < 0 then
    some (none, h)
  else
    am_bt (f_X9_deskOf N i2 h) (fun h1 => some (none, h1)) (fun b2 h1 => bif am_isO b2 0 then (if i3 ≤ (h1 b2 0) then
      am_bt (f_X9_recordingOf N i2 h1) (fun h3 => some (none, h3)) (fun b4 h3 => am_bi (f_X8_sizeOf N 15 i2 (0 : Int32) h3) (fun x6 h5 =>
      am_bi (f_X8_sizeOf N 15 i2 (1 : Int32) h5) (fun x8 h7 =>
      bif am_isO a1 4 then am_bi (f_X4_restart N a1 x6 x8 h7) (fun _ h9 =>
      l_X9_draw_56 N N a1 i3 b4 (0 : Int32) h9) else none)))
    else
      some (none, h1)) else none))
def c_X9_draw (N : Nat) : am_Cl := fun _ as h kk => am_sa as (fun z w0 => bif Nat.beq z 0 then am_sa w0 (fun a1 w1 => am_s1 w1 (fun i2 w2 => am_s1 w2 (fun i3 w3 => am_st0 w3 (am_bt (f_X9_draw N a1 i2 i3 h) (fun h => kk none h) (fun v h => kk (am_ov v) h))))) else none)
def uX9_draw : List (Nat × Instr × Nat) := [(0, .iload_n 3, 1), (1, .ifCond .lt 15, 3), (4, .iload_n 3, 1), (5, .aload_n 0, 1), (6, .iload_n 2, 1), (7, .invokevirtual 125, 3), (10, .getfield 133, 3), (13, .if_icmp .le 11, 3), (16, .new 317, 3), (24, .aload_n 0, 1), (25, .iload_n 2, 1), (26, .invokevirtual 147, 3), (29, .astore 4, 2), (31, .aload_n 1, 1), (32, .aload_n 0, 1), (33, .getfield 39, 3), (36, .iload_n 2, 1), (37, .iconst 0, 1), (38, .invokevirtual 129, 3), (41, .aload_n 0, 1), (42, .getfield 39, 3), (45, .iload_n 2, 1), (46, .iconst 1, 1), (47, .invokevirtual 129, 3), (50, .invokevirtual 324, 3), (53, .iconst 0, 1), (54, .istore 5, 2), (56, .iload 5, 2), (58, .iload_n 3, 1), (59, .if_icmp .ge 17, 3), (62, .aload_n 1, 1), (63, .aload 4, 2), (65, .iload 5, 2), (67, .invokevirtual 241, 3), (70, .iinc 5 1, 3), (73, .goto (-17), 3), (76, .return_, 1)]
def o_X9_draw (N : Nat) : am_Orc := (am_oc 85 (c_X9_deskOf N) (am_oc 86 (c_X9_recordingOf N) (am_oc 54 (c_X8_sizeOf N) (am_oc 22 (c_X4_restart N) (am_oc 27 (c_X4_play N) am_o0)))))
set_option maxRecDepth 100000 in
theorem tok_X9_draw : am_tok 91 uX9_draw := by
  unfold am_tok
  decide +kernel
set_option maxHeartbeats 4000000 in
set_option maxRecDepth 100000 in
theorem m_X9_draw {l : Launch} {al : Nat → Nat} {dC : Nat → ClassId} {dI : Nat → Nat → Nat} {aC : Nat → ClassId} {aV : Nat → Nat} (hy : am_Hy l al) (N : Nat) (a1 : Nat) (i2 : Int32) (i3 : Int32) (h : am_Hp) (r : (Option Unit × am_Hp)) (hf : f_X9_draw N a1 i2 i3 h = some r) : am_Met l al dC dI aC aV 91 [.ref 0, .ref a1, .int i2, .int i3] h (am_ot am_ov r.1) r.2 :=
  am_met (tab := uX9_draw) (orc := o_X9_draw N) (ret := am_tv) (g := r) (by decide) (by decide) hy.1 hy.2 tok_X9_draw (am_os1 (s_X9_deskOf hy N) (am_os1 (s_X9_recordingOf hy N) (am_os1 (s_X8_sizeOf hy N) (am_os1 (s_X4_restart hy N) (am_os1 (s_X4_play hy N) am_os0))))) am_tv_inv (Nat.le_of_ble_eq_true rfl) (fun At cl wk => by
    have A56 : ∀ n : Nat, ∀ a1 : Nat, ∀ i3 : Int32, ∀ a4 : Nat, ∀ i5 : Int32, ∀ h, l_X9_draw_56 N n a1 i3 a4 i5 h = some r → At 56 [(1, .ref a1), (3, .int i3), (4, .ref a4), (5, .int i5)] [] h := by
      intro n
      induction n with
      | zero => intro a1 i3 a4 i5 h hr; cases hr
      | succ n ih =>
        intro a1 i3 a4 i5 h hr
        exact cl (am_C1 56 (fun ρ st h => am_lda ρ 1 (fun a1 => am_ldi ρ 3 (fun i3 => am_lda ρ 4 (fun a4 => am_ldi ρ 5 (fun i5 => am_st0 st (l_X9_draw_56 N n a1 i3 a4 i5 h)))))) am_C0) (am_c1 (fun ρ st h hc => by
        obtain ⟨a1, m_a1, hc⟩ := am_lda_some hc
        obtain ⟨i3, m_i3, hc⟩ := am_ldi_some hc
        obtain ⟨a4, m_a4, hc⟩ := am_lda_some hc
        obtain ⟨i5, m_i5, hc⟩ := am_ldi_some hc
        obtain ⟨rfl, hc⟩ := am_st0_some hc
        exact wk 56 ρ [(1, .ref a1), (3, .int i3), (4, .ref a4), (5, .int i5)] _ h (am_m1 m_a1 (am_m1 m_i3 (am_m1 m_a4 (am_m1 m_i5 am_m0)))) (ih a1 i3 a4 i5 h hc)) am_c0) 400 56 _ _ h hr
    exact cl (am_C1 56 (fun ρ st h => am_lda ρ 1 (fun a1 => am_ldi ρ 3 (fun i3 => am_lda ρ 4 (fun a4 => am_ldi ρ 5 (fun i5 => am_st0 st (l_X9_draw_56 N N a1 i3 a4 i5 h)))))) am_C0) (am_c1 (fun ρ st h hc => by
        obtain ⟨a1, m_a1, hc⟩ := am_lda_some hc
        obtain ⟨i3, m_i3, hc⟩ := am_ldi_some hc
        obtain ⟨a4, m_a4, hc⟩ := am_lda_some hc
        obtain ⟨i5, m_i5, hc⟩ := am_ldi_some hc
        obtain ⟨rfl, hc⟩ := am_st0_some hc
        exact wk 56 ρ [(1, .ref a1), (3, .int i3), (4, .ref a4), (5, .int i5)] _ h (am_m1 m_a1 (am_m1 m_i3 (am_m1 m_a4 (am_m1 m_i5 am_m0)))) (A56 N a1 i3 a4 i5 h hc)) am_c0) 400 0 _ _ h hf)
theorem s_X9_draw {l : Launch} {al : Nat → Nat} {dC : Nat → ClassId} {dI : Nat → Nat → Nat} {aC : Nat → ClassId} {aV : Nat → Nat} (hy : am_Hy l al) (N : Nat) : am_CS l al dC dI aC aV 91 (c_X9_draw N) := by
  intro γ as h kk g hc0
  obtain ⟨z0, w0, e_0, hcz0⟩ := am_sa_some hc0
  obtain ⟨hz0, hc1⟩ := am_bif hcz0
  cases Nat.eq_of_beq_eq_true hz0
  obtain ⟨a1, w1, e_1, hc2⟩ := am_sa_some hc1
  obtain ⟨i2, w2, e_2, hc3⟩ := am_s1_some hc2
  obtain ⟨i3, w3, e_3, hc4⟩ := am_s1_some hc3
  obtain ⟨e_4, hc⟩ := am_st0_some hc4
  subst e_4
  subst e_3
  subst e_2
  subst e_1
  subst e_0
  rcases am_bt_some hc with ⟨h1, e1, e2⟩ | ⟨v, h1, e1, e2⟩
  · exact ⟨_, _, m_X9_draw hy N a1 i2 i3 h _ e1, e2⟩
  · exact ⟨_, _, m_X9_draw hy N a1 i2 i3 h _ e1, e2⟩
