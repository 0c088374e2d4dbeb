def f_X9_request (N : Nat) (i1 : Int32) (h : am_Hp) : Option (Option Int32 × am_Hp) :=
  am_bi (f_X8_has N 19 i1 h) (fun x2 h1 =>
  (if x2 = 0 then
    some (some (-1 : Int32), h1)
  else
    am_bt (f_X9_seatOf N i1 h1) (fun h3 => some (none, h3)) (fun b4 h3 => bif am_isO b4 5 then (if (h3 b4 2) = (1 : Int32) then
      bif am_isO b4 5 then am_bt (f_X9_deskOf N (h3 b4 3) h3) (fun h5 => some (none, h5)) (fun b6 h5 => bif am_isO b6 0 then (if (h5 b6 1) = i1 then
        some (some (-4 : Int32), h5)
      else
        bif am_isO b6 0 then (if (h5 b6 2) = (-1 : Int32) then
          am_bi (f_X2_keep N 24 h5) (fun _ h7 =>
          bif am_in (0 : Int32) 4 then bif am_in (0 : Int32) 4 then (let h8 := am_pi h7 26 0 ((h7 26 0) + (1 : Int32))
          bif am_isO b6 0 then (let h9 := am_pi h8 b6 2 i1
          bif am_isO b6 0 then (let h10 := am_pi h9 b6 3 (h9 24 0)
          bif am_isO b6 0 then (if (h10 b6 1) = (-1 : Int32) then
            bif am_isO b6 0 then am_bi (f_X0_handOver N b6 h10) (fun _ h12 =>
            am_bt (f_X9_recordRightSizes N h12) (fun h13 => some (none, h13)) (fun _ h13 => bif am_isO b6 0 then (if (h13 b6 1) = i1 then
              some (some (1 : Int32), h13)
            else
              some (some (0 : Int32), h13)) else none)) else none
          else
            am_bt (f_X9_recordRightSizes N h10) (fun h11 => some (none, h11)) (fun _ h11 => bif am_isO b6 0 then (if (h11 b6 1) = i1 then
              some (some (1 : Int32), h11)
            else
              some (some (0 : Int32), h11)) else none)) else none) else none) else none) else none else none)
        else
          some (some (-4 : Int32), h5)) else none) else none) else none
    else
      some (some (-4 : Int32), h3)) else none)))
def c_X9_request (N : Nat) : am_Cl := fun _ as h kk => am_sa as (fun z w0 => bif Nat.beq z 0 then am_s1 w0 (fun i1 w1 => am_st0 w1 (am_bt (f_X9_request N i1 h) (fun h => kk none h) (fun v h => kk (am_oi v) h))) else none)
def o_X9_request (N : Nat) : am_Orc := (am_oc 51 (c_X8_has N) (am_oc 87 (c_X9_seatOf N) (am_oc 85 (c_X9_deskOf N) (am_oc 14 (c_X2_keep N) (am_oc 5 (c_X0_handOver N) (am_oc 96 (c_X9_recordRightSizes N) am_o0))))))
set_option maxRecDepth 100000 in
theorem tok_X9_request : am_tok 78 tX9_request := by
  unfold am_tok
  decide +kernel
set_option maxHeartbeats 4000000 in
set_option maxRecDepth 100000 in
theorem m_X9_request {l : Launch} {al : Nat → Nat} {dC : Nat → ClassId} {dI : Nat → Nat → Nat} {aC : Nat → ClassId} {aV : Nat → Nat} (hy : am_Hy l al) (N : Nat) (i1 : Int32) (h : am_Hp) (r : (Option Int32 × am_Hp)) (hf : f_X9_request N i1 h = some r) : am_Met l al dC dI aC aV 78 [.ref 0, .int i1] h (am_ot am_oi r.1) r.2 :=
  am_met (tab := tX9_request) (orc := o_X9_request N) (ret := am_ti) (g := r) (by decide) (by decide) hy.1 hy.2 tok_X9_request (am_os1 (s_X8_has hy N) (am_os1 (s_X9_seatOf hy N) (am_os1 (s_X9_deskOf hy N) (am_os1 (s_X2_keep hy N) (am_os1 (s_X0_handOver hy N) (am_os1 (s_X9_recordRightSizes hy N) am_os0)))))) am_ti_inv (Nat.le_of_ble_eq_true rfl) (fun At cl wk => by
    skip
    exact cl am_C0 am_c0 400 0 _ _ h hf)
theorem s_X9_request {l : Launch} {al : Nat → Nat} {dC : Nat → ClassId} {dI : Nat → Nat → Nat} {aC : Nat → ClassId} {aV : Nat → Nat} (hy : am_Hy l al) (N : Nat) : am_CS l al dC dI aC aV 78 (c_X9_request N) := by
  intro γ as h kk g hc0
  obtain ⟨z0, w0, e_0, hcz0⟩ := am_sa_some hc0
  obtain ⟨hz0, hc1⟩ := am_bif hcz0
  cases Nat.eq_of_beq_eq_true hz0
  obtain ⟨i1, w1, e_1, hc2⟩ := am_s1_some hc1
  obtain ⟨e_2, hc⟩ := am_st0_some hc2
  subst e_2
  subst e_1
  subst e_0
  rcases am_bt_some hc with ⟨h1, e1, e2⟩ | ⟨v, h1, e1, e2⟩
  · exact ⟨_, _, m_X9_request hy N i1 h _ e1, e2⟩
  · exact ⟨_, _, m_X9_request hy N i1 h _ e1, e2⟩

def f_X9_controlsItsSession (N : Nat) (i1 : Int32) (a2 : Nat) (h : am_Hp) : Option (Option Int32 × am_Hp) :=
  bif am_isO a2 5 then (if (h a2 2) = (1 : Int32) then
    bif am_isO a2 5 then am_bt (f_X9_deskOf N (h a2 3) h) (fun h1 => some (none, h1)) (fun b2 h1 => bif am_isO b2 0 then (if (h1 b2 1) = i1 then
      if (1 : Int32) &&& 1 = (1 : Int32) then some (some (1 : Int32), h1) else none
    else
      if (0 : Int32) &&& 1 = (0 : Int32) then some (some (0 : Int32), h1) else none) else none) else none
  else
    if (0 : Int32) &&& 1 = (0 : Int32) then some (some (0 : Int32), h) else none) else none
def c_X9_controlsItsSession (N : Nat) : am_Cl := fun _ as h kk => am_sa as (fun z w0 => bif Nat.beq z 0 then am_s1 w0 (fun i1 w1 => am_sa w1 (fun a2 w2 => am_st0 w2 (am_bt (f_X9_controlsItsSession N i1 a2 h) (fun h => kk none h) (fun v h => kk (am_oi v) h)))) else none)
def o_X9_controlsItsSession (N : Nat) : am_Orc := (am_oc 85 (c_X9_deskOf N) am_o0)
set_option maxRecDepth 100000 in
theorem tok_X9_controlsItsSession : am_tok 99 tX9_controlsItsSession := by
  unfold am_tok
  decide +kernel
set_option maxHeartbeats 4000000 in
set_option maxRecDepth 100000 in
theorem m_X9_controlsItsSession {l : Launch} {al : Nat → Nat} {dC : Nat → ClassId} {dI : Nat → Nat → Nat} {aC : Nat → ClassId} {aV : Nat → Nat} (hy : am_Hy l al) (N : Nat) (i1 : Int32) (a2 : Nat) (h : am_Hp) (r : (Option Int32 × am_Hp)) (hf : f_X9_controlsItsSession N i1 a2 h = some r) : am_Met l al dC dI aC aV 99 [.ref 0, .int i1, .ref a2] h (am_ot am_oi r.1) r.2 :=
  am_met (tab := tX9_controlsItsSession) (orc := o_X9_controlsItsSession N) (ret := am_ti) (g := r) (by decide) (by decide) hy.1 hy.2 tok_X9_controlsItsSession (am_os1 (s_X9_deskOf hy N) am_os0) am_ti_inv (Nat.le_of_ble_eq_true rfl) (fun At cl wk => by
    skip
    exact cl am_C0 am_c0 400 0 _ _ h hf)
theorem s_X9_controlsItsSession {l : Launch} {al : Nat → Nat} {dC : Nat → ClassId} {dI : Nat → Nat → Nat} {aC : Nat → ClassId} {aV : Nat → Nat} (hy : am_Hy l al) (N : Nat) : am_CS l al dC dI aC aV 99 (c_X9_controlsItsSession N) := by
  intro γ as h kk g hc0
  obtain ⟨z0, w0, e_0, hcz0⟩ := am_sa_some hc0
  obtain ⟨hz0, hc1⟩ := am_bif hcz0
  cases Nat.eq_of_beq_eq_true hz0
  obtain ⟨i1, w1, e_1, hc2⟩ := am_s1_some hc1
  obtain ⟨a2, w2, e_2, hc3⟩ := am_sa_some hc2
  obtain ⟨e_3, hc⟩ := am_st0_some hc3
  subst e_3
  subst e_2
  subst e_1
  subst e_0
  rcases am_bt_some hc with ⟨h1, e1, e2⟩ | ⟨v, h1, e1, e2⟩
  · exact ⟨_, _, m_X9_controlsItsSession hy N i1 a2 h _ e1, e2⟩
  · exact ⟨_, _, m_X9_controlsItsSession hy N i1 a2 h _ e1, e2⟩

def f_X9_answer (N : Nat) (i1 : Int32) (i2 : Int32) (h : am_Hp) : Option (Option Int32 × am_Hp) :=
  am_bi (f_X8_has N 19 i1 h) (fun x2 h1 =>
  (if x2 = 0 then
    some (some (-1 : Int32), h1)
  else
    am_bt (f_X9_seatOf N i1 h1) (fun h3 => some (none, h3)) (fun b4 h3 => am_bt (f_X9_controlsItsSession N i1 b4 h3) (fun h5 => some (none, h5)) (fun x6 h5 => (if x6 = 0 then
      some (some (-4 : Int32), h5)
    else
      bif am_isO b4 5 then am_bt (f_X9_deskOf N (h5 b4 3) h5) (fun h7 => some (none, h7)) (fun b8 h7 => bif am_isO b8 0 then (if (h7 b8 2) = (-1 : Int32) then
        some (some (-4 : Int32), h7)
      else
        am_bi (f_X2_keep N 24 h7) (fun _ h9 =>
        bif am_isO b8 0 then (if i2 = 0 then
          bif am_in (3 : Int32) 4 then bif am_in (3 : Int32) 4 then (let h10 := am_pi h9 26 3 ((h9 26 3) + (1 : Int32))
          bif am_isO b8 0 then (let h11 := am_pi h10 b8 2 (-1 : Int32)
          am_bt (f_X9_recordRightSizes N h11) (fun h12 => some (none, h12)) (fun _ h12 => some (some (h9 b8 2), h12))) else none) else none else none
        else
          bif am_in (1 : Int32) 4 then bif am_in (1 : Int32) 4 then (let h13 := am_pi h9 26 1 ((h9 26 1) + (1 : Int32))
          bif am_isO b8 0 then am_bi (f_X0_handOver N b8 h13) (fun _ h14 =>
          am_bt (f_X9_recordRightSizes N h14) (fun h15 => some (none, h15)) (fun _ h15 => some (some (h9 b8 2), h15))) else none) else none else none) else none)) else none) else none)))))
def c_X9_answer (N : Nat) : am_Cl := fun _ as h kk => am_sa as (fun z w0 => bif Nat.beq z 0 then am_s1 w0 (fun i1 w1 => am_s1 w1 (fun i2 w2 => am_st0 w2 (am_bt (f_X9_answer N i1 i2 h) (fun h => kk none h) (fun v h => kk (am_oi v) h)))) else none)
def o_X9_answer (N : Nat) : am_Orc := (am_oc 51 (c_X8_has N) (am_oc 87 (c_X9_seatOf N) (am_oc 99 (c_X9_controlsItsSession N) (am_oc 85 (c_X9_deskOf N) (am_oc 14 (c_X2_keep N) (am_oc 5 (c_X0_handOver N) (am_oc 96 (c_X9_recordRightSizes N) am_o0)))))))
set_option maxRecDepth 100000 in
theorem tok_X9_answer : am_tok 79 tX9_answer := by
  unfold am_tok
  decide +kernel
set_option maxHeartbeats 4000000 in
set_option maxRecDepth 100000 in
theorem m_X9_answer {l : Launch} {al : Nat → Nat} {dC : Nat → ClassId} {dI : Nat → Nat → Nat} {aC : Nat → ClassId} {aV : Nat → Nat} (hy : am_Hy l al) (N : Nat) (i1 : Int32) (i2 : Int32) (h : am_Hp) (r : (Option Int32 × am_Hp)) (hf : f_X9_answer N i1 i2 h = some r) : am_Met l al dC dI aC aV 79 [.ref 0, .int i1, .int i2] h (am_ot am_oi r.1) r.2 :=
  am_met (tab := tX9_answer) (orc := o_X9_answer N) (ret := am_ti) (g := r) (by decide) (by decide) hy.1 hy.2 tok_X9_answer (am_os1 (s_X8_has hy N) (am_os1 (s_X9_seatOf hy N) (am_os1 (s_X9_controlsItsSession hy N) (am_os1 (s_X9_deskOf hy N) (am_os1 (s_X2_keep hy N) (am_os1 (s_X0_handOver hy N) (am_os1 (s_X9_recordRightSizes hy N) am_os0))))))) am_ti_inv (Nat.le_of_ble_eq_true rfl) (fun At cl wk => by
    skip
    exact cl am_C0 am_c0 400 0 _ _ h hf)
theorem s_X9_answer {l : Launch} {al : Nat → Nat} {dC : Nat → ClassId} {dI : Nat → Nat → Nat} {aC : Nat → ClassId} {aV : Nat → Nat} (hy : am_Hy l al) (N : Nat) : am_CS l al dC dI aC aV 79 (c_X9_answer N) := by
  intro γ as h kk g hc0
  obtain ⟨z0, w0, e_0, hcz0⟩ := am_sa_some hc0
  obtain ⟨hz0, hc1⟩ := am_bif hcz0
  cases Nat.eq_of_beq_eq_true hz0
  obtain ⟨i1, w1, e_1, hc2⟩ := am_s1_some hc1
  obtain ⟨i2, w2, e_2, hc3⟩ := am_s1_some hc2
  obtain ⟨e_3, hc⟩ := am_st0_some hc3
  subst e_3
  subst e_2
  subst e_1
  subst e_0
  rcases am_bt_some hc with ⟨h1, e1, e2⟩ | ⟨v, h1, e1, e2⟩
  · exact ⟨_, _, m_X9_answer hy N i1 i2 h _ e1, e2⟩
  · exact ⟨_, _, m_X9_answer hy N i1 i2 h _ e1, e2⟩
