def f_X9_replay (N : Nat) (i1 : Int32) (i2 : Int32) (i3 : Int32) (h : am_Hp) : Option (Option Int32 × am_Hp) :=
  am_bt (f_X9_whyNotAWatcher N i1 h) (fun h1 => some (none, h1)) (fun x2 h1 => (if x2 = 0 then
    am_bt (f_X9_seatOf N i1 h1) (fun h3 => some (none, h3)) (fun b4 h3 => (if i3 < (10 : Int32) then
      some (some (-2 : Int32), h3)
    else
      (if (1000 : Int32) < i3 then
        some (some (-2 : Int32), h3)
      else
        (if i2 < 0 then
          some (some (-2 : Int32), h3)
        else
          bif am_isO b4 5 then am_bt (f_X9_deskOf N (h3 b4 3) h3) (fun h5 => some (none, h5)) (fun b6 h5 => bif am_isO b6 0 then (if i2 ≤ (h5 b6 0) then
            am_bi (f_X2_keep N 24 h5) (fun _ h7 =>
            am_bt (f_X9_loseControl N i1 b4 h7) (fun h8 => some (none, h8)) (fun _ h8 => bif am_isO b4 5 then (let h9 := am_pi h8 b4 2 (3 : Int32)
            bif am_isO b4 5 then (let h10 := am_pi h9 b4 4 i2
            bif am_isO b4 5 then (let h11 := am_pi h10 b4 6 i3
            bif am_isO b4 5 then (let h12 := am_pi h11 b4 5 (h11 24 0)
            am_bt (f_X9_recordRightSizes N h12) (fun h13 => some (none, h13)) (fun _ h13 => am_bt (f_X9_positionOf N b4 h13) (fun h14 => some (none, h14)) (fun x15 h14 => some (some x15, h14)))) else none) else none) else none) else none))
          else
            some (some (-2 : Int32), h5)) else none) else none))))
  else
    some (some x2, h1)))
def c_X9_replay (N : Nat) : am_Cl := fun _ as h kk => am_sa as (fun z w0 => bif Nat.beq z 0 then am_s1 w0 (fun i1 w1 => am_s1 w1 (fun i2 w2 => am_s1 w2 (fun i3 w3 => am_st0 w3 (am_bt (f_X9_replay N i1 i2 i3 h) (fun h => kk none h) (fun v h => kk (am_oi v) h))))) else none)
def o_X9_replay (N : Nat) : am_Orc := (am_oc 88 (c_X9_whyNotAWatcher N) (am_oc 87 (c_X9_seatOf N) (am_oc 85 (c_X9_deskOf N) (am_oc 14 (c_X2_keep N) (am_oc 100 (c_X9_loseControl N) (am_oc 96 (c_X9_recordRightSizes N) (am_oc 92 (c_X9_positionOf N) am_o0)))))))
set_option maxRecDepth 100000 in
theorem tok_X9_replay : am_tok 74 tX9_replay := by
  unfold am_tok
  decide +kernel
set_option maxHeartbeats 4000000 in
set_option maxRecDepth 100000 in
theorem m_X9_replay {l : Launch} {al : Nat → Nat} {dC : Nat → ClassId} {dI : Nat → Nat → Nat} {aC : Nat → ClassId} {aV : Nat → Nat} (hy : am_Hy l al) (N : Nat) (i1 : Int32) (i2 : Int32) (i3 : Int32) (h : am_Hp) (r : (Option Int32 × am_Hp)) (hf : f_X9_replay N i1 i2 i3 h = some r) : am_Met l al dC dI aC aV 74 [.ref 0, .int i1, .int i2, .int i3] h (am_ot am_oi r.1) r.2 :=
  am_met (tab := tX9_replay) (orc := o_X9_replay N) (ret := am_ti) (g := r) (by decide) (by decide) hy.1 hy.2 tok_X9_replay (am_os1 (s_X9_whyNotAWatcher hy N) (am_os1 (s_X9_seatOf hy N) (am_os1 (s_X9_deskOf hy N) (am_os1 (s_X2_keep hy N) (am_os1 (s_X9_loseControl hy N) (am_os1 (s_X9_recordRightSizes hy N) (am_os1 (s_X9_positionOf hy N) am_os0))))))) am_ti_inv (Nat.le_of_ble_eq_true rfl) (fun At cl wk => by
    skip
    exact cl am_C0 am_c0 400 0 _ _ h hf)
theorem s_X9_replay {l : Launch} {al : Nat → Nat} {dC : Nat → ClassId} {dI : Nat → Nat → Nat} {aC : Nat → ClassId} {aV : Nat → Nat} (hy : am_Hy l al) (N : Nat) : am_CS l al dC dI aC aV 74 (c_X9_replay N) := by
  intro γ as h kk g hc0
  obtain ⟨z0, w0, e_0, hcz0⟩ := am_sa_some hc0
  obtain ⟨hz0, hc1⟩ := am_bif hcz0
  cases Nat.eq_of_beq_eq_true hz0
  obtain ⟨i1, w1, e_1, hc2⟩ := am_s1_some hc1
  obtain ⟨i2, w2, e_2, hc3⟩ := am_s1_some hc2
  obtain ⟨i3, w3, e_3, hc4⟩ := am_s1_some hc3
  obtain ⟨e_4, hc⟩ := am_st0_some hc4
  subst e_4
  subst e_3
  subst e_2
  subst e_1
  subst e_0
  rcases am_bt_some hc with ⟨h1, e1, e2⟩ | ⟨v, h1, e1, e2⟩
  · exact ⟨_, _, m_X9_replay hy N i1 i2 i3 h _ e1, e2⟩
  · exact ⟨_, _, m_X9_replay hy N i1 i2 i3 h _ e1, e2⟩

def f_X9_lookBack (N : Nat) (i1 : Int32) (i2 : Int32) (h : am_Hp) : Option (Option Int32 × am_Hp) :=
  am_bt (f_X9_whyNotAWatcher N i1 h) (fun h1 => some (none, h1)) (fun x2 h1 => (if x2 = 0 then
    am_bt (f_X9_seatOf N i1 h1) (fun h3 => some (none, h3)) (fun b4 h3 => (if i2 < 0 then
      some (some (-2 : Int32), h3)
    else
      (if i2 ≤ (40 : Int32) then
        am_bi (f_X2_keep N 24 h3) (fun _ h5 =>
        bif am_isO b4 5 then bif am_isO b4 5 then (let h6 := am_pi h5 b4 7 i2
        am_bt (f_X9_recordRightSizes N h6) (fun h7 => some (none, h7)) (fun _ h7 => some (some (h5 b4 7), h7))) else none else none)
      else
        some (some (-2 : Int32), h3))))
  else
    some (some x2, h1)))
def c_X9_lookBack (N : Nat) : am_Cl := fun _ as h kk => am_sa as (fun z w0 => bif Nat.beq z 0 then am_s1 w0 (fun i1 w1 => am_s1 w1 (fun i2 w2 => am_st0 w2 (am_bt (f_X9_lookBack N i1 i2 h) (fun h => kk none h) (fun v h => kk (am_oi v) h)))) else none)
def o_X9_lookBack (N : Nat) : am_Orc := (am_oc 88 (c_X9_whyNotAWatcher N) (am_oc 87 (c_X9_seatOf N) (am_oc 14 (c_X2_keep N) (am_oc 96 (c_X9_recordRightSizes N) am_o0))))
set_option maxRecDepth 100000 in
theorem tok_X9_lookBack : am_tok 75 tX9_lookBack := by
  unfold am_tok
  decide +kernel
set_option maxHeartbeats 4000000 in
set_option maxRecDepth 100000 in
theorem m_X9_lookBack {l : Launch} {al : Nat → Nat} {dC : Nat → ClassId} {dI : Nat → Nat → Nat} {aC : Nat → ClassId} {aV : Nat → Nat} (hy : am_Hy l al) (N : Nat) (i1 : Int32) (i2 : Int32) (h : am_Hp) (r : (Option Int32 × am_Hp)) (hf : f_X9_lookBack N i1 i2 h = some r) : am_Met l al dC dI aC aV 75 [.ref 0, .int i1, .int i2] h (am_ot am_oi r.1) r.2 :=
  am_met (tab := tX9_lookBack) (orc := o_X9_lookBack N) (ret := am_ti) (g := r) (by decide) (by decide) hy.1 hy.2 tok_X9_lookBack (am_os1 (s_X9_whyNotAWatcher hy N) (am_os1 (s_X9_seatOf hy N) (am_os1 (s_X2_keep hy N) (am_os1 (s_X9_recordRightSizes hy N) am_os0)))) am_ti_inv (Nat.le_of_ble_eq_true rfl) (fun At cl wk => by
    skip
    exact cl am_C0 am_c0 400 0 _ _ h hf)
theorem s_X9_lookBack {l : Launch} {al : Nat → Nat} {dC : Nat → ClassId} {dI : Nat → Nat → Nat} {aC : Nat → ClassId} {aV : Nat → Nat} (hy : am_Hy l al) (N : Nat) : am_CS l al dC dI aC aV 75 (c_X9_lookBack N) := by
  intro γ as h kk g hc0
  obtain ⟨z0, w0, e_0, hcz0⟩ := am_sa_some hc0
  obtain ⟨hz0, hc1⟩ := am_bif hcz0
  cases Nat.eq_of_beq_eq_true hz0
  obtain ⟨i1, w1, e_1, hc2⟩ := am_s1_some hc1
  obtain ⟨i2, w2, e_2, hc3⟩ := am_s1_some hc2
  obtain ⟨e_3, hc⟩ := am_st0_some hc3
  subst e_3
  subst e_2
  subst e_1
  subst e_0
  rcases am_bt_some hc with ⟨h1, e1, e2⟩ | ⟨v, h1, e1, e2⟩
  · exact ⟨_, _, m_X9_lookBack hy N i1 i2 h _ e1, e2⟩
  · exact ⟨_, _, m_X9_lookBack hy N i1 i2 h _ e1, e2⟩

def f_X9_window (N : Nat) (i1 : Int32) (i2 : Int32) (i3 : Int32) (h : am_Hp) : Option (Option Int32 × am_Hp) :=
  am_bi (f_X8_has N 19 i1 h) (fun x2 h1 =>
  (if x2 = 0 then
    some (some (-1 : Int32), h1)
  else
    (if i2 < (2 : Int32) then
      some (some (-2 : Int32), h1)
    else
      (if (16 : Int32) < i2 then
        some (some (-2 : Int32), h1)
      else
        (if i3 < (1 : Int32) then
          some (some (-2 : Int32), h1)
        else
          (if i3 ≤ (6 : Int32) then
            am_bi (f_X2_keep N 24 h1) (fun _ h3 =>
            am_bt (f_X9_seatOf N i1 h3) (fun h4 => some (none, h4)) (fun b5 h4 => bif am_isO b5 5 then bif am_isO b5 5 then (let h6 := am_pi h4 b5 0 i2
            bif am_isO b5 5 then (let h7 := am_pi h6 b5 1 i3
            am_bt (f_X9_recordRightSizes N h7) (fun h8 => some (none, h8)) (fun _ h8 => some (some (h4 b5 0), h8))) else none) else none else none))
          else
            some (some (-2 : Int32), h1)))))))
def c_X9_window (N : Nat) : am_Cl := fun _ as h kk => am_sa as (fun z w0 => bif Nat.beq z 0 then am_s1 w0 (fun i1 w1 => am_s1 w1 (fun i2 w2 => am_s1 w2 (fun i3 w3 => am_st0 w3 (am_bt (f_X9_window N i1 i2 i3 h) (fun h => kk none h) (fun v h => kk (am_oi v) h))))) else none)
def o_X9_window (N : Nat) : am_Orc := (am_oc 51 (c_X8_has N) (am_oc 14 (c_X2_keep N) (am_oc 87 (c_X9_seatOf N) (am_oc 96 (c_X9_recordRightSizes N) am_o0))))
set_option maxRecDepth 100000 in
theorem tok_X9_window : am_tok 76 tX9_window := by
  unfold am_tok
  decide +kernel
set_option maxHeartbeats 4000000 in
set_option maxRecDepth 100000 in
theorem m_X9_window {l : Launch} {al : Nat → Nat} {dC : Nat → ClassId} {dI : Nat → Nat → Nat} {aC : Nat → ClassId} {aV : Nat → Nat} (hy : am_Hy l al) (N : Nat) (i1 : Int32) (i2 : Int32) (i3 : Int32) (h : am_Hp) (r : (Option Int32 × am_Hp)) (hf : f_X9_window N i1 i2 i3 h = some r) : am_Met l al dC dI aC aV 76 [.ref 0, .int i1, .int i2, .int i3] h (am_ot am_oi r.1) r.2 :=
  am_met (tab := tX9_window) (orc := o_X9_window N) (ret := am_ti) (g := r) (by decide) (by decide) hy.1 hy.2 tok_X9_window (am_os1 (s_X8_has hy N) (am_os1 (s_X2_keep hy N) (am_os1 (s_X9_seatOf hy N) (am_os1 (s_X9_recordRightSizes hy N) am_os0)))) am_ti_inv (Nat.le_of_ble_eq_true rfl) (fun At cl wk => by
    skip
    exact cl am_C0 am_c0 400 0 _ _ h hf)
theorem s_X9_window {l : Launch} {al : Nat → Nat} {dC : Nat → ClassId} {dI : Nat → Nat → Nat} {aC : Nat → ClassId} {aV : Nat → Nat} (hy : am_Hy l al) (N : Nat) : am_CS l al dC dI aC aV 76 (c_X9_window N) := by
  intro γ as h kk g hc0
  obtain ⟨z0, w0, e_0, hcz0⟩ := am_sa_some hc0
  obtain ⟨hz0, hc1⟩ := am_bif hcz0
  cases Nat.eq_of_beq_eq_true hz0
  obtain ⟨i1, w1, e_1, hc2⟩ := am_s1_some hc1
  obtain ⟨i2, w2, e_2, hc3⟩ := am_s1_some hc2
  obtain ⟨i3, w3, e_3, hc4⟩ := am_s1_some hc3
  obtain ⟨e_4, hc⟩ := am_st0_some hc4
  subst e_4
  subst e_3
  subst e_2
  subst e_1
  subst e_0
  rcases am_bt_some hc with ⟨h1, e1, e2⟩ | ⟨v, h1, e1, e2⟩
  · exact ⟨_, _, m_X9_window hy N i1 i2 i3 h _ e1, e2⟩
  · exact ⟨_, _, m_X9_window hy N i1 i2 i3 h _ e1, e2⟩

def f_X9_groupAt (N : Nat) (i0 : Int32) (i1 : Int32) (h : am_Hp) : Option (Int32 × am_Hp) :=
  some ((i0 >>> (((5 : Int32) * ((5 : Int32) - i1)) &&& 31)) &&& (31 : Int32), h)
def c_X9_groupAt (N : Nat) : am_Cl := fun _ as h kk => am_s1 as (fun i0 w0 => am_s1 w0 (fun i1 w1 => am_st0 w1 (am_bi (f_X9_groupAt N i0 i1 h) (fun v h => kk (am_oi v) h))))
def o_X9_groupAt (N : Nat) : am_Orc := am_o0
set_option maxRecDepth 100000 in
theorem tok_X9_groupAt : am_tok 104 tX9_groupAt := by
  unfold am_tok
  decide +kernel
set_option maxHeartbeats 4000000 in
set_option maxRecDepth 100000 in
theorem m_X9_groupAt {l : Launch} {al : Nat → Nat} {dC : Nat → ClassId} {dI : Nat → Nat → Nat} {aC : Nat → ClassId} {aV : Nat → Nat} (hy : am_Hy l al) (N : Nat) (i0 : Int32) (i1 : Int32) (h : am_Hp) (r : (Int32 × am_Hp)) (hf : f_X9_groupAt N i0 i1 h = some r) : am_Met l al dC dI aC aV 104 [.int i0, .int i1] h (am_oi r.1) r.2 :=
  am_met (tab := tX9_groupAt) (orc := o_X9_groupAt N) (ret := am_ri) (g := r) (by decide) (by decide) hy.1 hy.2 tok_X9_groupAt am_os0 am_ri_inv (Nat.le_of_ble_eq_true rfl) (fun At cl wk => by
    skip
    exact cl am_C0 am_c0 400 0 _ _ h hf)
theorem s_X9_groupAt {l : Launch} {al : Nat → Nat} {dC : Nat → ClassId} {dI : Nat → Nat → Nat} {aC : Nat → ClassId} {aV : Nat → Nat} (hy : am_Hy l al) (N : Nat) : am_CS l al dC dI aC aV 104 (c_X9_groupAt N) := by
  intro γ as h kk g hc0
  obtain ⟨i0, w0, e_0, hc1⟩ := am_s1_some hc0
  obtain ⟨i1, w1, e_1, hc2⟩ := am_s1_some hc1
  obtain ⟨e_2, hc⟩ := am_st0_some hc2
  subst e_2
  subst e_1
  subst e_0
  obtain ⟨q, e1, e2⟩ := am_bi_some hc
  exact ⟨_, _, m_X9_groupAt hy N i0 i1 h _ e1, e2⟩
