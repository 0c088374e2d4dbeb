def f_X9_attach (N : Nat) (i1 : Int32) (i2 : Int32) (h : am_Hp) : Option (Option Int32 × am_Hp) :=
  am_bi (f_X8_has N 19 i1 h) (fun x2 h1 =>
  (if x2 = 0 then
    some (some (-1 : Int32), h1)
  else
    am_bi (f_X8_has N 15 i2 h1) (fun x4 h3 =>
    (if x4 = 0 then
      some (some (-1 : Int32), h3)
    else
      am_bi (f_X2_keep N 24 h3) (fun _ h5 =>
      am_bt (f_X9_seatOf N i1 h5) (fun h6 => some (none, h6)) (fun b7 h6 => am_bt (f_X9_loseControl N i1 b7 h6) (fun h8 => some (none, h8)) (fun _ h8 => bif am_isO b7 5 then (let h9 := am_pi h8 b7 2 (1 : Int32)
      bif am_isO b7 5 then (let h10 := am_pi h9 b7 3 i2
      bif am_isO b7 5 then (let h11 := am_pi h10 b7 7 (0 : Int32)
      am_bt (f_X9_recordRightSizes N h11) (fun h12 => some (none, h12)) (fun _ h12 => am_bt (f_X9_usersWhoWatchSession N i2 h12) (fun h13 => some (none, h13)) (fun x14 h13 => some (some x14, h13)))) else none) else none) else none)))))))
def c_X9_attach (N : Nat) : am_Cl := fun _ as h kk => am_sa as (fun z w0 => bif Nat.beq z 0 then am_s1 w0 (fun i1 w1 => am_s1 w1 (fun i2 w2 => am_st0 w2 (am_bt (f_X9_attach N i1 i2 h) (fun h => kk none h) (fun v h => kk (am_oi v) h)))) else none)
def o_X9_attach (N : Nat) : am_Orc := (am_oc 51 (c_X8_has N) (am_oc 14 (c_X2_keep N) (am_oc 87 (c_X9_seatOf N) (am_oc 100 (c_X9_loseControl N) (am_oc 96 (c_X9_recordRightSizes N) (am_oc 90 (c_X9_usersWhoWatchSession N) am_o0))))))
set_option maxRecDepth 100000 in
theorem tok_X9_attach : am_tok 70 tX9_attach := by
  unfold am_tok
  decide +kernel
set_option maxHeartbeats 4000000 in
set_option maxRecDepth 100000 in
theorem m_X9_attach {l : Launch} {al : Nat → Nat} {dC : Nat → ClassId} {dI : Nat → Nat → Nat} {aC : Nat → ClassId} {aV : Nat → Nat} (hy : am_Hy l al) (N : Nat) (i1 : Int32) (i2 : Int32) (h : am_Hp) (r : (Option Int32 × am_Hp)) (hf : f_X9_attach N i1 i2 h = some r) : am_Met l al dC dI aC aV 70 [.ref 0, .int i1, .int i2] h (am_ot am_oi r.1) r.2 :=
  am_met (tab := tX9_attach) (orc := o_X9_attach N) (ret := am_ti) (g := r) (by decide) (by decide) hy.1 hy.2 tok_X9_attach (am_os1 (s_X8_has hy N) (am_os1 (s_X2_keep hy N) (am_os1 (s_X9_seatOf hy N) (am_os1 (s_X9_loseControl hy N) (am_os1 (s_X9_recordRightSizes hy N) (am_os1 (s_X9_usersWhoWatchSession hy N) am_os0)))))) am_ti_inv (Nat.le_of_ble_eq_true rfl) (fun At cl wk => by
    skip
    exact cl am_C0 am_c0 400 0 _ _ h hf)
theorem s_X9_attach {l : Launch} {al : Nat → Nat} {dC : Nat → ClassId} {dI : Nat → Nat → Nat} {aC : Nat → ClassId} {aV : Nat → Nat} (hy : am_Hy l al) (N : Nat) : am_CS l al dC dI aC aV 70 (c_X9_attach N) := by
  intro γ as h kk g hc0
  obtain ⟨z0, w0, e_0, hcz0⟩ := am_sa_some hc0
  obtain ⟨hz0, hc1⟩ := am_bif hcz0
  cases Nat.eq_of_beq_eq_true hz0
  obtain ⟨i1, w1, e_1, hc2⟩ := am_s1_some hc1
  obtain ⟨i2, w2, e_2, hc3⟩ := am_s1_some hc2
  obtain ⟨e_3, hc⟩ := am_st0_some hc3
  subst e_3
  subst e_2
  subst e_1
  subst e_0
  rcases am_bt_some hc with ⟨h1, e1, e2⟩ | ⟨v, h1, e1, e2⟩
  · exact ⟨_, _, m_X9_attach hy N i1 i2 h _ e1, e2⟩
  · exact ⟨_, _, m_X9_attach hy N i1 i2 h _ e1, e2⟩

def f_X9_whyNotAWatcher (N : Nat) (i1 : Int32) (h : am_Hp) : Option (Option Int32 × am_Hp) :=
  am_bi (f_X8_has N 19 i1 h) (fun x2 h1 =>
  (if x2 = 0 then
    some (some (-1 : Int32), h1)
  else
    am_bt (f_X9_seatOf N i1 h1) (fun h3 => some (none, h3)) (fun b4 h3 => bif am_isO b4 5 then (if (h3 b4 2) = 0 then
      some (some (-4 : Int32), h3)
    else
      some (some (0 : Int32), h3)) else none)))
def c_X9_whyNotAWatcher (N : Nat) : am_Cl := fun _ as h kk => am_sa as (fun z w0 => bif Nat.beq z 0 then am_s1 w0 (fun i1 w1 => am_st0 w1 (am_bt (f_X9_whyNotAWatcher N i1 h) (fun h => kk none h) (fun v h => kk (am_oi v) h))) else none)
def o_X9_whyNotAWatcher (N : Nat) : am_Orc := (am_oc 51 (c_X8_has N) (am_oc 87 (c_X9_seatOf N) am_o0))
set_option maxRecDepth 100000 in
theorem tok_X9_whyNotAWatcher : am_tok 88 tX9_whyNotAWatcher := by
  unfold am_tok
  decide +kernel
set_option maxHeartbeats 4000000 in
set_option maxRecDepth 100000 in
theorem m_X9_whyNotAWatcher {l : Launch} {al : Nat → Nat} {dC : Nat → ClassId} {dI : Nat → Nat → Nat} {aC : Nat → ClassId} {aV : Nat → Nat} (hy : am_Hy l al) (N : Nat) (i1 : Int32) (h : am_Hp) (r : (Option Int32 × am_Hp)) (hf : f_X9_whyNotAWatcher N i1 h = some r) : am_Met l al dC dI aC aV 88 [.ref 0, .int i1] h (am_ot am_oi r.1) r.2 :=
  am_met (tab := tX9_whyNotAWatcher) (orc := o_X9_whyNotAWatcher N) (ret := am_ti) (g := r) (by decide) (by decide) hy.1 hy.2 tok_X9_whyNotAWatcher (am_os1 (s_X8_has hy N) (am_os1 (s_X9_seatOf hy N) am_os0)) am_ti_inv (Nat.le_of_ble_eq_true rfl) (fun At cl wk => by
    skip
    exact cl am_C0 am_c0 400 0 _ _ h hf)
theorem s_X9_whyNotAWatcher {l : Launch} {al : Nat → Nat} {dC : Nat → ClassId} {dI : Nat → Nat → Nat} {aC : Nat → ClassId} {aV : Nat → Nat} (hy : am_Hy l al) (N : Nat) : am_CS l al dC dI aC aV 88 (c_X9_whyNotAWatcher N) := by
  intro γ as h kk g hc0
  obtain ⟨z0, w0, e_0, hcz0⟩ := am_sa_some hc0
  obtain ⟨hz0, hc1⟩ := am_bif hcz0
  cases Nat.eq_of_beq_eq_true hz0
  obtain ⟨i1, w1, e_1, hc2⟩ := am_s1_some hc1
  obtain ⟨e_2, hc⟩ := am_st0_some hc2
  subst e_2
  subst e_1
  subst e_0
  rcases am_bt_some hc with ⟨h1, e1, e2⟩ | ⟨v, h1, e1, e2⟩
  · exact ⟨_, _, m_X9_whyNotAWatcher hy N i1 h _ e1, e2⟩
  · exact ⟨_, _, m_X9_whyNotAWatcher hy N i1 h _ e1, e2⟩

def f_X9_detach (N : Nat) (i1 : Int32) (h : am_Hp) : Option (Option Int32 × am_Hp) :=
  am_bt (f_X9_whyNotAWatcher N i1 h) (fun h1 => some (none, h1)) (fun x2 h1 => (if x2 = 0 then
    am_bt (f_X9_seatOf N i1 h1) (fun h3 => some (none, h3)) (fun b4 h3 => am_bi (f_X2_keep N 24 h3) (fun _ h5 =>
    am_bt (f_X9_loseControl N i1 b4 h5) (fun h6 => some (none, h6)) (fun _ h6 => bif am_isO b4 5 then (let h7 := am_pi h6 b4 2 (0 : Int32)
    am_bt (f_X9_recordRightSizes N h7) (fun h8 => some (none, h8)) (fun _ h8 => bif am_isO b4 5 then am_bt (f_X9_usersWhoWatchSession N (h8 b4 3) h8) (fun h9 => some (none, h9)) (fun x10 h9 => some (some x10, h9)) else none)) else none)))
  else
    some (some x2, h1)))
def c_X9_detach (N : Nat) : am_Cl := fun _ as h kk => am_sa as (fun z w0 => bif Nat.beq z 0 then am_s1 w0 (fun i1 w1 => am_st0 w1 (am_bt (f_X9_detach N i1 h) (fun h => kk none h) (fun v h => kk (am_oi v) h))) else none)
def o_X9_detach (N : Nat) : am_Orc := (am_oc 88 (c_X9_whyNotAWatcher N) (am_oc 87 (c_X9_seatOf N) (am_oc 14 (c_X2_keep N) (am_oc 100 (c_X9_loseControl N) (am_oc 96 (c_X9_recordRightSizes N) (am_oc 90 (c_X9_usersWhoWatchSession N) am_o0))))))
set_option maxRecDepth 100000 in
theorem tok_X9_detach : am_tok 71 tX9_detach := by
  unfold am_tok
  decide +kernel
set_option maxHeartbeats 4000000 in
set_option maxRecDepth 100000 in
theorem m_X9_detach {l : Launch} {al : Nat → Nat} {dC : Nat → ClassId} {dI : Nat → Nat → Nat} {aC : Nat → ClassId} {aV : Nat → Nat} (hy : am_Hy l al) (N : Nat) (i1 : Int32) (h : am_Hp) (r : (Option Int32 × am_Hp)) (hf : f_X9_detach N i1 h = some r) : am_Met l al dC dI aC aV 71 [.ref 0, .int i1] h (am_ot am_oi r.1) r.2 :=
  am_met (tab := tX9_detach) (orc := o_X9_detach N) (ret := am_ti) (g := r) (by decide) (by decide) hy.1 hy.2 tok_X9_detach (am_os1 (s_X9_whyNotAWatcher hy N) (am_os1 (s_X9_seatOf hy N) (am_os1 (s_X2_keep hy N) (am_os1 (s_X9_loseControl hy N) (am_os1 (s_X9_recordRightSizes hy N) (am_os1 (s_X9_usersWhoWatchSession hy N) am_os0)))))) am_ti_inv (Nat.le_of_ble_eq_true rfl) (fun At cl wk => by
    skip
    exact cl am_C0 am_c0 400 0 _ _ h hf)
theorem s_X9_detach {l : Launch} {al : Nat → Nat} {dC : Nat → ClassId} {dI : Nat → Nat → Nat} {aC : Nat → ClassId} {aV : Nat → Nat} (hy : am_Hy l al) (N : Nat) : am_CS l al dC dI aC aV 71 (c_X9_detach N) := by
  intro γ as h kk g hc0
  obtain ⟨z0, w0, e_0, hcz0⟩ := am_sa_some hc0
  obtain ⟨hz0, hc1⟩ := am_bif hcz0
  cases Nat.eq_of_beq_eq_true hz0
  obtain ⟨i1, w1, e_1, hc2⟩ := am_s1_some hc1
  obtain ⟨e_2, hc⟩ := am_st0_some hc2
  subst e_2
  subst e_1
  subst e_0
  rcases am_bt_some hc with ⟨h1, e1, e2⟩ | ⟨v, h1, e1, e2⟩
  · exact ⟨_, _, m_X9_detach hy N i1 h _ e1, e2⟩
  · exact ⟨_, _, m_X9_detach hy N i1 h _ e1, e2⟩

def f_X9_goTo (N : Nat) (i1 : Int32) (i2 : Int32) (h : am_Hp) : Option (Option Int32 × am_Hp) :=
  am_bt (f_X9_whyNotAWatcher N i1 h) (fun h1 => some (none, h1)) (fun x2 h1 => (if x2 = 0 then
    am_bt (f_X9_seatOf N i1 h1) (fun h3 => some (none, h3)) (fun b4 h3 => (if i2 < 0 then
      some (some (-2 : Int32), h3)
    else
      bif am_isO b4 5 then am_bt (f_X9_deskOf N (h3 b4 3) h3) (fun h5 => some (none, h5)) (fun b6 h5 => bif am_isO b6 0 then (if i2 ≤ (h5 b6 0) then
        am_bi (f_X2_keep N 24 h5) (fun _ h7 =>
        am_bt (f_X9_positionOf N b4 h7) (fun h8 => some (none, h8)) (fun x9 h8 => am_bt (f_X9_loseControl N i1 b4 h8) (fun h10 => some (none, h10)) (fun _ h10 => bif am_isO b4 5 then (let h11 := am_pi h10 b4 2 (2 : Int32)
        bif am_isO b4 5 then (let h12 := am_pi h11 b4 4 i2
        am_bt (f_X9_recordRightSizes N h12) (fun h13 => some (none, h13)) (fun _ h13 => some (some x9, h13))) else none) else none)))
      else
        some (some (-2 : Int32), h5)) else none) else none))
  else
    some (some x2, h1)))
def c_X9_goTo (N : Nat) : am_Cl := fun _ as h kk => am_sa as (fun z w0 => bif Nat.beq z 0 then am_s1 w0 (fun i1 w1 => am_s1 w1 (fun i2 w2 => am_st0 w2 (am_bt (f_X9_goTo N i1 i2 h) (fun h => kk none h) (fun v h => kk (am_oi v) h)))) else none)
def o_X9_goTo (N : Nat) : am_Orc := (am_oc 88 (c_X9_whyNotAWatcher N) (am_oc 87 (c_X9_seatOf N) (am_oc 85 (c_X9_deskOf N) (am_oc 14 (c_X2_keep N) (am_oc 92 (c_X9_positionOf N) (am_oc 100 (c_X9_loseControl N) (am_oc 96 (c_X9_recordRightSizes N) am_o0)))))))
set_option maxRecDepth 100000 in
theorem tok_X9_goTo : am_tok 72 tX9_goTo := by
  unfold am_tok
  decide +kernel
set_option maxHeartbeats 4000000 in
set_option maxRecDepth 100000 in
theorem m_X9_goTo {l : Launch} {al : Nat → Nat} {dC : Nat → ClassId} {dI : Nat → Nat → Nat} {aC : Nat → ClassId} {aV : Nat → Nat} (hy : am_Hy l al) (N : Nat) (i1 : Int32) (i2 : Int32) (h : am_Hp) (r : (Option Int32 × am_Hp)) (hf : f_X9_goTo N i1 i2 h = some r) : am_Met l al dC dI aC aV 72 [.ref 0, .int i1, .int i2] h (am_ot am_oi r.1) r.2 :=
  am_met (tab := tX9_goTo) (orc := o_X9_goTo N) (ret := am_ti) (g := r) (by decide) (by decide) hy.1 hy.2 tok_X9_goTo (am_os1 (s_X9_whyNotAWatcher hy N) (am_os1 (s_X9_seatOf hy N) (am_os1 (s_X9_deskOf hy N) (am_os1 (s_X2_keep hy N) (am_os1 (s_X9_positionOf hy N) (am_os1 (s_X9_loseControl hy N) (am_os1 (s_X9_recordRightSizes hy N) am_os0))))))) am_ti_inv (Nat.le_of_ble_eq_true rfl) (fun At cl wk => by
    skip
    exact cl am_C0 am_c0 400 0 _ _ h hf)
theorem s_X9_goTo {l : Launch} {al : Nat → Nat} {dC : Nat → ClassId} {dI : Nat → Nat → Nat} {aC : Nat → ClassId} {aV : Nat → Nat} (hy : am_Hy l al) (N : Nat) : am_CS l al dC dI aC aV 72 (c_X9_goTo N) := by
  intro γ as h kk g hc0
  obtain ⟨z0, w0, e_0, hcz0⟩ := am_sa_some hc0
  obtain ⟨hz0, hc1⟩ := am_bif hcz0
  cases Nat.eq_of_beq_eq_true hz0
  obtain ⟨i1, w1, e_1, hc2⟩ := am_s1_some hc1
  obtain ⟨i2, w2, e_2, hc3⟩ := am_s1_some hc2
  obtain ⟨e_3, hc⟩ := am_st0_some hc3
  subst e_3
  subst e_2
  subst e_1
  subst e_0
  rcases am_bt_some hc with ⟨h1, e1, e2⟩ | ⟨v, h1, e1, e2⟩
  · exact ⟨_, _, m_X9_goTo hy N i1 i2 h _ e1, e2⟩
  · exact ⟨_, _, m_X9_goTo hy N i1 i2 h _ e1, e2⟩

def f_X9_goLive (N : Nat) (i1 : Int32) (h : am_Hp) : Option (Option Int32 × am_Hp) :=
  am_bt (f_X9_whyNotAWatcher N i1 h) (fun h1 => some (none, h1)) (fun x2 h1 => (if x2 = 0 then
    am_bt (f_X9_seatOf N i1 h1) (fun h3 => some (none, h3)) (fun b4 h3 => am_bi (f_X2_keep N 24 h3) (fun _ h5 =>
    am_bt (f_X9_positionOf N b4 h5) (fun h6 => some (none, h6)) (fun x7 h6 => bif am_isO b4 5 then (let h8 := am_pi h6 b4 2 (1 : Int32)
    am_bt (f_X9_recordRightSizes N h8) (fun h9 => some (none, h9)) (fun _ h9 => some (some x7, h9))) else none)))
  else
    some (some x2, h1)))
def c_X9_goLive (N : Nat) : am_Cl := fun _ as h kk => am_sa as (fun z w0 => bif Nat.beq z 0 then am_s1 w0 (fun i1 w1 => am_st0 w1 (am_bt (f_X9_goLive N i1 h) (fun h => kk none h) (fun v h => kk (am_oi v) h))) else none)
def o_X9_goLive (N : Nat) : am_Orc := (am_oc 88 (c_X9_whyNotAWatcher N) (am_oc 87 (c_X9_seatOf N) (am_oc 14 (c_X2_keep N) (am_oc 92 (c_X9_positionOf N) (am_oc 96 (c_X9_recordRightSizes N) am_o0)))))
set_option maxRecDepth 100000 in
theorem tok_X9_goLive : am_tok 73 tX9_goLive := by
  unfold am_tok
  decide +kernel
set_option maxHeartbeats 4000000 in
set_option maxRecDepth 100000 in
theorem m_X9_goLive {l : Launch} {al : Nat → Nat} {dC : Nat → ClassId} {dI : Nat → Nat → Nat} {aC : Nat → ClassId} {aV : Nat → Nat} (hy : am_Hy l al) (N : Nat) (i1 : Int32) (h : am_Hp) (r : (Option Int32 × am_Hp)) (hf : f_X9_goLive N i1 h = some r) : am_Met l al dC dI aC aV 73 [.ref 0, .int i1] h (am_ot am_oi r.1) r.2 :=
  am_met (tab := tX9_goLive) (orc := o_X9_goLive N) (ret := am_ti) (g := r) (by decide) (by decide) hy.1 hy.2 tok_X9_goLive (am_os1 (s_X9_whyNotAWatcher hy N) (am_os1 (s_X9_seatOf hy N) (am_os1 (s_X2_keep hy N) (am_os1 (s_X9_positionOf hy N) (am_os1 (s_X9_recordRightSizes hy N) am_os0))))) am_ti_inv (Nat.le_of_ble_eq_true rfl) (fun At cl wk => by
    skip
    exact cl am_C0 am_c0 400 0 _ _ h hf)
theorem s_X9_goLive {l : Launch} {al : Nat → Nat} {dC : Nat → ClassId} {dI : Nat → Nat → Nat} {aC : Nat → ClassId} {aV : Nat → Nat} (hy : am_Hy l al) (N : Nat) : am_CS l al dC dI aC aV 73 (c_X9_goLive N) := by
  intro γ as h kk g hc0
  obtain ⟨z0, w0, e_0, hcz0⟩ := am_sa_some hc0
  obtain ⟨hz0, hc1⟩ := am_bif hcz0
  cases Nat.eq_of_beq_eq_true hz0
  obtain ⟨i1, w1, e_1, hc2⟩ := am_s1_some hc1
  obtain ⟨e_2, hc⟩ := am_st0_some hc2
  subst e_2
  subst e_1
  subst e_0
  rcases am_bt_some hc with ⟨h1, e1, e2⟩ | ⟨v, h1, e1, e2⟩
  · exact ⟨_, _, m_X9_goLive hy N i1 h _ e1, e2⟩
  · exact ⟨_, _, m_X9_goLive hy N i1 h _ e1, e2⟩
