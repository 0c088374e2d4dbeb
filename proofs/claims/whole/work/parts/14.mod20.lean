def f_X10_attach (N : Nat) (i1 : Int32) (i2 : Int32) (h : am_Hp) : Option (Int32 × am_Hp) :=
  let h1 := am_pi h 193 0 (0 : Int32)
  am_bi (f_X10_isUser N i1 h1) (fun x3 h2 =>
  (if x3 = 0 then
    some ((-1 : Int32), h2)
  else
    am_bi (f_X10_isSession N i2 h2) (fun x5 h4 =>
    (if x5 = 0 then
      some ((-1 : Int32), h4)
    else
      am_bi (f_X10_keeps N h4) (fun _ h6 =>
      am_bi (f_X10_loses N i1 h6) (fun _ h7 =>
      am_bi (f_X10_watchesIn N i1 (1 : Int32) i2 (0 : Int32) (0 : Int32) h7) (fun _ h8 =>
      am_bi (f_X10_setU N i1 (7 : Int32) (0 : Int32) h8) (fun _ h9 =>
      am_bi (f_X10_settles N h9) (fun _ h10 =>
      am_bi (f_X10_watcherMany N i2 h10) (fun x12 h11 =>
      some (x12, h11)))))))))))
def c_X10_attach (N : Nat) : am_Cl := fun _ as h kk => am_sa as (fun z w0 => bif Nat.beq z 193 then am_s1 w0 (fun i1 w1 => am_s1 w1 (fun i2 w2 => am_st0 w2 (am_bi (f_X10_attach N i1 i2 h) (fun v h => kk (am_oi v) h)))) else none)
def o_X10_attach (N : Nat) : am_Orc := (am_oc 175 (c_X10_isUser N) (am_oc 174 (c_X10_isSession N) (am_oc 209 (c_X10_keeps N) (am_oc 153 (c_X10_loses N) (am_oc 154 (c_X10_watchesIn N) (am_oc 132 (c_X10_setU N) (am_oc 150 (c_X10_settles N) (am_oc 155 (c_X10_watcherMany N) am_o0))))))))
set_option maxRecDepth 100000 in
theorem tok_X10_attach : am_tok 211 tX10_attach := by
  unfold am_tok
  decide +kernel
set_option maxHeartbeats 4000000 in
set_option maxRecDepth 100000 in
theorem m_X10_attach {l : Launch} {al : Nat → Nat} {dC : Nat → ClassId} {dI : Nat → Nat → Nat} {aC : Nat → ClassId} {aV : Nat → Nat} (hy : am_Hy l al) (N : Nat) (i1 : Int32) (i2 : Int32) (h : am_Hp) (r : (Int32 × am_Hp)) (hf : f_X10_attach N i1 i2 h = some r) : am_Met l al dC dI aC aV 211 [.ref 193, .int i1, .int i2] h (am_oi r.1) r.2 :=
  am_met (tab := tX10_attach) (orc := o_X10_attach N) (ret := am_ri) (g := r) (by decide) (by decide) hy.1 hy.2 tok_X10_attach (am_os1 (s_X10_isUser hy N) (am_os1 (s_X10_isSession hy N) (am_os1 (s_X10_keeps hy N) (am_os1 (s_X10_loses hy N) (am_os1 (s_X10_watchesIn hy N) (am_os1 (s_X10_setU hy N) (am_os1 (s_X10_settles hy N) (am_os1 (s_X10_watcherMany hy N) am_os0)))))))) am_ri_inv (Nat.le_of_ble_eq_true rfl) (fun At cl wk => by
    skip
    exact cl am_C0 am_c0 400 0 _ _ h hf)
theorem s_X10_attach {l : Launch} {al : Nat → Nat} {dC : Nat → ClassId} {dI : Nat → Nat → Nat} {aC : Nat → ClassId} {aV : Nat → Nat} (hy : am_Hy l al) (N : Nat) : am_CS l al dC dI aC aV 211 (c_X10_attach N) := by
  intro γ as h kk g hc0
  obtain ⟨z0, w0, e_0, hcz0⟩ := am_sa_some hc0
  obtain ⟨hz0, hc1⟩ := am_bif hcz0
  cases Nat.eq_of_beq_eq_true hz0
  obtain ⟨i1, w1, e_1, hc2⟩ := am_s1_some hc1
  obtain ⟨i2, w2, e_2, hc3⟩ := am_s1_some hc2
  obtain ⟨e_3, hc⟩ := am_st0_some hc3
  subst e_3
  subst e_2
  subst e_1
  subst e_0
  obtain ⟨q, e1, e2⟩ := am_bi_some hc
  exact ⟨_, _, m_X10_attach hy N i1 i2 h _ e1, e2⟩

def f_X10_detach (N : Nat) (i1 : Int32) (h : am_Hp) : Option (Int32 × am_Hp) :=
  let h1 := am_pi h 193 0 (0 : Int32)
  am_bi (f_X10_isUser N i1 h1) (fun x3 h2 =>
  (if x3 = 0 then
    some ((-1 : Int32), h2)
  else
    am_bi (f_X10_watches N i1 h2) (fun x5 h4 =>
    (if x5 = 0 then
      some ((-4 : Int32), h4)
    else
      am_bi (f_X10_keeps N h4) (fun _ h6 =>
      am_bi (f_X10_ofU N i1 (3 : Int32) h6) (fun x8 h7 =>
      am_bi (f_X10_loses N i1 h7) (fun _ h9 =>
      am_bi (f_X10_watchesIn N i1 (0 : Int32) (0 : Int32) (0 : Int32) (0 : Int32) h9) (fun _ h10 =>
      am_bi (f_X10_settles N h10) (fun _ h11 =>
      am_bi (f_X10_watcherMany N x8 h11) (fun x13 h12 =>
      some (x13, h12)))))))))))
def c_X10_detach (N : Nat) : am_Cl := fun _ as h kk => am_sa as (fun z w0 => bif Nat.beq z 193 then am_s1 w0 (fun i1 w1 => am_st0 w1 (am_bi (f_X10_detach N i1 h) (fun v h => kk (am_oi v) h))) else none)
def o_X10_detach (N : Nat) : am_Orc := (am_oc 175 (c_X10_isUser N) (am_oc 135 (c_X10_watches N) (am_oc 209 (c_X10_keeps N) (am_oc 131 (c_X10_ofU N) (am_oc 153 (c_X10_loses N) (am_oc 154 (c_X10_watchesIn N) (am_oc 150 (c_X10_settles N) (am_oc 155 (c_X10_watcherMany N) am_o0))))))))
set_option maxRecDepth 100000 in
theorem tok_X10_detach : am_tok 212 tX10_detach := by
  unfold am_tok
  decide +kernel
set_option maxHeartbeats 4000000 in
set_option maxRecDepth 100000 in
theorem m_X10_detach {l : Launch} {al : Nat → Nat} {dC : Nat → ClassId} {dI : Nat → Nat → Nat} {aC : Nat → ClassId} {aV : Nat → Nat} (hy : am_Hy l al) (N : Nat) (i1 : Int32) (h : am_Hp) (r : (Int32 × am_Hp)) (hf : f_X10_detach N i1 h = some r) : am_Met l al dC dI aC aV 212 [.ref 193, .int i1] h (am_oi r.1) r.2 :=
  am_met (tab := tX10_detach) (orc := o_X10_detach N) (ret := am_ri) (g := r) (by decide) (by decide) hy.1 hy.2 tok_X10_detach (am_os1 (s_X10_isUser hy N) (am_os1 (s_X10_watches hy N) (am_os1 (s_X10_keeps hy N) (am_os1 (s_X10_ofU hy N) (am_os1 (s_X10_loses hy N) (am_os1 (s_X10_watchesIn hy N) (am_os1 (s_X10_settles hy N) (am_os1 (s_X10_watcherMany hy N) am_os0)))))))) am_ri_inv (Nat.le_of_ble_eq_true rfl) (fun At cl wk => by
    skip
    exact cl am_C0 am_c0 400 0 _ _ h hf)
theorem s_X10_detach {l : Launch} {al : Nat → Nat} {dC : Nat → ClassId} {dI : Nat → Nat → Nat} {aC : Nat → ClassId} {aV : Nat → Nat} (hy : am_Hy l al) (N : Nat) : am_CS l al dC dI aC aV 212 (c_X10_detach N) := by
  intro γ as h kk g hc0
  obtain ⟨z0, w0, e_0, hcz0⟩ := am_sa_some hc0
  obtain ⟨hz0, hc1⟩ := am_bif hcz0
  cases Nat.eq_of_beq_eq_true hz0
  obtain ⟨i1, w1, e_1, hc2⟩ := am_s1_some hc1
  obtain ⟨e_2, hc⟩ := am_st0_some hc2
  subst e_2
  subst e_1
  subst e_0
  obtain ⟨q, e1, e2⟩ := am_bi_some hc
  exact ⟨_, _, m_X10_detach hy N i1 h _ e1, e2⟩

def f_X10_goTo (N : Nat) (i1 : Int32) (i2 : Int32) (h : am_Hp) : Option (Int32 × am_Hp) :=
  let h1 := am_pi h 193 0 (0 : Int32)
  am_bi (f_X10_isUser N i1 h1) (fun x3 h2 =>
  (if x3 = 0 then
    some ((-1 : Int32), h2)
  else
    am_bi (f_X10_watches N i1 h2) (fun x5 h4 =>
    (if x5 = 0 then
      some ((-4 : Int32), h4)
    else
      am_bi (f_X10_ofU N i1 (3 : Int32) h4) (fun x7 h6 =>
      am_bi (f_X10_isPosition N x7 i2 h6) (fun x9 h8 =>
      (if x9 = 0 then
        some ((-2 : Int32), h8)
      else
        am_bi (f_X10_keeps N h8) (fun _ h10 =>
        am_bi (f_X10_positionOf N i1 h10) (fun x12 h11 =>
        am_bi (f_X10_loses N i1 h11) (fun _ h13 =>
        am_bi (f_X10_watchesIn N i1 (2 : Int32) x7 i2 (0 : Int32) h13) (fun _ h14 =>
        am_bi (f_X10_settles N h14) (fun _ h15 =>
        some (x12, h15)))))))))))))
def c_X10_goTo (N : Nat) : am_Cl := fun _ as h kk => am_sa as (fun z w0 => bif Nat.beq z 193 then am_s1 w0 (fun i1 w1 => am_s1 w1 (fun i2 w2 => am_st0 w2 (am_bi (f_X10_goTo N i1 i2 h) (fun v h => kk (am_oi v) h)))) else none)
def o_X10_goTo (N : Nat) : am_Orc := (am_oc 175 (c_X10_isUser N) (am_oc 135 (c_X10_watches N) (am_oc 131 (c_X10_ofU N) (am_oc 176 (c_X10_isPosition N) (am_oc 209 (c_X10_keeps N) (am_oc 147 (c_X10_positionOf N) (am_oc 153 (c_X10_loses N) (am_oc 154 (c_X10_watchesIn N) (am_oc 150 (c_X10_settles N) am_o0)))))))))
set_option maxRecDepth 100000 in
theorem tok_X10_goTo : am_tok 213 tX10_goTo := by
  unfold am_tok
  decide +kernel
set_option maxHeartbeats 4000000 in
set_option maxRecDepth 100000 in
theorem m_X10_goTo {l : Launch} {al : Nat → Nat} {dC : Nat → ClassId} {dI : Nat → Nat → Nat} {aC : Nat → ClassId} {aV : Nat → Nat} (hy : am_Hy l al) (N : Nat) (i1 : Int32) (i2 : Int32) (h : am_Hp) (r : (Int32 × am_Hp)) (hf : f_X10_goTo N i1 i2 h = some r) : am_Met l al dC dI aC aV 213 [.ref 193, .int i1, .int i2] h (am_oi r.1) r.2 :=
  am_met (tab := tX10_goTo) (orc := o_X10_goTo N) (ret := am_ri) (g := r) (by decide) (by decide) hy.1 hy.2 tok_X10_goTo (am_os1 (s_X10_isUser hy N) (am_os1 (s_X10_watches hy N) (am_os1 (s_X10_ofU hy N) (am_os1 (s_X10_isPosition hy N) (am_os1 (s_X10_keeps hy N) (am_os1 (s_X10_positionOf hy N) (am_os1 (s_X10_loses hy N) (am_os1 (s_X10_watchesIn hy N) (am_os1 (s_X10_settles hy N) am_os0))))))))) am_ri_inv (Nat.le_of_ble_eq_true rfl) (fun At cl wk => by
    skip
    exact cl am_C0 am_c0 400 0 _ _ h hf)
theorem s_X10_goTo {l : Launch} {al : Nat → Nat} {dC : Nat → ClassId} {dI : Nat → Nat → Nat} {aC : Nat → ClassId} {aV : Nat → Nat} (hy : am_Hy l al) (N : Nat) : am_CS l al dC dI aC aV 213 (c_X10_goTo N) := by
  intro γ as h kk g hc0
  obtain ⟨z0, w0, e_0, hcz0⟩ := am_sa_some hc0
  obtain ⟨hz0, hc1⟩ := am_bif hcz0
  cases Nat.eq_of_beq_eq_true hz0
  obtain ⟨i1, w1, e_1, hc2⟩ := am_s1_some hc1
  obtain ⟨i2, w2, e_2, hc3⟩ := am_s1_some hc2
  obtain ⟨e_3, hc⟩ := am_st0_some hc3
  subst e_3
  subst e_2
  subst e_1
  subst e_0
  obtain ⟨q, e1, e2⟩ := am_bi_some hc
  exact ⟨_, _, m_X10_goTo hy N i1 i2 h _ e1, e2⟩

def f_X10_goLive (N : Nat) (i1 : Int32) (h : am_Hp) : Option (Int32 × am_Hp) :=
  let h1 := am_pi h 193 0 (0 : Int32)
  am_bi (f_X10_isUser N i1 h1) (fun x3 h2 =>
  (if x3 = 0 then
    some ((-1 : Int32), h2)
  else
    am_bi (f_X10_watches N i1 h2) (fun x5 h4 =>
    (if x5 = 0 then
      some ((-4 : Int32), h4)
    else
      am_bi (f_X10_keeps N h4) (fun _ h6 =>
      am_bi (f_X10_positionOf N i1 h6) (fun x8 h7 =>
      am_bi (f_X10_ofU N i1 (3 : Int32) h7) (fun x10 h9 =>
      am_bi (f_X10_watchesIn N i1 (1 : Int32) x10 (0 : Int32) (0 : Int32) h9) (fun _ h11 =>
      am_bi (f_X10_settles N h11) (fun _ h12 =>
      some (x8, h12))))))))))
def c_X10_goLive (N : Nat) : am_Cl := fun _ as h kk => am_sa as (fun z w0 => bif Nat.beq z 193 then am_s1 w0 (fun i1 w1 => am_st0 w1 (am_bi (f_X10_goLive N i1 h) (fun v h => kk (am_oi v) h))) else none)
def o_X10_goLive (N : Nat) : am_Orc := (am_oc 175 (c_X10_isUser N) (am_oc 135 (c_X10_watches N) (am_oc 209 (c_X10_keeps N) (am_oc 147 (c_X10_positionOf N) (am_oc 131 (c_X10_ofU N) (am_oc 154 (c_X10_watchesIn N) (am_oc 150 (c_X10_settles N) am_o0)))))))
set_option maxRecDepth 100000 in
theorem tok_X10_goLive : am_tok 214 tX10_goLive := by
  unfold am_tok
  decide +kernel
set_option maxHeartbeats 4000000 in
set_option maxRecDepth 100000 in
theorem m_X10_goLive {l : Launch} {al : Nat → Nat} {dC : Nat → ClassId} {dI : Nat → Nat → Nat} {aC : Nat → ClassId} {aV : Nat → Nat} (hy : am_Hy l al) (N : Nat) (i1 : Int32) (h : am_Hp) (r : (Int32 × am_Hp)) (hf : f_X10_goLive N i1 h = some r) : am_Met l al dC dI aC aV 214 [.ref 193, .int i1] h (am_oi r.1) r.2 :=
  am_met (tab := tX10_goLive) (orc := o_X10_goLive N) (ret := am_ri) (g := r) (by decide) (by decide) hy.1 hy.2 tok_X10_goLive (am_os1 (s_X10_isUser hy N) (am_os1 (s_X10_watches hy N) (am_os1 (s_X10_keeps hy N) (am_os1 (s_X10_positionOf hy N) (am_os1 (s_X10_ofU hy N) (am_os1 (s_X10_watchesIn hy N) (am_os1 (s_X10_settles hy N) am_os0))))))) am_ri_inv (Nat.le_of_ble_eq_true rfl) (fun At cl wk => by
    skip
    exact cl am_C0 am_c0 400 0 _ _ h hf)
theorem s_X10_goLive {l : Launch} {al : Nat → Nat} {dC : Nat → ClassId} {dI : Nat → Nat → Nat} {aC : Nat → ClassId} {aV : Nat → Nat} (hy : am_Hy l al) (N : Nat) : am_CS l al dC dI aC aV 214 (c_X10_goLive N) := by
  intro γ as h kk g hc0
  obtain ⟨z0, w0, e_0, hcz0⟩ := am_sa_some hc0
  obtain ⟨hz0, hc1⟩ := am_bif hcz0
  cases Nat.eq_of_beq_eq_true hz0
  obtain ⟨i1, w1, e_1, hc2⟩ := am_s1_some hc1
  obtain ⟨e_2, hc⟩ := am_st0_some hc2
  subst e_2
  subst e_1
  subst e_0
  obtain ⟨q, e1, e2⟩ := am_bi_some hc
  exact ⟨_, _, m_X10_goLive hy N i1 h _ e1, e2⟩
