def f_X10_setU (N : Nat) (i1 : Int32) (i2 : Int32) (i3 : Int32) (h : am_Hp) : Option (Unit × am_Hp) :=
  bif am_in (((7 : Int32) + ((8 : Int32) * i1)) + i2) 6071 then (let h1 := am_pi h 197 ((((7 : Int32) + ((8 : Int32) * i1)) + i2).toNatClampNeg) i3
  some ((), h1)) else none
def c_X10_setU (N : Nat) : am_Cl := fun _ as h kk => am_sa as (fun z w0 => bif Nat.beq z 193 then am_s1 w0 (fun i1 w1 => am_s1 w1 (fun i2 w2 => am_s1 w2 (fun i3 w3 => am_st0 w3 (am_bi (f_X10_setU N i1 i2 i3 h) (fun v h => kk (am_ov v) h))))) else none)
def o_X10_setU (N : Nat) : am_Orc := am_o0
set_option maxRecDepth 100000 in
theorem tok_X10_setU : am_tok 132 tX10_setU := by
  unfold am_tok
  decide +kernel
set_option maxHeartbeats 4000000 in
set_option maxRecDepth 100000 in
theorem m_X10_setU {l : Launch} {al : Nat → Nat} {dC : Nat → ClassId} {dI : Nat → Nat → Nat} {aC : Nat → ClassId} {aV : Nat → Nat} (hy : am_Hy l al) (N : Nat) (i1 : Int32) (i2 : Int32) (i3 : Int32) (h : am_Hp) (r : (Unit × am_Hp)) (hf : f_X10_setU N i1 i2 i3 h = some r) : am_Met l al dC dI aC aV 132 [.ref 193, .int i1, .int i2, .int i3] h (am_ov r.1) r.2 :=
  am_met (tab := tX10_setU) (orc := o_X10_setU N) (ret := am_rv) (g := r) (by decide) (by decide) hy.1 hy.2 tok_X10_setU am_os0 am_rv_inv (Nat.le_of_ble_eq_true rfl) (fun At cl wk => by
    skip
    exact cl am_C0 am_c0 400 0 _ _ h hf)
theorem s_X10_setU {l : Launch} {al : Nat → Nat} {dC : Nat → ClassId} {dI : Nat → Nat → Nat} {aC : Nat → ClassId} {aV : Nat → Nat} (hy : am_Hy l al) (N : Nat) : am_CS l al dC dI aC aV 132 (c_X10_setU N) := by
  intro γ as h kk g hc0
  obtain ⟨z0, w0, e_0, hcz0⟩ := am_sa_some hc0
  obtain ⟨hz0, hc1⟩ := am_bif hcz0
  cases Nat.eq_of_beq_eq_true hz0
  obtain ⟨i1, w1, e_1, hc2⟩ := am_s1_some hc1
  obtain ⟨i2, w2, e_2, hc3⟩ := am_s1_some hc2
  obtain ⟨i3, w3, e_3, hc4⟩ := am_s1_some hc3
  obtain ⟨e_4, hc⟩ := am_st0_some hc4
  subst e_4
  subst e_3
  subst e_2
  subst e_1
  subst e_0
  obtain ⟨q, e1, e2⟩ := am_bi_some hc
  exact ⟨_, _, m_X10_setU hy N i1 i2 i3 h _ e1, e2⟩

def f_X10_ofE (N : Nat) (i1 : Int32) (i2 : Int32) (i3 : Int32) (h : am_Hp) : Option (Int32 × am_Hp) :=
  am_bi (f_X10_ofS N i1 (((4 : Int32) + ((5 : Int32) * i2)) + i3) h) (fun x2 h1 =>
  some (x2, h1))
def c_X10_ofE (N : Nat) : am_Cl := fun _ as h kk => am_sa as (fun z w0 => bif Nat.beq z 193 then am_s1 w0 (fun i1 w1 => am_s1 w1 (fun i2 w2 => am_s1 w2 (fun i3 w3 => am_st0 w3 (am_bi (f_X10_ofE N i1 i2 i3 h) (fun v h => kk (am_oi v) h))))) else none)
def o_X10_ofE (N : Nat) : am_Orc := (am_oc 129 (c_X10_ofS N) am_o0)
set_option maxRecDepth 100000 in
theorem tok_X10_ofE : am_tok 133 tX10_ofE := by
  unfold am_tok
  decide +kernel
set_option maxHeartbeats 4000000 in
set_option maxRecDepth 100000 in
theorem m_X10_ofE {l : Launch} {al : Nat → Nat} {dC : Nat → ClassId} {dI : Nat → Nat → Nat} {aC : Nat → ClassId} {aV : Nat → Nat} (hy : am_Hy l al) (N : Nat) (i1 : Int32) (i2 : Int32) (i3 : Int32) (h : am_Hp) (r : (Int32 × am_Hp)) (hf : f_X10_ofE N i1 i2 i3 h = some r) : am_Met l al dC dI aC aV 133 [.ref 193, .int i1, .int i2, .int i3] h (am_oi r.1) r.2 :=
  am_met (tab := tX10_ofE) (orc := o_X10_ofE N) (ret := am_ri) (g := r) (by decide) (by decide) hy.1 hy.2 tok_X10_ofE (am_os1 (s_X10_ofS hy N) am_os0) am_ri_inv (Nat.le_of_ble_eq_true rfl) (fun At cl wk => by
    skip
    exact cl am_C0 am_c0 400 0 _ _ h hf)
theorem s_X10_ofE {l : Launch} {al : Nat → Nat} {dC : Nat → ClassId} {dI : Nat → Nat → Nat} {aC : Nat → ClassId} {aV : Nat → Nat} (hy : am_Hy l al) (N : Nat) : am_CS l al dC dI aC aV 133 (c_X10_ofE N) := by
  intro γ as h kk g hc0
  obtain ⟨z0, w0, e_0, hcz0⟩ := am_sa_some hc0
  obtain ⟨hz0, hc1⟩ := am_bif hcz0
  cases Nat.eq_of_beq_eq_true hz0
  obtain ⟨i1, w1, e_1, hc2⟩ := am_s1_some hc1
  obtain ⟨i2, w2, e_2, hc3⟩ := am_s1_some hc2
  obtain ⟨i3, w3, e_3, hc4⟩ := am_s1_some hc3
  obtain ⟨e_4, hc⟩ := am_st0_some hc4
  subst e_4
  subst e_3
  subst e_2
  subst e_1
  subst e_0
  obtain ⟨q, e1, e2⟩ := am_bi_some hc
  exact ⟨_, _, m_X10_ofE hy N i1 i2 i3 h _ e1, e2⟩

def f_X10_events (N : Nat) (i1 : Int32) (h : am_Hp) : Option (Int32 × am_Hp) :=
  am_bi (f_X10_ofS N i1 (0 : Int32) h) (fun x2 h1 =>
  some (x2, h1))
def c_X10_events (N : Nat) : am_Cl := fun _ as h kk => am_sa as (fun z w0 => bif Nat.beq z 193 then am_s1 w0 (fun i1 w1 => am_st0 w1 (am_bi (f_X10_events N i1 h) (fun v h => kk (am_oi v) h))) else none)
def o_X10_events (N : Nat) : am_Orc := (am_oc 129 (c_X10_ofS N) am_o0)
set_option maxRecDepth 100000 in
theorem tok_X10_events : am_tok 134 tX10_events := by
  unfold am_tok
  decide +kernel
set_option maxHeartbeats 4000000 in
set_option maxRecDepth 100000 in
theorem m_X10_events {l : Launch} {al : Nat → Nat} {dC : Nat → ClassId} {dI : Nat → Nat → Nat} {aC : Nat → ClassId} {aV : Nat → Nat} (hy : am_Hy l al) (N : Nat) (i1 : Int32) (h : am_Hp) (r : (Int32 × am_Hp)) (hf : f_X10_events N i1 h = some r) : am_Met l al dC dI aC aV 134 [.ref 193, .int i1] h (am_oi r.1) r.2 :=
  am_met (tab := tX10_events) (orc := o_X10_events N) (ret := am_ri) (g := r) (by decide) (by decide) hy.1 hy.2 tok_X10_events (am_os1 (s_X10_ofS hy N) am_os0) am_ri_inv (Nat.le_of_ble_eq_true rfl) (fun At cl wk => by
    skip
    exact cl am_C0 am_c0 400 0 _ _ h hf)
theorem s_X10_events {l : Launch} {al : Nat → Nat} {dC : Nat → ClassId} {dI : Nat → Nat → Nat} {aC : Nat → ClassId} {aV : Nat → Nat} (hy : am_Hy l al) (N : Nat) : am_CS l al dC dI aC aV 134 (c_X10_events N) := by
  intro γ as h kk g hc0
  obtain ⟨z0, w0, e_0, hcz0⟩ := am_sa_some hc0
  obtain ⟨hz0, hc1⟩ := am_bif hcz0
  cases Nat.eq_of_beq_eq_true hz0
  obtain ⟨i1, w1, e_1, hc2⟩ := am_s1_some hc1
  obtain ⟨e_2, hc⟩ := am_st0_some hc2
  subst e_2
  subst e_1
  subst e_0
  obtain ⟨q, e1, e2⟩ := am_bi_some hc
  exact ⟨_, _, m_X10_events hy N i1 h _ e1, e2⟩

def f_X10_watches (N : Nat) (i1 : Int32) (h : am_Hp) : Option (Int32 × am_Hp) :=
  am_bi (f_X10_ofU N i1 (2 : Int32) h) (fun x2 h1 =>
  (if x2 = 0 then
    if (0 : Int32) &&& 1 = (0 : Int32) then some ((0 : Int32), h1) else none
  else
    if (1 : Int32) &&& 1 = (1 : Int32) then some ((1 : Int32), h1) else none))
def c_X10_watches (N : Nat) : am_Cl := fun _ as h kk => am_sa as (fun z w0 => bif Nat.beq z 193 then am_s1 w0 (fun i1 w1 => am_st0 w1 (am_bi (f_X10_watches N i1 h) (fun v h => kk (am_oi v) h))) else none)
def o_X10_watches (N : Nat) : am_Orc := (am_oc 131 (c_X10_ofU N) am_o0)
set_option maxRecDepth 100000 in
theorem tok_X10_watches : am_tok 135 tX10_watches := by
  unfold am_tok
  decide +kernel
set_option maxHeartbeats 4000000 in
set_option maxRecDepth 100000 in
theorem m_X10_watches {l : Launch} {al : Nat → Nat} {dC : Nat → ClassId} {dI : Nat → Nat → Nat} {aC : Nat → ClassId} {aV : Nat → Nat} (hy : am_Hy l al) (N : Nat) (i1 : Int32) (h : am_Hp) (r : (Int32 × am_Hp)) (hf : f_X10_watches N i1 h = some r) : am_Met l al dC dI aC aV 135 [.ref 193, .int i1] h (am_oi r.1) r.2 :=
  am_met (tab := tX10_watches) (orc := o_X10_watches N) (ret := am_ri) (g := r) (by decide) (by decide) hy.1 hy.2 tok_X10_watches (am_os1 (s_X10_ofU hy N) am_os0) am_ri_inv (Nat.le_of_ble_eq_true rfl) (fun At cl wk => by
    skip
    exact cl am_C0 am_c0 400 0 _ _ h hf)
theorem s_X10_watches {l : Launch} {al : Nat → Nat} {dC : Nat → ClassId} {dI : Nat → Nat → Nat} {aC : Nat → ClassId} {aV : Nat → Nat} (hy : am_Hy l al) (N : Nat) : am_CS l al dC dI aC aV 135 (c_X10_watches N) := by
  intro γ as h kk g hc0
  obtain ⟨z0, w0, e_0, hcz0⟩ := am_sa_some hc0
  obtain ⟨hz0, hc1⟩ := am_bif hcz0
  cases Nat.eq_of_beq_eq_true hz0
  obtain ⟨i1, w1, e_1, hc2⟩ := am_s1_some hc1
  obtain ⟨e_2, hc⟩ := am_st0_some hc2
  subst e_2
  subst e_1
  subst e_0
  obtain ⟨q, e1, e2⟩ := am_bi_some hc
  exact ⟨_, _, m_X10_watches hy N i1 h _ e1, e2⟩

def f_X10_isLive (N : Nat) (i1 : Int32) (i2 : Int32) (h : am_Hp) : Option (Int32 × am_Hp) :=
  am_bi (f_X10_ofU N i1 (2 : Int32) h) (fun x2 h1 =>
  (if x2 = (1 : Int32) then
    am_bi (f_X10_ofU N i1 (3 : Int32) h1) (fun x4 h3 =>
    (if x4 = i2 then
      if (1 : Int32) &&& 1 = (1 : Int32) then some ((1 : Int32), h3) else none
    else
      if (0 : Int32) &&& 1 = (0 : Int32) then some ((0 : Int32), h3) else none))
  else
    if (0 : Int32) &&& 1 = (0 : Int32) then some ((0 : Int32), h1) else none))
def c_X10_isLive (N : Nat) : am_Cl := fun _ as h kk => am_sa as (fun z w0 => bif Nat.beq z 193 then am_s1 w0 (fun i1 w1 => am_s1 w1 (fun i2 w2 => am_st0 w2 (am_bi (f_X10_isLive N i1 i2 h) (fun v h => kk (am_oi v) h)))) else none)
def o_X10_isLive (N : Nat) : am_Orc := (am_oc 131 (c_X10_ofU N) am_o0)
set_option maxRecDepth 100000 in
theorem tok_X10_isLive : am_tok 136 tX10_isLive := by
  unfold am_tok
  decide +kernel
set_option maxHeartbeats 4000000 in
set_option maxRecDepth 100000 in
theorem m_X10_isLive {l : Launch} {al : Nat → Nat} {dC : Nat → ClassId} {dI : Nat → Nat → Nat} {aC : Nat → ClassId} {aV : Nat → Nat} (hy : am_Hy l al) (N : Nat) (i1 : Int32) (i2 : Int32) (h : am_Hp) (r : (Int32 × am_Hp)) (hf : f_X10_isLive N i1 i2 h = some r) : am_Met l al dC dI aC aV 136 [.ref 193, .int i1, .int i2] h (am_oi r.1) r.2 :=
  am_met (tab := tX10_isLive) (orc := o_X10_isLive N) (ret := am_ri) (g := r) (by decide) (by decide) hy.1 hy.2 tok_X10_isLive (am_os1 (s_X10_ofU hy N) am_os0) am_ri_inv (Nat.le_of_ble_eq_true rfl) (fun At cl wk => by
    skip
    exact cl am_C0 am_c0 400 0 _ _ h hf)
theorem s_X10_isLive {l : Launch} {al : Nat → Nat} {dC : Nat → ClassId} {dI : Nat → Nat → Nat} {aC : Nat → ClassId} {aV : Nat → Nat} (hy : am_Hy l al) (N : Nat) : am_CS l al dC dI aC aV 136 (c_X10_isLive N) := by
  intro γ as h kk g hc0
  obtain ⟨z0, w0, e_0, hcz0⟩ := am_sa_some hc0
  obtain ⟨hz0, hc1⟩ := am_bif hcz0
  cases Nat.eq_of_beq_eq_true hz0
  obtain ⟨i1, w1, e_1, hc2⟩ := am_s1_some hc1
  obtain ⟨i2, w2, e_2, hc3⟩ := am_s1_some hc2
  obtain ⟨e_3, hc⟩ := am_st0_some hc3
  subst e_3
  subst e_2
  subst e_1
  subst e_0
  obtain ⟨q, e1, e2⟩ := am_bi_some hc
  exact ⟨_, _, m_X10_isLive hy N i1 i2 h _ e1, e2⟩

def l_X10_empties_2 (N : Nat) : Nat → Int32 → am_Hp → Option (Unit × am_Hp)
  | 0, _, _ => none
  | n + 1, i1, h =>
    (if (96 : Int32) ≤ i1 then
      some ((), h)
    else
      bif am_in i1 96 then (let h1 := am_pi h 200 i1.toNatClampNeg (27 : Int32)
      l_X10_empties_2 N n (i1 + (1 : Int32)) h1) else none)
def f_X10_empties (N : Nat)  (h : am_Hp) : Option (Unit × am_Hp) :=
  l_X10_empties_2 N N (0 : Int32) h
def c_X10_empties (N : Nat) : am_Cl := fun _ as h kk => am_sa as (fun z w0 => bif Nat.beq z 193 then am_st0 w0 (am_bi (f_X10_empties N  h) (fun v h => kk (am_ov v) h)) else none)
def o_X10_empties (N : Nat) : am_Orc := am_o0
set_option maxRecDepth 100000 in
theorem tok_X10_empties : am_tok 137 tX10_empties := by
  unfold am_tok
  decide +kernel
set_option maxHeartbeats 4000000 in
set_option maxRecDepth 100000 in
theorem m_X10_empties {l : Launch} {al : Nat → Nat} {dC : Nat → ClassId} {dI : Nat → Nat → Nat} {aC : Nat → ClassId} {aV : Nat → Nat} (hy : am_Hy l al) (N : Nat)  (h : am_Hp) (r : (Unit × am_Hp)) (hf : f_X10_empties N  h = some r) : am_Met l al dC dI aC aV 137 [.ref 193] h (am_ov r.1) r.2 :=
  am_met (tab := tX10_empties) (orc := o_X10_empties N) (ret := am_rv) (g := r) (by decide) (by decide) hy.1 hy.2 tok_X10_empties am_os0 am_rv_inv (Nat.le_of_ble_eq_true rfl) (fun At cl wk => by
    have A2 : ∀ n : Nat, ∀ i1 : Int32, ∀ h, l_X10_empties_2 N n i1 h = some r → At 2 [(0, .ref 193), (1, .int i1)] [] h := by
      intro n
      induction n with
      | zero => intro i1 h hr; cases hr
      | succ n ih =>
        intro i1 h hr
        exact cl (am_C1 2 (fun ρ st h => am_lda ρ 0 (fun z => bif Nat.beq z 193 then am_ldi ρ 1 (fun i1 => am_st0 st (l_X10_empties_2 N n i1 h)) else none)) am_C0) (am_c1 (fun ρ st h hc => by
        obtain ⟨z, m_a0, hc⟩ := am_lda_some hc
        obtain ⟨hz, hc⟩ := am_bif hc
        cases Nat.eq_of_beq_eq_true hz
        obtain ⟨i1, m_i1, hc⟩ := am_ldi_some hc
        obtain ⟨rfl, hc⟩ := am_st0_some hc
        exact wk 2 ρ [(0, .ref 193), (1, .int i1)] _ h (am_m1 m_a0 (am_m1 m_i1 am_m0)) (ih i1 h hc)) am_c0) 400 2 _ _ h hr
    exact cl (am_C1 2 (fun ρ st h => am_lda ρ 0 (fun z => bif Nat.beq z 193 then am_ldi ρ 1 (fun i1 => am_st0 st (l_X10_empties_2 N N i1 h)) else none)) am_C0) (am_c1 (fun ρ st h hc => by
        obtain ⟨z, m_a0, hc⟩ := am_lda_some hc
        obtain ⟨hz, hc⟩ := am_bif hc
        cases Nat.eq_of_beq_eq_true hz
        obtain ⟨i1, m_i1, hc⟩ := am_ldi_some hc
        obtain ⟨rfl, hc⟩ := am_st0_some hc
        exact wk 2 ρ [(0, .ref 193), (1, .int i1)] _ h (am_m1 m_a0 (am_m1 m_i1 am_m0)) (A2 N i1 h hc)) am_c0) 400 0 _ _ h hf)
theorem s_X10_empties {l : Launch} {al : Nat → Nat} {dC : Nat → ClassId} {dI : Nat → Nat → Nat} {aC : Nat → ClassId} {aV : Nat → Nat} (hy : am_Hy l al) (N : Nat) : am_CS l al dC dI aC aV 137 (c_X10_empties N) := by
  intro γ as h kk g hc0
  obtain ⟨z0, w0, e_0, hcz0⟩ := am_sa_some hc0
  obtain ⟨hz0, hc1⟩ := am_bif hcz0
  cases Nat.eq_of_beq_eq_true hz0
  obtain ⟨e_1, hc⟩ := am_st0_some hc1
  subst e_1
  subst e_0
  obtain ⟨q, e1, e2⟩ := am_bi_some hc
  exact ⟨_, _, m_X10_empties hy N  h _ e1, e2⟩

def f_X10_begins (N : Nat) (i1 : Int32) (h : am_Hp) : Option (Unit × am_Hp) :=
  bif am_in ((12 : Int32) + i1) 20 then let h1 := am_pi h 193 9 (h 195 (((12 : Int32) + i1).toNatClampNeg))
  bif am_in ((16 : Int32) + i1) 20 then let h2 := am_pi h1 193 10 (h1 195 (((16 : Int32) + i1).toNatClampNeg))
  let h3 := am_pi h2 193 11 (0 : Int32)
  let h4 := am_pi h3 193 12 (0 : Int32)
  let h5 := am_pi h4 193 14 (0 : Int32)
  am_bi (f_X10_empties N h5) (fun _ h6 =>
  some ((), h6)) else none else none
def c_X10_begins (N : Nat) : am_Cl := fun _ as h kk => am_sa as (fun z w0 => bif Nat.beq z 193 then am_s1 w0 (fun i1 w1 => am_st0 w1 (am_bi (f_X10_begins N i1 h) (fun v h => kk (am_ov v) h))) else none)
def o_X10_begins (N : Nat) : am_Orc := (am_oc 137 (c_X10_empties N) am_o0)
set_option maxRecDepth 100000 in
theorem tok_X10_begins : am_tok 138 tX10_begins := by
  unfold am_tok
  decide +kernel
set_option maxHeartbeats 4000000 in
set_option maxRecDepth 100000 in
theorem m_X10_begins {l : Launch} {al : Nat → Nat} {dC : Nat → ClassId} {dI : Nat → Nat → Nat} {aC : Nat → ClassId} {aV : Nat → Nat} (hy : am_Hy l al) (N : Nat) (i1 : Int32) (h : am_Hp) (r : (Unit × am_Hp)) (hf : f_X10_begins N i1 h = some r) : am_Met l al dC dI aC aV 138 [.ref 193, .int i1] h (am_ov r.1) r.2 :=
  am_met (tab := tX10_begins) (orc := o_X10_begins N) (ret := am_rv) (g := r) (by decide) (by decide) hy.1 hy.2 tok_X10_begins (am_os1 (s_X10_empties hy N) am_os0) am_rv_inv (Nat.le_of_ble_eq_true rfl) (fun At cl wk => by
    skip
    exact cl am_C0 am_c0 400 0 _ _ h hf)
theorem s_X10_begins {l : Launch} {al : Nat → Nat} {dC : Nat → ClassId} {dI : Nat → Nat → Nat} {aC : Nat → ClassId} {aV : Nat → Nat} (hy : am_Hy l al) (N : Nat) : am_CS l al dC dI aC aV 138 (c_X10_begins N) := by
  intro γ as h kk g hc0
  obtain ⟨z0, w0, e_0, hcz0⟩ := am_sa_some hc0
  obtain ⟨hz0, hc1⟩ := am_bif hcz0
  cases Nat.eq_of_beq_eq_true hz0
  obtain ⟨i1, w1, e_1, hc2⟩ := am_s1_some hc1
  obtain ⟨e_2, hc⟩ := am_st0_some hc2
  subst e_2
  subst e_1
  subst e_0
  obtain ⟨q, e1, e2⟩ := am_bi_some hc
  exact ⟨_, _, m_X10_begins hy N i1 h _ e1, e2⟩
