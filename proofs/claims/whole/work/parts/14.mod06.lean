def f_X10_watchesIn (N : Nat) (i1 : Int32) (i2 : Int32) (i3 : Int32) (i4 : Int32) (i5 : Int32) (h : am_Hp) : Option (Unit × am_Hp) :=
  am_bi (f_X10_setU N i1 (2 : Int32) i2 h) (fun _ h1 =>
  am_bi (f_X10_setU N i1 (3 : Int32) i3 h1) (fun _ h2 =>
  am_bi (f_X10_setU N i1 (4 : Int32) i4 h2) (fun _ h3 =>
  (if i2 = (3 : Int32) then
    bif am_in (2 : Int32) 6071 then am_bi (f_X10_setU N i1 (5 : Int32) (h3 197 2) h3) (fun _ h6 =>
    am_bi (f_X10_setU N i1 (6 : Int32) i5 h6) (fun _ h7 =>
    some ((), h7))) else none
  else
    am_bi (f_X10_setU N i1 (5 : Int32) (0 : Int32) h3) (fun _ h4 =>
    am_bi (f_X10_setU N i1 (6 : Int32) i5 h4) (fun _ h5 =>
    some ((), h5)))))))
def c_X10_watchesIn (N : Nat) : am_Cl := fun _ as h kk => am_sa as (fun z w0 => bif Nat.beq z 193 then am_s1 w0 (fun i1 w1 => am_s1 w1 (fun i2 w2 => am_s1 w2 (fun i3 w3 => am_s1 w3 (fun i4 w4 => am_s1 w4 (fun i5 w5 => am_st0 w5 (am_bi (f_X10_watchesIn N i1 i2 i3 i4 i5 h) (fun v h => kk (am_ov v) h))))))) else none)
def o_X10_watchesIn (N : Nat) : am_Orc := (am_oc 132 (c_X10_setU N) am_o0)
set_option maxRecDepth 100000 in
theorem tok_X10_watchesIn : am_tok 154 tX10_watchesIn := by
  unfold am_tok
  decide +kernel
set_option maxHeartbeats 4000000 in
set_option maxRecDepth 100000 in
theorem m_X10_watchesIn {l : Launch} {al : Nat → Nat} {dC : Nat → ClassId} {dI : Nat → Nat → Nat} {aC : Nat → ClassId} {aV : Nat → Nat} (hy : am_Hy l al) (N : Nat) (i1 : Int32) (i2 : Int32) (i3 : Int32) (i4 : Int32) (i5 : Int32) (h : am_Hp) (r : (Unit × am_Hp)) (hf : f_X10_watchesIn N i1 i2 i3 i4 i5 h = some r) : am_Met l al dC dI aC aV 154 [.ref 193, .int i1, .int i2, .int i3, .int i4, .int i5] h (am_ov r.1) r.2 :=
  am_met (tab := tX10_watchesIn) (orc := o_X10_watchesIn N) (ret := am_rv) (g := r) (by decide) (by decide) hy.1 hy.2 tok_X10_watchesIn (am_os1 (s_X10_setU hy N) am_os0) am_rv_inv (Nat.le_of_ble_eq_true rfl) (fun At cl wk => by
    skip
    exact cl am_C0 am_c0 400 0 _ _ h hf)
theorem s_X10_watchesIn {l : Launch} {al : Nat → Nat} {dC : Nat → ClassId} {dI : Nat → Nat → Nat} {aC : Nat → ClassId} {aV : Nat → Nat} (hy : am_Hy l al) (N : Nat) : am_CS l al dC dI aC aV 154 (c_X10_watchesIn N) := by
  intro γ as h kk g hc0
  obtain ⟨z0, w0, e_0, hcz0⟩ := am_sa_some hc0
  obtain ⟨hz0, hc1⟩ := am_bif hcz0
  cases Nat.eq_of_beq_eq_true hz0
  obtain ⟨i1, w1, e_1, hc2⟩ := am_s1_some hc1
  obtain ⟨i2, w2, e_2, hc3⟩ := am_s1_some hc2
  obtain ⟨i3, w3, e_3, hc4⟩ := am_s1_some hc3
  obtain ⟨i4, w4, e_4, hc5⟩ := am_s1_some hc4
  obtain ⟨i5, w5, e_5, hc6⟩ := am_s1_some hc5
  obtain ⟨e_6, hc⟩ := am_st0_some hc6
  subst e_6
  subst e_5
  subst e_4
  subst e_3
  subst e_2
  subst e_1
  subst e_0
  obtain ⟨q, e1, e2⟩ := am_bi_some hc
  exact ⟨_, _, m_X10_watchesIn hy N i1 i2 i3 i4 i5 h _ e1, e2⟩

def l_X10_watcherMany_4 (N : Nat) : Nat → Int32 → Int32 → Int32 → am_Hp → Option (Int32 × am_Hp)
  | 0, _, _, _, _ => none
  | n + 1, i1, i2, i3, h =>
    bif am_in (1 : Int32) 20 then (if (h 195 1) ≤ i3 then
      some (i2, h)
    else
      am_bi (f_X10_watches N i3 h) (fun x2 h1 =>
      (if x2 = 0 then
        l_X10_watcherMany_4 N n i1 (i2 + (0 : Int32)) (i3 + (1 : Int32)) h1
      else
        am_bi (f_X10_ofU N i3 (3 : Int32) h1) (fun x4 h3 =>
        (if x4 = i1 then
          l_X10_watcherMany_4 N n i1 (i2 + (1 : Int32)) (i3 + (1 : Int32)) h3
        else
          l_X10_watcherMany_4 N n i1 (i2 + (0 : Int32)) (i3 + (1 : Int32)) h3))))) else none
def f_X10_watcherMany (N : Nat) (i1 : Int32) (h : am_Hp) : Option (Int32 × am_Hp) :=
  l_X10_watcherMany_4 N N i1 (0 : Int32) (0 : Int32) h
def c_X10_watcherMany (N : Nat) : am_Cl := fun _ as h kk => am_sa as (fun z w0 => bif Nat.beq z 193 then am_s1 w0 (fun i1 w1 => am_st0 w1 (am_bi (f_X10_watcherMany N i1 h) (fun v h => kk (am_oi v) h))) else none)
def o_X10_watcherMany (N : Nat) : am_Orc := (am_oc 135 (c_X10_watches N) (am_oc 131 (c_X10_ofU N) am_o0))
set_option maxRecDepth 100000 in
theorem tok_X10_watcherMany : am_tok 155 tX10_watcherMany := by
  unfold am_tok
  decide +kernel
set_option maxHeartbeats 4000000 in
set_option maxRecDepth 100000 in
theorem m_X10_watcherMany {l : Launch} {al : Nat → Nat} {dC : Nat → ClassId} {dI : Nat → Nat → Nat} {aC : Nat → ClassId} {aV : Nat → Nat} (hy : am_Hy l al) (N : Nat) (i1 : Int32) (h : am_Hp) (r : (Int32 × am_Hp)) (hf : f_X10_watcherMany N i1 h = some r) : am_Met l al dC dI aC aV 155 [.ref 193, .int i1] h (am_oi r.1) r.2 :=
  am_met (tab := tX10_watcherMany) (orc := o_X10_watcherMany N) (ret := am_ri) (g := r) (by decide) (by decide) hy.1 hy.2 tok_X10_watcherMany (am_os1 (s_X10_watches hy N) (am_os1 (s_X10_ofU hy N) am_os0)) am_ri_inv (Nat.le_of_ble_eq_true rfl) (fun At cl wk => by
    have A4 : ∀ n : Nat, ∀ i1 : Int32, ∀ i2 : Int32, ∀ i3 : Int32, ∀ h, l_X10_watcherMany_4 N n i1 i2 i3 h = some r → At 4 [(0, .ref 193), (1, .int i1), (2, .int i2), (3, .int i3)] [] h := by
      intro n
      induction n with
      | zero => intro i1 i2 i3 h hr; cases hr
      | succ n ih =>
        intro i1 i2 i3 h hr
        exact cl (am_C1 4 (fun ρ st h => am_lda ρ 0 (fun z => bif Nat.beq z 193 then am_ldi ρ 1 (fun i1 => am_ldi ρ 2 (fun i2 => am_ldi ρ 3 (fun i3 => am_st0 st (l_X10_watcherMany_4 N n i1 i2 i3 h)))) else none)) am_C0) (am_c1 (fun ρ st h hc => by
        obtain ⟨z, m_a0, hc⟩ := am_lda_some hc
        obtain ⟨hz, hc⟩ := am_bif hc
        cases Nat.eq_of_beq_eq_true hz
        obtain ⟨i1, m_i1, hc⟩ := am_ldi_some hc
        obtain ⟨i2, m_i2, hc⟩ := am_ldi_some hc
        obtain ⟨i3, m_i3, hc⟩ := am_ldi_some hc
        obtain ⟨rfl, hc⟩ := am_st0_some hc
        exact wk 4 ρ [(0, .ref 193), (1, .int i1), (2, .int i2), (3, .int i3)] _ h (am_m1 m_a0 (am_m1 m_i1 (am_m1 m_i2 (am_m1 m_i3 am_m0)))) (ih i1 i2 i3 h hc)) am_c0) 400 4 _ _ h hr
    exact cl (am_C1 4 (fun ρ st h => am_lda ρ 0 (fun z => bif Nat.beq z 193 then am_ldi ρ 1 (fun i1 => am_ldi ρ 2 (fun i2 => am_ldi ρ 3 (fun i3 => am_st0 st (l_X10_watcherMany_4 N N i1 i2 i3 h)))) else none)) am_C0) (am_c1 (fun ρ st h hc => by
        obtain ⟨z, m_a0, hc⟩ := am_lda_some hc
        obtain ⟨hz, hc⟩ := am_bif hc
        cases Nat.eq_of_beq_eq_true hz
        obtain ⟨i1, m_i1, hc⟩ := am_ldi_some hc
        obtain ⟨i2, m_i2, hc⟩ := am_ldi_some hc
        obtain ⟨i3, m_i3, hc⟩ := am_ldi_some hc
        obtain ⟨rfl, hc⟩ := am_st0_some hc
        exact wk 4 ρ [(0, .ref 193), (1, .int i1), (2, .int i2), (3, .int i3)] _ h (am_m1 m_a0 (am_m1 m_i1 (am_m1 m_i2 (am_m1 m_i3 am_m0)))) (A4 N i1 i2 i3 h hc)) am_c0) 400 0 _ _ h hf)
theorem s_X10_watcherMany {l : Launch} {al : Nat → Nat} {dC : Nat → ClassId} {dI : Nat → Nat → Nat} {aC : Nat → ClassId} {aV : Nat → Nat} (hy : am_Hy l al) (N : Nat) : am_CS l al dC dI aC aV 155 (c_X10_watcherMany N) := by
  intro γ as h kk g hc0
  obtain ⟨z0, w0, e_0, hcz0⟩ := am_sa_some hc0
  obtain ⟨hz0, hc1⟩ := am_bif hcz0
  cases Nat.eq_of_beq_eq_true hz0
  obtain ⟨i1, w1, e_1, hc2⟩ := am_s1_some hc1
  obtain ⟨e_2, hc⟩ := am_st0_some hc2
  subst e_2
  subst e_1
  subst e_0
  obtain ⟨q, e1, e2⟩ := am_bi_some hc
  exact ⟨_, _, m_X10_watcherMany hy N i1 h _ e1, e2⟩

def l_X10_controlled_2 (N : Nat) : Nat → Int32 → Int32 → am_Hp → Option (Int32 × am_Hp)
  | 0, _, _, _ => none
  | n + 1, i1, i2, h =>
    bif am_in (0 : Int32) 20 then (if (h 195 0) ≤ i2 then
      some ((-1 : Int32), h)
    else
      am_bi (f_X10_ofS N i2 (1 : Int32) h) (fun x2 h1 =>
      (if x2 = i1 then
        some (i2, h1)
      else
        l_X10_controlled_2 N n i1 (i2 + (1 : Int32)) h1))) else none
def f_X10_controlled (N : Nat) (i1 : Int32) (h : am_Hp) : Option (Int32 × am_Hp) :=
  l_X10_controlled_2 N N i1 (0 : Int32) h
def c_X10_controlled (N : Nat) : am_Cl := fun _ as h kk => am_sa as (fun z w0 => bif Nat.beq z 193 then am_s1 w0 (fun i1 w1 => am_st0 w1 (am_bi (f_X10_controlled N i1 h) (fun v h => kk (am_oi v) h))) else none)
def o_X10_controlled (N : Nat) : am_Orc := (am_oc 129 (c_X10_ofS N) am_o0)
set_option maxRecDepth 100000 in
theorem tok_X10_controlled : am_tok 156 tX10_controlled := by
  unfold am_tok
  decide +kernel
set_option maxHeartbeats 4000000 in
set_option maxRecDepth 100000 in
theorem m_X10_controlled {l : Launch} {al : Nat → Nat} {dC : Nat → ClassId} {dI : Nat → Nat → Nat} {aC : Nat → ClassId} {aV : Nat → Nat} (hy : am_Hy l al) (N : Nat) (i1 : Int32) (h : am_Hp) (r : (Int32 × am_Hp)) (hf : f_X10_controlled N i1 h = some r) : am_Met l al dC dI aC aV 156 [.ref 193, .int i1] h (am_oi r.1) r.2 :=
  am_met (tab := tX10_controlled) (orc := o_X10_controlled N) (ret := am_ri) (g := r) (by decide) (by decide) hy.1 hy.2 tok_X10_controlled (am_os1 (s_X10_ofS hy N) am_os0) am_ri_inv (Nat.le_of_ble_eq_true rfl) (fun At cl wk => by
    have A2 : ∀ n : Nat, ∀ i1 : Int32, ∀ i2 : Int32, ∀ h, l_X10_controlled_2 N n i1 i2 h = some r → At 2 [(0, .ref 193), (1, .int i1), (2, .int i2)] [] h := by
      intro n
      induction n with
      | zero => intro i1 i2 h hr; cases hr
      | succ n ih =>
        intro i1 i2 h hr
        exact cl (am_C1 2 (fun ρ st h => am_lda ρ 0 (fun z => bif Nat.beq z 193 then am_ldi ρ 1 (fun i1 => am_ldi ρ 2 (fun i2 => am_st0 st (l_X10_controlled_2 N n i1 i2 h))) else none)) am_C0) (am_c1 (fun ρ st h hc => by
        obtain ⟨z, m_a0, hc⟩ := am_lda_some hc
        obtain ⟨hz, hc⟩ := am_bif hc
        cases Nat.eq_of_beq_eq_true hz
        obtain ⟨i1, m_i1, hc⟩ := am_ldi_some hc
        obtain ⟨i2, m_i2, hc⟩ := am_ldi_some hc
        obtain ⟨rfl, hc⟩ := am_st0_some hc
        exact wk 2 ρ [(0, .ref 193), (1, .int i1), (2, .int i2)] _ h (am_m1 m_a0 (am_m1 m_i1 (am_m1 m_i2 am_m0))) (ih i1 i2 h hc)) am_c0) 400 2 _ _ h hr
    exact cl (am_C1 2 (fun ρ st h => am_lda ρ 0 (fun z => bif Nat.beq z 193 then am_ldi ρ 1 (fun i1 => am_ldi ρ 2 (fun i2 => am_st0 st (l_X10_controlled_2 N N i1 i2 h))) else none)) am_C0) (am_c1 (fun ρ st h hc => by
        obtain ⟨z, m_a0, hc⟩ := am_lda_some hc
        obtain ⟨hz, hc⟩ := am_bif hc
        cases Nat.eq_of_beq_eq_true hz
        obtain ⟨i1, m_i1, hc⟩ := am_ldi_some hc
        obtain ⟨i2, m_i2, hc⟩ := am_ldi_some hc
        obtain ⟨rfl, hc⟩ := am_st0_some hc
        exact wk 2 ρ [(0, .ref 193), (1, .int i1), (2, .int i2)] _ h (am_m1 m_a0 (am_m1 m_i1 (am_m1 m_i2 am_m0))) (A2 N i1 i2 h hc)) am_c0) 400 0 _ _ h hf)
theorem s_X10_controlled {l : Launch} {al : Nat → Nat} {dC : Nat → ClassId} {dI : Nat → Nat → Nat} {aC : Nat → ClassId} {aV : Nat → Nat} (hy : am_Hy l al) (N : Nat) : am_CS l al dC dI aC aV 156 (c_X10_controlled N) := by
  intro γ as h kk g hc0
  obtain ⟨z0, w0, e_0, hcz0⟩ := am_sa_some hc0
  obtain ⟨hz0, hc1⟩ := am_bif hcz0
  cases Nat.eq_of_beq_eq_true hz0
  obtain ⟨i1, w1, e_1, hc2⟩ := am_s1_some hc1
  obtain ⟨e_2, hc⟩ := am_st0_some hc2
  subst e_2
  subst e_1
  subst e_0
  obtain ⟨q, e1, e2⟩ := am_bi_some hc
  exact ⟨_, _, m_X10_controlled hy N i1 h _ e1, e2⟩

def f_X10_here (N : Nat)  (h : am_Hp) : Option (Int32 × am_Hp) :=
  (if (h 193 17) ≤ (h 193 18) then
    some ((-1 : Int32), h)
  else
    bif am_in (h 193 18) 600 then some (h 194 ((h 193 18).toNatClampNeg), h) else none)
def c_X10_here (N : Nat) : am_Cl := fun _ as h kk => am_sa as (fun z w0 => bif Nat.beq z 193 then am_st0 w0 (am_bi (f_X10_here N  h) (fun v h => kk (am_oi v) h)) else none)
def o_X10_here (N : Nat) : am_Orc := am_o0
set_option maxRecDepth 100000 in
theorem tok_X10_here : am_tok 157 tX10_here := by
  unfold am_tok
  decide +kernel
set_option maxHeartbeats 4000000 in
set_option maxRecDepth 100000 in
theorem m_X10_here {l : Launch} {al : Nat → Nat} {dC : Nat → ClassId} {dI : Nat → Nat → Nat} {aC : Nat → ClassId} {aV : Nat → Nat} (hy : am_Hy l al) (N : Nat)  (h : am_Hp) (r : (Int32 × am_Hp)) (hf : f_X10_here N  h = some r) : am_Met l al dC dI aC aV 157 [.ref 193] h (am_oi r.1) r.2 :=
  am_met (tab := tX10_here) (orc := o_X10_here N) (ret := am_ri) (g := r) (by decide) (by decide) hy.1 hy.2 tok_X10_here am_os0 am_ri_inv (Nat.le_of_ble_eq_true rfl) (fun At cl wk => by
    skip
    exact cl am_C0 am_c0 400 0 _ _ h hf)
theorem s_X10_here {l : Launch} {al : Nat → Nat} {dC : Nat → ClassId} {dI : Nat → Nat → Nat} {aC : Nat → ClassId} {aV : Nat → Nat} (hy : am_Hy l al) (N : Nat) : am_CS l al dC dI aC aV 157 (c_X10_here N) := by
  intro γ as h kk g hc0
  obtain ⟨z0, w0, e_0, hcz0⟩ := am_sa_some hc0
  obtain ⟨hz0, hc1⟩ := am_bif hcz0
  cases Nat.eq_of_beq_eq_true hz0
  obtain ⟨e_1, hc⟩ := am_st0_some hc1
  subst e_1
  subst e_0
  obtain ⟨q, e1, e2⟩ := am_bi_some hc
  exact ⟨_, _, m_X10_here hy N  h _ e1, e2⟩

def f_X10_isSmall (N : Nat) (i0 : Int32) (h : am_Hp) : Option (Int32 × am_Hp) :=
  (if i0 < (97 : Int32) then
    if (0 : Int32) &&& 1 = (0 : Int32) then some ((0 : Int32), h) else none
  else
    (if (122 : Int32) < i0 then
      if (0 : Int32) &&& 1 = (0 : Int32) then some ((0 : Int32), h) else none
    else
      if (1 : Int32) &&& 1 = (1 : Int32) then some ((1 : Int32), h) else none))
def c_X10_isSmall (N : Nat) : am_Cl := fun _ as h kk => am_s1 as (fun i0 w0 => am_st0 w0 (am_bi (f_X10_isSmall N i0 h) (fun v h => kk (am_oi v) h)))
def o_X10_isSmall (N : Nat) : am_Orc := am_o0
set_option maxRecDepth 100000 in
theorem tok_X10_isSmall : am_tok 158 tX10_isSmall := by
  unfold am_tok
  decide +kernel
set_option maxHeartbeats 4000000 in
set_option maxRecDepth 100000 in
theorem m_X10_isSmall {l : Launch} {al : Nat → Nat} {dC : Nat → ClassId} {dI : Nat → Nat → Nat} {aC : Nat → ClassId} {aV : Nat → Nat} (hy : am_Hy l al) (N : Nat) (i0 : Int32) (h : am_Hp) (r : (Int32 × am_Hp)) (hf : f_X10_isSmall N i0 h = some r) : am_Met l al dC dI aC aV 158 [.int i0] h (am_oi r.1) r.2 :=
  am_met (tab := tX10_isSmall) (orc := o_X10_isSmall N) (ret := am_ri) (g := r) (by decide) (by decide) hy.1 hy.2 tok_X10_isSmall am_os0 am_ri_inv (Nat.le_of_ble_eq_true rfl) (fun At cl wk => by
    skip
    exact cl am_C0 am_c0 400 0 _ _ h hf)
theorem s_X10_isSmall {l : Launch} {al : Nat → Nat} {dC : Nat → ClassId} {dI : Nat → Nat → Nat} {aC : Nat → ClassId} {aV : Nat → Nat} (hy : am_Hy l al) (N : Nat) : am_CS l al dC dI aC aV 158 (c_X10_isSmall N) := by
  intro γ as h kk g hc0
  obtain ⟨i0, w0, e_0, hc1⟩ := am_s1_some hc0
  obtain ⟨e_1, hc⟩ := am_st0_some hc1
  subst e_1
  subst e_0
  obtain ⟨q, e1, e2⟩ := am_bi_some hc
  exact ⟨_, _, m_X10_isSmall hy N i0 h _ e1, e2⟩

def f_X10_isDigit (N : Nat) (i0 : Int32) (h : am_Hp) : Option (Int32 × am_Hp) :=
  (if i0 < (48 : Int32) then
    if (0 : Int32) &&& 1 = (0 : Int32) then some ((0 : Int32), h) else none
  else
    (if (57 : Int32) < i0 then
      if (0 : Int32) &&& 1 = (0 : Int32) then some ((0 : Int32), h) else none
    else
      if (1 : Int32) &&& 1 = (1 : Int32) then some ((1 : Int32), h) else none))
def c_X10_isDigit (N : Nat) : am_Cl := fun _ as h kk => am_s1 as (fun i0 w0 => am_st0 w0 (am_bi (f_X10_isDigit N i0 h) (fun v h => kk (am_oi v) h)))
def o_X10_isDigit (N : Nat) : am_Orc := am_o0
set_option maxRecDepth 100000 in
theorem tok_X10_isDigit : am_tok 159 tX10_isDigit := by
  unfold am_tok
  decide +kernel
set_option maxHeartbeats 4000000 in
set_option maxRecDepth 100000 in
theorem m_X10_isDigit {l : Launch} {al : Nat → Nat} {dC : Nat → ClassId} {dI : Nat → Nat → Nat} {aC : Nat → ClassId} {aV : Nat → Nat} (hy : am_Hy l al) (N : Nat) (i0 : Int32) (h : am_Hp) (r : (Int32 × am_Hp)) (hf : f_X10_isDigit N i0 h = some r) : am_Met l al dC dI aC aV 159 [.int i0] h (am_oi r.1) r.2 :=
  am_met (tab := tX10_isDigit) (orc := o_X10_isDigit N) (ret := am_ri) (g := r) (by decide) (by decide) hy.1 hy.2 tok_X10_isDigit am_os0 am_ri_inv (Nat.le_of_ble_eq_true rfl) (fun At cl wk => by
    skip
    exact cl am_C0 am_c0 400 0 _ _ h hf)
theorem s_X10_isDigit {l : Launch} {al : Nat → Nat} {dC : Nat → ClassId} {dI : Nat → Nat → Nat} {aC : Nat → ClassId} {aV : Nat → Nat} (hy : am_Hy l al) (N : Nat) : am_CS l al dC dI aC aV 159 (c_X10_isDigit N) := by
  intro γ as h kk g hc0
  obtain ⟨i0, w0, e_0, hc1⟩ := am_s1_some hc0
  obtain ⟨e_1, hc⟩ := am_st0_some hc1
  subst e_1
  subst e_0
  obtain ⟨q, e1, e2⟩ := am_bi_some hc
  exact ⟨_, _, m_X10_isDigit hy N i0 h _ e1, e2⟩
