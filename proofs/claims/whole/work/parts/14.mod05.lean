def l_X10_right_22 (N : Nat) : Nat → Int32 → Int32 → Int32 → Int32 → am_Hp → Option (Int32 × am_Hp)
  | 0, _, _, _, _, _ => none
  | n + 1, i1, i2, i3, i4, h =>
    bif am_in (1 : Int32) 20 then (if (h 195 1) ≤ i4 then
      some (i3, h)
    else
      bif am_in (1 : Int32) 6071 then (if (h 197 1) = (1 : Int32) then
        am_bi (f_X10_isLive N i4 i1 h) (fun x2 h1 =>
        (if x2 = 0 then
          l_X10_right_22 N n i1 i2 i3 (i4 + (1 : Int32)) h1
        else
          (if i2 = 0 then
            am_bi (f_X10_ofU N i4 (0 : Int32) h1) (fun x4 h3 =>
            l_X10_right_22 N n i1 i2 (if x4 < i3 then x4 else i3) (i4 + (1 : Int32)) h3)
          else
            am_bi (f_X10_ofU N i4 (1 : Int32) h1) (fun x6 h5 =>
            l_X10_right_22 N n i1 i2 (if x6 < i3 then x6 else i3) (i4 + (1 : Int32)) h5))))
      else
        some (i3, h)) else none) else none
def f_X10_right (N : Nat) (i1 : Int32) (i2 : Int32) (h : am_Hp) : Option (Int32 × am_Hp) :=
  (if i2 = 0 then
    bif am_in ((12 : Int32) + i1) 20 then l_X10_right_22 N N i1 i2 (h 195 (((12 : Int32) + i1).toNatClampNeg)) (0 : Int32) h else none
  else
    bif am_in ((16 : Int32) + i1) 20 then l_X10_right_22 N N i1 i2 (h 195 (((16 : Int32) + i1).toNatClampNeg)) (0 : Int32) h else none)
def c_X10_right (N : Nat) : am_Cl := fun _ as h kk => am_sa as (fun z w0 => bif Nat.beq z 193 then am_s1 w0 (fun i1 w1 => am_s1 w1 (fun i2 w2 => am_st0 w2 (am_bi (f_X10_right N i1 i2 h) (fun v h => kk (am_oi v) h)))) else none)
def o_X10_right (N : Nat) : am_Orc := (am_oc 136 (c_X10_isLive N) (am_oc 131 (c_X10_ofU N) am_o0))
set_option maxRecDepth 100000 in
theorem tok_X10_right : am_tok 149 tX10_right := by
  unfold am_tok
  decide +kernel
set_option maxHeartbeats 4000000 in
set_option maxRecDepth 100000 in
theorem m_X10_right {l : Launch} {al : Nat → Nat} {dC : Nat → ClassId} {dI : Nat → Nat → Nat} {aC : Nat → ClassId} {aV : Nat → Nat} (hy : am_Hy l al) (N : Nat) (i1 : Int32) (i2 : Int32) (h : am_Hp) (r : (Int32 × am_Hp)) (hf : f_X10_right N i1 i2 h = some r) : am_Met l al dC dI aC aV 149 [.ref 193, .int i1, .int i2] h (am_oi r.1) r.2 :=
  am_met (tab := tX10_right) (orc := o_X10_right N) (ret := am_ri) (g := r) (by decide) (by decide) hy.1 hy.2 tok_X10_right (am_os1 (s_X10_isLive hy N) (am_os1 (s_X10_ofU hy N) am_os0)) am_ri_inv (Nat.le_of_ble_eq_true rfl) (fun At cl wk => by
    have A22 : ∀ n : Nat, ∀ i1 : Int32, ∀ i2 : Int32, ∀ i3 : Int32, ∀ i4 : Int32, ∀ h, l_X10_right_22 N n i1 i2 i3 i4 h = some r → At 22 [(0, .ref 193), (1, .int i1), (2, .int i2), (3, .int i3), (4, .int i4)] [] h := by
      intro n
      induction n with
      | zero => intro i1 i2 i3 i4 h hr; cases hr
      | succ n ih =>
        intro i1 i2 i3 i4 h hr
        exact cl (am_C1 22 (fun ρ st h => am_lda ρ 0 (fun z => bif Nat.beq z 193 then am_ldi ρ 1 (fun i1 => am_ldi ρ 2 (fun i2 => am_ldi ρ 3 (fun i3 => am_ldi ρ 4 (fun i4 => am_st0 st (l_X10_right_22 N n i1 i2 i3 i4 h))))) else none)) am_C0) (am_c1 (fun ρ st h hc => by
        obtain ⟨z, m_a0, hc⟩ := am_lda_some hc
        obtain ⟨hz, hc⟩ := am_bif hc
        cases Nat.eq_of_beq_eq_true hz
        obtain ⟨i1, m_i1, hc⟩ := am_ldi_some hc
        obtain ⟨i2, m_i2, hc⟩ := am_ldi_some hc
        obtain ⟨i3, m_i3, hc⟩ := am_ldi_some hc
        obtain ⟨i4, m_i4, hc⟩ := am_ldi_some hc
        obtain ⟨rfl, hc⟩ := am_st0_some hc
        exact wk 22 ρ [(0, .ref 193), (1, .int i1), (2, .int i2), (3, .int i3), (4, .int i4)] _ h (am_m1 m_a0 (am_m1 m_i1 (am_m1 m_i2 (am_m1 m_i3 (am_m1 m_i4 am_m0))))) (ih i1 i2 i3 i4 h hc)) am_c0) 400 22 _ _ h hr
    exact cl (am_C1 22 (fun ρ st h => am_lda ρ 0 (fun z => bif Nat.beq z 193 then am_ldi ρ 1 (fun i1 => am_ldi ρ 2 (fun i2 => am_ldi ρ 3 (fun i3 => am_ldi ρ 4 (fun i4 => am_st0 st (l_X10_right_22 N N i1 i2 i3 i4 h))))) else none)) am_C0) (am_c1 (fun ρ st h hc => by
        obtain ⟨z, m_a0, hc⟩ := am_lda_some hc
        obtain ⟨hz, hc⟩ := am_bif hc
        cases Nat.eq_of_beq_eq_true hz
        obtain ⟨i1, m_i1, hc⟩ := am_ldi_some hc
        obtain ⟨i2, m_i2, hc⟩ := am_ldi_some hc
        obtain ⟨i3, m_i3, hc⟩ := am_ldi_some hc
        obtain ⟨i4, m_i4, hc⟩ := am_ldi_some hc
        obtain ⟨rfl, hc⟩ := am_st0_some hc
        exact wk 22 ρ [(0, .ref 193), (1, .int i1), (2, .int i2), (3, .int i3), (4, .int i4)] _ h (am_m1 m_a0 (am_m1 m_i1 (am_m1 m_i2 (am_m1 m_i3 (am_m1 m_i4 am_m0))))) (A22 N i1 i2 i3 i4 h hc)) am_c0) 400 0 _ _ h hf)
theorem s_X10_right {l : Launch} {al : Nat → Nat} {dC : Nat → ClassId} {dI : Nat → Nat → Nat} {aC : Nat → ClassId} {aV : Nat → Nat} (hy : am_Hy l al) (N : Nat) : am_CS l al dC dI aC aV 149 (c_X10_right N) := by
  intro γ as h kk g hc0
  obtain ⟨z0, w0, e_0, hcz0⟩ := am_sa_some hc0
  obtain ⟨hz0, hc1⟩ := am_bif hcz0
  cases Nat.eq_of_beq_eq_true hz0
  obtain ⟨i1, w1, e_1, hc2⟩ := am_s1_some hc1
  obtain ⟨i2, w2, e_2, hc3⟩ := am_s1_some hc2
  obtain ⟨e_3, hc⟩ := am_st0_some hc3
  subst e_3
  subst e_2
  subst e_1
  subst e_0
  obtain ⟨q, e1, e2⟩ := am_bi_some hc
  exact ⟨_, _, m_X10_right hy N i1 i2 h _ e1, e2⟩

def l_X10_settles_2 (N : Nat) : Nat → Int32 → am_Hp → Option (Unit × am_Hp)
  | 0, _, _ => none
  | n + 1, i1, h =>
    bif am_in (0 : Int32) 20 then (if (h 195 0) ≤ i1 then
      some ((), h)
    else
      am_bi (f_X10_events N i1 h) (fun x2 h1 =>
      am_bi (f_X10_lays N i1 x2 h1) (fun _ h3 =>
      am_bi (f_X10_right N i1 (0 : Int32) h3) (fun x5 h4 =>
      am_bi (f_X10_right N i1 (1 : Int32) h4) (fun x7 h6 =>
      am_bi (f_X10_events N i1 h6) (fun x9 h8 =>
      (if (300 : Int32) ≤ x9 then
        l_X10_settles_2 N n (i1 + (1 : Int32)) h8
      else
        (if (h8 193 9) = x5 then
          (if (h8 193 10) = x7 then
            l_X10_settles_2 N n (i1 + (1 : Int32)) h8
          else
            am_bi (f_X10_records N i1 (1 : Int32) x5 x7 (-1 : Int32) h8) (fun _ h11 =>
            l_X10_settles_2 N n (i1 + (1 : Int32)) h11))
        else
          am_bi (f_X10_records N i1 (1 : Int32) x5 x7 (-1 : Int32) h8) (fun _ h10 =>
          l_X10_settles_2 N n (i1 + (1 : Int32)) h10))))))))) else none
def f_X10_settles (N : Nat)  (h : am_Hp) : Option (Unit × am_Hp) :=
  l_X10_settles_2 N N (0 : Int32) h
def c_X10_settles (N : Nat) : am_Cl := fun _ as h kk => am_sa as (fun z w0 => bif Nat.beq z 193 then am_st0 w0 (am_bi (f_X10_settles N  h) (fun v h => kk (am_ov v) h)) else none)
def o_X10_settles (N : Nat) : am_Orc := (am_oc 134 (c_X10_events N) (am_oc 144 (c_X10_lays N) (am_oc 149 (c_X10_right N) (am_oc 148 (c_X10_records N) am_o0))))
set_option maxRecDepth 100000 in
theorem tok_X10_settles : am_tok 150 tX10_settles := by
  unfold am_tok
  decide +kernel
set_option maxHeartbeats 4000000 in
set_option maxRecDepth 100000 in
theorem m_X10_settles {l : Launch} {al : Nat → Nat} {dC : Nat → ClassId} {dI : Nat → Nat → Nat} {aC : Nat → ClassId} {aV : Nat → Nat} (hy : am_Hy l al) (N : Nat)  (h : am_Hp) (r : (Unit × am_Hp)) (hf : f_X10_settles N  h = some r) : am_Met l al dC dI aC aV 150 [.ref 193] h (am_ov r.1) r.2 :=
  am_met (tab := tX10_settles) (orc := o_X10_settles N) (ret := am_rv) (g := r) (by decide) (by decide) hy.1 hy.2 tok_X10_settles (am_os1 (s_X10_events hy N) (am_os1 (s_X10_lays hy N) (am_os1 (s_X10_right hy N) (am_os1 (s_X10_records hy N) am_os0)))) am_rv_inv (Nat.le_of_ble_eq_true rfl) (fun At cl wk => by
    have A2 : ∀ n : Nat, ∀ i1 : Int32, ∀ h, l_X10_settles_2 N n i1 h = some r → At 2 [(0, .ref 193), (1, .int i1)] [] h := by
      intro n
      induction n with
      | zero => intro i1 h hr; cases hr
      | succ n ih =>
        intro i1 h hr
        exact cl (am_C1 2 (fun ρ st h => am_lda ρ 0 (fun z => bif Nat.beq z 193 then am_ldi ρ 1 (fun i1 => am_st0 st (l_X10_settles_2 N n i1 h)) else none)) am_C0) (am_c1 (fun ρ st h hc => by
        obtain ⟨z, m_a0, hc⟩ := am_lda_some hc
        obtain ⟨hz, hc⟩ := am_bif hc
        cases Nat.eq_of_beq_eq_true hz
        obtain ⟨i1, m_i1, hc⟩ := am_ldi_some hc
        obtain ⟨rfl, hc⟩ := am_st0_some hc
        exact wk 2 ρ [(0, .ref 193), (1, .int i1)] _ h (am_m1 m_a0 (am_m1 m_i1 am_m0)) (ih i1 h hc)) am_c0) 400 2 _ _ h hr
    exact cl (am_C1 2 (fun ρ st h => am_lda ρ 0 (fun z => bif Nat.beq z 193 then am_ldi ρ 1 (fun i1 => am_st0 st (l_X10_settles_2 N N i1 h)) else none)) am_C0) (am_c1 (fun ρ st h hc => by
        obtain ⟨z, m_a0, hc⟩ := am_lda_some hc
        obtain ⟨hz, hc⟩ := am_bif hc
        cases Nat.eq_of_beq_eq_true hz
        obtain ⟨i1, m_i1, hc⟩ := am_ldi_some hc
        obtain ⟨rfl, hc⟩ := am_st0_some hc
        exact wk 2 ρ [(0, .ref 193), (1, .int i1)] _ h (am_m1 m_a0 (am_m1 m_i1 am_m0)) (A2 N i1 h hc)) am_c0) 400 0 _ _ h hf)
theorem s_X10_settles {l : Launch} {al : Nat → Nat} {dC : Nat → ClassId} {dI : Nat → Nat → Nat} {aC : Nat → ClassId} {aV : Nat → Nat} (hy : am_Hy l al) (N : Nat) : am_CS l al dC dI aC aV 150 (c_X10_settles N) := by
  intro γ as h kk g hc0
  obtain ⟨z0, w0, e_0, hcz0⟩ := am_sa_some hc0
  obtain ⟨hz0, hc1⟩ := am_bif hcz0
  cases Nat.eq_of_beq_eq_true hz0
  obtain ⟨e_1, hc⟩ := am_st0_some hc1
  subst e_1
  subst e_0
  obtain ⟨q, e1, e2⟩ := am_bi_some hc
  exact ⟨_, _, m_X10_settles hy N  h _ e1, e2⟩

def f_X10_hasControl (N : Nat) (i1 : Int32) (i2 : Int32) (h : am_Hp) : Option (Unit × am_Hp) :=
  am_bi (f_X10_setS N i1 (1 : Int32) i2 h) (fun _ h1 =>
  am_bi (f_X10_setS N i1 (2 : Int32) (-1 : Int32) h1) (fun _ h2 =>
  am_bi (f_X10_setS N i1 (3 : Int32) (0 : Int32) h2) (fun _ h3 =>
  some ((), h3))))
def c_X10_hasControl (N : Nat) : am_Cl := fun _ as h kk => am_sa as (fun z w0 => bif Nat.beq z 193 then am_s1 w0 (fun i1 w1 => am_s1 w1 (fun i2 w2 => am_st0 w2 (am_bi (f_X10_hasControl N i1 i2 h) (fun v h => kk (am_ov v) h)))) else none)
def o_X10_hasControl (N : Nat) : am_Orc := (am_oc 130 (c_X10_setS N) am_o0)
set_option maxRecDepth 100000 in
theorem tok_X10_hasControl : am_tok 151 tX10_hasControl := by
  unfold am_tok
  decide +kernel
set_option maxHeartbeats 4000000 in
set_option maxRecDepth 100000 in
theorem m_X10_hasControl {l : Launch} {al : Nat → Nat} {dC : Nat → ClassId} {dI : Nat → Nat → Nat} {aC : Nat → ClassId} {aV : Nat → Nat} (hy : am_Hy l al) (N : Nat) (i1 : Int32) (i2 : Int32) (h : am_Hp) (r : (Unit × am_Hp)) (hf : f_X10_hasControl N i1 i2 h = some r) : am_Met l al dC dI aC aV 151 [.ref 193, .int i1, .int i2] h (am_ov r.1) r.2 :=
  am_met (tab := tX10_hasControl) (orc := o_X10_hasControl N) (ret := am_rv) (g := r) (by decide) (by decide) hy.1 hy.2 tok_X10_hasControl (am_os1 (s_X10_setS hy N) am_os0) am_rv_inv (Nat.le_of_ble_eq_true rfl) (fun At cl wk => by
    skip
    exact cl am_C0 am_c0 400 0 _ _ h hf)
theorem s_X10_hasControl {l : Launch} {al : Nat → Nat} {dC : Nat → ClassId} {dI : Nat → Nat → Nat} {aC : Nat → ClassId} {aV : Nat → Nat} (hy : am_Hy l al) (N : Nat) : am_CS l al dC dI aC aV 151 (c_X10_hasControl N) := by
  intro γ as h kk g hc0
  obtain ⟨z0, w0, e_0, hcz0⟩ := am_sa_some hc0
  obtain ⟨hz0, hc1⟩ := am_bif hcz0
  cases Nat.eq_of_beq_eq_true hz0
  obtain ⟨i1, w1, e_1, hc2⟩ := am_s1_some hc1
  obtain ⟨i2, w2, e_2, hc3⟩ := am_s1_some hc2
  obtain ⟨e_3, hc⟩ := am_st0_some hc3
  subst e_3
  subst e_2
  subst e_1
  subst e_0
  obtain ⟨q, e1, e2⟩ := am_bi_some hc
  exact ⟨_, _, m_X10_hasControl hy N i1 i2 h _ e1, e2⟩

def f_X10_givesUp (N : Nat) (i1 : Int32) (h : am_Hp) : Option (Unit × am_Hp) :=
  am_bi (f_X10_ofS N i1 (2 : Int32) h) (fun x2 h1 =>
  am_bi (f_X10_hasControl N i1 x2 h1) (fun _ h3 =>
  some ((), h3)))
def c_X10_givesUp (N : Nat) : am_Cl := fun _ as h kk => am_sa as (fun z w0 => bif Nat.beq z 193 then am_s1 w0 (fun i1 w1 => am_st0 w1 (am_bi (f_X10_givesUp N i1 h) (fun v h => kk (am_ov v) h))) else none)
def o_X10_givesUp (N : Nat) : am_Orc := (am_oc 129 (c_X10_ofS N) (am_oc 151 (c_X10_hasControl N) am_o0))
set_option maxRecDepth 100000 in
theorem tok_X10_givesUp : am_tok 152 tX10_givesUp := by
  unfold am_tok
  decide +kernel
set_option maxHeartbeats 4000000 in
set_option maxRecDepth 100000 in
theorem m_X10_givesUp {l : Launch} {al : Nat → Nat} {dC : Nat → ClassId} {dI : Nat → Nat → Nat} {aC : Nat → ClassId} {aV : Nat → Nat} (hy : am_Hy l al) (N : Nat) (i1 : Int32) (h : am_Hp) (r : (Unit × am_Hp)) (hf : f_X10_givesUp N i1 h = some r) : am_Met l al dC dI aC aV 152 [.ref 193, .int i1] h (am_ov r.1) r.2 :=
  am_met (tab := tX10_givesUp) (orc := o_X10_givesUp N) (ret := am_rv) (g := r) (by decide) (by decide) hy.1 hy.2 tok_X10_givesUp (am_os1 (s_X10_ofS hy N) (am_os1 (s_X10_hasControl hy N) am_os0)) am_rv_inv (Nat.le_of_ble_eq_true rfl) (fun At cl wk => by
    skip
    exact cl am_C0 am_c0 400 0 _ _ h hf)
theorem s_X10_givesUp {l : Launch} {al : Nat → Nat} {dC : Nat → ClassId} {dI : Nat → Nat → Nat} {aC : Nat → ClassId} {aV : Nat → Nat} (hy : am_Hy l al) (N : Nat) : am_CS l al dC dI aC aV 152 (c_X10_givesUp N) := by
  intro γ as h kk g hc0
  obtain ⟨z0, w0, e_0, hcz0⟩ := am_sa_some hc0
  obtain ⟨hz0, hc1⟩ := am_bif hcz0
  cases Nat.eq_of_beq_eq_true hz0
  obtain ⟨i1, w1, e_1, hc2⟩ := am_s1_some hc1
  obtain ⟨e_2, hc⟩ := am_st0_some hc2
  subst e_2
  subst e_1
  subst e_0
  obtain ⟨q, e1, e2⟩ := am_bi_some hc
  exact ⟨_, _, m_X10_givesUp hy N i1 h _ e1, e2⟩

def f_X10_loses (N : Nat) (i1 : Int32) (h : am_Hp) : Option (Unit × am_Hp) :=
  am_bi (f_X10_ofU N i1 (3 : Int32) h) (fun x2 h1 =>
  am_bi (f_X10_watches N i1 h1) (fun x4 h3 =>
  (if x4 = 0 then
    some ((), h3)
  else
    am_bi (f_X10_ofS N x2 (2 : Int32) h3) (fun x6 h5 =>
    (if x6 = i1 then
      am_bi (f_X10_setS N x2 (2 : Int32) (-1 : Int32) h5) (fun _ h10 =>
      am_bi (f_X10_setS N x2 (3 : Int32) (0 : Int32) h10) (fun _ h11 =>
      am_bi (f_X10_ofS N x2 (1 : Int32) h11) (fun x13 h12 =>
      (if x13 = i1 then
        am_bi (f_X10_givesUp N x2 h12) (fun _ h14 =>
        some ((), h14))
      else
        some ((), h12)))))
    else
      am_bi (f_X10_ofS N x2 (1 : Int32) h5) (fun x8 h7 =>
      (if x8 = i1 then
        am_bi (f_X10_givesUp N x2 h7) (fun _ h9 =>
        some ((), h9))
      else
        some ((), h7))))))))
def c_X10_loses (N : Nat) : am_Cl := fun _ as h kk => am_sa as (fun z w0 => bif Nat.beq z 193 then am_s1 w0 (fun i1 w1 => am_st0 w1 (am_bi (f_X10_loses N i1 h) (fun v h => kk (am_ov v) h))) else none)
def o_X10_loses (N : Nat) : am_Orc := (am_oc 131 (c_X10_ofU N) (am_oc 135 (c_X10_watches N) (am_oc 129 (c_X10_ofS N) (am_oc 130 (c_X10_setS N) (am_oc 152 (c_X10_givesUp N) am_o0)))))
set_option maxRecDepth 100000 in
theorem tok_X10_loses : am_tok 153 tX10_loses := by
  unfold am_tok
  decide +kernel
set_option maxHeartbeats 4000000 in
set_option maxRecDepth 100000 in
theorem m_X10_loses {l : Launch} {al : Nat → Nat} {dC : Nat → ClassId} {dI : Nat → Nat → Nat} {aC : Nat → ClassId} {aV : Nat → Nat} (hy : am_Hy l al) (N : Nat) (i1 : Int32) (h : am_Hp) (r : (Unit × am_Hp)) (hf : f_X10_loses N i1 h = some r) : am_Met l al dC dI aC aV 153 [.ref 193, .int i1] h (am_ov r.1) r.2 :=
  am_met (tab := tX10_loses) (orc := o_X10_loses N) (ret := am_rv) (g := r) (by decide) (by decide) hy.1 hy.2 tok_X10_loses (am_os1 (s_X10_ofU hy N) (am_os1 (s_X10_watches hy N) (am_os1 (s_X10_ofS hy N) (am_os1 (s_X10_setS hy N) (am_os1 (s_X10_givesUp hy N) am_os0))))) am_rv_inv (Nat.le_of_ble_eq_true rfl) (fun At cl wk => by
    skip
    exact cl am_C0 am_c0 400 0 _ _ h hf)
theorem s_X10_loses {l : Launch} {al : Nat → Nat} {dC : Nat → ClassId} {dI : Nat → Nat → Nat} {aC : Nat → ClassId} {aV : Nat → Nat} (hy : am_Hy l al) (N : Nat) : am_CS l al dC dI aC aV 153 (c_X10_loses N) := by
  intro γ as h kk g hc0
  obtain ⟨z0, w0, e_0, hcz0⟩ := am_sa_some hc0
  obtain ⟨hz0, hc1⟩ := am_bif hcz0
  cases Nat.eq_of_beq_eq_true hz0
  obtain ⟨i1, w1, e_1, hc2⟩ := am_s1_some hc1
  obtain ⟨e_2, hc⟩ := am_st0_some hc2
  subst e_2
  subst e_1
  subst e_0
  obtain ⟨q, e1, e2⟩ := am_bi_some hc
  exact ⟨_, _, m_X10_loses hy N i1 h _ e1, e2⟩
