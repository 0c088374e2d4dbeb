def l_X10_watchers_19 (N : Nat) : Nat → Int32 → Int32 → Int32 → Int32 → am_Hp → Option (Int32 × am_Hp)
  | 0, _, _, _, _, _ => none
  | n + 1, i1, i2, i3, i4, h =>
    bif am_in (1 : Int32) 20 then (if (h 195 1) ≤ i4 then
      some (i3, h)
    else
      (if i2 = 0 then
        some (i3, h)
      else
        am_bi (f_X10_ofU N i4 (2 : Int32) h) (fun x2 h1 =>
        (if x2 = i2 then
          am_bi (f_X10_ofU N i4 (3 : Int32) h1) (fun x4 h3 =>
          (if x4 = i1 then
            l_X10_watchers_19 N n i1 i2 (i3 ||| ((1 : Int32) <<< (i4 &&& 31))) (i4 + (1 : Int32)) h3
          else
            l_X10_watchers_19 N n i1 i2 (i3 ||| (0 : Int32)) (i4 + (1 : Int32)) h3))
        else
          l_X10_watchers_19 N n i1 i2 (i3 ||| (0 : Int32)) (i4 + (1 : Int32)) h1)))) else none
def f_X10_watchers (N : Nat) (i1 : Int32) (i2 : Int32) (h : am_Hp) : Option (Int32 × am_Hp) :=
  am_bi (f_X10_isSession N i1 h) (fun x2 h1 =>
  am_bi (f_X10_checks N x2 h1) (fun x4 h3 =>
  (if x4 = 0 then
    some ((0 : Int32), h3)
  else
    l_X10_watchers_19 N N i1 i2 (0 : Int32) (0 : Int32) h3)))
def c_X10_watchers (N : Nat) : am_Cl := fun _ as h kk => am_sa as (fun z w0 => bif Nat.beq z 193 then am_s1 w0 (fun i1 w1 => am_s1 w1 (fun i2 w2 => am_st0 w2 (am_bi (f_X10_watchers N i1 i2 h) (fun v h => kk (am_oi v) h)))) else none)
def o_X10_watchers (N : Nat) : am_Orc := (am_oc 174 (c_X10_isSession N) (am_oc 178 (c_X10_checks N) (am_oc 131 (c_X10_ofU N) am_o0)))
set_option maxRecDepth 100000 in
theorem tok_X10_watchers : am_tok 193 tX10_watchers := by
  unfold am_tok
  decide +kernel
set_option maxHeartbeats 4000000 in
set_option maxRecDepth 100000 in
theorem m_X10_watchers {l : Launch} {al : Nat → Nat} {dC : Nat → ClassId} {dI : Nat → Nat → Nat} {aC : Nat → ClassId} {aV : Nat → Nat} (hy : am_Hy l al) (N : Nat) (i1 : Int32) (i2 : Int32) (h : am_Hp) (r : (Int32 × am_Hp)) (hf : f_X10_watchers N i1 i2 h = some r) : am_Met l al dC dI aC aV 193 [.ref 193, .int i1, .int i2] h (am_oi r.1) r.2 :=
  am_met (tab := tX10_watchers) (orc := o_X10_watchers N) (ret := am_ri) (g := r) (by decide) (by decide) hy.1 hy.2 tok_X10_watchers (am_os1 (s_X10_isSession hy N) (am_os1 (s_X10_checks hy N) (am_os1 (s_X10_ofU hy N) am_os0))) am_ri_inv (Nat.le_of_ble_eq_true rfl) (fun At cl wk => by
    have A19 : ∀ n : Nat, ∀ i1 : Int32, ∀ i2 : Int32, ∀ i3 : Int32, ∀ i4 : Int32, ∀ h, l_X10_watchers_19 N n i1 i2 i3 i4 h = some r → At 19 [(0, .ref 193), (1, .int i1), (2, .int i2), (3, .int i3), (4, .int i4)] [] h := by
      intro n
      induction n with
      | zero => intro i1 i2 i3 i4 h hr; cases hr
      | succ n ih =>
        intro i1 i2 i3 i4 h hr
        exact cl (am_C1 19 (fun ρ st h => am_lda ρ 0 (fun z => bif Nat.beq z 193 then am_ldi ρ 1 (fun i1 => am_ldi ρ 2 (fun i2 => am_ldi ρ 3 (fun i3 => am_ldi ρ 4 (fun i4 => am_st0 st (l_X10_watchers_19 N n i1 i2 i3 i4 h))))) else none)) am_C0) (am_c1 (fun ρ st h hc => by
        obtain ⟨z, m_a0, hc⟩ := am_lda_some hc
        obtain ⟨hz, hc⟩ := am_bif hc
        cases Nat.eq_of_beq_eq_true hz
        obtain ⟨i1, m_i1, hc⟩ := am_ldi_some hc
        obtain ⟨i2, m_i2, hc⟩ := am_ldi_some hc
        obtain ⟨i3, m_i3, hc⟩ := am_ldi_some hc
        obtain ⟨i4, m_i4, hc⟩ := am_ldi_some hc
        obtain ⟨rfl, hc⟩ := am_st0_some hc
        exact wk 19 ρ [(0, .ref 193), (1, .int i1), (2, .int i2), (3, .int i3), (4, .int i4)] _ h (am_m1 m_a0 (am_m1 m_i1 (am_m1 m_i2 (am_m1 m_i3 (am_m1 m_i4 am_m0))))) (ih i1 i2 i3 i4 h hc)) am_c0) 400 19 _ _ h hr
    exact cl (am_C1 19 (fun ρ st h => am_lda ρ 0 (fun z => bif Nat.beq z 193 then am_ldi ρ 1 (fun i1 => am_ldi ρ 2 (fun i2 => am_ldi ρ 3 (fun i3 => am_ldi ρ 4 (fun i4 => am_st0 st (l_X10_watchers_19 N N i1 i2 i3 i4 h))))) else none)) am_C0) (am_c1 (fun ρ st h hc => by
        obtain ⟨z, m_a0, hc⟩ := am_lda_some hc
        obtain ⟨hz, hc⟩ := am_bif hc
        cases Nat.eq_of_beq_eq_true hz
        obtain ⟨i1, m_i1, hc⟩ := am_ldi_some hc
        obtain ⟨i2, m_i2, hc⟩ := am_ldi_some hc
        obtain ⟨i3, m_i3, hc⟩ := am_ldi_some hc
        obtain ⟨i4, m_i4, hc⟩ := am_ldi_some hc
        obtain ⟨rfl, hc⟩ := am_st0_some hc
        exact wk 19 ρ [(0, .ref 193), (1, .int i1), (2, .int i2), (3, .int i3), (4, .int i4)] _ h (am_m1 m_a0 (am_m1 m_i1 (am_m1 m_i2 (am_m1 m_i3 (am_m1 m_i4 am_m0))))) (A19 N i1 i2 i3 i4 h hc)) am_c0) 400 0 _ _ h hf)
theorem s_X10_watchers {l : Launch} {al : Nat → Nat} {dC : Nat → ClassId} {dI : Nat → Nat → Nat} {aC : Nat → ClassId} {aV : Nat → Nat} (hy : am_Hy l al) (N : Nat) : am_CS l al dC dI aC aV 193 (c_X10_watchers N) := by
  intro γ as h kk g hc0
  obtain ⟨z0, w0, e_0, hcz0⟩ := am_sa_some hc0
  obtain ⟨hz0, hc1⟩ := am_bif hcz0
  cases Nat.eq_of_beq_eq_true hz0
  obtain ⟨i1, w1, e_1, hc2⟩ := am_s1_some hc1
  obtain ⟨i2, w2, e_2, hc3⟩ := am_s1_some hc2
  obtain ⟨e_3, hc⟩ := am_st0_some hc3
  subst e_3
  subst e_2
  subst e_1
  subst e_0
  obtain ⟨q, e1, e2⟩ := am_bi_some hc
  exact ⟨_, _, m_X10_watchers hy N i1 i2 h _ e1, e2⟩

def f_X10_rightSize (N : Nat) (i1 : Int32) (i2 : Int32) (h : am_Hp) : Option (Int32 × am_Hp) :=
  am_bi (f_X10_isSession N i1 h) (fun x2 h1 =>
  am_bi (f_X10_checks N x2 h1) (fun x4 h3 =>
  (if x4 = 0 then
    some ((0 : Int32), h3)
  else
    am_bi (f_X10_right N i1 i2 h3) (fun x6 h5 =>
    some (x6, h5)))))
def c_X10_rightSize (N : Nat) : am_Cl := fun _ as h kk => am_sa as (fun z w0 => bif Nat.beq z 193 then am_s1 w0 (fun i1 w1 => am_s1 w1 (fun i2 w2 => am_st0 w2 (am_bi (f_X10_rightSize N i1 i2 h) (fun v h => kk (am_oi v) h)))) else none)
def o_X10_rightSize (N : Nat) : am_Orc := (am_oc 174 (c_X10_isSession N) (am_oc 178 (c_X10_checks N) (am_oc 149 (c_X10_right N) am_o0)))
set_option maxRecDepth 100000 in
theorem tok_X10_rightSize : am_tok 194 tX10_rightSize := by
  unfold am_tok
  decide +kernel
set_option maxHeartbeats 4000000 in
set_option maxRecDepth 100000 in
theorem m_X10_rightSize {l : Launch} {al : Nat → Nat} {dC : Nat → ClassId} {dI : Nat → Nat → Nat} {aC : Nat → ClassId} {aV : Nat → Nat} (hy : am_Hy l al) (N : Nat) (i1 : Int32) (i2 : Int32) (h : am_Hp) (r : (Int32 × am_Hp)) (hf : f_X10_rightSize N i1 i2 h = some r) : am_Met l al dC dI aC aV 194 [.ref 193, .int i1, .int i2] h (am_oi r.1) r.2 :=
  am_met (tab := tX10_rightSize) (orc := o_X10_rightSize N) (ret := am_ri) (g := r) (by decide) (by decide) hy.1 hy.2 tok_X10_rightSize (am_os1 (s_X10_isSession hy N) (am_os1 (s_X10_checks hy N) (am_os1 (s_X10_right hy N) am_os0))) am_ri_inv (Nat.le_of_ble_eq_true rfl) (fun At cl wk => by
    skip
    exact cl am_C0 am_c0 400 0 _ _ h hf)
theorem s_X10_rightSize {l : Launch} {al : Nat → Nat} {dC : Nat → ClassId} {dI : Nat → Nat → Nat} {aC : Nat → ClassId} {aV : Nat → Nat} (hy : am_Hy l al) (N : Nat) : am_CS l al dC dI aC aV 194 (c_X10_rightSize N) := by
  intro γ as h kk g hc0
  obtain ⟨z0, w0, e_0, hcz0⟩ := am_sa_some hc0
  obtain ⟨hz0, hc1⟩ := am_bif hcz0
  cases Nat.eq_of_beq_eq_true hz0
  obtain ⟨i1, w1, e_1, hc2⟩ := am_s1_some hc1
  obtain ⟨i2, w2, e_2, hc3⟩ := am_s1_some hc2
  obtain ⟨e_3, hc⟩ := am_st0_some hc3
  subst e_3
  subst e_2
  subst e_1
  subst e_0
  obtain ⟨q, e1, e2⟩ := am_bi_some hc
  exact ⟨_, _, m_X10_rightSize hy N i1 i2 h _ e1, e2⟩

def l_X10_narrowest_39 (N : Nat) : Nat → Int32 → Int32 → Int32 → Int32 → Int32 → am_Hp → Option (Int32 × am_Hp)
  | 0, _, _, _, _, _, _ => none
  | n + 1, i1, i2, i3, i4, i5, h =>
    bif am_in (1 : Int32) 20 then (if (h 195 1) ≤ i5 then
      some (i3, h)
    else
      (if i2 = 0 then
        am_bi (f_X10_ofU N i5 (0 : Int32) h) (fun x2 h1 =>
        am_bi (f_X10_isLive N i5 i1 h1) (fun x4 h3 =>
        (if x4 = 0 then
          l_X10_narrowest_39 N n i1 i2 i3 i4 (i5 + (1 : Int32)) h3
        else
          (if x2 < i4 then
            l_X10_narrowest_39 N n i1 i2 i5 x2 (i5 + (1 : Int32)) h3
          else
            l_X10_narrowest_39 N n i1 i2 i3 i4 (i5 + (1 : Int32)) h3))))
      else
        am_bi (f_X10_ofU N i5 (1 : Int32) h) (fun x6 h5 =>
        am_bi (f_X10_isLive N i5 i1 h5) (fun x8 h7 =>
        (if x8 = 0 then
          l_X10_narrowest_39 N n i1 i2 i3 i4 (i5 + (1 : Int32)) h7
        else
          (if x6 < i4 then
            l_X10_narrowest_39 N n i1 i2 i5 x6 (i5 + (1 : Int32)) h7
          else
            l_X10_narrowest_39 N n i1 i2 i3 i4 (i5 + (1 : Int32)) h7)))))) else none
def f_X10_narrowest (N : Nat) (i1 : Int32) (i2 : Int32) (h : am_Hp) : Option (Int32 × am_Hp) :=
  am_bi (f_X10_isSession N i1 h) (fun x2 h1 =>
  am_bi (f_X10_checks N x2 h1) (fun x4 h3 =>
  (if x4 = 0 then
    some ((0 : Int32), h3)
  else
    (if i2 = 0 then
      bif am_in ((12 : Int32) + i1) 20 then l_X10_narrowest_39 N N i1 i2 (-1 : Int32) (h3 195 (((12 : Int32) + i1).toNatClampNeg)) (0 : Int32) h3 else none
    else
      bif am_in ((16 : Int32) + i1) 20 then l_X10_narrowest_39 N N i1 i2 (-1 : Int32) (h3 195 (((16 : Int32) + i1).toNatClampNeg)) (0 : Int32) h3 else none))))
def c_X10_narrowest (N : Nat) : am_Cl := fun _ as h kk => am_sa as (fun z w0 => bif Nat.beq z 193 then am_s1 w0 (fun i1 w1 => am_s1 w1 (fun i2 w2 => am_st0 w2 (am_bi (f_X10_narrowest N i1 i2 h) (fun v h => kk (am_oi v) h)))) else none)
def o_X10_narrowest (N : Nat) : am_Orc := (am_oc 174 (c_X10_isSession N) (am_oc 178 (c_X10_checks N) (am_oc 131 (c_X10_ofU N) (am_oc 136 (c_X10_isLive N) am_o0))))
set_option maxRecDepth 100000 in
theorem tok_X10_narrowest : am_tok 195 tX10_narrowest := by
  unfold am_tok
  decide +kernel
set_option maxHeartbeats 4000000 in
set_option maxRecDepth 100000 in
theorem m_X10_narrowest {l : Launch} {al : Nat → Nat} {dC : Nat → ClassId} {dI : Nat → Nat → Nat} {aC : Nat → ClassId} {aV : Nat → Nat} (hy : am_Hy l al) (N : Nat) (i1 : Int32) (i2 : Int32) (h : am_Hp) (r : (Int32 × am_Hp)) (hf : f_X10_narrowest N i1 i2 h = some r) : am_Met l al dC dI aC aV 195 [.ref 193, .int i1, .int i2] h (am_oi r.1) r.2 :=
  am_met (tab := tX10_narrowest) (orc := o_X10_narrowest N) (ret := am_ri) (g := r) (by decide) (by decide) hy.1 hy.2 tok_X10_narrowest (am_os1 (s_X10_isSession hy N) (am_os1 (s_X10_checks hy N) (am_os1 (s_X10_ofU hy N) (am_os1 (s_X10_isLive hy N) am_os0)))) am_ri_inv (Nat.le_of_ble_eq_true rfl) (fun At cl wk => by
    have A39 : ∀ n : Nat, ∀ i1 : Int32, ∀ i2 : Int32, ∀ i3 : Int32, ∀ i4 : Int32, ∀ i5 : Int32, ∀ h, l_X10_narrowest_39 N n i1 i2 i3 i4 i5 h = some r → At 39 [(0, .ref 193), (1, .int i1), (2, .int i2), (3, .int i3), (4, .int i4), (5, .int i5)] [] h := by
      intro n
      induction n with
      | zero => intro i1 i2 i3 i4 i5 h hr; cases hr
      | succ n ih =>
        intro i1 i2 i3 i4 i5 h hr
        exact cl (am_C1 39 (fun ρ st h => am_lda ρ 0 (fun z => bif Nat.beq z 193 then am_ldi ρ 1 (fun i1 => am_ldi ρ 2 (fun i2 => am_ldi ρ 3 (fun i3 => am_ldi ρ 4 (fun i4 => am_ldi ρ 5 (fun i5 => am_st0 st (l_X10_narrowest_39 N n i1 i2 i3 i4 i5 h)))))) else none)) am_C0) (am_c1 (fun ρ st h hc => by
        obtain ⟨z, m_a0, hc⟩ := am_lda_some hc
        obtain ⟨hz, hc⟩ := am_bif hc
        cases Nat.eq_of_beq_eq_true hz
        obtain ⟨i1, m_i1, hc⟩ := am_ldi_some hc
        obtain ⟨i2, m_i2, hc⟩ := am_ldi_some hc
        obtain ⟨i3, m_i3, hc⟩ := am_ldi_some hc
        obtain ⟨i4, m_i4, hc⟩ := am_ldi_some hc
        obtain ⟨i5, m_i5, hc⟩ := am_ldi_some hc
        obtain ⟨rfl, hc⟩ := am_st0_some hc
        exact wk 39 ρ [(0, .ref 193), (1, .int i1), (2, .int i2), (3, .int i3), (4, .int i4), (5, .int i5)] _ h (am_m1 m_a0 (am_m1 m_i1 (am_m1 m_i2 (am_m1 m_i3 (am_m1 m_i4 (am_m1 m_i5 am_m0)))))) (ih i1 i2 i3 i4 i5 h hc)) am_c0) 400 39 _ _ h hr
    exact cl (am_C1 39 (fun ρ st h => am_lda ρ 0 (fun z => bif Nat.beq z 193 then am_ldi ρ 1 (fun i1 => am_ldi ρ 2 (fun i2 => am_ldi ρ 3 (fun i3 => am_ldi ρ 4 (fun i4 => am_ldi ρ 5 (fun i5 => am_st0 st (l_X10_narrowest_39 N N i1 i2 i3 i4 i5 h)))))) else none)) am_C0) (am_c1 (fun ρ st h hc => by
        obtain ⟨z, m_a0, hc⟩ := am_lda_some hc
        obtain ⟨hz, hc⟩ := am_bif hc
        cases Nat.eq_of_beq_eq_true hz
        obtain ⟨i1, m_i1, hc⟩ := am_ldi_some hc
        obtain ⟨i2, m_i2, hc⟩ := am_ldi_some hc
        obtain ⟨i3, m_i3, hc⟩ := am_ldi_some hc
        obtain ⟨i4, m_i4, hc⟩ := am_ldi_some hc
        obtain ⟨i5, m_i5, hc⟩ := am_ldi_some hc
        obtain ⟨rfl, hc⟩ := am_st0_some hc
        exact wk 39 ρ [(0, .ref 193), (1, .int i1), (2, .int i2), (3, .int i3), (4, .int i4), (5, .int i5)] _ h (am_m1 m_a0 (am_m1 m_i1 (am_m1 m_i2 (am_m1 m_i3 (am_m1 m_i4 (am_m1 m_i5 am_m0)))))) (A39 N i1 i2 i3 i4 i5 h hc)) am_c0) 400 0 _ _ h hf)
theorem s_X10_narrowest {l : Launch} {al : Nat → Nat} {dC : Nat → ClassId} {dI : Nat → Nat → Nat} {aC : Nat → ClassId} {aV : Nat → Nat} (hy : am_Hy l al) (N : Nat) : am_CS l al dC dI aC aV 195 (c_X10_narrowest N) := by
  intro γ as h kk g hc0
  obtain ⟨z0, w0, e_0, hcz0⟩ := am_sa_some hc0
  obtain ⟨hz0, hc1⟩ := am_bif hcz0
  cases Nat.eq_of_beq_eq_true hz0
  obtain ⟨i1, w1, e_1, hc2⟩ := am_s1_some hc1
  obtain ⟨i2, w2, e_2, hc3⟩ := am_s1_some hc2
  obtain ⟨e_3, hc⟩ := am_st0_some hc3
  subst e_3
  subst e_2
  subst e_1
  subst e_0
  obtain ⟨q, e1, e2⟩ := am_bi_some hc
  exact ⟨_, _, m_X10_narrowest hy N i1 i2 h _ e1, e2⟩

def f_X10_stops (N : Nat) (i1 : Int32) (h : am_Hp) : Option (Int32 × am_Hp) :=
  am_bi (f_X10_ofU N i1 (3 : Int32) h) (fun x2 h1 =>
  am_bi (f_X10_watches N i1 h1) (fun x4 h3 =>
  (if x4 = 0 then
    some ((1 : Int32), h3)
  else
    am_bi (f_X10_ofU N i1 (2 : Int32) h3) (fun x6 h5 =>
    (if x6 = (1 : Int32) then
      am_bi (f_X10_ofS N x2 (1 : Int32) h5) (fun x8 h7 =>
      (if x8 = (-1 : Int32) then
        some ((3 : Int32), h7)
      else
        am_bi (f_X10_ofS N x2 (1 : Int32) h7) (fun x10 h9 =>
        (if x10 = i1 then
          am_bi (f_X10_events N x2 h9) (fun x12 h11 =>
          (if x12 = (300 : Int32) then
            some ((5 : Int32), h11)
          else
            some ((0 : Int32), h11)))
        else
          some ((4 : Int32), h9)))))
    else
      some ((2 : Int32), h5))))))
def c_X10_stops (N : Nat) : am_Cl := fun _ as h kk => am_sa as (fun z w0 => bif Nat.beq z 193 then am_s1 w0 (fun i1 w1 => am_st0 w1 (am_bi (f_X10_stops N i1 h) (fun v h => kk (am_oi v) h))) else none)
def o_X10_stops (N : Nat) : am_Orc := (am_oc 131 (c_X10_ofU N) (am_oc 135 (c_X10_watches N) (am_oc 129 (c_X10_ofS N) (am_oc 134 (c_X10_events N) am_o0))))
set_option maxRecDepth 100000 in
theorem tok_X10_stops : am_tok 196 tX10_stops := by
  unfold am_tok
  decide +kernel
set_option maxHeartbeats 4000000 in
set_option maxRecDepth 100000 in
theorem m_X10_stops {l : Launch} {al : Nat → Nat} {dC : Nat → ClassId} {dI : Nat → Nat → Nat} {aC : Nat → ClassId} {aV : Nat → Nat} (hy : am_Hy l al) (N : Nat) (i1 : Int32) (h : am_Hp) (r : (Int32 × am_Hp)) (hf : f_X10_stops N i1 h = some r) : am_Met l al dC dI aC aV 196 [.ref 193, .int i1] h (am_oi r.1) r.2 :=
  am_met (tab := tX10_stops) (orc := o_X10_stops N) (ret := am_ri) (g := r) (by decide) (by decide) hy.1 hy.2 tok_X10_stops (am_os1 (s_X10_ofU hy N) (am_os1 (s_X10_watches hy N) (am_os1 (s_X10_ofS hy N) (am_os1 (s_X10_events hy N) am_os0)))) am_ri_inv (Nat.le_of_ble_eq_true rfl) (fun At cl wk => by
    skip
    exact cl am_C0 am_c0 400 0 _ _ h hf)
theorem s_X10_stops {l : Launch} {al : Nat → Nat} {dC : Nat → ClassId} {dI : Nat → Nat → Nat} {aC : Nat → ClassId} {aV : Nat → Nat} (hy : am_Hy l al) (N : Nat) : am_CS l al dC dI aC aV 196 (c_X10_stops N) := by
  intro γ as h kk g hc0
  obtain ⟨z0, w0, e_0, hcz0⟩ := am_sa_some hc0
  obtain ⟨hz0, hc1⟩ := am_bif hcz0
  cases Nat.eq_of_beq_eq_true hz0
  obtain ⟨i1, w1, e_1, hc2⟩ := am_s1_some hc1
  obtain ⟨e_2, hc⟩ := am_st0_some hc2
  subst e_2
  subst e_1
  subst e_0
  obtain ⟨q, e1, e2⟩ := am_bi_some hc
  exact ⟨_, _, m_X10_stops hy N i1 h _ e1, e2⟩

def f_X10_whyNot (N : Nat) (i1 : Int32) (h : am_Hp) : Option (Int32 × am_Hp) :=
  am_bi (f_X10_isUser N i1 h) (fun x2 h1 =>
  am_bi (f_X10_checks N x2 h1) (fun x4 h3 =>
  (if x4 = 0 then
    some ((0 : Int32), h3)
  else
    am_bi (f_X10_stops N i1 h3) (fun x6 h5 =>
    some (x6, h5)))))
def c_X10_whyNot (N : Nat) : am_Cl := fun _ as h kk => am_sa as (fun z w0 => bif Nat.beq z 193 then am_s1 w0 (fun i1 w1 => am_st0 w1 (am_bi (f_X10_whyNot N i1 h) (fun v h => kk (am_oi v) h))) else none)
def o_X10_whyNot (N : Nat) : am_Orc := (am_oc 175 (c_X10_isUser N) (am_oc 178 (c_X10_checks N) (am_oc 196 (c_X10_stops N) am_o0)))
set_option maxRecDepth 100000 in
theorem tok_X10_whyNot : am_tok 197 tX10_whyNot := by
  unfold am_tok
  decide +kernel
set_option maxHeartbeats 4000000 in
set_option maxRecDepth 100000 in
theorem m_X10_whyNot {l : Launch} {al : Nat → Nat} {dC : Nat → ClassId} {dI : Nat → Nat → Nat} {aC : Nat → ClassId} {aV : Nat → Nat} (hy : am_Hy l al) (N : Nat) (i1 : Int32) (h : am_Hp) (r : (Int32 × am_Hp)) (hf : f_X10_whyNot N i1 h = some r) : am_Met l al dC dI aC aV 197 [.ref 193, .int i1] h (am_oi r.1) r.2 :=
  am_met (tab := tX10_whyNot) (orc := o_X10_whyNot N) (ret := am_ri) (g := r) (by decide) (by decide) hy.1 hy.2 tok_X10_whyNot (am_os1 (s_X10_isUser hy N) (am_os1 (s_X10_checks hy N) (am_os1 (s_X10_stops hy N) am_os0))) am_ri_inv (Nat.le_of_ble_eq_true rfl) (fun At cl wk => by
    skip
    exact cl am_C0 am_c0 400 0 _ _ h hf)
theorem s_X10_whyNot {l : Launch} {al : Nat → Nat} {dC : Nat → ClassId} {dI : Nat → Nat → Nat} {aC : Nat → ClassId} {aV : Nat → Nat} (hy : am_Hy l al) (N : Nat) : am_CS l al dC dI aC aV 197 (c_X10_whyNot N) := by
  intro γ as h kk g hc0
  obtain ⟨z0, w0, e_0, hcz0⟩ := am_sa_some hc0
  obtain ⟨hz0, hc1⟩ := am_bif hcz0
  cases Nat.eq_of_beq_eq_true hz0
  obtain ⟨i1, w1, e_1, hc2⟩ := am_s1_some hc1
  obtain ⟨e_2, hc⟩ := am_st0_some hc2
  subst e_2
  subst e_1
  subst e_0
  obtain ⟨q, e1, e2⟩ := am_bi_some hc
  exact ⟨_, _, m_X10_whyNot hy N i1 h _ e1, e2⟩
