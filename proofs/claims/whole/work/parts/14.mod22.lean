def l_X10_type_70 (N : Nat) : Nat → Int32 → Int32 → Int32 → Int32 → Int32 → am_Hp → Option (Int32 × am_Hp)
  | 0, _, _, _, _, _, _ => none
  | n + 1, i1, i2, i3, i4, i5, h =>
    (if i3 ≤ i5 then
      am_bi (f_X10_settles N h) (fun _ h1 =>
      am_bi (f_X10_events N i4 h1) (fun x3 h2 =>
      some (x3, h2)))
    else
      am_bi (f_X10_letterOf N i2 i5 h) (fun x5 h4 =>
      am_bi (f_X10_records N i4 (0 : Int32) x5 (0 : Int32) i1 h4) (fun _ h6 =>
      l_X10_type_70 N n i1 i2 i3 i4 (i5 + (1 : Int32)) h6)))
def f_X10_type (N : Nat) (i1 : Int32) (i2 : Int32) (h : am_Hp) : Option (Int32 × am_Hp) :=
  let h1 := am_pi h 193 0 (0 : Int32)
  am_bi (f_X10_isUser N i1 h1) (fun x3 h2 =>
  (if x3 = 0 then
    some ((-1 : Int32), h2)
  else
    am_bi (f_X10_symbolsIn N i2 h2) (fun x5 h4 =>
    (if x5 = 0 then
      some ((-2 : Int32), h4)
    else
      am_bi (f_X10_stops N i1 h4) (fun x7 h6 =>
      (if x7 = 0 then
        am_bi (f_X10_ofU N i1 (3 : Int32) h6) (fun x9 h8 =>
        am_bi (f_X10_events N x9 h8) (fun x11 h10 =>
        (if (x11 + x5) ≤ (300 : Int32) then
          am_bi (f_X10_keeps N h10) (fun _ h12 =>
          l_X10_type_70 N N i1 i2 x5 x9 (0 : Int32) h12)
        else
          some ((-3 : Int32), h10))))
      else
        some ((-4 : Int32), h6)))))))
def c_X10_type (N : Nat) : am_Cl := fun _ as h kk => am_sa as (fun z w0 => bif Nat.beq z 193 then am_s1 w0 (fun i1 w1 => am_s1 w1 (fun i2 w2 => am_st0 w2 (am_bi (f_X10_type N i1 i2 h) (fun v h => kk (am_oi v) h)))) else none)
def o_X10_type (N : Nat) : am_Orc := (am_oc 175 (c_X10_isUser N) (am_oc 218 (c_X10_symbolsIn N) (am_oc 196 (c_X10_stops N) (am_oc 131 (c_X10_ofU N) (am_oc 134 (c_X10_events N) (am_oc 209 (c_X10_keeps N) (am_oc 201 (c_X10_letterOf N) (am_oc 148 (c_X10_records N) (am_oc 150 (c_X10_settles N) am_o0)))))))))
set_option maxRecDepth 100000 in
theorem tok_X10_type : am_tok 219 tX10_type := by
  unfold am_tok
  decide +kernel
set_option maxHeartbeats 4000000 in
set_option maxRecDepth 100000 in
theorem m_X10_type {l : Launch} {al : Nat → Nat} {dC : Nat → ClassId} {dI : Nat → Nat → Nat} {aC : Nat → ClassId} {aV : Nat → Nat} (hy : am_Hy l al) (N : Nat) (i1 : Int32) (i2 : Int32) (h : am_Hp) (r : (Int32 × am_Hp)) (hf : f_X10_type N i1 i2 h = some r) : am_Met l al dC dI aC aV 219 [.ref 193, .int i1, .int i2] h (am_oi r.1) r.2 :=
  am_met (tab := tX10_type) (orc := o_X10_type N) (ret := am_ri) (g := r) (by decide) (by decide) hy.1 hy.2 tok_X10_type (am_os1 (s_X10_isUser hy N) (am_os1 (s_X10_symbolsIn hy N) (am_os1 (s_X10_stops hy N) (am_os1 (s_X10_ofU hy N) (am_os1 (s_X10_events hy N) (am_os1 (s_X10_keeps hy N) (am_os1 (s_X10_letterOf hy N) (am_os1 (s_X10_records hy N) (am_os1 (s_X10_settles hy N) am_os0))))))))) am_ri_inv (Nat.le_of_ble_eq_true rfl) (fun At cl wk => by
    have A70 : ∀ n : Nat, ∀ i1 : Int32, ∀ i2 : Int32, ∀ i3 : Int32, ∀ i4 : Int32, ∀ i5 : Int32, ∀ h, l_X10_type_70 N n i1 i2 i3 i4 i5 h = some r → At 70 [(0, .ref 193), (1, .int i1), (2, .int i2), (3, .int i3), (4, .int i4), (5, .int i5)] [] h := by
      intro n
      induction n with
      | zero => intro i1 i2 i3 i4 i5 h hr; cases hr
      | succ n ih =>
        intro i1 i2 i3 i4 i5 h hr
        exact cl (am_C1 70 (fun ρ st h => am_lda ρ 0 (fun z => bif Nat.beq z 193 then am_ldi ρ 1 (fun i1 => am_ldi ρ 2 (fun i2 => am_ldi ρ 3 (fun i3 => am_ldi ρ 4 (fun i4 => am_ldi ρ 5 (fun i5 => am_st0 st (l_X10_type_70 N n i1 i2 i3 i4 i5 h)))))) else none)) am_C0) (am_c1 (fun ρ st h hc => by
        obtain ⟨z, m_a0, hc⟩ := am_lda_some hc
        obtain ⟨hz, hc⟩ := am_bif hc
        cases Nat.eq_of_beq_eq_true hz
        obtain ⟨i1, m_i1, hc⟩ := am_ldi_some hc
        obtain ⟨i2, m_i2, hc⟩ := am_ldi_some hc
        obtain ⟨i3, m_i3, hc⟩ := am_ldi_some hc
        obtain ⟨i4, m_i4, hc⟩ := am_ldi_some hc
        obtain ⟨i5, m_i5, hc⟩ := am_ldi_some hc
        obtain ⟨rfl, hc⟩ := am_st0_some hc
        exact wk 70 ρ [(0, .ref 193), (1, .int i1), (2, .int i2), (3, .int i3), (4, .int i4), (5, .int i5)] _ h (am_m1 m_a0 (am_m1 m_i1 (am_m1 m_i2 (am_m1 m_i3 (am_m1 m_i4 (am_m1 m_i5 am_m0)))))) (ih i1 i2 i3 i4 i5 h hc)) am_c0) 400 70 _ _ h hr
    exact cl (am_C1 70 (fun ρ st h => am_lda ρ 0 (fun z => bif Nat.beq z 193 then am_ldi ρ 1 (fun i1 => am_ldi ρ 2 (fun i2 => am_ldi ρ 3 (fun i3 => am_ldi ρ 4 (fun i4 => am_ldi ρ 5 (fun i5 => am_st0 st (l_X10_type_70 N N i1 i2 i3 i4 i5 h)))))) else none)) am_C0) (am_c1 (fun ρ st h hc => by
        obtain ⟨z, m_a0, hc⟩ := am_lda_some hc
        obtain ⟨hz, hc⟩ := am_bif hc
        cases Nat.eq_of_beq_eq_true hz
        obtain ⟨i1, m_i1, hc⟩ := am_ldi_some hc
        obtain ⟨i2, m_i2, hc⟩ := am_ldi_some hc
        obtain ⟨i3, m_i3, hc⟩ := am_ldi_some hc
        obtain ⟨i4, m_i4, hc⟩ := am_ldi_some hc
        obtain ⟨i5, m_i5, hc⟩ := am_ldi_some hc
        obtain ⟨rfl, hc⟩ := am_st0_some hc
        exact wk 70 ρ [(0, .ref 193), (1, .int i1), (2, .int i2), (3, .int i3), (4, .int i4), (5, .int i5)] _ h (am_m1 m_a0 (am_m1 m_i1 (am_m1 m_i2 (am_m1 m_i3 (am_m1 m_i4 (am_m1 m_i5 am_m0)))))) (A70 N i1 i2 i3 i4 i5 h hc)) am_c0) 400 0 _ _ h hf)
theorem s_X10_type {l : Launch} {al : Nat → Nat} {dC : Nat → ClassId} {dI : Nat → Nat → Nat} {aC : Nat → ClassId} {aV : Nat → Nat} (hy : am_Hy l al) (N : Nat) : am_CS l al dC dI aC aV 219 (c_X10_type N) := by
  intro γ as h kk g hc0
  obtain ⟨z0, w0, e_0, hcz0⟩ := am_sa_some hc0
  obtain ⟨hz0, hc1⟩ := am_bif hcz0
  cases Nat.eq_of_beq_eq_true hz0
  obtain ⟨i1, w1, e_1, hc2⟩ := am_s1_some hc1
  obtain ⟨i2, w2, e_2, hc3⟩ := am_s1_some hc2
  obtain ⟨e_3, hc⟩ := am_st0_some hc3
  subst e_3
  subst e_2
  subst e_1
  subst e_0
  obtain ⟨q, e1, e2⟩ := am_bi_some hc
  exact ⟨_, _, m_X10_type hy N i1 i2 h _ e1, e2⟩

def f_X10_request (N : Nat) (i1 : Int32) (h : am_Hp) : Option (Int32 × am_Hp) :=
  let h1 := am_pi h 193 0 (0 : Int32)
  am_bi (f_X10_isUser N i1 h1) (fun x3 h2 =>
  (if x3 = 0 then
    some ((-1 : Int32), h2)
  else
    am_bi (f_X10_ofU N i1 (3 : Int32) h2) (fun x5 h4 =>
    am_bi (f_X10_ofU N i1 (2 : Int32) h4) (fun x7 h6 =>
    (if x7 = (1 : Int32) then
      am_bi (f_X10_ofS N x5 (1 : Int32) h6) (fun x9 h8 =>
      (if x9 = i1 then
        some ((-4 : Int32), h8)
      else
        am_bi (f_X10_ofS N x5 (2 : Int32) h8) (fun x11 h10 =>
        (if x11 = (-1 : Int32) then
          am_bi (f_X10_keeps N h10) (fun _ h12 =>
          bif am_in (3 : Int32) 6071 then bif am_in (3 : Int32) 6071 then (let h13 := am_pi h12 197 3 ((h12 197 3) + (1 : Int32))
          am_bi (f_X10_ofS N x5 (1 : Int32) h13) (fun x15 h14 =>
          (if x15 = (-1 : Int32) then
            (if (1 : Int32) = 0 then
              am_bi (f_X10_setS N x5 (2 : Int32) i1 h14) (fun _ h21 =>
              bif am_in (2 : Int32) 6071 then am_bi (f_X10_setS N x5 (3 : Int32) (h21 197 2) h21) (fun _ h22 =>
              am_bi (f_X10_settles N h22) (fun _ h23 =>
              (if (1 : Int32) = 0 then
                some ((0 : Int32), h23)
              else
                some ((1 : Int32), h23)))) else none)
            else
              am_bi (f_X10_hasControl N x5 i1 h14) (fun _ h24 =>
              am_bi (f_X10_settles N h24) (fun _ h25 =>
              (if (1 : Int32) = 0 then
                some ((0 : Int32), h25)
              else
                some ((1 : Int32), h25)))))
          else
            (if (0 : Int32) = 0 then
              am_bi (f_X10_setS N x5 (2 : Int32) i1 h14) (fun _ h16 =>
              bif am_in (2 : Int32) 6071 then am_bi (f_X10_setS N x5 (3 : Int32) (h16 197 2) h16) (fun _ h17 =>
              am_bi (f_X10_settles N h17) (fun _ h18 =>
              (if (0 : Int32) = 0 then
                some ((0 : Int32), h18)
              else
                some ((1 : Int32), h18)))) else none)
            else
              am_bi (f_X10_hasControl N x5 i1 h14) (fun _ h19 =>
              am_bi (f_X10_settles N h19) (fun _ h20 =>
              (if (0 : Int32) = 0 then
                some ((0 : Int32), h20)
              else
                some ((1 : Int32), h20)))))))) else none else none)
        else
          some ((-4 : Int32), h10)))))
    else
      some ((-4 : Int32), h6))))))
def c_X10_request (N : Nat) : am_Cl := fun _ as h kk => am_sa as (fun z w0 => bif Nat.beq z 193 then am_s1 w0 (fun i1 w1 => am_st0 w1 (am_bi (f_X10_request N i1 h) (fun v h => kk (am_oi v) h))) else none)
def o_X10_request (N : Nat) : am_Orc := (am_oc 175 (c_X10_isUser N) (am_oc 131 (c_X10_ofU N) (am_oc 129 (c_X10_ofS N) (am_oc 209 (c_X10_keeps N) (am_oc 151 (c_X10_hasControl N) (am_oc 130 (c_X10_setS N) (am_oc 150 (c_X10_settles N) am_o0)))))))
set_option maxRecDepth 100000 in
theorem tok_X10_request : am_tok 220 tX10_request := by
  unfold am_tok
  decide +kernel
set_option maxHeartbeats 4000000 in
set_option maxRecDepth 100000 in
theorem m_X10_request {l : Launch} {al : Nat → Nat} {dC : Nat → ClassId} {dI : Nat → Nat → Nat} {aC : Nat → ClassId} {aV : Nat → Nat} (hy : am_Hy l al) (N : Nat) (i1 : Int32) (h : am_Hp) (r : (Int32 × am_Hp)) (hf : f_X10_request N i1 h = some r) : am_Met l al dC dI aC aV 220 [.ref 193, .int i1] h (am_oi r.1) r.2 :=
  am_met (tab := tX10_request) (orc := o_X10_request N) (ret := am_ri) (g := r) (by decide) (by decide) hy.1 hy.2 tok_X10_request (am_os1 (s_X10_isUser hy N) (am_os1 (s_X10_ofU hy N) (am_os1 (s_X10_ofS hy N) (am_os1 (s_X10_keeps hy N) (am_os1 (s_X10_hasControl hy N) (am_os1 (s_X10_setS hy N) (am_os1 (s_X10_settles hy N) am_os0))))))) am_ri_inv (Nat.le_of_ble_eq_true rfl) (fun At cl wk => by
    skip
    exact cl am_C0 am_c0 400 0 _ _ h hf)
theorem s_X10_request {l : Launch} {al : Nat → Nat} {dC : Nat → ClassId} {dI : Nat → Nat → Nat} {aC : Nat → ClassId} {aV : Nat → Nat} (hy : am_Hy l al) (N : Nat) : am_CS l al dC dI aC aV 220 (c_X10_request N) := by
  intro γ as h kk g hc0
  obtain ⟨z0, w0, e_0, hcz0⟩ := am_sa_some hc0
  obtain ⟨hz0, hc1⟩ := am_bif hcz0
  cases Nat.eq_of_beq_eq_true hz0
  obtain ⟨i1, w1, e_1, hc2⟩ := am_s1_some hc1
  obtain ⟨e_2, hc⟩ := am_st0_some hc2
  subst e_2
  subst e_1
  subst e_0
  obtain ⟨q, e1, e2⟩ := am_bi_some hc
  exact ⟨_, _, m_X10_request hy N i1 h _ e1, e2⟩
