def f_X10_answer (N : Nat) (i1 : Int32) (i2 : Int32) (h : am_Hp) : Option (Int32 × am_Hp) :=
  let h1 := am_pi h 193 0 (0 : Int32)
  am_bi (f_X10_isUser N i1 h1) (fun x3 h2 =>
  (if x3 = 0 then
    some ((-1 : Int32), h2)
  else
    am_bi (f_X10_controlled N i1 h2) (fun x5 h4 =>
    (if x5 = (-1 : Int32) then
      some ((-4 : Int32), h4)
    else
      am_bi (f_X10_ofS N x5 (2 : Int32) h4) (fun x7 h6 =>
      (if x7 = (-1 : Int32) then
        some ((-4 : Int32), h6)
      else
        am_bi (f_X10_keeps N h6) (fun _ h8 =>
        am_bi (f_X10_ofS N x5 (2 : Int32) h8) (fun x10 h9 =>
        (if i2 = 0 then
          bif am_in ((3 : Int32) + (3 : Int32)) 6071 then bif am_in ((3 : Int32) + (3 : Int32)) 6071 then (let h11 := am_pi h9 197 (((3 : Int32) + (3 : Int32)).toNatClampNeg) ((h9 197 (((3 : Int32) + (3 : Int32)).toNatClampNeg)) + (1 : Int32))
          (if i2 = 0 then
            am_bi (f_X10_hasControl N x5 i1 h11) (fun _ h12 =>
            am_bi (f_X10_settles N h12) (fun _ h13 =>
            some (x10, h13)))
          else
            am_bi (f_X10_hasControl N x5 x10 h11) (fun _ h14 =>
            am_bi (f_X10_settles N h14) (fun _ h15 =>
            some (x10, h15))))) else none else none
        else
          bif am_in ((3 : Int32) + (1 : Int32)) 6071 then bif am_in ((3 : Int32) + (1 : Int32)) 6071 then (let h16 := am_pi h9 197 (((3 : Int32) + (1 : Int32)).toNatClampNeg) ((h9 197 (((3 : Int32) + (1 : Int32)).toNatClampNeg)) + (1 : Int32))
          (if i2 = 0 then
            am_bi (f_X10_hasControl N x5 i1 h16) (fun _ h17 =>
            am_bi (f_X10_settles N h17) (fun _ h18 =>
            some (x10, h18)))
          else
            am_bi (f_X10_hasControl N x5 x10 h16) (fun _ h19 =>
            am_bi (f_X10_settles N h19) (fun _ h20 =>
            some (x10, h20))))) else none else none)))))))))
def c_X10_answer (N : Nat) : am_Cl := fun _ as h kk => am_sa as (fun z w0 => bif Nat.beq z 193 then am_s1 w0 (fun i1 w1 => am_s1 w1 (fun i2 w2 => am_st0 w2 (am_bi (f_X10_answer N i1 i2 h) (fun v h => kk (am_oi v) h)))) else none)
def o_X10_answer (N : Nat) : am_Orc := (am_oc 175 (c_X10_isUser N) (am_oc 156 (c_X10_controlled N) (am_oc 129 (c_X10_ofS N) (am_oc 209 (c_X10_keeps N) (am_oc 151 (c_X10_hasControl N) (am_oc 150 (c_X10_settles N) am_o0))))))
set_option maxRecDepth 100000 in
theorem tok_X10_answer : am_tok 221 tX10_answer := by
  unfold am_tok
  decide +kernel
set_option maxHeartbeats 4000000 in
set_option maxRecDepth 100000 in
theorem m_X10_answer {l : Launch} {al : Nat → Nat} {dC : Nat → ClassId} {dI : Nat → Nat → Nat} {aC : Nat → ClassId} {aV : Nat → Nat} (hy : am_Hy l al) (N : Nat) (i1 : Int32) (i2 : Int32) (h : am_Hp) (r : (Int32 × am_Hp)) (hf : f_X10_answer N i1 i2 h = some r) : am_Met l al dC dI aC aV 221 [.ref 193, .int i1, .int i2] h (am_oi r.1) r.2 :=
  am_met (tab := tX10_answer) (orc := o_X10_answer N) (ret := am_ri) (g := r) (by decide) (by decide) hy.1 hy.2 tok_X10_answer (am_os1 (s_X10_isUser hy N) (am_os1 (s_X10_controlled hy N) (am_os1 (s_X10_ofS hy N) (am_os1 (s_X10_keeps hy N) (am_os1 (s_X10_hasControl hy N) (am_os1 (s_X10_settles hy N) am_os0)))))) am_ri_inv (Nat.le_of_ble_eq_true rfl) (fun At cl wk => by
    skip
    exact cl am_C0 am_c0 400 0 _ _ h hf)
theorem s_X10_answer {l : Launch} {al : Nat → Nat} {dC : Nat → ClassId} {dI : Nat → Nat → Nat} {aC : Nat → ClassId} {aV : Nat → Nat} (hy : am_Hy l al) (N : Nat) : am_CS l al dC dI aC aV 221 (c_X10_answer N) := by
  intro γ as h kk g hc0
  obtain ⟨z0, w0, e_0, hcz0⟩ := am_sa_some hc0
  obtain ⟨hz0, hc1⟩ := am_bif hcz0
  cases Nat.eq_of_beq_eq_true hz0
  obtain ⟨i1, w1, e_1, hc2⟩ := am_s1_some hc1
  obtain ⟨i2, w2, e_2, hc3⟩ := am_s1_some hc2
  obtain ⟨e_3, hc⟩ := am_st0_some hc3
  subst e_3
  subst e_2
  subst e_1
  subst e_0
  obtain ⟨q, e1, e2⟩ := am_bi_some hc
  exact ⟨_, _, m_X10_answer hy N i1 i2 h _ e1, e2⟩

def f_X10_yield (N : Nat) (i1 : Int32) (h : am_Hp) : Option (Int32 × am_Hp) :=
  let h1 := am_pi h 193 0 (0 : Int32)
  am_bi (f_X10_isUser N i1 h1) (fun x3 h2 =>
  (if x3 = 0 then
    some ((-2 : Int32), h2)
  else
    am_bi (f_X10_controlled N i1 h2) (fun x5 h4 =>
    (if x5 = (-1 : Int32) then
      some ((-4 : Int32), h4)
    else
      am_bi (f_X10_keeps N h4) (fun _ h6 =>
      am_bi (f_X10_givesUp N x5 h6) (fun _ h7 =>
      am_bi (f_X10_settles N h7) (fun _ h8 =>
      am_bi (f_X10_ofS N x5 (1 : Int32) h8) (fun x10 h9 =>
      some (x10, h9)))))))))
def c_X10_yield (N : Nat) : am_Cl := fun _ as h kk => am_sa as (fun z w0 => bif Nat.beq z 193 then am_s1 w0 (fun i1 w1 => am_st0 w1 (am_bi (f_X10_yield N i1 h) (fun v h => kk (am_oi v) h))) else none)
def o_X10_yield (N : Nat) : am_Orc := (am_oc 175 (c_X10_isUser N) (am_oc 156 (c_X10_controlled N) (am_oc 209 (c_X10_keeps N) (am_oc 152 (c_X10_givesUp N) (am_oc 150 (c_X10_settles N) (am_oc 129 (c_X10_ofS N) am_o0))))))
set_option maxRecDepth 100000 in
theorem tok_X10_yield : am_tok 222 tX10_yield := by
  unfold am_tok
  decide +kernel
set_option maxHeartbeats 4000000 in
set_option maxRecDepth 100000 in
theorem m_X10_yield {l : Launch} {al : Nat → Nat} {dC : Nat → ClassId} {dI : Nat → Nat → Nat} {aC : Nat → ClassId} {aV : Nat → Nat} (hy : am_Hy l al) (N : Nat) (i1 : Int32) (h : am_Hp) (r : (Int32 × am_Hp)) (hf : f_X10_yield N i1 h = some r) : am_Met l al dC dI aC aV 222 [.ref 193, .int i1] h (am_oi r.1) r.2 :=
  am_met (tab := tX10_yield) (orc := o_X10_yield N) (ret := am_ri) (g := r) (by decide) (by decide) hy.1 hy.2 tok_X10_yield (am_os1 (s_X10_isUser hy N) (am_os1 (s_X10_controlled hy N) (am_os1 (s_X10_keeps hy N) (am_os1 (s_X10_givesUp hy N) (am_os1 (s_X10_settles hy N) (am_os1 (s_X10_ofS hy N) am_os0)))))) am_ri_inv (Nat.le_of_ble_eq_true rfl) (fun At cl wk => by
    skip
    exact cl am_C0 am_c0 400 0 _ _ h hf)
theorem s_X10_yield {l : Launch} {al : Nat → Nat} {dC : Nat → ClassId} {dI : Nat → Nat → Nat} {aC : Nat → ClassId} {aV : Nat → Nat} (hy : am_Hy l al) (N : Nat) : am_CS l al dC dI aC aV 222 (c_X10_yield N) := by
  intro γ as h kk g hc0
  obtain ⟨z0, w0, e_0, hcz0⟩ := am_sa_some hc0
  obtain ⟨hz0, hc1⟩ := am_bif hcz0
  cases Nat.eq_of_beq_eq_true hz0
  obtain ⟨i1, w1, e_1, hc2⟩ := am_s1_some hc1
  obtain ⟨e_2, hc⟩ := am_st0_some hc2
  subst e_2
  subst e_1
  subst e_0
  obtain ⟨q, e1, e2⟩ := am_bi_some hc
  exact ⟨_, _, m_X10_yield hy N i1 h _ e1, e2⟩
