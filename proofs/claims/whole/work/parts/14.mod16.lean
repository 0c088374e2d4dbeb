def f_X10_grantedAt (N : Nat) (i1 : Int32) (h : am_Hp) : Option (Int32 × am_Hp) :=
  am_bi (f_X10_isSession N i1 h) (fun x2 h1 =>
  am_bi (f_X10_checks N x2 h1) (fun x4 h3 =>
  (if x4 = 0 then
    some ((0 : Int32), h3)
  else
    am_bi (f_X10_ofS N i1 (2 : Int32) h3) (fun x6 h5 =>
    (if x6 = (-1 : Int32) then
      some ((-1 : Int32), h5)
    else
      bif am_in (2 : Int32) 6071 then am_bi (f_X10_ofS N i1 (3 : Int32) h5) (fun x8 h7 =>
      bif am_in (0 : Int32) 6071 then some ((if ((h5 197 2) + (1 : Int32)) < (x8 + (h7 197 0)) then x8 + (h7 197 0) else (h5 197 2) + (1 : Int32)), h7) else none) else none)))))
def c_X10_grantedAt (N : Nat) : am_Cl := fun _ as h kk => am_sa as (fun z w0 => bif Nat.beq z 193 then am_s1 w0 (fun i1 w1 => am_st0 w1 (am_bi (f_X10_grantedAt N i1 h) (fun v h => kk (am_oi v) h))) else none)
def o_X10_grantedAt (N : Nat) : am_Orc := (am_oc 174 (c_X10_isSession N) (am_oc 178 (c_X10_checks N) (am_oc 129 (c_X10_ofS N) am_o0)))
set_option maxRecDepth 100000 in
theorem tok_X10_grantedAt : am_tok 198 tX10_grantedAt := by
  unfold am_tok
  decide +kernel
set_option maxHeartbeats 4000000 in
set_option maxRecDepth 100000 in
theorem m_X10_grantedAt {l : Launch} {al : Nat → Nat} {dC : Nat → ClassId} {dI : Nat → Nat → Nat} {aC : Nat → ClassId} {aV : Nat → Nat} (hy : am_Hy l al) (N : Nat) (i1 : Int32) (h : am_Hp) (r : (Int32 × am_Hp)) (hf : f_X10_grantedAt N i1 h = some r) : am_Met l al dC dI aC aV 198 [.ref 193, .int i1] h (am_oi r.1) r.2 :=
  am_met (tab := tX10_grantedAt) (orc := o_X10_grantedAt N) (ret := am_ri) (g := r) (by decide) (by decide) hy.1 hy.2 tok_X10_grantedAt (am_os1 (s_X10_isSession hy N) (am_os1 (s_X10_checks hy N) (am_os1 (s_X10_ofS hy N) am_os0))) am_ri_inv (Nat.le_of_ble_eq_true rfl) (fun At cl wk => by
    skip
    exact cl am_C0 am_c0 400 0 _ _ h hf)
theorem s_X10_grantedAt {l : Launch} {al : Nat → Nat} {dC : Nat → ClassId} {dI : Nat → Nat → Nat} {aC : Nat → ClassId} {aV : Nat → Nat} (hy : am_Hy l al) (N : Nat) : am_CS l al dC dI aC aV 198 (c_X10_grantedAt N) := by
  intro γ as h kk g hc0
  obtain ⟨z0, w0, e_0, hcz0⟩ := am_sa_some hc0
  obtain ⟨hz0, hc1⟩ := am_bif hcz0
  cases Nat.eq_of_beq_eq_true hz0
  obtain ⟨i1, w1, e_1, hc2⟩ := am_s1_some hc1
  obtain ⟨e_2, hc⟩ := am_st0_some hc2
  subst e_2
  subst e_1
  subst e_0
  obtain ⟨q, e1, e2⟩ := am_bi_some hc
  exact ⟨_, _, m_X10_grantedAt hy N i1 h _ e1, e2⟩

def f_X10_reachedAt (N : Nat) (i1 : Int32) (i2 : Int32) (h : am_Hp) : Option (Int32 × am_Hp) :=
  am_bi (f_X10_isUser N i1 h) (fun x2 h1 =>
  am_bi (f_X10_checks N x2 h1) (fun x4 h3 =>
  (if x4 = 0 then
    some ((0 : Int32), h3)
  else
    am_bi (f_X10_ofU N i1 (3 : Int32) h3) (fun x6 h5 =>
    am_bi (f_X10_ofU N i1 (4 : Int32) h5) (fun x8 h7 =>
    am_bi (f_X10_ofU N i1 (2 : Int32) h7) (fun x10 h9 =>
    (if x10 = (3 : Int32) then
      (if i2 < x8 then
        some ((-1 : Int32), h9)
      else
        am_bi (f_X10_events N x6 h9) (fun x12 h11 =>
        (if i2 ≤ x12 then
          (if i2 = x8 then
            am_bi (f_X10_ofU N i1 (5 : Int32) h11) (fun x22 h21 =>
            some (x22, h21))
          else
            am_bi (f_X10_ofU N i1 (6 : Int32) h11) (fun x14 h13 =>
            am_bi (f_X10_ofE N x6 (i2 - (1 : Int32)) (3 : Int32) h13) (fun x16 h15 =>
            am_bi (f_X10_ofE N x6 x8 (3 : Int32) h15) (fun x18 h17 =>
            am_bi (f_X10_ofU N i1 (5 : Int32) h17) (fun x20 h19 =>
            if x14 = 0 then none else some (x20 + (((((x16 - x18) * (100 : Int32)) + x14) - (1 : Int32)) / x14), h19))))))
        else
          some ((-1 : Int32), h11))))
    else
      some ((-1 : Int32), h9))))))))
def c_X10_reachedAt (N : Nat) : am_Cl := fun _ as h kk => am_sa as (fun z w0 => bif Nat.beq z 193 then am_s1 w0 (fun i1 w1 => am_s1 w1 (fun i2 w2 => am_st0 w2 (am_bi (f_X10_reachedAt N i1 i2 h) (fun v h => kk (am_oi v) h)))) else none)
def o_X10_reachedAt (N : Nat) : am_Orc := (am_oc 175 (c_X10_isUser N) (am_oc 178 (c_X10_checks N) (am_oc 131 (c_X10_ofU N) (am_oc 134 (c_X10_events N) (am_oc 133 (c_X10_ofE N) am_o0)))))
set_option maxRecDepth 100000 in
theorem tok_X10_reachedAt : am_tok 199 tX10_reachedAt := by
  unfold am_tok
  decide +kernel
set_option maxHeartbeats 4000000 in
set_option maxRecDepth 100000 in
theorem m_X10_reachedAt {l : Launch} {al : Nat → Nat} {dC : Nat → ClassId} {dI : Nat → Nat → Nat} {aC : Nat → ClassId} {aV : Nat → Nat} (hy : am_Hy l al) (N : Nat) (i1 : Int32) (i2 : Int32) (h : am_Hp) (r : (Int32 × am_Hp)) (hf : f_X10_reachedAt N i1 i2 h = some r) : am_Met l al dC dI aC aV 199 [.ref 193, .int i1, .int i2] h (am_oi r.1) r.2 :=
  am_met (tab := tX10_reachedAt) (orc := o_X10_reachedAt N) (ret := am_ri) (g := r) (by decide) (by decide) hy.1 hy.2 tok_X10_reachedAt (am_os1 (s_X10_isUser hy N) (am_os1 (s_X10_checks hy N) (am_os1 (s_X10_ofU hy N) (am_os1 (s_X10_events hy N) (am_os1 (s_X10_ofE hy N) am_os0))))) am_ri_inv (Nat.le_of_ble_eq_true rfl) (fun At cl wk => by
    skip
    exact cl am_C0 am_c0 400 0 _ _ h hf)
theorem s_X10_reachedAt {l : Launch} {al : Nat → Nat} {dC : Nat → ClassId} {dI : Nat → Nat → Nat} {aC : Nat → ClassId} {aV : Nat → Nat} (hy : am_Hy l al) (N : Nat) : am_CS l al dC dI aC aV 199 (c_X10_reachedAt N) := by
  intro γ as h kk g hc0
  obtain ⟨z0, w0, e_0, hcz0⟩ := am_sa_some hc0
  obtain ⟨hz0, hc1⟩ := am_bif hcz0
  cases Nat.eq_of_beq_eq_true hz0
  obtain ⟨i1, w1, e_1, hc2⟩ := am_s1_some hc1
  obtain ⟨i2, w2, e_2, hc3⟩ := am_s1_some hc2
  obtain ⟨e_3, hc⟩ := am_st0_some hc3
  subst e_3
  subst e_2
  subst e_1
  subst e_0
  obtain ⟨q, e1, e2⟩ := am_bi_some hc
  exact ⟨_, _, m_X10_reachedAt hy N i1 i2 h _ e1, e2⟩

def f_X10_behind (N : Nat) (i1 : Int32) (h : am_Hp) : Option (Int32 × am_Hp) :=
  am_bi (f_X10_isUser N i1 h) (fun x2 h1 =>
  am_bi (f_X10_checks N x2 h1) (fun x4 h3 =>
  (if x4 = 0 then
    some ((0 : Int32), h3)
  else
    am_bi (f_X10_watches N i1 h3) (fun x6 h5 =>
    (if x6 = 0 then
      some ((0 : Int32), h5)
    else
      am_bi (f_X10_ofU N i1 (3 : Int32) h5) (fun x8 h7 =>
      am_bi (f_X10_events N x8 h7) (fun x10 h9 =>
      am_bi (f_X10_positionOf N i1 h9) (fun x12 h11 =>
      some (x10 - x12, h11)))))))))
def c_X10_behind (N : Nat) : am_Cl := fun _ as h kk => am_sa as (fun z w0 => bif Nat.beq z 193 then am_s1 w0 (fun i1 w1 => am_st0 w1 (am_bi (f_X10_behind N i1 h) (fun v h => kk (am_oi v) h))) else none)
def o_X10_behind (N : Nat) : am_Orc := (am_oc 175 (c_X10_isUser N) (am_oc 178 (c_X10_checks N) (am_oc 135 (c_X10_watches N) (am_oc 131 (c_X10_ofU N) (am_oc 134 (c_X10_events N) (am_oc 147 (c_X10_positionOf N) am_o0))))))
set_option maxRecDepth 100000 in
theorem tok_X10_behind : am_tok 200 tX10_behind := by
  unfold am_tok
  decide +kernel
set_option maxHeartbeats 4000000 in
set_option maxRecDepth 100000 in
theorem m_X10_behind {l : Launch} {al : Nat → Nat} {dC : Nat → ClassId} {dI : Nat → Nat → Nat} {aC : Nat → ClassId} {aV : Nat → Nat} (hy : am_Hy l al) (N : Nat) (i1 : Int32) (h : am_Hp) (r : (Int32 × am_Hp)) (hf : f_X10_behind N i1 h = some r) : am_Met l al dC dI aC aV 200 [.ref 193, .int i1] h (am_oi r.1) r.2 :=
  am_met (tab := tX10_behind) (orc := o_X10_behind N) (ret := am_ri) (g := r) (by decide) (by decide) hy.1 hy.2 tok_X10_behind (am_os1 (s_X10_isUser hy N) (am_os1 (s_X10_checks hy N) (am_os1 (s_X10_watches hy N) (am_os1 (s_X10_ofU hy N) (am_os1 (s_X10_events hy N) (am_os1 (s_X10_positionOf hy N) am_os0)))))) am_ri_inv (Nat.le_of_ble_eq_true rfl) (fun At cl wk => by
    skip
    exact cl am_C0 am_c0 400 0 _ _ h hf)
theorem s_X10_behind {l : Launch} {al : Nat → Nat} {dC : Nat → ClassId} {dI : Nat → Nat → Nat} {aC : Nat → ClassId} {aV : Nat → Nat} (hy : am_Hy l al) (N : Nat) : am_CS l al dC dI aC aV 200 (c_X10_behind N) := by
  intro γ as h kk g hc0
  obtain ⟨z0, w0, e_0, hcz0⟩ := am_sa_some hc0
  obtain ⟨hz0, hc1⟩ := am_bif hcz0
  cases Nat.eq_of_beq_eq_true hz0
  obtain ⟨i1, w1, e_1, hc2⟩ := am_s1_some hc1
  obtain ⟨e_2, hc⟩ := am_st0_some hc2
  subst e_2
  subst e_1
  subst e_0
  obtain ⟨q, e1, e2⟩ := am_bi_some hc
  exact ⟨_, _, m_X10_behind hy N i1 h _ e1, e2⟩

def f_X10_letterOf (N : Nat) (i0 : Int32) (i1 : Int32) (h : am_Hp) : Option (Int32 × am_Hp) :=
  some ((i0 >>> (((25 : Int32) - ((5 : Int32) * i1)) &&& 31)) &&& (31 : Int32), h)
def c_X10_letterOf (N : Nat) : am_Cl := fun _ as h kk => am_s1 as (fun i0 w0 => am_s1 w0 (fun i1 w1 => am_st0 w1 (am_bi (f_X10_letterOf N i0 i1 h) (fun v h => kk (am_oi v) h))))
def o_X10_letterOf (N : Nat) : am_Orc := am_o0
set_option maxRecDepth 100000 in
theorem tok_X10_letterOf : am_tok 201 tX10_letterOf := by
  unfold am_tok
  decide +kernel
set_option maxHeartbeats 4000000 in
set_option maxRecDepth 100000 in
theorem m_X10_letterOf {l : Launch} {al : Nat → Nat} {dC : Nat → ClassId} {dI : Nat → Nat → Nat} {aC : Nat → ClassId} {aV : Nat → Nat} (hy : am_Hy l al) (N : Nat) (i0 : Int32) (i1 : Int32) (h : am_Hp) (r : (Int32 × am_Hp)) (hf : f_X10_letterOf N i0 i1 h = some r) : am_Met l al dC dI aC aV 201 [.int i0, .int i1] h (am_oi r.1) r.2 :=
  am_met (tab := tX10_letterOf) (orc := o_X10_letterOf N) (ret := am_ri) (g := r) (by decide) (by decide) hy.1 hy.2 tok_X10_letterOf am_os0 am_ri_inv (Nat.le_of_ble_eq_true rfl) (fun At cl wk => by
    skip
    exact cl am_C0 am_c0 400 0 _ _ h hf)
theorem s_X10_letterOf {l : Launch} {al : Nat → Nat} {dC : Nat → ClassId} {dI : Nat → Nat → Nat} {aC : Nat → ClassId} {aV : Nat → Nat} (hy : am_Hy l al) (N : Nat) : am_CS l al dC dI aC aV 201 (c_X10_letterOf N) := by
  intro γ as h kk g hc0
  obtain ⟨i0, w0, e_0, hc1⟩ := am_s1_some hc0
  obtain ⟨i1, w1, e_1, hc2⟩ := am_s1_some hc1
  obtain ⟨e_2, hc⟩ := am_st0_some hc2
  subst e_2
  subst e_1
  subst e_0
  obtain ⟨q, e1, e2⟩ := am_bi_some hc
  exact ⟨_, _, m_X10_letterOf hy N i0 i1 h _ e1, e2⟩
