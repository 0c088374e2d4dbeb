def f_X10_screen (N : Nat) (i1 : Int32) (i2 : Int32) (i3 : Int32) (h : am_Hp) : Option (Int32 × am_Hp) :=
  am_bi (f_X10_isPosition N i1 i2 h) (fun x2 h1 =>
  am_bi (f_X10_checks N x2 h1) (fun x4 h3 =>
  (if x4 = 0 then
    some ((0 : Int32), h3)
  else
    am_bi (f_X10_lays N i1 i2 h3) (fun _ h5 =>
    (if i3.toInt = 0 then
      some (h5 193 9, h5)
    else if i3.toInt = 1 then
      some (h5 193 10, h5)
    else if i3.toInt = 2 then
      some (h5 193 11, h5)
    else if i3.toInt = 3 then
      some (h5 193 12, h5)
    else if i3.toInt = 4 then
      some (h5 193 14, h5)
    else some ((-2 : Int32), h5))))))
def c_X10_screen (N : Nat) : am_Cl := fun _ as h kk => am_sa as (fun z w0 => bif Nat.beq z 193 then am_s1 w0 (fun i1 w1 => am_s1 w1 (fun i2 w2 => am_s1 w2 (fun i3 w3 => am_st0 w3 (am_bi (f_X10_screen N i1 i2 i3 h) (fun v h => kk (am_oi v) h))))) else none)
def o_X10_screen (N : Nat) : am_Orc := (am_oc 176 (c_X10_isPosition N) (am_oc 178 (c_X10_checks N) (am_oc 144 (c_X10_lays N) am_o0)))
set_option maxRecDepth 100000 in
theorem tok_X10_screen : am_tok 185 tX10_screen := by
  unfold am_tok
  decide +kernel
set_option maxHeartbeats 4000000 in
set_option maxRecDepth 100000 in
theorem m_X10_screen {l : Launch} {al : Nat → Nat} {dC : Nat → ClassId} {dI : Nat → Nat → Nat} {aC : Nat → ClassId} {aV : Nat → Nat} (hy : am_Hy l al) (N : Nat) (i1 : Int32) (i2 : Int32) (i3 : Int32) (h : am_Hp) (r : (Int32 × am_Hp)) (hf : f_X10_screen N i1 i2 i3 h = some r) : am_Met l al dC dI aC aV 185 [.ref 193, .int i1, .int i2, .int i3] h (am_oi r.1) r.2 :=
  am_met (tab := tX10_screen) (orc := o_X10_screen N) (ret := am_ri) (g := r) (by decide) (by decide) hy.1 hy.2 tok_X10_screen (am_os1 (s_X10_isPosition hy N) (am_os1 (s_X10_checks hy N) (am_os1 (s_X10_lays hy N) am_os0))) am_ri_inv (Nat.le_of_ble_eq_true rfl) (fun At cl wk => by
    skip
    exact cl am_C0 am_c0 400 0 _ _ h hf)
theorem s_X10_screen {l : Launch} {al : Nat → Nat} {dC : Nat → ClassId} {dI : Nat → Nat → Nat} {aC : Nat → ClassId} {aV : Nat → Nat} (hy : am_Hy l al) (N : Nat) : am_CS l al dC dI aC aV 185 (c_X10_screen N) := by
  intro γ as h kk g hc0
  obtain ⟨z0, w0, e_0, hcz0⟩ := am_sa_some hc0
  obtain ⟨hz0, hc1⟩ := am_bif hcz0
  cases Nat.eq_of_beq_eq_true hz0
  obtain ⟨i1, w1, e_1, hc2⟩ := am_s1_some hc1
  obtain ⟨i2, w2, e_2, hc3⟩ := am_s1_some hc2
  obtain ⟨i3, w3, e_3, hc4⟩ := am_s1_some hc3
  obtain ⟨e_4, hc⟩ := am_st0_some hc4
  subst e_4
  subst e_3
  subst e_2
  subst e_1
  subst e_0
  obtain ⟨q, e1, e2⟩ := am_bi_some hc
  exact ⟨_, _, m_X10_screen hy N i1 i2 i3 h _ e1, e2⟩

def f_X10_at (N : Nat) (i1 : Int32) (i2 : Int32) (i3 : Int32) (i4 : Int32) (h : am_Hp) : Option (Int32 × am_Hp) :=
  am_bi (f_X10_isPosition N i1 i2 h) (fun x2 h1 =>
  am_bi (f_X10_checks N x2 h1) (fun x4 h3 =>
  (if x4 = 0 then
    some ((0 : Int32), h3)
  else
    am_bi (f_X10_lays N i1 i2 h3) (fun _ h5 =>
    am_bi (f_X10_place N i3 i4 h5) (fun x7 h6 =>
    some (x7, h6))))))
def c_X10_at (N : Nat) : am_Cl := fun _ as h kk => am_sa as (fun z w0 => bif Nat.beq z 193 then am_s1 w0 (fun i1 w1 => am_s1 w1 (fun i2 w2 => am_s1 w2 (fun i3 w3 => am_s1 w3 (fun i4 w4 => am_st0 w4 (am_bi (f_X10_at N i1 i2 i3 i4 h) (fun v h => kk (am_oi v) h)))))) else none)
def o_X10_at (N : Nat) : am_Orc := (am_oc 176 (c_X10_isPosition N) (am_oc 178 (c_X10_checks N) (am_oc 144 (c_X10_lays N) (am_oc 145 (c_X10_place N) am_o0))))
set_option maxRecDepth 100000 in
theorem tok_X10_at : am_tok 186 tX10_at := by
  unfold am_tok
  decide +kernel
set_option maxHeartbeats 4000000 in
set_option maxRecDepth 100000 in
theorem m_X10_at {l : Launch} {al : Nat → Nat} {dC : Nat → ClassId} {dI : Nat → Nat → Nat} {aC : Nat → ClassId} {aV : Nat → Nat} (hy : am_Hy l al) (N : Nat) (i1 : Int32) (i2 : Int32) (i3 : Int32) (i4 : Int32) (h : am_Hp) (r : (Int32 × am_Hp)) (hf : f_X10_at N i1 i2 i3 i4 h = some r) : am_Met l al dC dI aC aV 186 [.ref 193, .int i1, .int i2, .int i3, .int i4] h (am_oi r.1) r.2 :=
  am_met (tab := tX10_at) (orc := o_X10_at N) (ret := am_ri) (g := r) (by decide) (by decide) hy.1 hy.2 tok_X10_at (am_os1 (s_X10_isPosition hy N) (am_os1 (s_X10_checks hy N) (am_os1 (s_X10_lays hy N) (am_os1 (s_X10_place hy N) am_os0)))) am_ri_inv (Nat.le_of_ble_eq_true rfl) (fun At cl wk => by
    skip
    exact cl am_C0 am_c0 400 0 _ _ h hf)
theorem s_X10_at {l : Launch} {al : Nat → Nat} {dC : Nat → ClassId} {dI : Nat → Nat → Nat} {aC : Nat → ClassId} {aV : Nat → Nat} (hy : am_Hy l al) (N : Nat) : am_CS l al dC dI aC aV 186 (c_X10_at N) := by
  intro γ as h kk g hc0
  obtain ⟨z0, w0, e_0, hcz0⟩ := am_sa_some hc0
  obtain ⟨hz0, hc1⟩ := am_bif hcz0
  cases Nat.eq_of_beq_eq_true hz0
  obtain ⟨i1, w1, e_1, hc2⟩ := am_s1_some hc1
  obtain ⟨i2, w2, e_2, hc3⟩ := am_s1_some hc2
  obtain ⟨i3, w3, e_3, hc4⟩ := am_s1_some hc3
  obtain ⟨i4, w4, e_4, hc5⟩ := am_s1_some hc4
  obtain ⟨e_5, hc⟩ := am_st0_some hc5
  subst e_5
  subst e_4
  subst e_3
  subst e_2
  subst e_1
  subst e_0
  obtain ⟨q, e1, e2⟩ := am_bi_some hc
  exact ⟨_, _, m_X10_at hy N i1 i2 i3 i4 h _ e1, e2⟩

def f_X10_above (N : Nat) (i1 : Int32) (i2 : Int32) (i3 : Int32) (i4 : Int32) (h : am_Hp) : Option (Int32 × am_Hp) :=
  am_bi (f_X10_isPosition N i1 i2 h) (fun x2 h1 =>
  am_bi (f_X10_checks N x2 h1) (fun x4 h3 =>
  (if x4 = 0 then
    some ((0 : Int32), h3)
  else
    am_bi (f_X10_lays N i1 i2 h3) (fun _ h5 =>
    (if i3 < 0 then
      some ((-1 : Int32), h5)
    else
      (if (h5 193 14) ≤ i3 then
        some ((-1 : Int32), h5)
      else
        (if i4 < 0 then
          some ((-1 : Int32), h5)
        else
          (if i4 < (16 : Int32) then
            bif am_in i3 40 then (if (h5 202 i3.toNatClampNeg) ≤ i4 then
              some ((27 : Int32), h5)
            else
              bif am_in (((16 : Int32) * i3) + i4) 640 then some (h5 201 ((((16 : Int32) * i3) + i4).toNatClampNeg), h5) else none) else none
          else
            some ((-1 : Int32), h5)))))))))
def c_X10_above (N : Nat) : am_Cl := fun _ as h kk => am_sa as (fun z w0 => bif Nat.beq z 193 then am_s1 w0 (fun i1 w1 => am_s1 w1 (fun i2 w2 => am_s1 w2 (fun i3 w3 => am_s1 w3 (fun i4 w4 => am_st0 w4 (am_bi (f_X10_above N i1 i2 i3 i4 h) (fun v h => kk (am_oi v) h)))))) else none)
def o_X10_above (N : Nat) : am_Orc := (am_oc 176 (c_X10_isPosition N) (am_oc 178 (c_X10_checks N) (am_oc 144 (c_X10_lays N) am_o0)))
set_option maxRecDepth 100000 in
theorem tok_X10_above : am_tok 187 tX10_above := by
  unfold am_tok
  decide +kernel
set_option maxHeartbeats 4000000 in
set_option maxRecDepth 100000 in
theorem m_X10_above {l : Launch} {al : Nat → Nat} {dC : Nat → ClassId} {dI : Nat → Nat → Nat} {aC : Nat → ClassId} {aV : Nat → Nat} (hy : am_Hy l al) (N : Nat) (i1 : Int32) (i2 : Int32) (i3 : Int32) (i4 : Int32) (h : am_Hp) (r : (Int32 × am_Hp)) (hf : f_X10_above N i1 i2 i3 i4 h = some r) : am_Met l al dC dI aC aV 187 [.ref 193, .int i1, .int i2, .int i3, .int i4] h (am_oi r.1) r.2 :=
  am_met (tab := tX10_above) (orc := o_X10_above N) (ret := am_ri) (g := r) (by decide) (by decide) hy.1 hy.2 tok_X10_above (am_os1 (s_X10_isPosition hy N) (am_os1 (s_X10_checks hy N) (am_os1 (s_X10_lays hy N) am_os0))) am_ri_inv (Nat.le_of_ble_eq_true rfl) (fun At cl wk => by
    skip
    exact cl am_C0 am_c0 400 0 _ _ h hf)
theorem s_X10_above {l : Launch} {al : Nat → Nat} {dC : Nat → ClassId} {dI : Nat → Nat → Nat} {aC : Nat → ClassId} {aV : Nat → Nat} (hy : am_Hy l al) (N : Nat) : am_CS l al dC dI aC aV 187 (c_X10_above N) := by
  intro γ as h kk g hc0
  obtain ⟨z0, w0, e_0, hcz0⟩ := am_sa_some hc0
  obtain ⟨hz0, hc1⟩ := am_bif hcz0
  cases Nat.eq_of_beq_eq_true hz0
  obtain ⟨i1, w1, e_1, hc2⟩ := am_s1_some hc1
  obtain ⟨i2, w2, e_2, hc3⟩ := am_s1_some hc2
  obtain ⟨i3, w3, e_3, hc4⟩ := am_s1_some hc3
  obtain ⟨i4, w4, e_4, hc5⟩ := am_s1_some hc4
  obtain ⟨e_5, hc⟩ := am_st0_some hc5
  subst e_5
  subst e_4
  subst e_3
  subst e_2
  subst e_1
  subst e_0
  obtain ⟨q, e1, e2⟩ := am_bi_some hc
  exact ⟨_, _, m_X10_above hy N i1 i2 i3 i4 h _ e1, e2⟩

def f_X10_user (N : Nat) (i1 : Int32) (i2 : Int32) (h : am_Hp) : Option (Int32 × am_Hp) :=
  am_bi (f_X10_isUser N i1 h) (fun x2 h1 =>
  am_bi (f_X10_checks N x2 h1) (fun x4 h3 =>
  (if x4 = 0 then
    some ((0 : Int32), h3)
  else
    (if i2.toInt = 0 then
      am_bi (f_X10_ofU N i1 (0 : Int32) h3) (fun x22 h21 =>
      some (x22, h21))
    else if i2.toInt = 1 then
      am_bi (f_X10_ofU N i1 (1 : Int32) h3) (fun x20 h19 =>
      some (x20, h19))
    else if i2.toInt = 2 then
      am_bi (f_X10_ofU N i1 (2 : Int32) h3) (fun x18 h17 =>
      some (x18, h17))
    else if i2.toInt = 3 then
      am_bi (f_X10_watches N i1 h3) (fun x14 h13 =>
      (if x14 = 0 then
        some ((-1 : Int32), h13)
      else
        am_bi (f_X10_ofU N i1 (3 : Int32) h13) (fun x16 h15 =>
        some (x16, h15))))
    else if i2.toInt = 4 then
      am_bi (f_X10_watches N i1 h3) (fun x10 h9 =>
      (if x10 = 0 then
        some ((-1 : Int32), h9)
      else
        am_bi (f_X10_positionOf N i1 h9) (fun x12 h11 =>
        some (x12, h11))))
    else if i2.toInt = 5 then
      am_bi (f_X10_ofU N i1 (7 : Int32) h3) (fun x8 h7 =>
      some (x8, h7))
    else if i2.toInt = 6 then
      am_bi (f_X10_ofU N i1 (6 : Int32) h3) (fun x6 h5 =>
      some (x6, h5))
    else some ((-2 : Int32), h3)))))
def c_X10_user (N : Nat) : am_Cl := fun _ as h kk => am_sa as (fun z w0 => bif Nat.beq z 193 then am_s1 w0 (fun i1 w1 => am_s1 w1 (fun i2 w2 => am_st0 w2 (am_bi (f_X10_user N i1 i2 h) (fun v h => kk (am_oi v) h)))) else none)
def o_X10_user (N : Nat) : am_Orc := (am_oc 175 (c_X10_isUser N) (am_oc 178 (c_X10_checks N) (am_oc 131 (c_X10_ofU N) (am_oc 135 (c_X10_watches N) (am_oc 147 (c_X10_positionOf N) am_o0)))))
set_option maxRecDepth 100000 in
theorem tok_X10_user : am_tok 188 tX10_user := by
  unfold am_tok
  decide +kernel
set_option maxHeartbeats 4000000 in
set_option maxRecDepth 100000 in
theorem m_X10_user {l : Launch} {al : Nat → Nat} {dC : Nat → ClassId} {dI : Nat → Nat → Nat} {aC : Nat → ClassId} {aV : Nat → Nat} (hy : am_Hy l al) (N : Nat) (i1 : Int32) (i2 : Int32) (h : am_Hp) (r : (Int32 × am_Hp)) (hf : f_X10_user N i1 i2 h = some r) : am_Met l al dC dI aC aV 188 [.ref 193, .int i1, .int i2] h (am_oi r.1) r.2 :=
  am_met (tab := tX10_user) (orc := o_X10_user N) (ret := am_ri) (g := r) (by decide) (by decide) hy.1 hy.2 tok_X10_user (am_os1 (s_X10_isUser hy N) (am_os1 (s_X10_checks hy N) (am_os1 (s_X10_ofU hy N) (am_os1 (s_X10_watches hy N) (am_os1 (s_X10_positionOf hy N) am_os0))))) am_ri_inv (Nat.le_of_ble_eq_true rfl) (fun At cl wk => by
    skip
    exact cl am_C0 am_c0 400 0 _ _ h hf)
theorem s_X10_user {l : Launch} {al : Nat → Nat} {dC : Nat → ClassId} {dI : Nat → Nat → Nat} {aC : Nat → ClassId} {aV : Nat → Nat} (hy : am_Hy l al) (N : Nat) : am_CS l al dC dI aC aV 188 (c_X10_user N) := by
  intro γ as h kk g hc0
  obtain ⟨z0, w0, e_0, hcz0⟩ := am_sa_some hc0
  obtain ⟨hz0, hc1⟩ := am_bif hcz0
  cases Nat.eq_of_beq_eq_true hz0
  obtain ⟨i1, w1, e_1, hc2⟩ := am_s1_some hc1
  obtain ⟨i2, w2, e_2, hc3⟩ := am_s1_some hc2
  obtain ⟨e_3, hc⟩ := am_st0_some hc3
  subst e_3
  subst e_2
  subst e_1
  subst e_0
  obtain ⟨q, e1, e2⟩ := am_bi_some hc
  exact ⟨_, _, m_X10_user hy N i1 i2 h _ e1, e2⟩
