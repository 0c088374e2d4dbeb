def f_X10_laysWindow (N : Nat) (i1 : Int32) (h : am_Hp) : Option (Unit × am_Hp) :=
  am_bi (f_X10_ofU N i1 (3 : Int32) h) (fun x2 h1 =>
  am_bi (f_X10_positionOf N i1 h1) (fun x4 h3 =>
  am_bi (f_X10_lays N x2 x4 h3) (fun _ h5 =>
  am_bi (f_X10_ofU N i1 (7 : Int32) h5) (fun x7 h6 =>
  am_bi (f_X10_ofU N i1 (1 : Int32) h6) (fun x9 h8 =>
  let h10 := am_pi h8 193 27 (if (0 : Int32) < (((((h5 193 14) + (h5 193 11)) - x7) - x9) + (1 : Int32)) then ((((h5 193 14) + (h5 193 11)) - x7) - x9) + (1 : Int32) else (0 : Int32))
  some ((), h10))))))
def c_X10_laysWindow (N : Nat) : am_Cl := fun _ as h kk => am_sa as (fun z w0 => bif Nat.beq z 193 then am_s1 w0 (fun i1 w1 => am_st0 w1 (am_bi (f_X10_laysWindow N i1 h) (fun v h => kk (am_ov v) h))) else none)
def o_X10_laysWindow (N : Nat) : am_Orc := (am_oc 131 (c_X10_ofU N) (am_oc 147 (c_X10_positionOf N) (am_oc 144 (c_X10_lays N) am_o0)))
set_option maxRecDepth 100000 in
theorem tok_X10_laysWindow : am_tok 189 tX10_laysWindow := by
  unfold am_tok
  decide +kernel
set_option maxHeartbeats 4000000 in
set_option maxRecDepth 100000 in
theorem m_X10_laysWindow {l : Launch} {al : Nat → Nat} {dC : Nat → ClassId} {dI : Nat → Nat → Nat} {aC : Nat → ClassId} {aV : Nat → Nat} (hy : am_Hy l al) (N : Nat) (i1 : Int32) (h : am_Hp) (r : (Unit × am_Hp)) (hf : f_X10_laysWindow N i1 h = some r) : am_Met l al dC dI aC aV 189 [.ref 193, .int i1] h (am_ov r.1) r.2 :=
  am_met (tab := tX10_laysWindow) (orc := o_X10_laysWindow N) (ret := am_rv) (g := r) (by decide) (by decide) hy.1 hy.2 tok_X10_laysWindow (am_os1 (s_X10_ofU hy N) (am_os1 (s_X10_positionOf hy N) (am_os1 (s_X10_lays hy N) am_os0))) am_rv_inv (Nat.le_of_ble_eq_true rfl) (fun At cl wk => by
    skip
    exact cl am_C0 am_c0 400 0 _ _ h hf)
theorem s_X10_laysWindow {l : Launch} {al : Nat → Nat} {dC : Nat → ClassId} {dI : Nat → Nat → Nat} {aC : Nat → ClassId} {aV : Nat → Nat} (hy : am_Hy l al) (N : Nat) : am_CS l al dC dI aC aV 189 (c_X10_laysWindow N) := by
  intro γ as h kk g hc0
  obtain ⟨z0, w0, e_0, hcz0⟩ := am_sa_some hc0
  obtain ⟨hz0, hc1⟩ := am_bif hcz0
  cases Nat.eq_of_beq_eq_true hz0
  obtain ⟨i1, w1, e_1, hc2⟩ := am_s1_some hc1
  obtain ⟨e_2, hc⟩ := am_st0_some hc2
  subst e_2
  subst e_1
  subst e_0
  obtain ⟨q, e1, e2⟩ := am_bi_some hc
  exact ⟨_, _, m_X10_laysWindow hy N i1 h _ e1, e2⟩

def f_X10_seen (N : Nat) (i1 : Int32) (i2 : Int32) (h : am_Hp) : Option (Int32 × am_Hp) :=
  (if (h 193 14) ≤ ((h 193 27) + i1) then
    am_bi (f_X10_place N (((h 193 27) + i1) - (h 193 14)) i2 h) (fun x2 h1 =>
    (if x2 = (-1 : Int32) then
      some ((27 : Int32), h1)
    else
      some (x2, h1)))
  else
    bif am_in ((h 193 27) + i1) 40 then (if (h 202 (((h 193 27) + i1).toNatClampNeg)) ≤ i2 then
      some ((27 : Int32), h)
    else
      bif am_in (((16 : Int32) * ((h 193 27) + i1)) + i2) 640 then some (h 201 ((((16 : Int32) * ((h 193 27) + i1)) + i2).toNatClampNeg), h) else none) else none)
def c_X10_seen (N : Nat) : am_Cl := fun _ as h kk => am_sa as (fun z w0 => bif Nat.beq z 193 then am_s1 w0 (fun i1 w1 => am_s1 w1 (fun i2 w2 => am_st0 w2 (am_bi (f_X10_seen N i1 i2 h) (fun v h => kk (am_oi v) h)))) else none)
def o_X10_seen (N : Nat) : am_Orc := (am_oc 145 (c_X10_place N) am_o0)
set_option maxRecDepth 100000 in
theorem tok_X10_seen : am_tok 190 tX10_seen := by
  unfold am_tok
  decide +kernel
set_option maxHeartbeats 4000000 in
set_option maxRecDepth 100000 in
theorem m_X10_seen {l : Launch} {al : Nat → Nat} {dC : Nat → ClassId} {dI : Nat → Nat → Nat} {aC : Nat → ClassId} {aV : Nat → Nat} (hy : am_Hy l al) (N : Nat) (i1 : Int32) (i2 : Int32) (h : am_Hp) (r : (Int32 × am_Hp)) (hf : f_X10_seen N i1 i2 h = some r) : am_Met l al dC dI aC aV 190 [.ref 193, .int i1, .int i2] h (am_oi r.1) r.2 :=
  am_met (tab := tX10_seen) (orc := o_X10_seen N) (ret := am_ri) (g := r) (by decide) (by decide) hy.1 hy.2 tok_X10_seen (am_os1 (s_X10_place hy N) am_os0) am_ri_inv (Nat.le_of_ble_eq_true rfl) (fun At cl wk => by
    skip
    exact cl am_C0 am_c0 400 0 _ _ h hf)
theorem s_X10_seen {l : Launch} {al : Nat → Nat} {dC : Nat → ClassId} {dI : Nat → Nat → Nat} {aC : Nat → ClassId} {aV : Nat → Nat} (hy : am_Hy l al) (N : Nat) : am_CS l al dC dI aC aV 190 (c_X10_seen N) := by
  intro γ as h kk g hc0
  obtain ⟨z0, w0, e_0, hcz0⟩ := am_sa_some hc0
  obtain ⟨hz0, hc1⟩ := am_bif hcz0
  cases Nat.eq_of_beq_eq_true hz0
  obtain ⟨i1, w1, e_1, hc2⟩ := am_s1_some hc1
  obtain ⟨i2, w2, e_2, hc3⟩ := am_s1_some hc2
  obtain ⟨e_3, hc⟩ := am_st0_some hc3
  subst e_3
  subst e_2
  subst e_1
  subst e_0
  obtain ⟨q, e1, e2⟩ := am_bi_some hc
  exact ⟨_, _, m_X10_seen hy N i1 i2 h _ e1, e2⟩

def f_X10_shown (N : Nat) (i1 : Int32) (i2 : Int32) (i3 : Int32) (h : am_Hp) : Option (Int32 × am_Hp) :=
  am_bi (f_X10_isUser N i1 h) (fun x2 h1 =>
  am_bi (f_X10_checks N x2 h1) (fun x4 h3 =>
  (if x4 = 0 then
    some ((0 : Int32), h3)
  else
    am_bi (f_X10_watches N i1 h3) (fun x6 h5 =>
    (if x6 = 0 then
      some ((-1 : Int32), h5)
    else
      (if i2 < 0 then
        some ((-1 : Int32), h5)
      else
        am_bi (f_X10_ofU N i1 (1 : Int32) h5) (fun x8 h7 =>
        (if x8 ≤ i2 then
          some ((-1 : Int32), h7)
        else
          (if i3 < 0 then
            some ((-1 : Int32), h7)
          else
            am_bi (f_X10_ofU N i1 (0 : Int32) h7) (fun x10 h9 =>
            (if i3 < x10 then
              am_bi (f_X10_laysWindow N i1 h9) (fun _ h11 =>
              am_bi (f_X10_seen N i2 i3 h11) (fun x13 h12 =>
              some (x13, h12)))
            else
              some ((-1 : Int32), h9))))))))))))
def c_X10_shown (N : Nat) : am_Cl := fun _ as h kk => am_sa as (fun z w0 => bif Nat.beq z 193 then am_s1 w0 (fun i1 w1 => am_s1 w1 (fun i2 w2 => am_s1 w2 (fun i3 w3 => am_st0 w3 (am_bi (f_X10_shown N i1 i2 i3 h) (fun v h => kk (am_oi v) h))))) else none)
def o_X10_shown (N : Nat) : am_Orc := (am_oc 175 (c_X10_isUser N) (am_oc 178 (c_X10_checks N) (am_oc 135 (c_X10_watches N) (am_oc 131 (c_X10_ofU N) (am_oc 189 (c_X10_laysWindow N) (am_oc 190 (c_X10_seen N) am_o0))))))
set_option maxRecDepth 100000 in
theorem tok_X10_shown : am_tok 191 tX10_shown := by
  unfold am_tok
  decide +kernel
set_option maxHeartbeats 4000000 in
set_option maxRecDepth 100000 in
theorem m_X10_shown {l : Launch} {al : Nat → Nat} {dC : Nat → ClassId} {dI : Nat → Nat → Nat} {aC : Nat → ClassId} {aV : Nat → Nat} (hy : am_Hy l al) (N : Nat) (i1 : Int32) (i2 : Int32) (i3 : Int32) (h : am_Hp) (r : (Int32 × am_Hp)) (hf : f_X10_shown N i1 i2 i3 h = some r) : am_Met l al dC dI aC aV 191 [.ref 193, .int i1, .int i2, .int i3] h (am_oi r.1) r.2 :=
  am_met (tab := tX10_shown) (orc := o_X10_shown N) (ret := am_ri) (g := r) (by decide) (by decide) hy.1 hy.2 tok_X10_shown (am_os1 (s_X10_isUser hy N) (am_os1 (s_X10_checks hy N) (am_os1 (s_X10_watches hy N) (am_os1 (s_X10_ofU hy N) (am_os1 (s_X10_laysWindow hy N) (am_os1 (s_X10_seen hy N) am_os0)))))) am_ri_inv (Nat.le_of_ble_eq_true rfl) (fun At cl wk => by
    skip
    exact cl am_C0 am_c0 400 0 _ _ h hf)
theorem s_X10_shown {l : Launch} {al : Nat → Nat} {dC : Nat → ClassId} {dI : Nat → Nat → Nat} {aC : Nat → ClassId} {aV : Nat → Nat} (hy : am_Hy l al) (N : Nat) : am_CS l al dC dI aC aV 191 (c_X10_shown N) := by
  intro γ as h kk g hc0
  obtain ⟨z0, w0, e_0, hcz0⟩ := am_sa_some hc0
  obtain ⟨hz0, hc1⟩ := am_bif hcz0
  cases Nat.eq_of_beq_eq_true hz0
  obtain ⟨i1, w1, e_1, hc2⟩ := am_s1_some hc1
  obtain ⟨i2, w2, e_2, hc3⟩ := am_s1_some hc2
  obtain ⟨i3, w3, e_3, hc4⟩ := am_s1_some hc3
  obtain ⟨e_4, hc⟩ := am_st0_some hc4
  subst e_4
  subst e_3
  subst e_2
  subst e_1
  subst e_0
  obtain ⟨q, e1, e2⟩ := am_bi_some hc
  exact ⟨_, _, m_X10_shown hy N i1 i2 i3 h _ e1, e2⟩

def f_X10_cursorRow (N : Nat) (i1 : Int32) (h : am_Hp) : Option (Int32 × am_Hp) :=
  am_bi (f_X10_isUser N i1 h) (fun x2 h1 =>
  am_bi (f_X10_checks N x2 h1) (fun x4 h3 =>
  (if x4 = 0 then
    some ((0 : Int32), h3)
  else
    am_bi (f_X10_watches N i1 h3) (fun x6 h5 =>
    (if x6 = 0 then
      some ((-1 : Int32), h5)
    else
      am_bi (f_X10_laysWindow N i1 h5) (fun _ h7 =>
      (if (((h7 193 14) + (h7 193 11)) - (h7 193 27)) < 0 then
        some ((-1 : Int32), h7)
      else
        am_bi (f_X10_ofU N i1 (1 : Int32) h7) (fun x9 h8 =>
        (if x9 ≤ (((h7 193 14) + (h7 193 11)) - (h7 193 27)) then
          some ((-1 : Int32), h8)
        else
          some (((h7 193 14) + (h7 193 11)) - (h7 193 27), h8))))))))))
def c_X10_cursorRow (N : Nat) : am_Cl := fun _ as h kk => am_sa as (fun z w0 => bif Nat.beq z 193 then am_s1 w0 (fun i1 w1 => am_st0 w1 (am_bi (f_X10_cursorRow N i1 h) (fun v h => kk (am_oi v) h))) else none)
def o_X10_cursorRow (N : Nat) : am_Orc := (am_oc 175 (c_X10_isUser N) (am_oc 178 (c_X10_checks N) (am_oc 135 (c_X10_watches N) (am_oc 189 (c_X10_laysWindow N) (am_oc 131 (c_X10_ofU N) am_o0)))))
set_option maxRecDepth 100000 in
theorem tok_X10_cursorRow : am_tok 192 tX10_cursorRow := by
  unfold am_tok
  decide +kernel
set_option maxHeartbeats 4000000 in
set_option maxRecDepth 100000 in
theorem m_X10_cursorRow {l : Launch} {al : Nat → Nat} {dC : Nat → ClassId} {dI : Nat → Nat → Nat} {aC : Nat → ClassId} {aV : Nat → Nat} (hy : am_Hy l al) (N : Nat) (i1 : Int32) (h : am_Hp) (r : (Int32 × am_Hp)) (hf : f_X10_cursorRow N i1 h = some r) : am_Met l al dC dI aC aV 192 [.ref 193, .int i1] h (am_oi r.1) r.2 :=
  am_met (tab := tX10_cursorRow) (orc := o_X10_cursorRow N) (ret := am_ri) (g := r) (by decide) (by decide) hy.1 hy.2 tok_X10_cursorRow (am_os1 (s_X10_isUser hy N) (am_os1 (s_X10_checks hy N) (am_os1 (s_X10_watches hy N) (am_os1 (s_X10_laysWindow hy N) (am_os1 (s_X10_ofU hy N) am_os0))))) am_ri_inv (Nat.le_of_ble_eq_true rfl) (fun At cl wk => by
    skip
    exact cl am_C0 am_c0 400 0 _ _ h hf)
theorem s_X10_cursorRow {l : Launch} {al : Nat → Nat} {dC : Nat → ClassId} {dI : Nat → Nat → Nat} {aC : Nat → ClassId} {aV : Nat → Nat} (hy : am_Hy l al) (N : Nat) : am_CS l al dC dI aC aV 192 (c_X10_cursorRow N) := by
  intro γ as h kk g hc0
  obtain ⟨z0, w0, e_0, hcz0⟩ := am_sa_some hc0
  obtain ⟨hz0, hc1⟩ := am_bif hcz0
  cases Nat.eq_of_beq_eq_true hz0
  obtain ⟨i1, w1, e_1, hc2⟩ := am_s1_some hc1
  obtain ⟨e_2, hc⟩ := am_st0_some hc2
  subst e_2
  subst e_1
  subst e_0
  obtain ⟨q, e1, e2⟩ := am_bi_some hc
  exact ⟨_, _, m_X10_cursorRow hy N i1 h _ e1, e2⟩
