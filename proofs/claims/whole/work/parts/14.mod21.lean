def f_X10_replay (N : Nat) (i1 : Int32) (i2 : Int32) (i3 : Int32) (h : am_Hp) : Option (Int32 × am_Hp) :=
  let h1 := am_pi h 193 0 (0 : Int32)
  am_bi (f_X10_isUser N i1 h1) (fun x3 h2 =>
  (if x3 = 0 then
    some ((-1 : Int32), h2)
  else
    am_bi (f_X10_watches N i1 h2) (fun x5 h4 =>
    (if x5 = 0 then
      some ((-4 : Int32), h4)
    else
      am_bi (f_X10_ofU N i1 (3 : Int32) h4) (fun x7 h6 =>
      (if i3 < (10 : Int32) then
        some ((-2 : Int32), h6)
      else
        (if (1000 : Int32) < i3 then
          some ((-2 : Int32), h6)
        else
          am_bi (f_X10_isPosition N x7 i2 h6) (fun x9 h8 =>
          (if x9 = 0 then
            some ((-2 : Int32), h8)
          else
            am_bi (f_X10_keeps N h8) (fun _ h10 =>
            am_bi (f_X10_loses N i1 h10) (fun _ h11 =>
            am_bi (f_X10_watchesIn N i1 (3 : Int32) x7 i2 i3 h11) (fun _ h12 =>
            am_bi (f_X10_settles N h12) (fun _ h13 =>
            am_bi (f_X10_positionOf N i1 h13) (fun x15 h14 =>
            some (x15, h14)))))))))))))))
def c_X10_replay (N : Nat) : am_Cl := fun _ as h kk => am_sa as (fun z w0 => bif Nat.beq z 193 then am_s1 w0 (fun i1 w1 => am_s1 w1 (fun i2 w2 => am_s1 w2 (fun i3 w3 => am_st0 w3 (am_bi (f_X10_replay N i1 i2 i3 h) (fun v h => kk (am_oi v) h))))) else none)
def o_X10_replay (N : Nat) : am_Orc := (am_oc 175 (c_X10_isUser N) (am_oc 135 (c_X10_watches N) (am_oc 131 (c_X10_ofU N) (am_oc 176 (c_X10_isPosition N) (am_oc 209 (c_X10_keeps N) (am_oc 153 (c_X10_loses N) (am_oc 154 (c_X10_watchesIn N) (am_oc 150 (c_X10_settles N) (am_oc 147 (c_X10_positionOf N) am_o0)))))))))
set_option maxRecDepth 100000 in
theorem tok_X10_replay : am_tok 215 tX10_replay := by
  unfold am_tok
  decide +kernel
set_option maxHeartbeats 4000000 in
set_option maxRecDepth 100000 in
theorem m_X10_replay {l : Launch} {al : Nat → Nat} {dC : Nat → ClassId} {dI : Nat → Nat → Nat} {aC : Nat → ClassId} {aV : Nat → Nat} (hy : am_Hy l al) (N : Nat) (i1 : Int32) (i2 : Int32) (i3 : Int32) (h : am_Hp) (r : (Int32 × am_Hp)) (hf : f_X10_replay N i1 i2 i3 h = some r) : am_Met l al dC dI aC aV 215 [.ref 193, .int i1, .int i2, .int i3] h (am_oi r.1) r.2 :=
  am_met (tab := tX10_replay) (orc := o_X10_replay N) (ret := am_ri) (g := r) (by decide) (by decide) hy.1 hy.2 tok_X10_replay (am_os1 (s_X10_isUser hy N) (am_os1 (s_X10_watches hy N) (am_os1 (s_X10_ofU hy N) (am_os1 (s_X10_isPosition hy N) (am_os1 (s_X10_keeps hy N) (am_os1 (s_X10_loses hy N) (am_os1 (s_X10_watchesIn hy N) (am_os1 (s_X10_settles hy N) (am_os1 (s_X10_positionOf hy N) am_os0))))))))) am_ri_inv (Nat.le_of_ble_eq_true rfl) (fun At cl wk => by
    skip
    exact cl am_C0 am_c0 400 0 _ _ h hf)
theorem s_X10_replay {l : Launch} {al : Nat → Nat} {dC : Nat → ClassId} {dI : Nat → Nat → Nat} {aC : Nat → ClassId} {aV : Nat → Nat} (hy : am_Hy l al) (N : Nat) : am_CS l al dC dI aC aV 215 (c_X10_replay N) := by
  intro γ as h kk g hc0
  obtain ⟨z0, w0, e_0, hcz0⟩ := am_sa_some hc0
  obtain ⟨hz0, hc1⟩ := am_bif hcz0
  cases Nat.eq_of_beq_eq_true hz0
  obtain ⟨i1, w1, e_1, hc2⟩ := am_s1_some hc1
  obtain ⟨i2, w2, e_2, hc3⟩ := am_s1_some hc2
  obtain ⟨i3, w3, e_3, hc4⟩ := am_s1_some hc3
  obtain ⟨e_4, hc⟩ := am_st0_some hc4
  subst e_4
  subst e_3
  subst e_2
  subst e_1
  subst e_0
  obtain ⟨q, e1, e2⟩ := am_bi_some hc
  exact ⟨_, _, m_X10_replay hy N i1 i2 i3 h _ e1, e2⟩

def f_X10_lookBack (N : Nat) (i1 : Int32) (i2 : Int32) (h : am_Hp) : Option (Int32 × am_Hp) :=
  let h1 := am_pi h 193 0 (0 : Int32)
  am_bi (f_X10_isUser N i1 h1) (fun x3 h2 =>
  (if x3 = 0 then
    some ((-1 : Int32), h2)
  else
    am_bi (f_X10_watches N i1 h2) (fun x5 h4 =>
    (if x5 = 0 then
      some ((-4 : Int32), h4)
    else
      (if i2 < 0 then
        some ((-2 : Int32), h4)
      else
        (if i2 ≤ (40 : Int32) then
          am_bi (f_X10_keeps N h4) (fun _ h6 =>
          am_bi (f_X10_ofU N i1 (7 : Int32) h6) (fun x8 h7 =>
          am_bi (f_X10_setU N i1 (7 : Int32) i2 h7) (fun _ h9 =>
          am_bi (f_X10_settles N h9) (fun _ h10 =>
          some (x8, h10)))))
        else
          some ((-2 : Int32), h4)))))))
def c_X10_lookBack (N : Nat) : am_Cl := fun _ as h kk => am_sa as (fun z w0 => bif Nat.beq z 193 then am_s1 w0 (fun i1 w1 => am_s1 w1 (fun i2 w2 => am_st0 w2 (am_bi (f_X10_lookBack N i1 i2 h) (fun v h => kk (am_oi v) h)))) else none)
def o_X10_lookBack (N : Nat) : am_Orc := (am_oc 175 (c_X10_isUser N) (am_oc 135 (c_X10_watches N) (am_oc 209 (c_X10_keeps N) (am_oc 131 (c_X10_ofU N) (am_oc 132 (c_X10_setU N) (am_oc 150 (c_X10_settles N) am_o0))))))
set_option maxRecDepth 100000 in
theorem tok_X10_lookBack : am_tok 216 tX10_lookBack := by
  unfold am_tok
  decide +kernel
set_option maxHeartbeats 4000000 in
set_option maxRecDepth 100000 in
theorem m_X10_lookBack {l : Launch} {al : Nat → Nat} {dC : Nat → ClassId} {dI : Nat → Nat → Nat} {aC : Nat → ClassId} {aV : Nat → Nat} (hy : am_Hy l al) (N : Nat) (i1 : Int32) (i2 : Int32) (h : am_Hp) (r : (Int32 × am_Hp)) (hf : f_X10_lookBack N i1 i2 h = some r) : am_Met l al dC dI aC aV 216 [.ref 193, .int i1, .int i2] h (am_oi r.1) r.2 :=
  am_met (tab := tX10_lookBack) (orc := o_X10_lookBack N) (ret := am_ri) (g := r) (by decide) (by decide) hy.1 hy.2 tok_X10_lookBack (am_os1 (s_X10_isUser hy N) (am_os1 (s_X10_watches hy N) (am_os1 (s_X10_keeps hy N) (am_os1 (s_X10_ofU hy N) (am_os1 (s_X10_setU hy N) (am_os1 (s_X10_settles hy N) am_os0)))))) am_ri_inv (Nat.le_of_ble_eq_true rfl) (fun At cl wk => by
    skip
    exact cl am_C0 am_c0 400 0 _ _ h hf)
theorem s_X10_lookBack {l : Launch} {al : Nat → Nat} {dC : Nat → ClassId} {dI : Nat → Nat → Nat} {aC : Nat → ClassId} {aV : Nat → Nat} (hy : am_Hy l al) (N : Nat) : am_CS l al dC dI aC aV 216 (c_X10_lookBack N) := by
  intro γ as h kk g hc0
  obtain ⟨z0, w0, e_0, hcz0⟩ := am_sa_some hc0
  obtain ⟨hz0, hc1⟩ := am_bif hcz0
  cases Nat.eq_of_beq_eq_true hz0
  obtain ⟨i1, w1, e_1, hc2⟩ := am_s1_some hc1
  obtain ⟨i2, w2, e_2, hc3⟩ := am_s1_some hc2
  obtain ⟨e_3, hc⟩ := am_st0_some hc3
  subst e_3
  subst e_2
  subst e_1
  subst e_0
  obtain ⟨q, e1, e2⟩ := am_bi_some hc
  exact ⟨_, _, m_X10_lookBack hy N i1 i2 h _ e1, e2⟩

def f_X10_window (N : Nat) (i1 : Int32) (i2 : Int32) (i3 : Int32) (h : am_Hp) : Option (Int32 × am_Hp) :=
  let h1 := am_pi h 193 0 (0 : Int32)
  am_bi (f_X10_isUser N i1 h1) (fun x3 h2 =>
  (if x3 = 0 then
    some ((-1 : Int32), h2)
  else
    (if i2 < (2 : Int32) then
      some ((-2 : Int32), h2)
    else
      (if (16 : Int32) < i2 then
        some ((-2 : Int32), h2)
      else
        (if i3 < (1 : Int32) then
          some ((-2 : Int32), h2)
        else
          (if i3 ≤ (6 : Int32) then
            am_bi (f_X10_keeps N h2) (fun _ h4 =>
            am_bi (f_X10_ofU N i1 (0 : Int32) h4) (fun x6 h5 =>
            am_bi (f_X10_setU N i1 (0 : Int32) i2 h5) (fun _ h7 =>
            am_bi (f_X10_setU N i1 (1 : Int32) i3 h7) (fun _ h8 =>
            am_bi (f_X10_settles N h8) (fun _ h9 =>
            some (x6, h9))))))
          else
            some ((-2 : Int32), h2)))))))
def c_X10_window (N : Nat) : am_Cl := fun _ as h kk => am_sa as (fun z w0 => bif Nat.beq z 193 then am_s1 w0 (fun i1 w1 => am_s1 w1 (fun i2 w2 => am_s1 w2 (fun i3 w3 => am_st0 w3 (am_bi (f_X10_window N i1 i2 i3 h) (fun v h => kk (am_oi v) h))))) else none)
def o_X10_window (N : Nat) : am_Orc := (am_oc 175 (c_X10_isUser N) (am_oc 209 (c_X10_keeps N) (am_oc 131 (c_X10_ofU N) (am_oc 132 (c_X10_setU N) (am_oc 150 (c_X10_settles N) am_o0)))))
set_option maxRecDepth 100000 in
theorem tok_X10_window : am_tok 217 tX10_window := by
  unfold am_tok
  decide +kernel
set_option maxHeartbeats 4000000 in
set_option maxRecDepth 100000 in
theorem m_X10_window {l : Launch} {al : Nat → Nat} {dC : Nat → ClassId} {dI : Nat → Nat → Nat} {aC : Nat → ClassId} {aV : Nat → Nat} (hy : am_Hy l al) (N : Nat) (i1 : Int32) (i2 : Int32) (i3 : Int32) (h : am_Hp) (r : (Int32 × am_Hp)) (hf : f_X10_window N i1 i2 i3 h = some r) : am_Met l al dC dI aC aV 217 [.ref 193, .int i1, .int i2, .int i3] h (am_oi r.1) r.2 :=
  am_met (tab := tX10_window) (orc := o_X10_window N) (ret := am_ri) (g := r) (by decide) (by decide) hy.1 hy.2 tok_X10_window (am_os1 (s_X10_isUser hy N) (am_os1 (s_X10_keeps hy N) (am_os1 (s_X10_ofU hy N) (am_os1 (s_X10_setU hy N) (am_os1 (s_X10_settles hy N) am_os0))))) am_ri_inv (Nat.le_of_ble_eq_true rfl) (fun At cl wk => by
    skip
    exact cl am_C0 am_c0 400 0 _ _ h hf)
theorem s_X10_window {l : Launch} {al : Nat → Nat} {dC : Nat → ClassId} {dI : Nat → Nat → Nat} {aC : Nat → ClassId} {aV : Nat → Nat} (hy : am_Hy l al) (N : Nat) : am_CS l al dC dI aC aV 217 (c_X10_window N) := by
  intro γ as h kk g hc0
  obtain ⟨z0, w0, e_0, hcz0⟩ := am_sa_some hc0
  obtain ⟨hz0, hc1⟩ := am_bif hcz0
  cases Nat.eq_of_beq_eq_true hz0
  obtain ⟨i1, w1, e_1, hc2⟩ := am_s1_some hc1
  obtain ⟨i2, w2, e_2, hc3⟩ := am_s1_some hc2
  obtain ⟨i3, w3, e_3, hc4⟩ := am_s1_some hc3
  obtain ⟨e_4, hc⟩ := am_st0_some hc4
  subst e_4
  subst e_3
  subst e_2
  subst e_1
  subst e_0
  obtain ⟨q, e1, e2⟩ := am_bi_some hc
  exact ⟨_, _, m_X10_window hy N i1 i2 i3 h _ e1, e2⟩

def l_X10_symbolsIn_24 (N : Nat) : Nat → Int32 → Int32 → Int32 → am_Hp → Option (Int32 × am_Hp)
  | 0, _, _, _, _ => none
  | n + 1, i0, i1, i2, h =>
    (if (6 : Int32) ≤ i2 then
      (if i0 ≤ 0 then
        some ((0 : Int32), h)
      else
        (if (i0 >>> ((30 : Int32) &&& 31)) = 0 then
          some (i1, h)
        else
          some ((0 : Int32), h)))
    else
      am_bi (f_X10_letterOf N i0 i2 h) (fun x2 h1 =>
      (if x2 ≤ 0 then
        l_X10_symbolsIn_24 N n i0 i1 (i2 + (1 : Int32)) h1
      else
        some ((0 : Int32), h1))))
def l_X10_symbolsIn_2 (N : Nat) : Nat → Int32 → Int32 → am_Hp → Option (Int32 × am_Hp)
  | 0, _, _, _ => none
  | n + 1, i0, i1, h =>
    (if (6 : Int32) ≤ i1 then
      l_X10_symbolsIn_24 N N i0 i1 i1 h
    else
      am_bi (f_X10_letterOf N i0 i1 h) (fun x2 h1 =>
      (if x2 ≤ 0 then
        l_X10_symbolsIn_24 N N i0 i1 i1 h1
      else
        l_X10_symbolsIn_2 N n i0 (i1 + (1 : Int32)) h1)))
def f_X10_symbolsIn (N : Nat) (i0 : Int32) (h : am_Hp) : Option (Int32 × am_Hp) :=
  l_X10_symbolsIn_2 N N i0 (0 : Int32) h
def c_X10_symbolsIn (N : Nat) : am_Cl := fun _ as h kk => am_s1 as (fun i0 w0 => am_st0 w0 (am_bi (f_X10_symbolsIn N i0 h) (fun v h => kk (am_oi v) h)))
def o_X10_symbolsIn (N : Nat) : am_Orc := (am_oc 201 (c_X10_letterOf N) am_o0)
set_option maxRecDepth 100000 in
theorem tok_X10_symbolsIn : am_tok 218 tX10_symbolsIn := by
  unfold am_tok
  decide +kernel
set_option maxHeartbeats 4000000 in
set_option maxRecDepth 100000 in
theorem m_X10_symbolsIn {l : Launch} {al : Nat → Nat} {dC : Nat → ClassId} {dI : Nat → Nat → Nat} {aC : Nat → ClassId} {aV : Nat → Nat} (hy : am_Hy l al) (N : Nat) (i0 : Int32) (h : am_Hp) (r : (Int32 × am_Hp)) (hf : f_X10_symbolsIn N i0 h = some r) : am_Met l al dC dI aC aV 218 [.int i0] h (am_oi r.1) r.2 :=
  am_met (tab := tX10_symbolsIn) (orc := o_X10_symbolsIn N) (ret := am_ri) (g := r) (by decide) (by decide) hy.1 hy.2 tok_X10_symbolsIn (am_os1 (s_X10_letterOf hy N) am_os0) am_ri_inv (Nat.le_of_ble_eq_true rfl) (fun At cl wk => by
    have A24 : ∀ n : Nat, ∀ i0 : Int32, ∀ i1 : Int32, ∀ i2 : Int32, ∀ h, l_X10_symbolsIn_24 N n i0 i1 i2 h = some r → At 24 [(0, .int i0), (1, .int i1), (2, .int i2)] [] h := by
      intro n
      induction n with
      | zero => intro i0 i1 i2 h hr; cases hr
      | succ n ih =>
        intro i0 i1 i2 h hr
        exact cl (am_C1 24 (fun ρ st h => am_ldi ρ 0 (fun i0 => am_ldi ρ 1 (fun i1 => am_ldi ρ 2 (fun i2 => am_st0 st (l_X10_symbolsIn_24 N n i0 i1 i2 h))))) am_C0) (am_c1 (fun ρ st h hc => by
        obtain ⟨i0, m_i0, hc⟩ := am_ldi_some hc
        obtain ⟨i1, m_i1, hc⟩ := am_ldi_some hc
        obtain ⟨i2, m_i2, hc⟩ := am_ldi_some hc
        obtain ⟨rfl, hc⟩ := am_st0_some hc
        exact wk 24 ρ [(0, .int i0), (1, .int i1), (2, .int i2)] _ h (am_m1 m_i0 (am_m1 m_i1 (am_m1 m_i2 am_m0))) (ih i0 i1 i2 h hc)) am_c0) 400 24 _ _ h hr
    have A2 : ∀ n : Nat, ∀ i0 : Int32, ∀ i1 : Int32, ∀ h, l_X10_symbolsIn_2 N n i0 i1 h = some r → At 2 [(0, .int i0), (1, .int i1)] [] h := by
      intro n
      induction n with
      | zero => intro i0 i1 h hr; cases hr
      | succ n ih =>
        intro i0 i1 h hr
        exact cl (am_C1 2 (fun ρ st h => am_ldi ρ 0 (fun i0 => am_ldi ρ 1 (fun i1 => am_st0 st (l_X10_symbolsIn_2 N n i0 i1 h)))) (am_C1 24 (fun ρ st h => am_ldi ρ 0 (fun i0 => am_ldi ρ 1 (fun i1 => am_ldi ρ 2 (fun i2 => am_st0 st (l_X10_symbolsIn_24 N N i0 i1 i2 h))))) am_C0)) (am_c1 (fun ρ st h hc => by
        obtain ⟨i0, m_i0, hc⟩ := am_ldi_some hc
        obtain ⟨i1, m_i1, hc⟩ := am_ldi_some hc
        obtain ⟨rfl, hc⟩ := am_st0_some hc
        exact wk 2 ρ [(0, .int i0), (1, .int i1)] _ h (am_m1 m_i0 (am_m1 m_i1 am_m0)) (ih i0 i1 h hc)) (am_c1 (fun ρ st h hc => by
        obtain ⟨i0, m_i0, hc⟩ := am_ldi_some hc
        obtain ⟨i1, m_i1, hc⟩ := am_ldi_some hc
        obtain ⟨i2, m_i2, hc⟩ := am_ldi_some hc
        obtain ⟨rfl, hc⟩ := am_st0_some hc
        exact wk 24 ρ [(0, .int i0), (1, .int i1), (2, .int i2)] _ h (am_m1 m_i0 (am_m1 m_i1 (am_m1 m_i2 am_m0))) (A24 N i0 i1 i2 h hc)) am_c0)) 400 2 _ _ h hr
    exact cl (am_C1 2 (fun ρ st h => am_ldi ρ 0 (fun i0 => am_ldi ρ 1 (fun i1 => am_st0 st (l_X10_symbolsIn_2 N N i0 i1 h)))) am_C0) (am_c1 (fun ρ st h hc => by
        obtain ⟨i0, m_i0, hc⟩ := am_ldi_some hc
        obtain ⟨i1, m_i1, hc⟩ := am_ldi_some hc
        obtain ⟨rfl, hc⟩ := am_st0_some hc
        exact wk 2 ρ [(0, .int i0), (1, .int i1)] _ h (am_m1 m_i0 (am_m1 m_i1 am_m0)) (A2 N i0 i1 h hc)) am_c0) 400 0 _ _ h hf)
theorem s_X10_symbolsIn {l : Launch} {al : Nat → Nat} {dC : Nat → ClassId} {dI : Nat → Nat → Nat} {aC : Nat → ClassId} {aV : Nat → Nat} (hy : am_Hy l al) (N : Nat) : am_CS l al dC dI aC aV 218 (c_X10_symbolsIn N) := by
  intro γ as h kk g hc0
  obtain ⟨i0, w0, e_0, hc1⟩ := am_s1_some hc0
  obtain ⟨e_1, hc⟩ := am_st0_some hc1
  subst e_1
  subst e_0
  obtain ⟨q, e1, e2⟩ := am_bi_some hc
  exact ⟨_, _, m_X10_symbolsIn hy N i0 h _ e1, e2⟩
