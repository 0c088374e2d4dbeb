def f_X4_put (N : Nat) (a0 : Nat) (i1 : Int32) (h : am_Hp) : Option (Unit × am_Hp) :=
  bif am_isO a0 4 then (if (h a0 6) < 0 then
    bif am_isO a0 4 then bif am_isO a0 4 then (let h1 := am_pi h a0 6 ((h a0 6) + (1 : Int32))
    some ((), h1)) else none else none
  else
    bif am_isO a0 4 then (if (16 : Int32) ≤ (h a0 6) then
      bif am_isO a0 4 then bif am_isO a0 4 then (let h2 := am_pi h a0 6 ((h a0 6) + (1 : Int32))
      some ((), h2)) else none else none
    else
      bif am_isO a0 4 then (am_G a0 0).bind (fun b3 => bif am_isO a0 4 then am_bi (f_X4_cursorLine N a0 h) (fun x5 h4 =>
      bif am_isO a0 4 then am_bi (f_X4_startOf N a0 x5 h4) (fun x7 h6 =>
      bif am_isO a0 4 then bif am_isI b3 && am_in (x7 + (h6 a0 6)) (am_len b3) then (let h8 := am_pi h6 b3 ((x7 + (h6 a0 6)).toNatClampNeg) i1
      bif am_isO a0 4 then bif am_isO a0 4 then (let h9 := am_pi h8 a0 6 ((h8 a0 6) + (1 : Int32))
      some ((), h9)) else none else none) else none else none) else none) else none) else none) else none) else none
def c_X4_put (N : Nat) : am_Cl := fun _ as h kk => am_sa as (fun a0 w0 => am_s1 w0 (fun i1 w1 => am_st0 w1 (am_bi (f_X4_put N a0 i1 h) (fun v h => kk (am_ov v) h))))
def o_X4_put (N : Nat) : am_Orc := (am_oc 23 (c_X4_cursorLine N) (am_oc 35 (c_X4_startOf N) am_o0))
set_option maxRecDepth 100000 in
theorem tok_X4_put : am_tok 33 tX4_put := by
  unfold am_tok
  decide +kernel
set_option maxHeartbeats 4000000 in
set_option maxRecDepth 100000 in
theorem m_X4_put {l : Launch} {al : Nat → Nat} {dC : Nat → ClassId} {dI : Nat → Nat → Nat} {aC : Nat → ClassId} {aV : Nat → Nat} (hy : am_Hy l al) (N : Nat) (a0 : Nat) (i1 : Int32) (h : am_Hp) (r : (Unit × am_Hp)) (hf : f_X4_put N a0 i1 h = some r) : am_Met l al dC dI aC aV 33 [.ref a0, .int i1] h (am_ov r.1) r.2 :=
  am_met (tab := tX4_put) (orc := o_X4_put N) (ret := am_rv) (g := r) (by decide) (by decide) hy.1 hy.2 tok_X4_put (am_os1 (s_X4_cursorLine hy N) (am_os1 (s_X4_startOf hy N) am_os0)) am_rv_inv (Nat.le_of_ble_eq_true rfl) (fun At cl wk => by
    skip
    exact cl am_C0 am_c0 400 0 _ _ h hf)
theorem s_X4_put {l : Launch} {al : Nat → Nat} {dC : Nat → ClassId} {dI : Nat → Nat → Nat} {aC : Nat → ClassId} {aV : Nat → Nat} (hy : am_Hy l al) (N : Nat) : am_CS l al dC dI aC aV 33 (c_X4_put N) := by
  intro γ as h kk g hc0
  obtain ⟨a0, w0, e_0, hc1⟩ := am_sa_some hc0
  obtain ⟨i1, w1, e_1, hc2⟩ := am_s1_some hc1
  obtain ⟨e_2, hc⟩ := am_st0_some hc2
  subst e_2
  subst e_1
  subst e_0
  obtain ⟨q, e1, e2⟩ := am_bi_some hc
  exact ⟨_, _, m_X4_put hy N a0 i1 h _ e1, e2⟩

def f_X4_play (N : Nat) (a0 : Nat) (a1 : Nat) (i2 : Int32) (h : am_Hp) : Option (Unit × am_Hp) :=
  bif am_isO a1 3 then am_bi (f_X3_number N a1 (1 : Int32) i2 h) (fun x2 h1 =>
  bif am_isO a1 3 then am_bi (f_X3_number N a1 (0 : Int32) i2 h1) (fun x4 h3 =>
  (if x4 = (1 : Int32) then
    bif am_isO a1 3 then am_bi (f_X3_number N a1 (2 : Int32) i2 h3) (fun x16 h15 =>
    bif am_isO a0 4 then am_bi (f_X4_resize N a0 x2 x16 h15) (fun _ h17 =>
    some ((), h17)) else none) else none
  else
    (if x2.toInt = 28 then
      bif am_isO a0 4 then am_bi (f_X4_goDown N a0 h3) (fun _ h13 =>
      bif am_isO a0 4 then bif am_isO a0 4 then (if (h13 a0 6) < (h13 a0 3) then
        some ((), h13)
      else
        bif am_isO a0 4 then am_bi (f_X4_goDown N a0 h13) (fun _ h14 =>
        some ((), h14)) else none) else none else none) else none
    else if x2.toInt = 29 then
      bif am_isO a0 4 then (let h11 := am_pi h3 a0 6 (0 : Int32)
      bif am_isO a0 4 then bif am_isO a0 4 then (if (h11 a0 6) < (h11 a0 3) then
        some ((), h11)
      else
        bif am_isO a0 4 then am_bi (f_X4_goDown N a0 h11) (fun _ h12 =>
        some ((), h12)) else none) else none else none) else none
    else if x2.toInt = 30 then
      bif am_isO a0 4 then bif am_isO a0 4 then (let h9 := am_pi h3 a0 6 (if ((h3 a0 6) - (1 : Int32)) < (0 : Int32) then (0 : Int32) else (h3 a0 6) - (1 : Int32))
      bif am_isO a0 4 then bif am_isO a0 4 then (if (h9 a0 6) < (h9 a0 3) then
        some ((), h9)
      else
        bif am_isO a0 4 then am_bi (f_X4_goDown N a0 h9) (fun _ h10 =>
        some ((), h10)) else none) else none else none) else none else none
    else if x2.toInt = 31 then
      bif am_isO a0 4 then am_bi (f_X4_clear N a0 h3) (fun _ h7 =>
      bif am_isO a0 4 then bif am_isO a0 4 then (if (h7 a0 6) < (h7 a0 3) then
        some ((), h7)
      else
        bif am_isO a0 4 then am_bi (f_X4_goDown N a0 h7) (fun _ h8 =>
        some ((), h8)) else none) else none else none) else none
    else bif am_isO a0 4 then am_bi (f_X4_put N a0 x2 h3) (fun _ h5 =>
      bif am_isO a0 4 then bif am_isO a0 4 then (if (h5 a0 6) < (h5 a0 3) then
        some ((), h5)
      else
        bif am_isO a0 4 then am_bi (f_X4_goDown N a0 h5) (fun _ h6 =>
        some ((), h6)) else none) else none else none) else none))) else none) else none
def c_X4_play (N : Nat) : am_Cl := fun _ as h kk => am_sa as (fun a0 w0 => am_sa w0 (fun a1 w1 => am_s1 w1 (fun i2 w2 => am_st0 w2 (am_bi (f_X4_play N a0 a1 i2 h) (fun v h => kk (am_ov v) h)))))
def o_X4_play (N : Nat) : am_Orc := (am_oc 16 (c_X3_number N) (am_oc 28 (c_X4_resize N) (am_oc 29 (c_X4_goDown N) (am_oc 30 (c_X4_clear N) (am_oc 33 (c_X4_put N) am_o0)))))
set_option maxRecDepth 100000 in
theorem tok_X4_play : am_tok 27 tX4_play := by
  unfold am_tok
  decide +kernel
set_option maxHeartbeats 4000000 in
set_option maxRecDepth 100000 in
theorem m_X4_play {l : Launch} {al : Nat → Nat} {dC : Nat → ClassId} {dI : Nat → Nat → Nat} {aC : Nat → ClassId} {aV : Nat → Nat} (hy : am_Hy l al) (N : Nat) (a0 : Nat) (a1 : Nat) (i2 : Int32) (h : am_Hp) (r : (Unit × am_Hp)) (hf : f_X4_play N a0 a1 i2 h = some r) : am_Met l al dC dI aC aV 27 [.ref a0, .ref a1, .int i2] h (am_ov r.1) r.2 :=
  am_met (tab := tX4_play) (orc := o_X4_play N) (ret := am_rv) (g := r) (by decide) (by decide) hy.1 hy.2 tok_X4_play (am_os1 (s_X3_number hy N) (am_os1 (s_X4_resize hy N) (am_os1 (s_X4_goDown hy N) (am_os1 (s_X4_clear hy N) (am_os1 (s_X4_put hy N) am_os0))))) am_rv_inv (Nat.le_of_ble_eq_true rfl) (fun At cl wk => by
    skip
    exact cl am_C0 am_c0 400 0 _ _ h hf)
theorem s_X4_play {l : Launch} {al : Nat → Nat} {dC : Nat → ClassId} {dI : Nat → Nat → Nat} {aC : Nat → ClassId} {aV : Nat → Nat} (hy : am_Hy l al) (N : Nat) : am_CS l al dC dI aC aV 27 (c_X4_play N) := by
  intro γ as h kk g hc0
  obtain ⟨a0, w0, e_0, hc1⟩ := am_sa_some hc0
  obtain ⟨a1, w1, e_1, hc2⟩ := am_sa_some hc1
  obtain ⟨i2, w2, e_2, hc3⟩ := am_s1_some hc2
  obtain ⟨e_3, hc⟩ := am_st0_some hc3
  subst e_3
  subst e_2
  subst e_1
  subst e_0
  obtain ⟨q, e1, e2⟩ := am_bi_some hc
  exact ⟨_, _, m_X4_play hy N a0 a1 i2 h _ e1, e2⟩

def f_X5_watches (N : Nat) (a0 : Nat) (i1 : Int32) (i2 : Int32) (h : am_Hp) : Option (Int32 × am_Hp) :=
  bif am_isO a0 5 then (if (h a0 2) = i2 then
    bif am_isO a0 5 then (if (h a0 3) = i1 then
      if (1 : Int32) &&& 1 = (1 : Int32) then some ((1 : Int32), h) else none
    else
      if (0 : Int32) &&& 1 = (0 : Int32) then some ((0 : Int32), h) else none) else none
  else
    if (0 : Int32) &&& 1 = (0 : Int32) then some ((0 : Int32), h) else none) else none
def c_X5_watches (N : Nat) : am_Cl := fun _ as h kk => am_sa as (fun a0 w0 => am_s1 w0 (fun i1 w1 => am_s1 w1 (fun i2 w2 => am_st0 w2 (am_bi (f_X5_watches N a0 i1 i2 h) (fun v h => kk (am_oi v) h)))))
def o_X5_watches (N : Nat) : am_Orc := am_o0
set_option maxRecDepth 100000 in
theorem tok_X5_watches : am_tok 36 tX5_watches := by
  unfold am_tok
  decide +kernel
set_option maxHeartbeats 4000000 in
set_option maxRecDepth 100000 in
theorem m_X5_watches {l : Launch} {al : Nat → Nat} {dC : Nat → ClassId} {dI : Nat → Nat → Nat} {aC : Nat → ClassId} {aV : Nat → Nat} (hy : am_Hy l al) (N : Nat) (a0 : Nat) (i1 : Int32) (i2 : Int32) (h : am_Hp) (r : (Int32 × am_Hp)) (hf : f_X5_watches N a0 i1 i2 h = some r) : am_Met l al dC dI aC aV 36 [.ref a0, .int i1, .int i2] h (am_oi r.1) r.2 :=
  am_met (tab := tX5_watches) (orc := o_X5_watches N) (ret := am_ri) (g := r) (by decide) (by decide) hy.1 hy.2 tok_X5_watches am_os0 am_ri_inv (Nat.le_of_ble_eq_true rfl) (fun At cl wk => by
    skip
    exact cl am_C0 am_c0 400 0 _ _ h hf)
theorem s_X5_watches {l : Launch} {al : Nat → Nat} {dC : Nat → ClassId} {dI : Nat → Nat → Nat} {aC : Nat → ClassId} {aV : Nat → Nat} (hy : am_Hy l al) (N : Nat) : am_CS l al dC dI aC aV 36 (c_X5_watches N) := by
  intro γ as h kk g hc0
  obtain ⟨a0, w0, e_0, hc1⟩ := am_sa_some hc0
  obtain ⟨i1, w1, e_1, hc2⟩ := am_s1_some hc1
  obtain ⟨i2, w2, e_2, hc3⟩ := am_s1_some hc2
  obtain ⟨e_3, hc⟩ := am_st0_some hc3
  subst e_3
  subst e_2
  subst e_1
  subst e_0
  obtain ⟨q, e1, e2⟩ := am_bi_some hc
  exact ⟨_, _, m_X5_watches hy N a0 i1 i2 h _ e1, e2⟩

def f_X5_windowSize (N : Nat) (a0 : Nat) (i1 : Int32) (h : am_Hp) : Option (Int32 × am_Hp) :=
  (if i1 = 0 then
    bif am_isO a0 5 then some (h a0 0, h) else none
  else
    bif am_isO a0 5 then some (h a0 1, h) else none)
def c_X5_windowSize (N : Nat) : am_Cl := fun _ as h kk => am_sa as (fun a0 w0 => am_s1 w0 (fun i1 w1 => am_st0 w1 (am_bi (f_X5_windowSize N a0 i1 h) (fun v h => kk (am_oi v) h))))
def o_X5_windowSize (N : Nat) : am_Orc := am_o0
set_option maxRecDepth 100000 in
theorem tok_X5_windowSize : am_tok 37 tX5_windowSize := by
  unfold am_tok
  decide +kernel
set_option maxHeartbeats 4000000 in
set_option maxRecDepth 100000 in
theorem m_X5_windowSize {l : Launch} {al : Nat → Nat} {dC : Nat → ClassId} {dI : Nat → Nat → Nat} {aC : Nat → ClassId} {aV : Nat → Nat} (hy : am_Hy l al) (N : Nat) (a0 : Nat) (i1 : Int32) (h : am_Hp) (r : (Int32 × am_Hp)) (hf : f_X5_windowSize N a0 i1 h = some r) : am_Met l al dC dI aC aV 37 [.ref a0, .int i1] h (am_oi r.1) r.2 :=
  am_met (tab := tX5_windowSize) (orc := o_X5_windowSize N) (ret := am_ri) (g := r) (by decide) (by decide) hy.1 hy.2 tok_X5_windowSize am_os0 am_ri_inv (Nat.le_of_ble_eq_true rfl) (fun At cl wk => by
    skip
    exact cl am_C0 am_c0 400 0 _ _ h hf)
theorem s_X5_windowSize {l : Launch} {al : Nat → Nat} {dC : Nat → ClassId} {dI : Nat → Nat → Nat} {aC : Nat → ClassId} {aV : Nat → Nat} (hy : am_Hy l al) (N : Nat) : am_CS l al dC dI aC aV 37 (c_X5_windowSize N) := by
  intro γ as h kk g hc0
  obtain ⟨a0, w0, e_0, hc1⟩ := am_sa_some hc0
  obtain ⟨i1, w1, e_1, hc2⟩ := am_s1_some hc1
  obtain ⟨e_2, hc⟩ := am_st0_some hc2
  subst e_2
  subst e_1
  subst e_0
  obtain ⟨q, e1, e2⟩ := am_bi_some hc
  exact ⟨_, _, m_X5_windowSize hy N a0 i1 h _ e1, e2⟩

def f_X5_restart (N : Nat) (a0 : Nat) (i1 : Int32) (i2 : Int32) (h : am_Hp) : Option (Unit × am_Hp) :=
  bif am_isO a0 5 then (let h1 := am_pi h a0 0 i1
  bif am_isO a0 5 then (let h2 := am_pi h1 a0 1 i2
  bif am_isO a0 5 then (let h3 := am_pi h2 a0 2 (0 : Int32)
  bif am_isO a0 5 then (let h4 := am_pi h3 a0 3 (0 : Int32)
  bif am_isO a0 5 then (let h5 := am_pi h4 a0 4 (0 : Int32)
  bif am_isO a0 5 then (let h6 := am_pi h5 a0 5 (0 : Int32)
  bif am_isO a0 5 then (let h7 := am_pi h6 a0 6 (0 : Int32)
  bif am_isO a0 5 then (let h8 := am_pi h7 a0 7 (0 : Int32)
  some ((), h8)) else none) else none) else none) else none) else none) else none) else none) else none
def c_X5_restart (N : Nat) : am_Cl := fun _ as h kk => am_sa as (fun a0 w0 => am_s1 w0 (fun i1 w1 => am_s1 w1 (fun i2 w2 => am_st0 w2 (am_bi (f_X5_restart N a0 i1 i2 h) (fun v h => kk (am_ov v) h)))))
def o_X5_restart (N : Nat) : am_Orc := am_o0
set_option maxRecDepth 100000 in
theorem tok_X5_restart : am_tok 38 tX5_restart := by
  unfold am_tok
  decide +kernel
set_option maxHeartbeats 4000000 in
set_option maxRecDepth 100000 in
theorem m_X5_restart {l : Launch} {al : Nat → Nat} {dC : Nat → ClassId} {dI : Nat → Nat → Nat} {aC : Nat → ClassId} {aV : Nat → Nat} (hy : am_Hy l al) (N : Nat) (a0 : Nat) (i1 : Int32) (i2 : Int32) (h : am_Hp) (r : (Unit × am_Hp)) (hf : f_X5_restart N a0 i1 i2 h = some r) : am_Met l al dC dI aC aV 38 [.ref a0, .int i1, .int i2] h (am_ov r.1) r.2 :=
  am_met (tab := tX5_restart) (orc := o_X5_restart N) (ret := am_rv) (g := r) (by decide) (by decide) hy.1 hy.2 tok_X5_restart am_os0 am_rv_inv (Nat.le_of_ble_eq_true rfl) (fun At cl wk => by
    skip
    exact cl am_C0 am_c0 400 0 _ _ h hf)
theorem s_X5_restart {l : Launch} {al : Nat → Nat} {dC : Nat → ClassId} {dI : Nat → Nat → Nat} {aC : Nat → ClassId} {aV : Nat → Nat} (hy : am_Hy l al) (N : Nat) : am_CS l al dC dI aC aV 38 (c_X5_restart N) := by
  intro γ as h kk g hc0
  obtain ⟨a0, w0, e_0, hc1⟩ := am_sa_some hc0
  obtain ⟨i1, w1, e_1, hc2⟩ := am_s1_some hc1
  obtain ⟨i2, w2, e_2, hc3⟩ := am_s1_some hc2
  obtain ⟨e_3, hc⟩ := am_st0_some hc3
  subst e_3
  subst e_2
  subst e_1
  subst e_0
  obtain ⟨q, e1, e2⟩ := am_bi_some hc
  exact ⟨_, _, m_X5_restart hy N a0 i1 i2 h _ e1, e2⟩

def f_X8_has (N : Nat) (a0 : Nat) (i1 : Int32) (h : am_Hp) : Option (Int32 × am_Hp) :=
  (if i1 < 0 then
    if (0 : Int32) &&& 1 = (0 : Int32) then some ((0 : Int32), h) else none
  else
    bif am_isO a0 8 then (if (h a0 4) ≤ i1 then
      if (0 : Int32) &&& 1 = (0 : Int32) then some ((0 : Int32), h) else none
    else
      bif am_isO a0 8 then (am_G a0 1).bind (fun b1 => bif am_isI b1 || am_isA b1 || am_isF b1 then (if (Int32.ofNat (am_len b1)) ≤ i1 then
        if (0 : Int32) &&& 1 = (0 : Int32) then some ((0 : Int32), h) else none
      else
        if (1 : Int32) &&& 1 = (1 : Int32) then some ((1 : Int32), h) else none) else none) else none) else none)
def c_X8_has (N : Nat) : am_Cl := fun _ as h kk => am_sa as (fun a0 w0 => am_s1 w0 (fun i1 w1 => am_st0 w1 (am_bi (f_X8_has N a0 i1 h) (fun v h => kk (am_oi v) h))))
def o_X8_has (N : Nat) : am_Orc := am_o0
set_option maxRecDepth 100000 in
theorem tok_X8_has : am_tok 51 tX8_has := by
  unfold am_tok
  decide +kernel
set_option maxHeartbeats 4000000 in
set_option maxRecDepth 100000 in
theorem m_X8_has {l : Launch} {al : Nat → Nat} {dC : Nat → ClassId} {dI : Nat → Nat → Nat} {aC : Nat → ClassId} {aV : Nat → Nat} (hy : am_Hy l al) (N : Nat) (a0 : Nat) (i1 : Int32) (h : am_Hp) (r : (Int32 × am_Hp)) (hf : f_X8_has N a0 i1 h = some r) : am_Met l al dC dI aC aV 51 [.ref a0, .int i1] h (am_oi r.1) r.2 :=
  am_met (tab := tX8_has) (orc := o_X8_has N) (ret := am_ri) (g := r) (by decide) (by decide) hy.1 hy.2 tok_X8_has am_os0 am_ri_inv (Nat.le_of_ble_eq_true rfl) (fun At cl wk => by
    skip
    exact cl am_C0 am_c0 400 0 _ _ h hf)
theorem s_X8_has {l : Launch} {al : Nat → Nat} {dC : Nat → ClassId} {dI : Nat → Nat → Nat} {aC : Nat → ClassId} {aV : Nat → Nat} (hy : am_Hy l al) (N : Nat) : am_CS l al dC dI aC aV 51 (c_X8_has N) := by
  intro γ as h kk g hc0
  obtain ⟨a0, w0, e_0, hc1⟩ := am_sa_some hc0
  obtain ⟨i1, w1, e_1, hc2⟩ := am_s1_some hc1
  obtain ⟨e_2, hc⟩ := am_st0_some hc2
  subst e_2
  subst e_1
  subst e_0
  obtain ⟨q, e1, e2⟩ := am_bi_some hc
  exact ⟨_, _, m_X8_has hy N a0 i1 h _ e1, e2⟩

def f_X8_sizeOf (N : Nat) (a0 : Nat) (i1 : Int32) (i2 : Int32) (h : am_Hp) : Option (Int32 × am_Hp) :=
  bif am_isO a0 8 then am_bi (f_X8_has N a0 i1 h) (fun x2 h1 =>
  (if x2 = 0 then
    some ((0 : Int32), h1)
  else
    (if i2 = 0 then
      bif am_isO a0 8 then (am_G a0 2).bind (fun b3 => bif am_in i1 (am_len b3) then (bif am_isI b3 then some (h1 b3 i1.toNatClampNeg, h1) else bif am_isF b3 then some (am_sx b3 i1.toNatClampNeg, h1) else none) else none) else none
    else
      bif am_isO a0 8 then (am_G a0 3).bind (fun b4 => bif am_in i1 (am_len b4) then (bif am_isI b4 then some (h1 b4 i1.toNatClampNeg, h1) else bif am_isF b4 then some (am_sx b4 i1.toNatClampNeg, h1) else none) else none) else none))) else none
def c_X8_sizeOf (N : Nat) : am_Cl := fun _ as h kk => am_sa as (fun a0 w0 => am_s1 w0 (fun i1 w1 => am_s1 w1 (fun i2 w2 => am_st0 w2 (am_bi (f_X8_sizeOf N a0 i1 i2 h) (fun v h => kk (am_oi v) h)))))
def o_X8_sizeOf (N : Nat) : am_Orc := (am_oc 51 (c_X8_has N) am_o0)
set_option maxRecDepth 100000 in
theorem tok_X8_sizeOf : am_tok 54 tX8_sizeOf := by
  unfold am_tok
  decide +kernel
set_option maxHeartbeats 4000000 in
set_option maxRecDepth 100000 in
theorem m_X8_sizeOf {l : Launch} {al : Nat → Nat} {dC : Nat → ClassId} {dI : Nat → Nat → Nat} {aC : Nat → ClassId} {aV : Nat → Nat} (hy : am_Hy l al) (N : Nat) (a0 : Nat) (i1 : Int32) (i2 : Int32) (h : am_Hp) (r : (Int32 × am_Hp)) (hf : f_X8_sizeOf N a0 i1 i2 h = some r) : am_Met l al dC dI aC aV 54 [.ref a0, .int i1, .int i2] h (am_oi r.1) r.2 :=
  am_met (tab := tX8_sizeOf) (orc := o_X8_sizeOf N) (ret := am_ri) (g := r) (by decide) (by decide) hy.1 hy.2 tok_X8_sizeOf (am_os1 (s_X8_has hy N) am_os0) am_ri_inv (Nat.le_of_ble_eq_true rfl) (fun At cl wk => by
    skip
    exact cl am_C0 am_c0 400 0 _ _ h hf)
theorem s_X8_sizeOf {l : Launch} {al : Nat → Nat} {dC : Nat → ClassId} {dI : Nat → Nat → Nat} {aC : Nat → ClassId} {aV : Nat → Nat} (hy : am_Hy l al) (N : Nat) : am_CS l al dC dI aC aV 54 (c_X8_sizeOf N) := by
  intro γ as h kk g hc0
  obtain ⟨a0, w0, e_0, hc1⟩ := am_sa_some hc0
  obtain ⟨i1, w1, e_1, hc2⟩ := am_s1_some hc1
  obtain ⟨i2, w2, e_2, hc3⟩ := am_s1_some hc2
  obtain ⟨e_3, hc⟩ := am_st0_some hc3
  subst e_3
  subst e_2
  subst e_1
  subst e_0
  obtain ⟨q, e1, e2⟩ := am_bi_some hc
  exact ⟨_, _, m_X8_sizeOf hy N a0 i1 i2 h _ e1, e2⟩
