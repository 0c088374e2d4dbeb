def f_X3_putTyped (N : Nat) (a0 : Nat) (i1 : Int32) (i2 : Int32) (i3 : Int32) (i4 : Int32) (h : am_Hp) : Option (Unit × am_Hp) :=
  bif am_isO a0 3 then am_bi (f_X3_put N a0 i1 (0 : Int32) i2 (0 : Int32) h) (fun _ h1 =>
  bif am_isO a0 3 then am_bi (f_X3_putOrigin N a0 i1 i3 i4 h1) (fun _ h2 =>
  some ((), h2)) else none) else none
def c_X3_putTyped (N : Nat) : am_Cl := fun _ as h kk => am_sa as (fun a0 w0 => am_s1 w0 (fun i1 w1 => am_s1 w1 (fun i2 w2 => am_s1 w2 (fun i3 w3 => am_s1 w3 (fun i4 w4 => am_st0 w4 (am_bi (f_X3_putTyped N a0 i1 i2 i3 i4 h) (fun v h => kk (am_ov v) h)))))))
def o_X3_putTyped (N : Nat) : am_Orc := (am_oc 20 (c_X3_put N) (am_oc 21 (c_X3_putOrigin N) am_o0))
set_option maxRecDepth 100000 in
theorem tok_X3_putTyped : am_tok 17 tX3_putTyped := by
  unfold am_tok
  decide +kernel
set_option maxHeartbeats 4000000 in
set_option maxRecDepth 100000 in
theorem m_X3_putTyped {l : Launch} {al : Nat → Nat} {dC : Nat → ClassId} {dI : Nat → Nat → Nat} {aC : Nat → ClassId} {aV : Nat → Nat} (hy : am_Hy l al) (N : Nat) (a0 : Nat) (i1 : Int32) (i2 : Int32) (i3 : Int32) (i4 : Int32) (h : am_Hp) (r : (Unit × am_Hp)) (hf : f_X3_putTyped N a0 i1 i2 i3 i4 h = some r) : am_Met l al dC dI aC aV 17 [.ref a0, .int i1, .int i2, .int i3, .int i4] h (am_ov r.1) r.2 :=
  am_met (tab := tX3_putTyped) (orc := o_X3_putTyped N) (ret := am_rv) (g := r) (by decide) (by decide) hy.1 hy.2 tok_X3_putTyped (am_os1 (s_X3_put hy N) (am_os1 (s_X3_putOrigin hy N) am_os0)) am_rv_inv (Nat.le_of_ble_eq_true rfl) (fun At cl wk => by
    skip
    exact cl am_C0 am_c0 400 0 _ _ h hf)
theorem s_X3_putTyped {l : Launch} {al : Nat → Nat} {dC : Nat → ClassId} {dI : Nat → Nat → Nat} {aC : Nat → ClassId} {aV : Nat → Nat} (hy : am_Hy l al) (N : Nat) : am_CS l al dC dI aC aV 17 (c_X3_putTyped N) := by
  intro γ as h kk g hc0
  obtain ⟨a0, w0, e_0, hc1⟩ := am_sa_some hc0
  obtain ⟨i1, w1, e_1, hc2⟩ := am_s1_some hc1
  obtain ⟨i2, w2, e_2, hc3⟩ := am_s1_some hc2
  obtain ⟨i3, w3, e_3, hc4⟩ := am_s1_some hc3
  obtain ⟨i4, w4, e_4, hc5⟩ := am_s1_some hc4
  obtain ⟨e_5, hc⟩ := am_st0_some hc5
  subst e_5
  subst e_4
  subst e_3
  subst e_2
  subst e_1
  subst e_0
  obtain ⟨q, e1, e2⟩ := am_bi_some hc
  exact ⟨_, _, m_X3_putTyped hy N a0 i1 i2 i3 i4 h _ e1, e2⟩

def f_X3_putSized (N : Nat) (a0 : Nat) (i1 : Int32) (i2 : Int32) (i3 : Int32) (i4 : Int32) (h : am_Hp) : Option (Unit × am_Hp) :=
  bif am_isO a0 3 then am_bi (f_X3_put N a0 i1 (1 : Int32) i2 i3 h) (fun _ h1 =>
  bif am_isO a0 3 then am_bi (f_X3_putOrigin N a0 i1 i4 (-1 : Int32) h1) (fun _ h2 =>
  some ((), h2)) else none) else none
def c_X3_putSized (N : Nat) : am_Cl := fun _ as h kk => am_sa as (fun a0 w0 => am_s1 w0 (fun i1 w1 => am_s1 w1 (fun i2 w2 => am_s1 w2 (fun i3 w3 => am_s1 w3 (fun i4 w4 => am_st0 w4 (am_bi (f_X3_putSized N a0 i1 i2 i3 i4 h) (fun v h => kk (am_ov v) h)))))))
def o_X3_putSized (N : Nat) : am_Orc := (am_oc 20 (c_X3_put N) (am_oc 21 (c_X3_putOrigin N) am_o0))
set_option maxRecDepth 100000 in
theorem tok_X3_putSized : am_tok 18 tX3_putSized := by
  unfold am_tok
  decide +kernel
set_option maxHeartbeats 4000000 in
set_option maxRecDepth 100000 in
theorem m_X3_putSized {l : Launch} {al : Nat → Nat} {dC : Nat → ClassId} {dI : Nat → Nat → Nat} {aC : Nat → ClassId} {aV : Nat → Nat} (hy : am_Hy l al) (N : Nat) (a0 : Nat) (i1 : Int32) (i2 : Int32) (i3 : Int32) (i4 : Int32) (h : am_Hp) (r : (Unit × am_Hp)) (hf : f_X3_putSized N a0 i1 i2 i3 i4 h = some r) : am_Met l al dC dI aC aV 18 [.ref a0, .int i1, .int i2, .int i3, .int i4] h (am_ov r.1) r.2 :=
  am_met (tab := tX3_putSized) (orc := o_X3_putSized N) (ret := am_rv) (g := r) (by decide) (by decide) hy.1 hy.2 tok_X3_putSized (am_os1 (s_X3_put hy N) (am_os1 (s_X3_putOrigin hy N) am_os0)) am_rv_inv (Nat.le_of_ble_eq_true rfl) (fun At cl wk => by
    skip
    exact cl am_C0 am_c0 400 0 _ _ h hf)
theorem s_X3_putSized {l : Launch} {al : Nat → Nat} {dC : Nat → ClassId} {dI : Nat → Nat → Nat} {aC : Nat → ClassId} {aV : Nat → Nat} (hy : am_Hy l al) (N : Nat) : am_CS l al dC dI aC aV 18 (c_X3_putSized N) := by
  intro γ as h kk g hc0
  obtain ⟨a0, w0, e_0, hc1⟩ := am_sa_some hc0
  obtain ⟨i1, w1, e_1, hc2⟩ := am_s1_some hc1
  obtain ⟨i2, w2, e_2, hc3⟩ := am_s1_some hc2
  obtain ⟨i3, w3, e_3, hc4⟩ := am_s1_some hc3
  obtain ⟨i4, w4, e_4, hc5⟩ := am_s1_some hc4
  obtain ⟨e_5, hc⟩ := am_st0_some hc5
  subst e_5
  subst e_4
  subst e_3
  subst e_2
  subst e_1
  subst e_0
  obtain ⟨q, e1, e2⟩ := am_bi_some hc
  exact ⟨_, _, m_X3_putSized hy N a0 i1 i2 i3 i4 h _ e1, e2⟩

def f_X3_timeBetween (N : Nat) (a0 : Nat) (i1 : Int32) (i2 : Int32) (h : am_Hp) : Option (Int32 × am_Hp) :=
  bif am_isO a0 3 then am_bi (f_X3_number N a0 (3 : Int32) i2 h) (fun x2 h1 =>
  bif am_isO a0 3 then am_bi (f_X3_number N a0 (3 : Int32) i1 h1) (fun x4 h3 =>
  some (x2 - x4, h3)) else none) else none
def c_X3_timeBetween (N : Nat) : am_Cl := fun _ as h kk => am_sa as (fun a0 w0 => am_s1 w0 (fun i1 w1 => am_s1 w1 (fun i2 w2 => am_st0 w2 (am_bi (f_X3_timeBetween N a0 i1 i2 h) (fun v h => kk (am_oi v) h)))))
def o_X3_timeBetween (N : Nat) : am_Orc := (am_oc 16 (c_X3_number N) am_o0)
set_option maxRecDepth 100000 in
theorem tok_X3_timeBetween : am_tok 19 tX3_timeBetween := by
  unfold am_tok
  decide +kernel
set_option maxHeartbeats 4000000 in
set_option maxRecDepth 100000 in
theorem m_X3_timeBetween {l : Launch} {al : Nat → Nat} {dC : Nat → ClassId} {dI : Nat → Nat → Nat} {aC : Nat → ClassId} {aV : Nat → Nat} (hy : am_Hy l al) (N : Nat) (a0 : Nat) (i1 : Int32) (i2 : Int32) (h : am_Hp) (r : (Int32 × am_Hp)) (hf : f_X3_timeBetween N a0 i1 i2 h = some r) : am_Met l al dC dI aC aV 19 [.ref a0, .int i1, .int i2] h (am_oi r.1) r.2 :=
  am_met (tab := tX3_timeBetween) (orc := o_X3_timeBetween N) (ret := am_ri) (g := r) (by decide) (by decide) hy.1 hy.2 tok_X3_timeBetween (am_os1 (s_X3_number hy N) am_os0) am_ri_inv (Nat.le_of_ble_eq_true rfl) (fun At cl wk => by
    skip
    exact cl am_C0 am_c0 400 0 _ _ h hf)
theorem s_X3_timeBetween {l : Launch} {al : Nat → Nat} {dC : Nat → ClassId} {dI : Nat → Nat → Nat} {aC : Nat → ClassId} {aV : Nat → Nat} (hy : am_Hy l al) (N : Nat) : am_CS l al dC dI aC aV 19 (c_X3_timeBetween N) := by
  intro γ as h kk g hc0
  obtain ⟨a0, w0, e_0, hc1⟩ := am_sa_some hc0
  obtain ⟨i1, w1, e_1, hc2⟩ := am_s1_some hc1
  obtain ⟨i2, w2, e_2, hc3⟩ := am_s1_some hc2
  obtain ⟨e_3, hc⟩ := am_st0_some hc3
  subst e_3
  subst e_2
  subst e_1
  subst e_0
  obtain ⟨q, e1, e2⟩ := am_bi_some hc
  exact ⟨_, _, m_X3_timeBetween hy N a0 i1 i2 h _ e1, e2⟩

def f_X4_startOf (N : Nat) (a0 : Nat) (i1 : Int32) (h : am_Hp) : Option (Int32 × am_Hp) :=
  bif am_isO a0 4 then am_bi (f_J9_floorMod_7cf53 N ((h a0 1) + i1) (46 : Int32) h) (fun x2 h1 =>
  some (x2 * (16 : Int32), h1)) else none
def c_X4_startOf (N : Nat) : am_Cl := fun _ as h kk => am_sa as (fun a0 w0 => am_s1 w0 (fun i1 w1 => am_st0 w1 (am_bi (f_X4_startOf N a0 i1 h) (fun v h => kk (am_oi v) h))))
def o_X4_startOf (N : Nat) : am_Orc := (am_oc 2 (c_J9_floorMod_7cf53 N) am_o0)
set_option maxRecDepth 100000 in
theorem tok_X4_startOf : am_tok 35 tX4_startOf := by
  unfold am_tok
  decide +kernel
set_option maxHeartbeats 4000000 in
set_option maxRecDepth 100000 in
theorem m_X4_startOf {l : Launch} {al : Nat → Nat} {dC : Nat → ClassId} {dI : Nat → Nat → Nat} {aC : Nat → ClassId} {aV : Nat → Nat} (hy : am_Hy l al) (N : Nat) (a0 : Nat) (i1 : Int32) (h : am_Hp) (r : (Int32 × am_Hp)) (hf : f_X4_startOf N a0 i1 h = some r) : am_Met l al dC dI aC aV 35 [.ref a0, .int i1] h (am_oi r.1) r.2 :=
  am_met (tab := tX4_startOf) (orc := o_X4_startOf N) (ret := am_ri) (g := r) (by decide) (by decide) hy.1 hy.2 tok_X4_startOf (am_os1 (s_J9_floorMod_7cf53 hy N) am_os0) am_ri_inv (Nat.le_of_ble_eq_true rfl) (fun At cl wk => by
    skip
    exact cl am_C0 am_c0 400 0 _ _ h hf)
theorem s_X4_startOf {l : Launch} {al : Nat → Nat} {dC : Nat → ClassId} {dI : Nat → Nat → Nat} {aC : Nat → ClassId} {aV : Nat → Nat} (hy : am_Hy l al) (N : Nat) : am_CS l al dC dI aC aV 35 (c_X4_startOf N) := by
  intro γ as h kk g hc0
  obtain ⟨a0, w0, e_0, hc1⟩ := am_sa_some hc0
  obtain ⟨i1, w1, e_1, hc2⟩ := am_s1_some hc1
  obtain ⟨e_2, hc⟩ := am_st0_some hc2
  subst e_2
  subst e_1
  subst e_0
  obtain ⟨q, e1, e2⟩ := am_bi_some hc
  exact ⟨_, _, m_X4_startOf hy N a0 i1 h _ e1, e2⟩

def l_X4_emptyFrom_13 (N : Nat) : Nat → Nat → Int32 → Int32 → am_Hp → Option (Unit × am_Hp)
  | 0, _, _, _, _ => none
  | n + 1, a0, i3, i4, h =>
    (if (16 : Int32) ≤ i4 then
      some ((), h)
    else
      bif am_isO a0 4 then (am_G a0 0).bind (fun b1 => bif am_isI b1 && am_in (i3 + i4) (am_len b1) then (let h2 := am_pi h b1 ((i3 + i4).toNatClampNeg) (27 : Int32)
      l_X4_emptyFrom_13 N n a0 i3 (i4 + (1 : Int32)) h2) else none) else none)
def f_X4_emptyFrom (N : Nat) (a0 : Nat) (i1 : Int32) (i2 : Int32) (h : am_Hp) : Option (Unit × am_Hp) :=
  bif am_isO a0 4 then am_bi (f_X4_startOf N a0 i1 h) (fun x2 h1 =>
  l_X4_emptyFrom_13 N N a0 x2 (if i2 < (0 : Int32) then (0 : Int32) else i2) h1) else none
def c_X4_emptyFrom (N : Nat) : am_Cl := fun _ as h kk => am_sa as (fun a0 w0 => am_s1 w0 (fun i1 w1 => am_s1 w1 (fun i2 w2 => am_st0 w2 (am_bi (f_X4_emptyFrom N a0 i1 i2 h) (fun v h => kk (am_ov v) h)))))
def o_X4_emptyFrom (N : Nat) : am_Orc := (am_oc 35 (c_X4_startOf N) am_o0)
set_option maxRecDepth 100000 in
theorem tok_X4_emptyFrom : am_tok 34 tX4_emptyFrom := by
  unfold am_tok
  decide +kernel
set_option maxHeartbeats 4000000 in
set_option maxRecDepth 100000 in
theorem m_X4_emptyFrom {l : Launch} {al : Nat → Nat} {dC : Nat → ClassId} {dI : Nat → Nat → Nat} {aC : Nat → ClassId} {aV : Nat → Nat} (hy : am_Hy l al) (N : Nat) (a0 : Nat) (i1 : Int32) (i2 : Int32) (h : am_Hp) (r : (Unit × am_Hp)) (hf : f_X4_emptyFrom N a0 i1 i2 h = some r) : am_Met l al dC dI aC aV 34 [.ref a0, .int i1, .int i2] h (am_ov r.1) r.2 :=
  am_met (tab := tX4_emptyFrom) (orc := o_X4_emptyFrom N) (ret := am_rv) (g := r) (by decide) (by decide) hy.1 hy.2 tok_X4_emptyFrom (am_os1 (s_X4_startOf hy N) am_os0) am_rv_inv (Nat.le_of_ble_eq_true rfl) (fun At cl wk => by
    have A13 : ∀ n : Nat, ∀ a0 : Nat, ∀ i3 : Int32, ∀ i4 : Int32, ∀ h, l_X4_emptyFrom_13 N n a0 i3 i4 h = some r → At 13 [(0, .ref a0), (3, .int i3), (4, .int i4)] [] h := by
      intro n
      induction n with
      | zero => intro a0 i3 i4 h hr; cases hr
      | succ n ih =>
        intro a0 i3 i4 h hr
        exact cl (am_C1 13 (fun ρ st h => am_lda ρ 0 (fun a0 => am_ldi ρ 3 (fun i3 => am_ldi ρ 4 (fun i4 => am_st0 st (l_X4_emptyFrom_13 N n a0 i3 i4 h))))) am_C0) (am_c1 (fun ρ st h hc => by
        obtain ⟨a0, m_a0, hc⟩ := am_lda_some hc
        obtain ⟨i3, m_i3, hc⟩ := am_ldi_some hc
        obtain ⟨i4, m_i4, hc⟩ := am_ldi_some hc
        obtain ⟨rfl, hc⟩ := am_st0_some hc
        exact wk 13 ρ [(0, .ref a0), (3, .int i3), (4, .int i4)] _ h (am_m1 m_a0 (am_m1 m_i3 (am_m1 m_i4 am_m0))) (ih a0 i3 i4 h hc)) am_c0) 400 13 _ _ h hr
    exact cl (am_C1 13 (fun ρ st h => am_lda ρ 0 (fun a0 => am_ldi ρ 3 (fun i3 => am_ldi ρ 4 (fun i4 => am_st0 st (l_X4_emptyFrom_13 N N a0 i3 i4 h))))) am_C0) (am_c1 (fun ρ st h hc => by
        obtain ⟨a0, m_a0, hc⟩ := am_lda_some hc
        obtain ⟨i3, m_i3, hc⟩ := am_ldi_some hc
        obtain ⟨i4, m_i4, hc⟩ := am_ldi_some hc
        obtain ⟨rfl, hc⟩ := am_st0_some hc
        exact wk 13 ρ [(0, .ref a0), (3, .int i3), (4, .int i4)] _ h (am_m1 m_a0 (am_m1 m_i3 (am_m1 m_i4 am_m0))) (A13 N a0 i3 i4 h hc)) am_c0) 400 0 _ _ h hf)
theorem s_X4_emptyFrom {l : Launch} {al : Nat → Nat} {dC : Nat → ClassId} {dI : Nat → Nat → Nat} {aC : Nat → ClassId} {aV : Nat → Nat} (hy : am_Hy l al) (N : Nat) : am_CS l al dC dI aC aV 34 (c_X4_emptyFrom N) := by
  intro γ as h kk g hc0
  obtain ⟨a0, w0, e_0, hc1⟩ := am_sa_some hc0
  obtain ⟨i1, w1, e_1, hc2⟩ := am_s1_some hc1
  obtain ⟨i2, w2, e_2, hc3⟩ := am_s1_some hc2
  obtain ⟨e_3, hc⟩ := am_st0_some hc3
  subst e_3
  subst e_2
  subst e_1
  subst e_0
  obtain ⟨q, e1, e2⟩ := am_bi_some hc
  exact ⟨_, _, m_X4_emptyFrom hy N a0 i1 i2 h _ e1, e2⟩

def f_X4_addRow (N : Nat) (a0 : Nat) (h : am_Hp) : Option (Unit × am_Hp) :=
  bif am_isO a0 4 then bif am_isO a0 4 then (let h1 := am_pi h a0 4 ((h a0 4) + (1 : Int32))
  bif am_isO a0 4 then bif am_isO a0 4 then bif am_isO a0 4 then am_bi (f_X4_emptyFrom N a0 (((h1 a0 2) + (h1 a0 4)) - (1 : Int32)) (0 : Int32) h1) (fun _ h2 =>
  some ((), h2)) else none else none else none) else none else none
def c_X4_addRow (N : Nat) : am_Cl := fun _ as h kk => am_sa as (fun a0 w0 => am_st0 w0 (am_bi (f_X4_addRow N a0 h) (fun v h => kk (am_ov v) h)))
def o_X4_addRow (N : Nat) : am_Orc := (am_oc 34 (c_X4_emptyFrom N) am_o0)
set_option maxRecDepth 100000 in
theorem tok_X4_addRow : am_tok 32 tX4_addRow := by
  unfold am_tok
  decide +kernel
set_option maxHeartbeats 4000000 in
set_option maxRecDepth 100000 in
theorem m_X4_addRow {l : Launch} {al : Nat → Nat} {dC : Nat → ClassId} {dI : Nat → Nat → Nat} {aC : Nat → ClassId} {aV : Nat → Nat} (hy : am_Hy l al) (N : Nat) (a0 : Nat) (h : am_Hp) (r : (Unit × am_Hp)) (hf : f_X4_addRow N a0 h = some r) : am_Met l al dC dI aC aV 32 [.ref a0] h (am_ov r.1) r.2 :=
  am_met (tab := tX4_addRow) (orc := o_X4_addRow N) (ret := am_rv) (g := r) (by decide) (by decide) hy.1 hy.2 tok_X4_addRow (am_os1 (s_X4_emptyFrom hy N) am_os0) am_rv_inv (Nat.le_of_ble_eq_true rfl) (fun At cl wk => by
    skip
    exact cl am_C0 am_c0 400 0 _ _ h hf)
theorem s_X4_addRow {l : Launch} {al : Nat → Nat} {dC : Nat → ClassId} {dI : Nat → Nat → Nat} {aC : Nat → ClassId} {aV : Nat → Nat} (hy : am_Hy l al) (N : Nat) : am_CS l al dC dI aC aV 32 (c_X4_addRow N) := by
  intro γ as h kk g hc0
  obtain ⟨a0, w0, e_0, hc1⟩ := am_sa_some hc0
  obtain ⟨e_1, hc⟩ := am_st0_some hc1
  subst e_1
  subst e_0
  obtain ⟨q, e1, e2⟩ := am_bi_some hc
  exact ⟨_, _, m_X4_addRow hy N a0 h _ e1, e2⟩

def l_X4_restart_32 (N : Nat) : Nat → Nat → Int32 → Int32 → am_Hp → Option (Unit × am_Hp)
  | 0, _, _, _, _ => none
  | n + 1, a0, i2, i3, h =>
    (if i2 ≤ i3 then
      some ((), h)
    else
      bif am_isO a0 4 then am_bi (f_X4_addRow N a0 h) (fun _ h1 =>
      l_X4_restart_32 N n a0 i2 (i3 + (1 : Int32)) h1) else none)
def f_X4_restart (N : Nat) (a0 : Nat) (i1 : Int32) (i2 : Int32) (h : am_Hp) : Option (Unit × am_Hp) :=
  bif am_isO a0 4 then (let h1 := am_pi h a0 1 (0 : Int32)
  bif am_isO a0 4 then (let h2 := am_pi h1 a0 2 (0 : Int32)
  bif am_isO a0 4 then (let h3 := am_pi h2 a0 3 i1
  bif am_isO a0 4 then (let h4 := am_pi h3 a0 4 (0 : Int32)
  bif am_isO a0 4 then (let h5 := am_pi h4 a0 5 (0 : Int32)
  bif am_isO a0 4 then (let h6 := am_pi h5 a0 6 (0 : Int32)
  l_X4_restart_32 N N a0 i2 (0 : Int32) h6) else none) else none) else none) else none) else none) else none
def c_X4_restart (N : Nat) : am_Cl := fun _ as h kk => am_sa as (fun a0 w0 => am_s1 w0 (fun i1 w1 => am_s1 w1 (fun i2 w2 => am_st0 w2 (am_bi (f_X4_restart N a0 i1 i2 h) (fun v h => kk (am_ov v) h)))))
def o_X4_restart (N : Nat) : am_Orc := (am_oc 32 (c_X4_addRow N) am_o0)
set_option maxRecDepth 100000 in
theorem tok_X4_restart : am_tok 22 tX4_restart := by
  unfold am_tok
  decide +kernel
set_option maxHeartbeats 4000000 in
set_option maxRecDepth 100000 in
theorem m_X4_restart {l : Launch} {al : Nat → Nat} {dC : Nat → ClassId} {dI : Nat → Nat → Nat} {aC : Nat → ClassId} {aV : Nat → Nat} (hy : am_Hy l al) (N : Nat) (a0 : Nat) (i1 : Int32) (i2 : Int32) (h : am_Hp) (r : (Unit × am_Hp)) (hf : f_X4_restart N a0 i1 i2 h = some r) : am_Met l al dC dI aC aV 22 [.ref a0, .int i1, .int i2] h (am_ov r.1) r.2 :=
  am_met (tab := tX4_restart) (orc := o_X4_restart N) (ret := am_rv) (g := r) (by decide) (by decide) hy.1 hy.2 tok_X4_restart (am_os1 (s_X4_addRow hy N) am_os0) am_rv_inv (Nat.le_of_ble_eq_true rfl) (fun At cl wk => by
    have A32 : ∀ n : Nat, ∀ a0 : Nat, ∀ i2 : Int32, ∀ i3 : Int32, ∀ h, l_X4_restart_32 N n a0 i2 i3 h = some r → At 32 [(0, .ref a0), (2, .int i2), (3, .int i3)] [] h := by
      intro n
      induction n with
      | zero => intro a0 i2 i3 h hr; cases hr
      | succ n ih =>
        intro a0 i2 i3 h hr
        exact cl (am_C1 32 (fun ρ st h => am_lda ρ 0 (fun a0 => am_ldi ρ 2 (fun i2 => am_ldi ρ 3 (fun i3 => am_st0 st (l_X4_restart_32 N n a0 i2 i3 h))))) am_C0) (am_c1 (fun ρ st h hc => by
        obtain ⟨a0, m_a0, hc⟩ := am_lda_some hc
        obtain ⟨i2, m_i2, hc⟩ := am_ldi_some hc
        obtain ⟨i3, m_i3, hc⟩ := am_ldi_some hc
        obtain ⟨rfl, hc⟩ := am_st0_some hc
        exact wk 32 ρ [(0, .ref a0), (2, .int i2), (3, .int i3)] _ h (am_m1 m_a0 (am_m1 m_i2 (am_m1 m_i3 am_m0))) (ih a0 i2 i3 h hc)) am_c0) 400 32 _ _ h hr
    exact cl (am_C1 32 (fun ρ st h => am_lda ρ 0 (fun a0 => am_ldi ρ 2 (fun i2 => am_ldi ρ 3 (fun i3 => am_st0 st (l_X4_restart_32 N N a0 i2 i3 h))))) am_C0) (am_c1 (fun ρ st h hc => by
        obtain ⟨a0, m_a0, hc⟩ := am_lda_some hc
        obtain ⟨i2, m_i2, hc⟩ := am_ldi_some hc
        obtain ⟨i3, m_i3, hc⟩ := am_ldi_some hc
        obtain ⟨rfl, hc⟩ := am_st0_some hc
        exact wk 32 ρ [(0, .ref a0), (2, .int i2), (3, .int i3)] _ h (am_m1 m_a0 (am_m1 m_i2 (am_m1 m_i3 am_m0))) (A32 N a0 i2 i3 h hc)) am_c0) 400 0 _ _ h hf)
theorem s_X4_restart {l : Launch} {al : Nat → Nat} {dC : Nat → ClassId} {dI : Nat → Nat → Nat} {aC : Nat → ClassId} {aV : Nat → Nat} (hy : am_Hy l al) (N : Nat) : am_CS l al dC dI aC aV 22 (c_X4_restart N) := by
  intro γ as h kk g hc0
  obtain ⟨a0, w0, e_0, hc1⟩ := am_sa_some hc0
  obtain ⟨i1, w1, e_1, hc2⟩ := am_s1_some hc1
  obtain ⟨i2, w2, e_2, hc3⟩ := am_s1_some hc2
  obtain ⟨e_3, hc⟩ := am_st0_some hc3
  subst e_3
  subst e_2
  subst e_1
  subst e_0
  obtain ⟨q, e1, e2⟩ := am_bi_some hc
  exact ⟨_, _, m_X4_restart hy N a0 i1 i2 h _ e1, e2⟩

def f_X4_cursorLine (N : Nat) (a0 : Nat) (h : am_Hp) : Option (Int32 × am_Hp) :=
  bif am_isO a0 4 then bif am_isO a0 4 then some ((h a0 2) + (h a0 5), h) else none else none
def c_X4_cursorLine (N : Nat) : am_Cl := fun _ as h kk => am_sa as (fun a0 w0 => am_st0 w0 (am_bi (f_X4_cursorLine N a0 h) (fun v h => kk (am_oi v) h)))
def o_X4_cursorLine (N : Nat) : am_Orc := am_o0
set_option maxRecDepth 100000 in
theorem tok_X4_cursorLine : am_tok 23 tX4_cursorLine := by
  unfold am_tok
  decide +kernel
set_option maxHeartbeats 4000000 in
set_option maxRecDepth 100000 in
theorem m_X4_cursorLine {l : Launch} {al : Nat → Nat} {dC : Nat → ClassId} {dI : Nat → Nat → Nat} {aC : Nat → ClassId} {aV : Nat → Nat} (hy : am_Hy l al) (N : Nat) (a0 : Nat) (h : am_Hp) (r : (Int32 × am_Hp)) (hf : f_X4_cursorLine N a0 h = some r) : am_Met l al dC dI aC aV 23 [.ref a0] h (am_oi r.1) r.2 :=
  am_met (tab := tX4_cursorLine) (orc := o_X4_cursorLine N) (ret := am_ri) (g := r) (by decide) (by decide) hy.1 hy.2 tok_X4_cursorLine am_os0 am_ri_inv (Nat.le_of_ble_eq_true rfl) (fun At cl wk => by
    skip
    exact cl am_C0 am_c0 400 0 _ _ h hf)
theorem s_X4_cursorLine {l : Launch} {al : Nat → Nat} {dC : Nat → ClassId} {dI : Nat → Nat → Nat} {aC : Nat → ClassId} {aV : Nat → Nat} (hy : am_Hy l al) (N : Nat) : am_CS l al dC dI aC aV 23 (c_X4_cursorLine N) := by
  intro γ as h kk g hc0
  obtain ⟨a0, w0, e_0, hc1⟩ := am_sa_some hc0
  obtain ⟨e_1, hc⟩ := am_st0_some hc1
  subst e_1
  subst e_0
  obtain ⟨q, e1, e2⟩ := am_bi_some hc
  exact ⟨_, _, m_X4_cursorLine hy N a0 h _ e1, e2⟩

def f_X4_symbolInLine (N : Nat) (a0 : Nat) (i1 : Int32) (i2 : Int32) (h : am_Hp) : Option (Int32 × am_Hp) :=
  (if i1 < 0 then
    some ((27 : Int32), h)
  else
    bif am_isO a0 4 then bif am_isO a0 4 then (if ((h a0 2) + (h a0 4)) ≤ i1 then
      some ((27 : Int32), h)
    else
      (if i2 < 0 then
        some ((27 : Int32), h)
      else
        (if i2 < (16 : Int32) then
          bif am_isO a0 4 then (am_G a0 0).bind (fun b1 => bif am_isO a0 4 then am_bi (f_X4_startOf N a0 i1 h) (fun x3 h2 =>
          bif am_in (x3 + i2) (am_len b1) then (bif am_isI b1 then some (h2 b1 (x3 + i2).toNatClampNeg, h2) else bif am_isF b1 then some (am_sx b1 (x3 + i2).toNatClampNeg, h2) else none) else none) else none) else none
        else
          some ((27 : Int32), h)))) else none else none)
def c_X4_symbolInLine (N : Nat) : am_Cl := fun _ as h kk => am_sa as (fun a0 w0 => am_s1 w0 (fun i1 w1 => am_s1 w1 (fun i2 w2 => am_st0 w2 (am_bi (f_X4_symbolInLine N a0 i1 i2 h) (fun v h => kk (am_oi v) h)))))
def o_X4_symbolInLine (N : Nat) : am_Orc := (am_oc 35 (c_X4_startOf N) am_o0)
set_option maxRecDepth 100000 in
theorem tok_X4_symbolInLine : am_tok 24 tX4_symbolInLine := by
  unfold am_tok
  decide +kernel
set_option maxHeartbeats 4000000 in
set_option maxRecDepth 100000 in
theorem m_X4_symbolInLine {l : Launch} {al : Nat → Nat} {dC : Nat → ClassId} {dI : Nat → Nat → Nat} {aC : Nat → ClassId} {aV : Nat → Nat} (hy : am_Hy l al) (N : Nat) (a0 : Nat) (i1 : Int32) (i2 : Int32) (h : am_Hp) (r : (Int32 × am_Hp)) (hf : f_X4_symbolInLine N a0 i1 i2 h = some r) : am_Met l al dC dI aC aV 24 [.ref a0, .int i1, .int i2] h (am_oi r.1) r.2 :=
  am_met (tab := tX4_symbolInLine) (orc := o_X4_symbolInLine N) (ret := am_ri) (g := r) (by decide) (by decide) hy.1 hy.2 tok_X4_symbolInLine (am_os1 (s_X4_startOf hy N) am_os0) am_ri_inv (Nat.le_of_ble_eq_true rfl) (fun At cl wk => by
    skip
    exact cl am_C0 am_c0 400 0 _ _ h hf)
theorem s_X4_symbolInLine {l : Launch} {al : Nat → Nat} {dC : Nat → ClassId} {dI : Nat → Nat → Nat} {aC : Nat → ClassId} {aV : Nat → Nat} (hy : am_Hy l al) (N : Nat) : am_CS l al dC dI aC aV 24 (c_X4_symbolInLine N) := by
  intro γ as h kk g hc0
  obtain ⟨a0, w0, e_0, hc1⟩ := am_sa_some hc0
  obtain ⟨i1, w1, e_1, hc2⟩ := am_s1_some hc1
  obtain ⟨i2, w2, e_2, hc3⟩ := am_s1_some hc2
  obtain ⟨e_3, hc⟩ := am_st0_some hc3
  subst e_3
  subst e_2
  subst e_1
  subst e_0
  obtain ⟨q, e1, e2⟩ := am_bi_some hc
  exact ⟨_, _, m_X4_symbolInLine hy N a0 i1 i2 h _ e1, e2⟩

def f_X4_symbolOnScreen (N : Nat) (a0 : Nat) (i1 : Int32) (i2 : Int32) (h : am_Hp) : Option (Int32 × am_Hp) :=
  bif am_isO a0 4 then bif am_isO a0 4 then am_bi (f_X4_symbolInLine N a0 ((h a0 2) + i1) i2 h) (fun x2 h1 =>
  some (x2, h1)) else none else none
def c_X4_symbolOnScreen (N : Nat) : am_Cl := fun _ as h kk => am_sa as (fun a0 w0 => am_s1 w0 (fun i1 w1 => am_s1 w1 (fun i2 w2 => am_st0 w2 (am_bi (f_X4_symbolOnScreen N a0 i1 i2 h) (fun v h => kk (am_oi v) h)))))
def o_X4_symbolOnScreen (N : Nat) : am_Orc := (am_oc 24 (c_X4_symbolInLine N) am_o0)
set_option maxRecDepth 100000 in
theorem tok_X4_symbolOnScreen : am_tok 25 tX4_symbolOnScreen := by
  unfold am_tok
  decide +kernel
set_option maxHeartbeats 4000000 in
set_option maxRecDepth 100000 in
theorem m_X4_symbolOnScreen {l : Launch} {al : Nat → Nat} {dC : Nat → ClassId} {dI : Nat → Nat → Nat} {aC : Nat → ClassId} {aV : Nat → Nat} (hy : am_Hy l al) (N : Nat) (a0 : Nat) (i1 : Int32) (i2 : Int32) (h : am_Hp) (r : (Int32 × am_Hp)) (hf : f_X4_symbolOnScreen N a0 i1 i2 h = some r) : am_Met l al dC dI aC aV 25 [.ref a0, .int i1, .int i2] h (am_oi r.1) r.2 :=
  am_met (tab := tX4_symbolOnScreen) (orc := o_X4_symbolOnScreen N) (ret := am_ri) (g := r) (by decide) (by decide) hy.1 hy.2 tok_X4_symbolOnScreen (am_os1 (s_X4_symbolInLine hy N) am_os0) am_ri_inv (Nat.le_of_ble_eq_true rfl) (fun At cl wk => by
    skip
    exact cl am_C0 am_c0 400 0 _ _ h hf)
theorem s_X4_symbolOnScreen {l : Launch} {al : Nat → Nat} {dC : Nat → ClassId} {dI : Nat → Nat → Nat} {aC : Nat → ClassId} {aV : Nat → Nat} (hy : am_Hy l al) (N : Nat) : am_CS l al dC dI aC aV 25 (c_X4_symbolOnScreen N) := by
  intro γ as h kk g hc0
  obtain ⟨a0, w0, e_0, hc1⟩ := am_sa_some hc0
  obtain ⟨i1, w1, e_1, hc2⟩ := am_s1_some hc1
  obtain ⟨i2, w2, e_2, hc3⟩ := am_s1_some hc2
  obtain ⟨e_3, hc⟩ := am_st0_some hc3
  subst e_3
  subst e_2
  subst e_1
  subst e_0
  obtain ⟨q, e1, e2⟩ := am_bi_some hc
  exact ⟨_, _, m_X4_symbolOnScreen hy N a0 i1 i2 h _ e1, e2⟩
