def f_X9_characterFor (N : Nat) (i0 : Int32) (h : am_Hp) : Option (Int32 × am_Hp) :=
  (if i0 = (27 : Int32) then
    some ((32 : Int32), h)
  else
    some (((97 : Int32) + i0) - (1 : Int32), h))
def c_X9_characterFor (N : Nat) : am_Cl := fun _ as h kk => am_s1 as (fun i0 w0 => am_st0 w0 (am_bi (f_X9_characterFor N i0 h) (fun v h => kk (am_oi v) h)))
def o_X9_characterFor (N : Nat) : am_Orc := am_o0
set_option maxRecDepth 100000 in
theorem tok_X9_characterFor : am_tok 103 tX9_characterFor := by
  unfold am_tok
  decide +kernel
set_option maxHeartbeats 4000000 in
set_option maxRecDepth 100000 in
theorem m_X9_characterFor {l : Launch} {al : Nat → Nat} {dC : Nat → ClassId} {dI : Nat → Nat → Nat} {aC : Nat → ClassId} {aV : Nat → Nat} (hy : am_Hy l al) (N : Nat) (i0 : Int32) (h : am_Hp) (r : (Int32 × am_Hp)) (hf : f_X9_characterFor N i0 h = some r) : am_Met l al dC dI aC aV 103 [.int i0] h (am_oi r.1) r.2 :=
  am_met (tab := tX9_characterFor) (orc := o_X9_characterFor N) (ret := am_ri) (g := r) (by decide) (by decide) hy.1 hy.2 tok_X9_characterFor am_os0 am_ri_inv (Nat.le_of_ble_eq_true rfl) (fun At cl wk => by
    skip
    exact cl am_C0 am_c0 400 0 _ _ h hf)
theorem s_X9_characterFor {l : Launch} {al : Nat → Nat} {dC : Nat → ClassId} {dI : Nat → Nat → Nat} {aC : Nat → ClassId} {aV : Nat → Nat} (hy : am_Hy l al) (N : Nat) : am_CS l al dC dI aC aV 103 (c_X9_characterFor N) := by
  intro γ as h kk g hc0
  obtain ⟨i0, w0, e_0, hc1⟩ := am_s1_some hc0
  obtain ⟨e_1, hc⟩ := am_st0_some hc1
  subst e_1
  subst e_0
  obtain ⟨q, e1, e2⟩ := am_bi_some hc
  exact ⟨_, _, m_X9_characterFor hy N i0 h _ e1, e2⟩

def f_X9_putOut (N : Nat) (i1 : Int32) (h : am_Hp) : Option (Unit × am_Hp) :=
  (if (Int32.ofNat 102) ≤ (h 0 4) then
    some ((), h)
  else
    bif am_in (h 0 4) 102 then (let h1 := am_pi h 14 ((h 0 4).toNatClampNeg) i1
    let h2 := am_pi h1 0 4 ((h1 0 4) + (1 : Int32))
    some ((), h2)) else none)
def c_X9_putOut (N : Nat) : am_Cl := fun _ as h kk => am_sa as (fun z w0 => bif Nat.beq z 0 then am_s1 w0 (fun i1 w1 => am_st0 w1 (am_bi (f_X9_putOut N i1 h) (fun v h => kk (am_ov v) h))) else none)
def o_X9_putOut (N : Nat) : am_Orc := am_o0
set_option maxRecDepth 100000 in
theorem tok_X9_putOut : am_tok 102 tX9_putOut := by
  unfold am_tok
  decide +kernel
set_option maxHeartbeats 4000000 in
set_option maxRecDepth 100000 in
theorem m_X9_putOut {l : Launch} {al : Nat → Nat} {dC : Nat → ClassId} {dI : Nat → Nat → Nat} {aC : Nat → ClassId} {aV : Nat → Nat} (hy : am_Hy l al) (N : Nat) (i1 : Int32) (h : am_Hp) (r : (Unit × am_Hp)) (hf : f_X9_putOut N i1 h = some r) : am_Met l al dC dI aC aV 102 [.ref 0, .int i1] h (am_ov r.1) r.2 :=
  am_met (tab := tX9_putOut) (orc := o_X9_putOut N) (ret := am_rv) (g := r) (by decide) (by decide) hy.1 hy.2 tok_X9_putOut am_os0 am_rv_inv (Nat.le_of_ble_eq_true rfl) (fun At cl wk => by
    skip
    exact cl am_C0 am_c0 400 0 _ _ h hf)
theorem s_X9_putOut {l : Launch} {al : Nat → Nat} {dC : Nat → ClassId} {dI : Nat → Nat → Nat} {aC : Nat → ClassId} {aV : Nat → Nat} (hy : am_Hy l al) (N : Nat) : am_CS l al dC dI aC aV 102 (c_X9_putOut N) := by
  intro γ as h kk g hc0
  obtain ⟨z0, w0, e_0, hcz0⟩ := am_sa_some hc0
  obtain ⟨hz0, hc1⟩ := am_bif hcz0
  cases Nat.eq_of_beq_eq_true hz0
  obtain ⟨i1, w1, e_1, hc2⟩ := am_s1_some hc1
  obtain ⟨e_2, hc⟩ := am_st0_some hc2
  subst e_2
  subst e_1
  subst e_0
  obtain ⟨q, e1, e2⟩ := am_bi_some hc
  exact ⟨_, _, m_X9_putOut hy N i1 h _ e1, e2⟩

def l_X9_write_58 (N : Nat) (K46 : Nat → Int32 → Int32 → am_Hp → Option (Option Int32 × am_Hp)) : Nat → Nat → Int32 → Int32 → Int32 → am_Hp → Option (Option Int32 × am_Hp)
  | 0, _, _, _, _, _ => none
  | n + 1, a2, i3, i4, i5, h =>
    bif am_isO a2 5 then (if (h a2 0) ≤ i5 then
      am_bi (f_X9_putOut N (10 : Int32) h) (fun _ h1 =>
      K46 a2 i3 (i4 + (1 : Int32)) h1)
    else
      am_bi (f_X4_symbolInLine N 161 (i3 + i4) i5 h) (fun x3 h2 =>
      am_bi (f_X9_characterFor N x3 h2) (fun x5 h4 =>
      am_bi (f_X9_putOut N x5 h4) (fun _ h6 =>
      l_X9_write_58 N K46 n a2 i3 i4 (i5 + (1 : Int32)) h6)))) else none
def l_X9_write_46 (N : Nat) : Nat → Nat → Int32 → Int32 → am_Hp → Option (Option Int32 × am_Hp)
  | 0, _, _, _, _ => none
  | n + 1, a2, i3, i4, h =>
    bif am_isO a2 5 then (if (h a2 1) ≤ i4 then
      some (some (h 0 4), h)
    else
      l_X9_write_58 N (l_X9_write_46 N n) N a2 i3 i4 (0 : Int32) h) else none
def f_X9_write (N : Nat) (i1 : Int32) (h : am_Hp) : Option (Option Int32 × am_Hp) :=
  am_bt (f_X9_seatOf N i1 h) (fun h1 => some (none, h1)) (fun b2 h1 => let h3 := am_pi h1 0 4 (0 : Int32)
  bif am_isO b2 5 then (if (h3 b2 2) = 0 then
    some (some (0 : Int32), h3)
  else
    bif am_isO b2 5 then am_bt (f_X9_positionOf N b2 h3) (fun h4 => some (none, h4)) (fun x5 h4 => am_bt (f_X9_draw N 161 (h3 b2 3) x5 h4) (fun h6 => some (none, h6)) (fun _ h6 => am_bi (f_X9_uppermostLine N b2 h6) (fun x8 h7 =>
    l_X9_write_46 N N b2 x8 (0 : Int32) h7))) else none) else none)
def c_X9_write (N : Nat) : am_Cl := fun _ as h kk => am_sa as (fun z w0 => bif Nat.beq z 0 then am_s1 w0 (fun i1 w1 => am_st0 w1 (am_bt (f_X9_write N i1 h) (fun h => kk none h) (fun v h => kk (am_oi v) h))) else none)
def o_X9_write (N : Nat) : am_Orc := (am_oc 87 (c_X9_seatOf N) (am_oc 92 (c_X9_positionOf N) (am_oc 91 (c_X9_draw N) (am_oc 93 (c_X9_uppermostLine N) (am_oc 24 (c_X4_symbolInLine N) (am_oc 103 (c_X9_characterFor N) (am_oc 102 (c_X9_putOut N) am_o0)))))))
set_option maxRecDepth 100000 in
theorem tok_X9_write : am_tok 83 tX9_write := by
  unfold am_tok
  decide +kernel
set_option maxHeartbeats 4000000 in
set_option maxRecDepth 100000 in
theorem m_X9_write {l : Launch} {al : Nat → Nat} {dC : Nat → ClassId} {dI : Nat → Nat → Nat} {aC : Nat → ClassId} {aV : Nat → Nat} (hy : am_Hy l al) (N : Nat) (i1 : Int32) (h : am_Hp) (r : (Option Int32 × am_Hp)) (hf : f_X9_write N i1 h = some r) : am_Met l al dC dI aC aV 83 [.ref 0, .int i1] h (am_ot am_oi r.1) r.2 :=
  am_met (tab := tX9_write) (orc := o_X9_write N) (ret := am_ti) (g := r) (by decide) (by decide) hy.1 hy.2 tok_X9_write (am_os1 (s_X9_seatOf hy N) (am_os1 (s_X9_positionOf hy N) (am_os1 (s_X9_draw hy N) (am_os1 (s_X9_uppermostLine hy N) (am_os1 (s_X4_symbolInLine hy N) (am_os1 (s_X9_characterFor hy N) (am_os1 (s_X9_putOut hy N) am_os0))))))) am_ti_inv (Nat.le_of_ble_eq_true rfl) (fun At cl wk => by
    have A58 : ∀ (K46 : Nat → Int32 → Int32 → am_Hp → Option (Option Int32 × am_Hp)), (∀ a2 : Nat, ∀ i3 : Int32, ∀ i4 : Int32, ∀ h, K46 a2 i3 i4 h = some r → At 46 [(0, .ref 0), (2, .ref a2), (3, .int i3), (4, .int i4)] [] h) → ∀ n : Nat, ∀ a2 : Nat, ∀ i3 : Int32, ∀ i4 : Int32, ∀ i5 : Int32, ∀ h, l_X9_write_58 N K46 n a2 i3 i4 i5 h = some r → At 58 [(0, .ref 0), (2, .ref a2), (3, .int i3), (4, .int i4), (5, .int i5)] [] h := by
      intro K46 hK46 n
      induction n with
      | zero => intro a2 i3 i4 i5 h hr; cases hr
      | succ n ih =>
        intro a2 i3 i4 i5 h hr
        exact cl (am_C1 46 (fun ρ st h => am_lda ρ 0 (fun z => bif Nat.beq z 0 then am_lda ρ 2 (fun a2 => am_ldi ρ 3 (fun i3 => am_ldi ρ 4 (fun i4 => am_st0 st (K46 a2 i3 i4 h)))) else none)) (am_C1 58 (fun ρ st h => am_lda ρ 0 (fun z => bif Nat.beq z 0 then am_lda ρ 2 (fun a2 => am_ldi ρ 3 (fun i3 => am_ldi ρ 4 (fun i4 => am_ldi ρ 5 (fun i5 => am_st0 st (l_X9_write_58 N K46 n a2 i3 i4 i5 h))))) else none)) am_C0)) (am_c1 (fun ρ st h hc => by
        obtain ⟨z, m_a0, hc⟩ := am_lda_some hc
        obtain ⟨hz, hc⟩ := am_bif hc
        cases Nat.eq_of_beq_eq_true hz
        obtain ⟨a2, m_a2, hc⟩ := am_lda_some hc
        obtain ⟨i3, m_i3, hc⟩ := am_ldi_some hc
        obtain ⟨i4, m_i4, hc⟩ := am_ldi_some hc
        obtain ⟨rfl, hc⟩ := am_st0_some hc
        exact wk 46 ρ [(0, .ref 0), (2, .ref a2), (3, .int i3), (4, .int i4)] _ h (am_m1 m_a0 (am_m1 m_a2 (am_m1 m_i3 (am_m1 m_i4 am_m0)))) (hK46 a2 i3 i4 h hc)) (am_c1 (fun ρ st h hc => by
        obtain ⟨z, m_a0, hc⟩ := am_lda_some hc
        obtain ⟨hz, hc⟩ := am_bif hc
        cases Nat.eq_of_beq_eq_true hz
        obtain ⟨a2, m_a2, hc⟩ := am_lda_some hc
        obtain ⟨i3, m_i3, hc⟩ := am_ldi_some hc
        obtain ⟨i4, m_i4, hc⟩ := am_ldi_some hc
        obtain ⟨i5, m_i5, hc⟩ := am_ldi_some hc
        obtain ⟨rfl, hc⟩ := am_st0_some hc
        exact wk 58 ρ [(0, .ref 0), (2, .ref a2), (3, .int i3), (4, .int i4), (5, .int i5)] _ h (am_m1 m_a0 (am_m1 m_a2 (am_m1 m_i3 (am_m1 m_i4 (am_m1 m_i5 am_m0))))) (ih a2 i3 i4 i5 h hc)) am_c0)) 400 58 _ _ h hr
    have A46 : ∀ n : Nat, ∀ a2 : Nat, ∀ i3 : Int32, ∀ i4 : Int32, ∀ h, l_X9_write_46 N n a2 i3 i4 h = some r → At 46 [(0, .ref 0), (2, .ref a2), (3, .int i3), (4, .int i4)] [] h := by
      intro n
      induction n with
      | zero => intro a2 i3 i4 h hr; cases hr
      | succ n ih =>
        intro a2 i3 i4 h hr
        exact cl (am_C1 58 (fun ρ st h => am_lda ρ 0 (fun z => bif Nat.beq z 0 then am_lda ρ 2 (fun a2 => am_ldi ρ 3 (fun i3 => am_ldi ρ 4 (fun i4 => am_ldi ρ 5 (fun i5 => am_st0 st (l_X9_write_58 N (l_X9_write_46 N n) N a2 i3 i4 i5 h))))) else none)) am_C0) (am_c1 (fun ρ st h hc => by
        obtain ⟨z, m_a0, hc⟩ := am_lda_some hc
        obtain ⟨hz, hc⟩ := am_bif hc
        cases Nat.eq_of_beq_eq_true hz
        obtain ⟨a2, m_a2, hc⟩ := am_lda_some hc
        obtain ⟨i3, m_i3, hc⟩ := am_ldi_some hc
        obtain ⟨i4, m_i4, hc⟩ := am_ldi_some hc
        obtain ⟨i5, m_i5, hc⟩ := am_ldi_some hc
        obtain ⟨rfl, hc⟩ := am_st0_some hc
        exact wk 58 ρ [(0, .ref 0), (2, .ref a2), (3, .int i3), (4, .int i4), (5, .int i5)] _ h (am_m1 m_a0 (am_m1 m_a2 (am_m1 m_i3 (am_m1 m_i4 (am_m1 m_i5 am_m0))))) (A58 (l_X9_write_46 N n) ih N a2 i3 i4 i5 h hc)) am_c0) 400 46 _ _ h hr
    exact cl (am_C1 46 (fun ρ st h => am_lda ρ 0 (fun z => bif Nat.beq z 0 then am_lda ρ 2 (fun a2 => am_ldi ρ 3 (fun i3 => am_ldi ρ 4 (fun i4 => am_st0 st (l_X9_write_46 N N a2 i3 i4 h)))) else none)) am_C0) (am_c1 (fun ρ st h hc => by
        obtain ⟨z, m_a0, hc⟩ := am_lda_some hc
        obtain ⟨hz, hc⟩ := am_bif hc
        cases Nat.eq_of_beq_eq_true hz
        obtain ⟨a2, m_a2, hc⟩ := am_lda_some hc
        obtain ⟨i3, m_i3, hc⟩ := am_ldi_some hc
        obtain ⟨i4, m_i4, hc⟩ := am_ldi_some hc
        obtain ⟨rfl, hc⟩ := am_st0_some hc
        exact wk 46 ρ [(0, .ref 0), (2, .ref a2), (3, .int i3), (4, .int i4)] _ h (am_m1 m_a0 (am_m1 m_a2 (am_m1 m_i3 (am_m1 m_i4 am_m0)))) (A46 N a2 i3 i4 h hc)) am_c0) 400 0 _ _ h hf)
theorem s_X9_write {l : Launch} {al : Nat → Nat} {dC : Nat → ClassId} {dI : Nat → Nat → Nat} {aC : Nat → ClassId} {aV : Nat → Nat} (hy : am_Hy l al) (N : Nat) : am_CS l al dC dI aC aV 83 (c_X9_write N) := by
  intro γ as h kk g hc0
  obtain ⟨z0, w0, e_0, hcz0⟩ := am_sa_some hc0
  obtain ⟨hz0, hc1⟩ := am_bif hcz0
  cases Nat.eq_of_beq_eq_true hz0
  obtain ⟨i1, w1, e_1, hc2⟩ := am_s1_some hc1
  obtain ⟨e_2, hc⟩ := am_st0_some hc2
  subst e_2
  subst e_1
  subst e_0
  rcases am_bt_some hc with ⟨h1, e1, e2⟩ | ⟨v, h1, e1, e2⟩
  · exact ⟨_, _, m_X9_write hy N i1 h _ e1, e2⟩
  · exact ⟨_, _, m_X9_write hy N i1 h _ e1, e2⟩

def f_X9_outputAt (N : Nat) (i1 : Int32) (h : am_Hp) : Option (Int32 × am_Hp) :=
  (if i1 < 0 then
    some ((-1 : Int32), h)
  else
    (if (h 0 4) ≤ i1 then
      some ((-1 : Int32), h)
    else
      (if i1 < (Int32.ofNat 102) then
        bif am_in i1 102 then some (h 14 i1.toNatClampNeg, h) else none
      else
        some ((-1 : Int32), h))))
def c_X9_outputAt (N : Nat) : am_Cl := fun _ as h kk => am_sa as (fun z w0 => bif Nat.beq z 0 then am_s1 w0 (fun i1 w1 => am_st0 w1 (am_bi (f_X9_outputAt N i1 h) (fun v h => kk (am_oi v) h))) else none)
def o_X9_outputAt (N : Nat) : am_Orc := am_o0
set_option maxRecDepth 100000 in
theorem tok_X9_outputAt : am_tok 84 tX9_outputAt := by
  unfold am_tok
  decide +kernel
set_option maxHeartbeats 4000000 in
set_option maxRecDepth 100000 in
theorem m_X9_outputAt {l : Launch} {al : Nat → Nat} {dC : Nat → ClassId} {dI : Nat → Nat → Nat} {aC : Nat → ClassId} {aV : Nat → Nat} (hy : am_Hy l al) (N : Nat) (i1 : Int32) (h : am_Hp) (r : (Int32 × am_Hp)) (hf : f_X9_outputAt N i1 h = some r) : am_Met l al dC dI aC aV 84 [.ref 0, .int i1] h (am_oi r.1) r.2 :=
  am_met (tab := tX9_outputAt) (orc := o_X9_outputAt N) (ret := am_ri) (g := r) (by decide) (by decide) hy.1 hy.2 tok_X9_outputAt am_os0 am_ri_inv (Nat.le_of_ble_eq_true rfl) (fun At cl wk => by
    skip
    exact cl am_C0 am_c0 400 0 _ _ h hf)
theorem s_X9_outputAt {l : Launch} {al : Nat → Nat} {dC : Nat → ClassId} {dI : Nat → Nat → Nat} {aC : Nat → ClassId} {aV : Nat → Nat} (hy : am_Hy l al) (N : Nat) : am_CS l al dC dI aC aV 84 (c_X9_outputAt N) := by
  intro γ as h kk g hc0
  obtain ⟨z0, w0, e_0, hcz0⟩ := am_sa_some hc0
  obtain ⟨hz0, hc1⟩ := am_bif hcz0
  cases Nat.eq_of_beq_eq_true hz0
  obtain ⟨i1, w1, e_1, hc2⟩ := am_s1_some hc1
  obtain ⟨e_2, hc⟩ := am_st0_some hc2
  subst e_2
  subst e_1
  subst e_0
  obtain ⟨q, e1, e2⟩ := am_bi_some hc
  exact ⟨_, _, m_X9_outputAt hy N i1 h _ e1, e2⟩

def f_L_in (N : Nat) (i0 : Int32) (i1 : Int32) (h : am_Hp) : Option (Int32 × am_Hp) :=
  if i1 = 0 then none else some ((i0 &&& (2147483647 : Int32)) - (i0 &&& (2147483647 : Int32)) / i1 * i1, h)
def c_L_in (N : Nat) : am_Cl := fun _ as h kk => am_s1 as (fun i0 w0 => am_s1 w0 (fun i1 w1 => am_st0 w1 (am_bi (f_L_in N i0 i1 h) (fun v h => kk (am_oi v) h))))
def o_L_in (N : Nat) : am_Orc := am_o0
set_option maxRecDepth 100000 in
theorem tok_L_in : am_tok 106 tL_in := by
  unfold am_tok
  decide +kernel
set_option maxHeartbeats 4000000 in
set_option maxRecDepth 100000 in
theorem m_L_in {l : Launch} {al : Nat → Nat} {dC : Nat → ClassId} {dI : Nat → Nat → Nat} {aC : Nat → ClassId} {aV : Nat → Nat} (hy : am_Hy l al) (N : Nat) (i0 : Int32) (i1 : Int32) (h : am_Hp) (r : (Int32 × am_Hp)) (hf : f_L_in N i0 i1 h = some r) : am_Met l al dC dI aC aV 106 [.int i0, .int i1] h (am_oi r.1) r.2 :=
  am_met (tab := tL_in) (orc := o_L_in N) (ret := am_ri) (g := r) (by decide) (by decide) hy.1 hy.2 tok_L_in am_os0 am_ri_inv (Nat.le_of_ble_eq_true rfl) (fun At cl wk => by
    skip
    exact cl am_C0 am_c0 400 0 _ _ h hf)
theorem s_L_in {l : Launch} {al : Nat → Nat} {dC : Nat → ClassId} {dI : Nat → Nat → Nat} {aC : Nat → ClassId} {aV : Nat → Nat} (hy : am_Hy l al) (N : Nat) : am_CS l al dC dI aC aV 106 (c_L_in N) := by
  intro γ as h kk g hc0
  obtain ⟨i0, w0, e_0, hc1⟩ := am_s1_some hc0
  obtain ⟨i1, w1, e_1, hc2⟩ := am_s1_some hc1
  obtain ⟨e_2, hc⟩ := am_st0_some hc2
  subst e_2
  subst e_1
  subst e_0
  obtain ⟨q, e1, e2⟩ := am_bi_some hc
  exact ⟨_, _, m_L_in hy N i0 i1 h _ e1, e2⟩

def l_L_symbols_4 (N : Nat) : Nat → Int32 → Int32 → Int32 → am_Hp → Option (Int32 × am_Hp)
  | 0, _, _, _, _ => none
  | n + 1, i0, i1, i2, h =>
    (if (6 : Int32) ≤ i2 then
      some (i1, h)
    else
      am_bi (f_L_in N (i0 >>> (((4 : Int32) * i2) &&& 31)) (5 : Int32) h) (fun x2 h1 =>
      (if x2 = 0 then
        if (8 : Int32) = 0 then none else am_bi (f_L_in N ((i0 >>> (((4 : Int32) * i2) &&& 31)) / (8 : Int32)) (5 : Int32) h1) (fun x6 h5 =>
        l_L_symbols_4 N n i0 ((i1 <<< ((5 : Int32) &&& 31)) ||| ((27 : Int32) + x6)) (i2 + (1 : Int32)) h5)
      else
        if (8 : Int32) = 0 then none else am_bi (f_L_in N ((i0 >>> (((4 : Int32) * i2) &&& 31)) / (8 : Int32)) (4 : Int32) h1) (fun x4 h3 =>
        l_L_symbols_4 N n i0 ((i1 <<< ((5 : Int32) &&& 31)) ||| ((1 : Int32) + x4)) (i2 + (1 : Int32)) h3))))
def f_L_symbols (N : Nat) (i0 : Int32) (h : am_Hp) : Option (Int32 × am_Hp) :=
  l_L_symbols_4 N N i0 (0 : Int32) (0 : Int32) h
def c_L_symbols (N : Nat) : am_Cl := fun _ as h kk => am_s1 as (fun i0 w0 => am_st0 w0 (am_bi (f_L_symbols N i0 h) (fun v h => kk (am_oi v) h)))
def o_L_symbols (N : Nat) : am_Orc := (am_oc 106 (c_L_in N) am_o0)
set_option maxRecDepth 100000 in
theorem tok_L_symbols : am_tok 107 tL_symbols := by
  unfold am_tok
  decide +kernel
set_option maxHeartbeats 4000000 in
set_option maxRecDepth 100000 in
theorem m_L_symbols {l : Launch} {al : Nat → Nat} {dC : Nat → ClassId} {dI : Nat → Nat → Nat} {aC : Nat → ClassId} {aV : Nat → Nat} (hy : am_Hy l al) (N : Nat) (i0 : Int32) (h : am_Hp) (r : (Int32 × am_Hp)) (hf : f_L_symbols N i0 h = some r) : am_Met l al dC dI aC aV 107 [.int i0] h (am_oi r.1) r.2 :=
  am_met (tab := tL_symbols) (orc := o_L_symbols N) (ret := am_ri) (g := r) (by decide) (by decide) hy.1 hy.2 tok_L_symbols (am_os1 (s_L_in hy N) am_os0) am_ri_inv (Nat.le_of_ble_eq_true rfl) (fun At cl wk => by
    have A4 : ∀ n : Nat, ∀ i0 : Int32, ∀ i1 : Int32, ∀ i2 : Int32, ∀ h, l_L_symbols_4 N n i0 i1 i2 h = some r → At 4 [(0, .int i0), (1, .int i1), (2, .int i2)] [] h := by
      intro n
      induction n with
      | zero => intro i0 i1 i2 h hr; cases hr
      | succ n ih =>
        intro i0 i1 i2 h hr
        exact cl (am_C1 4 (fun ρ st h => am_ldi ρ 0 (fun i0 => am_ldi ρ 1 (fun i1 => am_ldi ρ 2 (fun i2 => am_st0 st (l_L_symbols_4 N n i0 i1 i2 h))))) am_C0) (am_c1 (fun ρ st h hc => by
        obtain ⟨i0, m_i0, hc⟩ := am_ldi_some hc
        obtain ⟨i1, m_i1, hc⟩ := am_ldi_some hc
        obtain ⟨i2, m_i2, hc⟩ := am_ldi_some hc
        obtain ⟨rfl, hc⟩ := am_st0_some hc
        exact wk 4 ρ [(0, .int i0), (1, .int i1), (2, .int i2)] _ h (am_m1 m_i0 (am_m1 m_i1 (am_m1 m_i2 am_m0))) (ih i0 i1 i2 h hc)) am_c0) 400 4 _ _ h hr
    exact cl (am_C1 4 (fun ρ st h => am_ldi ρ 0 (fun i0 => am_ldi ρ 1 (fun i1 => am_ldi ρ 2 (fun i2 => am_st0 st (l_L_symbols_4 N N i0 i1 i2 h))))) am_C0) (am_c1 (fun ρ st h hc => by
        obtain ⟨i0, m_i0, hc⟩ := am_ldi_some hc
        obtain ⟨i1, m_i1, hc⟩ := am_ldi_some hc
        obtain ⟨i2, m_i2, hc⟩ := am_ldi_some hc
        obtain ⟨rfl, hc⟩ := am_st0_some hc
        exact wk 4 ρ [(0, .int i0), (1, .int i1), (2, .int i2)] _ h (am_m1 m_i0 (am_m1 m_i1 (am_m1 m_i2 am_m0))) (A4 N i0 i1 i2 h hc)) am_c0) 400 0 _ _ h hf)
theorem s_L_symbols {l : Launch} {al : Nat → Nat} {dC : Nat → ClassId} {dI : Nat → Nat → Nat} {aC : Nat → ClassId} {aV : Nat → Nat} (hy : am_Hy l al) (N : Nat) : am_CS l al dC dI aC aV 107 (c_L_symbols N) := by
  intro γ as h kk g hc0
  obtain ⟨i0, w0, e_0, hc1⟩ := am_s1_some hc0
  obtain ⟨e_1, hc⟩ := am_st0_some hc1
  subst e_1
  subst e_0
  obtain ⟨q, e1, e2⟩ := am_bi_some hc
  exact ⟨_, _, m_L_symbols hy N i0 h _ e1, e2⟩
