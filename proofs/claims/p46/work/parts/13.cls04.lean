def l_X6_copyFrom_88 (N : Nat) : Nat → Nat → Nat → Int32 → am_Hp → Option (Unit × am_Hp)
  | 0, _, _, _, _ => none
  | n + 1, a0, a1, i2, h =>
    (if (6 : Int32) ≤ i2 then
      some ((), h)
    else
      bif am_isO a0 6 then (am_G a0 4).bind (fun b1 => bif am_isA b1 && am_in i2 (am_len b1) then (am_G b1 i2.toNatClampNeg).bind (fun b2 => bif am_isO a1 6 then (am_G a1 4).bind (fun b3 => bif am_isA b3 && am_in i2 (am_len b3) then (am_G b3 i2.toNatClampNeg).bind (fun b4 => bif am_isO b2 5 then am_bi (f_X5_copyFrom N b2 b4 h) (fun _ h5 =>
      l_X6_copyFrom_88 N n a0 a1 (i2 + (1 : Int32)) h5) else none) else none) else none) else none) else none)
def l_X6_copyFrom_60 (N : Nat) : Nat → Nat → Nat → Int32 → am_Hp → Option (Unit × am_Hp)
  | 0, _, _, _, _ => none
  | n + 1, a0, a1, i2, h =>
    (if (4 : Int32) ≤ i2 then
      l_X6_copyFrom_88 N N a0 a1 (0 : Int32) h
    else
      bif am_isO a0 6 then (am_G a0 3).bind (fun b1 => bif am_isA b1 && am_in i2 (am_len b1) then (am_G b1 i2.toNatClampNeg).bind (fun b2 => bif am_isO a1 6 then (am_G a1 3).bind (fun b3 => bif am_isA b3 && am_in i2 (am_len b3) then (am_G b3 i2.toNatClampNeg).bind (fun b4 => bif am_isO b2 0 then am_bi (f_X0_copyFrom N b2 b4 h) (fun _ h5 =>
      l_X6_copyFrom_60 N n a0 a1 (i2 + (1 : Int32)) h5) else none) else none) else none) else none) else none)
def l_X6_copyFrom_35 (N : Nat) : Nat → Nat → Nat → Int32 → am_Hp → Option (Unit × am_Hp)
  | 0, _, _, _, _ => none
  | n + 1, a0, a1, i2, h =>
    (if (4 : Int32) ≤ i2 then
      l_X6_copyFrom_60 N N a0 a1 (0 : Int32) h
    else
      bif am_isO a0 6 then (am_G a0 2).bind (fun b1 => bif am_isO a1 6 then (am_G a1 2).bind (fun b2 => bif am_in i2 (am_len b2) then (bif am_isI b2 then bif am_isI b1 && am_in i2 (am_len b1) then (let h3 := am_pi h b1 i2.toNatClampNeg (h b2 i2.toNatClampNeg)
      l_X6_copyFrom_35 N n a0 a1 (i2 + (1 : Int32)) h3) else none else bif am_isF b2 then bif am_isI b1 && am_in i2 (am_len b1) then (let h4 := am_pi h b1 i2.toNatClampNeg (am_sx b2 i2.toNatClampNeg)
      l_X6_copyFrom_35 N n a0 a1 (i2 + (1 : Int32)) h4) else none else none) else none) else none) else none)
def l_X6_copyFrom_10 (N : Nat) : Nat → Nat → Nat → Int32 → am_Hp → Option (Unit × am_Hp)
  | 0, _, _, _, _ => none
  | n + 1, a0, a1, i2, h =>
    (if (2 : Int32) ≤ i2 then
      l_X6_copyFrom_35 N N a0 a1 (0 : Int32) h
    else
      bif am_isO a0 6 then (am_G a0 1).bind (fun b1 => bif am_isO a1 6 then (am_G a1 1).bind (fun b2 => bif am_in i2 (am_len b2) then (bif am_isI b2 then bif am_isI b1 && am_in i2 (am_len b1) then (let h3 := am_pi h b1 i2.toNatClampNeg (h b2 i2.toNatClampNeg)
      l_X6_copyFrom_10 N n a0 a1 (i2 + (1 : Int32)) h3) else none else bif am_isF b2 then bif am_isI b1 && am_in i2 (am_len b1) then (let h4 := am_pi h b1 i2.toNatClampNeg (am_sx b2 i2.toNatClampNeg)
      l_X6_copyFrom_10 N n a0 a1 (i2 + (1 : Int32)) h4) else none else none) else none) else none) else none)
def f_X6_copyFrom (N : Nat) (a0 : Nat) (a1 : Nat) (h : am_Hp) : Option (Unit × am_Hp) :=
  bif am_isO a1 6 then bif am_isO a0 6 then (let h1 := am_pi h a0 0 (h a1 0)
  l_X6_copyFrom_10 N N a0 a1 (0 : Int32) h1) else none else none
def c_X6_copyFrom (N : Nat) : am_Cl := fun _ as h kk => am_sa as (fun a0 w0 => am_sa w0 (fun a1 w1 => am_st0 w1 (am_bi (f_X6_copyFrom N a0 a1 h) (fun v h => kk (am_ov v) h))))
def o_X6_copyFrom (N : Nat) : am_Orc := (am_oc 7 (c_X0_copyFrom N) (am_oc 39 (c_X5_copyFrom N) am_o0))
set_option maxRecDepth 100000 in
theorem tok_X6_copyFrom : am_tok 41 tX6_copyFrom := by
  unfold am_tok
  decide +kernel
set_option maxHeartbeats 4000000 in
set_option maxRecDepth 100000 in
theorem m_X6_copyFrom {l : Launch} {al : Nat → Nat} {dC : Nat → ClassId} {dI : Nat → Nat → Nat} {aC : Nat → ClassId} {aV : Nat → Nat} (hy : am_Hy l al) (N : Nat) (a0 : Nat) (a1 : Nat) (h : am_Hp) (r : (Unit × am_Hp)) (hf : f_X6_copyFrom N a0 a1 h = some r) : am_Met l al dC dI aC aV 41 [.ref a0, .ref a1] h (am_ov r.1) r.2 :=
  am_met (tab := tX6_copyFrom) (orc := o_X6_copyFrom N) (ret := am_rv) (g := r) (by decide) (by decide) hy.1 hy.2 tok_X6_copyFrom (am_os1 (s_X0_copyFrom hy N) (am_os1 (s_X5_copyFrom hy N) am_os0)) am_rv_inv (Nat.le_of_ble_eq_true rfl) (fun At cl wk => by
    have A88 : ∀ n : Nat, ∀ a0 : Nat, ∀ a1 : Nat, ∀ i2 : Int32, ∀ h, l_X6_copyFrom_88 N n a0 a1 i2 h = some r → At 88 [(0, .ref a0), (1, .ref a1), (2, .int i2)] [] h := by
      intro n
      induction n with
      | zero => intro a0 a1 i2 h hr; cases hr
      | succ n ih =>
        intro a0 a1 i2 h hr
        exact cl (am_C1 88 (fun ρ st h => am_lda ρ 0 (fun a0 => am_lda ρ 1 (fun a1 => am_ldi ρ 2 (fun i2 => am_st0 st (l_X6_copyFrom_88 N n a0 a1 i2 h))))) am_C0) (am_c1 (fun ρ st h hc => by
        obtain ⟨a0, m_a0, hc⟩ := am_lda_some hc
        obtain ⟨a1, m_a1, hc⟩ := am_lda_some hc
        obtain ⟨i2, m_i2, hc⟩ := am_ldi_some hc
        obtain ⟨rfl, hc⟩ := am_st0_some hc
        exact wk 88 ρ [(0, .ref a0), (1, .ref a1), (2, .int i2)] _ h (am_m1 m_a0 (am_m1 m_a1 (am_m1 m_i2 am_m0))) (ih a0 a1 i2 h hc)) am_c0) 400 88 _ _ h hr
    have A60 : ∀ n : Nat, ∀ a0 : Nat, ∀ a1 : Nat, ∀ i2 : Int32, ∀ h, l_X6_copyFrom_60 N n a0 a1 i2 h = some r → At 60 [(0, .ref a0), (1, .ref a1), (2, .int i2)] [] h := by
      intro n
      induction n with
      | zero => intro a0 a1 i2 h hr; cases hr
      | succ n ih =>
        intro a0 a1 i2 h hr
        exact cl (am_C1 60 (fun ρ st h => am_lda ρ 0 (fun a0 => am_lda ρ 1 (fun a1 => am_ldi ρ 2 (fun i2 => am_st0 st (l_X6_copyFrom_60 N n a0 a1 i2 h))))) (am_C1 88 (fun ρ st h => am_lda ρ 0 (fun a0 => am_lda ρ 1 (fun a1 => am_ldi ρ 2 (fun i2 => am_st0 st (l_X6_copyFrom_88 N N a0 a1 i2 h))))) am_C0)) (am_c1 (fun ρ st h hc => by
        obtain ⟨a0, m_a0, hc⟩ := am_lda_some hc
        obtain ⟨a1, m_a1, hc⟩ := am_lda_some hc
        obtain ⟨i2, m_i2, hc⟩ := am_ldi_some hc
        obtain ⟨rfl, hc⟩ := am_st0_some hc
        exact wk 60 ρ [(0, .ref a0), (1, .ref a1), (2, .int i2)] _ h (am_m1 m_a0 (am_m1 m_a1 (am_m1 m_i2 am_m0))) (ih a0 a1 i2 h hc)) (am_c1 (fun ρ st h hc => by
        obtain ⟨a0, m_a0, hc⟩ := am_lda_some hc
        obtain ⟨a1, m_a1, hc⟩ := am_lda_some hc
        obtain ⟨i2, m_i2, hc⟩ := am_ldi_some hc
        obtain ⟨rfl, hc⟩ := am_st0_some hc
        exact wk 88 ρ [(0, .ref a0), (1, .ref a1), (2, .int i2)] _ h (am_m1 m_a0 (am_m1 m_a1 (am_m1 m_i2 am_m0))) (A88 N a0 a1 i2 h hc)) am_c0)) 400 60 _ _ h hr
    have A35 : ∀ n : Nat, ∀ a0 : Nat, ∀ a1 : Nat, ∀ i2 : Int32, ∀ h, l_X6_copyFrom_35 N n a0 a1 i2 h = some r → At 35 [(0, .ref a0), (1, .ref a1), (2, .int i2)] [] h := by
      intro n
      induction n with
      | zero => intro a0 a1 i2 h hr; cases hr
      | succ n ih =>
        intro a0 a1 i2 h hr
        exact cl (am_C1 35 (fun ρ st h => am_lda ρ 0 (fun a0 => am_lda ρ 1 (fun a1 => am_ldi ρ 2 (fun i2 => am_st0 st (l_X6_copyFrom_35 N n a0 a1 i2 h))))) (am_C1 60 (fun ρ st h => am_lda ρ 0 (fun a0 => am_lda ρ 1 (fun a1 => am_ldi ρ 2 (fun i2 => am_st0 st (l_X6_copyFrom_60 N N a0 a1 i2 h))))) am_C0)) (am_c1 (fun ρ st h hc => by
        obtain ⟨a0, m_a0, hc⟩ := am_lda_some hc
        obtain ⟨a1, m_a1, hc⟩ := am_lda_some hc
        obtain ⟨i2, m_i2, hc⟩ := am_ldi_some hc
        obtain ⟨rfl, hc⟩ := am_st0_some hc
        exact wk 35 ρ [(0, .ref a0), (1, .ref a1), (2, .int i2)] _ h (am_m1 m_a0 (am_m1 m_a1 (am_m1 m_i2 am_m0))) (ih a0 a1 i2 h hc)) (am_c1 (fun ρ st h hc => by
        obtain ⟨a0, m_a0, hc⟩ := am_lda_some hc
        obtain ⟨a1, m_a1, hc⟩ := am_lda_some hc
        obtain ⟨i2, m_i2, hc⟩ := am_ldi_some hc
        obtain ⟨rfl, hc⟩ := am_st0_some hc
        exact wk 60 ρ [(0, .ref a0), (1, .ref a1), (2, .int i2)] _ h (am_m1 m_a0 (am_m1 m_a1 (am_m1 m_i2 am_m0))) (A60 N a0 a1 i2 h hc)) am_c0)) 400 35 _ _ h hr
    have A10 : ∀ n : Nat, ∀ a0 : Nat, ∀ a1 : Nat, ∀ i2 : Int32, ∀ h, l_X6_copyFrom_10 N n a0 a1 i2 h = some r → At 10 [(0, .ref a0), (1, .ref a1), (2, .int i2)] [] h := by
      intro n
      induction n with
      | zero => intro a0 a1 i2 h hr; cases hr
      | succ n ih =>
        intro a0 a1 i2 h hr
        exact cl (am_C1 10 (fun ρ st h => am_lda ρ 0 (fun a0 => am_lda ρ 1 (fun a1 => am_ldi ρ 2 (fun i2 => am_st0 st (l_X6_copyFrom_10 N n a0 a1 i2 h))))) (am_C1 35 (fun ρ st h => am_lda ρ 0 (fun a0 => am_lda ρ 1 (fun a1 => am_ldi ρ 2 (fun i2 => am_st0 st (l_X6_copyFrom_35 N N a0 a1 i2 h))))) am_C0)) (am_c1 (fun ρ st h hc => by
        obtain ⟨a0, m_a0, hc⟩ := am_lda_some hc
        obtain ⟨a1, m_a1, hc⟩ := am_lda_some hc
        obtain ⟨i2, m_i2, hc⟩ := am_ldi_some hc
        obtain ⟨rfl, hc⟩ := am_st0_some hc
        exact wk 10 ρ [(0, .ref a0), (1, .ref a1), (2, .int i2)] _ h (am_m1 m_a0 (am_m1 m_a1 (am_m1 m_i2 am_m0))) (ih a0 a1 i2 h hc)) (am_c1 (fun ρ st h hc => by
        obtain ⟨a0, m_a0, hc⟩ := am_lda_some hc
        obtain ⟨a1, m_a1, hc⟩ := am_lda_some hc
        obtain ⟨i2, m_i2, hc⟩ := am_ldi_some hc
        obtain ⟨rfl, hc⟩ := am_st0_some hc
        exact wk 35 ρ [(0, .ref a0), (1, .ref a1), (2, .int i2)] _ h (am_m1 m_a0 (am_m1 m_a1 (am_m1 m_i2 am_m0))) (A35 N a0 a1 i2 h hc)) am_c0)) 400 10 _ _ h hr
    exact cl (am_C1 10 (fun ρ st h => am_lda ρ 0 (fun a0 => am_lda ρ 1 (fun a1 => am_ldi ρ 2 (fun i2 => am_st0 st (l_X6_copyFrom_10 N N a0 a1 i2 h))))) am_C0) (am_c1 (fun ρ st h hc => by
        obtain ⟨a0, m_a0, hc⟩ := am_lda_some hc
        obtain ⟨a1, m_a1, hc⟩ := am_lda_some hc
        obtain ⟨i2, m_i2, hc⟩ := am_ldi_some hc
        obtain ⟨rfl, hc⟩ := am_st0_some hc
        exact wk 10 ρ [(0, .ref a0), (1, .ref a1), (2, .int i2)] _ h (am_m1 m_a0 (am_m1 m_a1 (am_m1 m_i2 am_m0))) (A10 N a0 a1 i2 h hc)) am_c0) 400 0 _ _ h hf)
theorem s_X6_copyFrom {l : Launch} {al : Nat → Nat} {dC : Nat → ClassId} {dI : Nat → Nat → Nat} {aC : Nat → ClassId} {aV : Nat → Nat} (hy : am_Hy l al) (N : Nat) : am_CS l al dC dI aC aV 41 (c_X6_copyFrom N) := by
  intro γ as h kk g hc0
  obtain ⟨a0, w0, e_0, hc1⟩ := am_sa_some hc0
  obtain ⟨a1, w1, e_1, hc2⟩ := am_sa_some hc1
  obtain ⟨e_2, hc⟩ := am_st0_some hc2
  subst e_2
  subst e_1
  subst e_0
  obtain ⟨q, e1, e2⟩ := am_bi_some hc
  exact ⟨_, _, m_X6_copyFrom hy N a0 a1 h _ e1, e2⟩

def f_X2_keep (N : Nat) (a1 : Nat) (h : am_Hp) : Option (Unit × am_Hp) :=
  am_bi (f_J9_floorMod_7cf53 N (h 39 1) (8 : Int32) h) (fun x2 h1 =>
  bif am_in x2 8 then (am_G 40 x2.toNatClampNeg).bind (fun b3 => bif am_isO b3 6 then am_bi (f_X6_copyFrom N b3 a1 h1) (fun _ h4 =>
  am_bi (f_J9_floorMod_7cf53 N ((h4 39 1) + (1 : Int32)) (8 : Int32) h4) (fun x6 h5 =>
  let h7 := am_pi h5 39 1 x6
  let h8 := am_pi h7 39 2 (if (8 : Int32) < ((h7 39 2) + (1 : Int32)) then (8 : Int32) else (h7 39 2) + (1 : Int32))
  some ((), h8))) else none) else none)
def c_X2_keep (N : Nat) : am_Cl := fun _ as h kk => am_sa as (fun z w0 => bif Nat.beq z 39 then am_sa w0 (fun a1 w1 => am_st0 w1 (am_bi (f_X2_keep N a1 h) (fun v h => kk (am_ov v) h))) else none)
def o_X2_keep (N : Nat) : am_Orc := (am_oc 2 (c_J9_floorMod_7cf53 N) (am_oc 41 (c_X6_copyFrom N) am_o0))
set_option maxRecDepth 100000 in
theorem tok_X2_keep : am_tok 14 tX2_keep := by
  unfold am_tok
  decide +kernel
set_option maxHeartbeats 4000000 in
set_option maxRecDepth 100000 in
theorem m_X2_keep {l : Launch} {al : Nat → Nat} {dC : Nat → ClassId} {dI : Nat → Nat → Nat} {aC : Nat → ClassId} {aV : Nat → Nat} (hy : am_Hy l al) (N : Nat) (a1 : Nat) (h : am_Hp) (r : (Unit × am_Hp)) (hf : f_X2_keep N a1 h = some r) : am_Met l al dC dI aC aV 14 [.ref 39, .ref a1] h (am_ov r.1) r.2 :=
  am_met (tab := tX2_keep) (orc := o_X2_keep N) (ret := am_rv) (g := r) (by decide) (by decide) hy.1 hy.2 tok_X2_keep (am_os1 (s_J9_floorMod_7cf53 hy N) (am_os1 (s_X6_copyFrom hy N) am_os0)) am_rv_inv (Nat.le_of_ble_eq_true rfl) (fun At cl wk => by
    skip
    exact cl am_C0 am_c0 400 0 _ _ h hf)
theorem s_X2_keep {l : Launch} {al : Nat → Nat} {dC : Nat → ClassId} {dI : Nat → Nat → Nat} {aC : Nat → ClassId} {aV : Nat → Nat} (hy : am_Hy l al) (N : Nat) : am_CS l al dC dI aC aV 14 (c_X2_keep N) := by
  intro γ as h kk g hc0
  obtain ⟨z0, w0, e_0, hcz0⟩ := am_sa_some hc0
  obtain ⟨hz0, hc1⟩ := am_bif hcz0
  cases Nat.eq_of_beq_eq_true hz0
  obtain ⟨a1, w1, e_1, hc2⟩ := am_sa_some hc1
  obtain ⟨e_2, hc⟩ := am_st0_some hc2
  subst e_2
  subst e_1
  subst e_0
  obtain ⟨q, e1, e2⟩ := am_bi_some hc
  exact ⟨_, _, m_X2_keep hy N a1 h _ e1, e2⟩

def f_X2_forget (N : Nat)  (h : am_Hp) : Option (Unit × am_Hp) :=
  let h1 := am_pi h 39 2 (0 : Int32)
  some ((), h1)
def c_X2_forget (N : Nat) : am_Cl := fun _ as h kk => am_sa as (fun z w0 => bif Nat.beq z 39 then am_st0 w0 (am_bi (f_X2_forget N  h) (fun v h => kk (am_ov v) h)) else none)
def o_X2_forget (N : Nat) : am_Orc := am_o0
set_option maxRecDepth 100000 in
theorem tok_X2_forget : am_tok 15 tX2_forget := by
  unfold am_tok
  decide +kernel
set_option maxHeartbeats 4000000 in
set_option maxRecDepth 100000 in
theorem m_X2_forget {l : Launch} {al : Nat → Nat} {dC : Nat → ClassId} {dI : Nat → Nat → Nat} {aC : Nat → ClassId} {aV : Nat → Nat} (hy : am_Hy l al) (N : Nat)  (h : am_Hp) (r : (Unit × am_Hp)) (hf : f_X2_forget N  h = some r) : am_Met l al dC dI aC aV 15 [.ref 39] h (am_ov r.1) r.2 :=
  am_met (tab := tX2_forget) (orc := o_X2_forget N) (ret := am_rv) (g := r) (by decide) (by decide) hy.1 hy.2 tok_X2_forget am_os0 am_rv_inv (Nat.le_of_ble_eq_true rfl) (fun At cl wk => by
    skip
    exact cl am_C0 am_c0 400 0 _ _ h hf)
theorem s_X2_forget {l : Launch} {al : Nat → Nat} {dC : Nat → ClassId} {dI : Nat → Nat → Nat} {aC : Nat → ClassId} {aV : Nat → Nat} (hy : am_Hy l al) (N : Nat) : am_CS l al dC dI aC aV 15 (c_X2_forget N) := by
  intro γ as h kk g hc0
  obtain ⟨z0, w0, e_0, hcz0⟩ := am_sa_some hc0
  obtain ⟨hz0, hc1⟩ := am_bif hcz0
  cases Nat.eq_of_beq_eq_true hz0
  obtain ⟨e_1, hc⟩ := am_st0_some hc1
  subst e_1
  subst e_0
  obtain ⟨q, e1, e2⟩ := am_bi_some hc
  exact ⟨_, _, m_X2_forget hy N  h _ e1, e2⟩

def f_X3_number (N : Nat) (a0 : Nat) (i1 : Int32) (i2 : Int32) (h : am_Hp) : Option (Int32 × am_Hp) :=
  (if i1 < 0 then
    some ((0 : Int32), h)
  else
    (if (5 : Int32) ≤ i1 then
      some ((0 : Int32), h)
    else
      (if i2 < 0 then
        some ((0 : Int32), h)
      else
        (if i2 < (300 : Int32) then
          bif am_isO a0 3 then (am_G a0 0).bind (fun b1 => bif am_isA b1 && am_in i1 (am_len b1) then (am_G b1 i1.toNatClampNeg).bind (fun b2 => bif am_in i2 (am_len b2) then (bif am_isI b2 then some (h b2 i2.toNatClampNeg, h) else bif am_isF b2 then some (am_sx b2 i2.toNatClampNeg, h) else none) else none) else none) else none
        else
          some ((0 : Int32), h)))))
def c_X3_number (N : Nat) : am_Cl := fun _ as h kk => am_sa as (fun a0 w0 => am_s1 w0 (fun i1 w1 => am_s1 w1 (fun i2 w2 => am_st0 w2 (am_bi (f_X3_number N a0 i1 i2 h) (fun v h => kk (am_oi v) h)))))
def o_X3_number (N : Nat) : am_Orc := am_o0
set_option maxRecDepth 100000 in
theorem tok_X3_number : am_tok 16 tX3_number := by
  unfold am_tok
  decide +kernel
set_option maxHeartbeats 4000000 in
set_option maxRecDepth 100000 in
theorem m_X3_number {l : Launch} {al : Nat → Nat} {dC : Nat → ClassId} {dI : Nat → Nat → Nat} {aC : Nat → ClassId} {aV : Nat → Nat} (hy : am_Hy l al) (N : Nat) (a0 : Nat) (i1 : Int32) (i2 : Int32) (h : am_Hp) (r : (Int32 × am_Hp)) (hf : f_X3_number N a0 i1 i2 h = some r) : am_Met l al dC dI aC aV 16 [.ref a0, .int i1, .int i2] h (am_oi r.1) r.2 :=
  am_met (tab := tX3_number) (orc := o_X3_number N) (ret := am_ri) (g := r) (by decide) (by decide) hy.1 hy.2 tok_X3_number am_os0 am_ri_inv (Nat.le_of_ble_eq_true rfl) (fun At cl wk => by
    skip
    exact cl am_C0 am_c0 400 0 _ _ h hf)
theorem s_X3_number {l : Launch} {al : Nat → Nat} {dC : Nat → ClassId} {dI : Nat → Nat → Nat} {aC : Nat → ClassId} {aV : Nat → Nat} (hy : am_Hy l al) (N : Nat) : am_CS l al dC dI aC aV 16 (c_X3_number N) := by
  intro γ as h kk g hc0
  obtain ⟨a0, w0, e_0, hc1⟩ := am_sa_some hc0
  obtain ⟨i1, w1, e_1, hc2⟩ := am_s1_some hc1
  obtain ⟨i2, w2, e_2, hc3⟩ := am_s1_some hc2
  obtain ⟨e_3, hc⟩ := am_st0_some hc3
  subst e_3
  subst e_2
  subst e_1
  subst e_0
  obtain ⟨q, e1, e2⟩ := am_bi_some hc
  exact ⟨_, _, m_X3_number hy N a0 i1 i2 h _ e1, e2⟩

def f_X3_put (N : Nat) (a0 : Nat) (i1 : Int32) (i2 : Int32) (i3 : Int32) (i4 : Int32) (h : am_Hp) : Option (Unit × am_Hp) :=
  (if i1 < 0 then
    some ((), h)
  else
    (if (300 : Int32) ≤ i1 then
      some ((), h)
    else
      bif am_isO a0 3 then (am_G a0 0).bind (fun b1 => bif am_isA b1 && am_in (0 : Int32) (am_len b1) then (am_G b1 0).bind (fun b2 => bif am_isI b2 && am_in i1 (am_len b2) then (let h3 := am_pi h b2 i1.toNatClampNeg i2
      bif am_isO a0 3 then (am_G a0 0).bind (fun b4 => bif am_isA b4 && am_in (1 : Int32) (am_len b4) then (am_G b4 1).bind (fun b5 => bif am_isI b5 && am_in i1 (am_len b5) then (let h6 := am_pi h3 b5 i1.toNatClampNeg i3
      bif am_isO a0 3 then (am_G a0 0).bind (fun b7 => bif am_isA b7 && am_in (2 : Int32) (am_len b7) then (am_G b7 2).bind (fun b8 => bif am_isI b8 && am_in i1 (am_len b8) then (let h9 := am_pi h6 b8 i1.toNatClampNeg i4
      some ((), h9)) else none) else none) else none) else none) else none) else none) else none) else none) else none))
def c_X3_put (N : Nat) : am_Cl := fun _ as h kk => am_sa as (fun a0 w0 => am_s1 w0 (fun i1 w1 => am_s1 w1 (fun i2 w2 => am_s1 w2 (fun i3 w3 => am_s1 w3 (fun i4 w4 => am_st0 w4 (am_bi (f_X3_put N a0 i1 i2 i3 i4 h) (fun v h => kk (am_ov v) h)))))))
def o_X3_put (N : Nat) : am_Orc := am_o0
set_option maxRecDepth 100000 in
theorem tok_X3_put : am_tok 20 tX3_put := by
  unfold am_tok
  decide +kernel
set_option maxHeartbeats 4000000 in
set_option maxRecDepth 100000 in
theorem m_X3_put {l : Launch} {al : Nat → Nat} {dC : Nat → ClassId} {dI : Nat → Nat → Nat} {aC : Nat → ClassId} {aV : Nat → Nat} (hy : am_Hy l al) (N : Nat) (a0 : Nat) (i1 : Int32) (i2 : Int32) (i3 : Int32) (i4 : Int32) (h : am_Hp) (r : (Unit × am_Hp)) (hf : f_X3_put N a0 i1 i2 i3 i4 h = some r) : am_Met l al dC dI aC aV 20 [.ref a0, .int i1, .int i2, .int i3, .int i4] h (am_ov r.1) r.2 :=
  am_met (tab := tX3_put) (orc := o_X3_put N) (ret := am_rv) (g := r) (by decide) (by decide) hy.1 hy.2 tok_X3_put am_os0 am_rv_inv (Nat.le_of_ble_eq_true rfl) (fun At cl wk => by
    skip
    exact cl am_C0 am_c0 400 0 _ _ h hf)
theorem s_X3_put {l : Launch} {al : Nat → Nat} {dC : Nat → ClassId} {dI : Nat → Nat → Nat} {aC : Nat → ClassId} {aV : Nat → Nat} (hy : am_Hy l al) (N : Nat) : am_CS l al dC dI aC aV 20 (c_X3_put N) := by
  intro γ as h kk g hc0
  obtain ⟨a0, w0, e_0, hc1⟩ := am_sa_some hc0
  obtain ⟨i1, w1, e_1, hc2⟩ := am_s1_some hc1
  obtain ⟨i2, w2, e_2, hc3⟩ := am_s1_some hc2
  obtain ⟨i3, w3, e_3, hc4⟩ := am_s1_some hc3
  obtain ⟨i4, w4, e_4, hc5⟩ := am_s1_some hc4
  obtain ⟨e_5, hc⟩ := am_st0_some hc5
  subst e_5
  subst e_4
  subst e_3
  subst e_2
  subst e_1
  subst e_0
  obtain ⟨q, e1, e2⟩ := am_bi_some hc
  exact ⟨_, _, m_X3_put hy N a0 i1 i2 i3 i4 h _ e1, e2⟩

def f_X3_putOrigin (N : Nat) (a0 : Nat) (i1 : Int32) (i2 : Int32) (i3 : Int32) (h : am_Hp) : Option (Unit × am_Hp) :=
  (if i1 < 0 then
    some ((), h)
  else
    (if (300 : Int32) ≤ i1 then
      some ((), h)
    else
      bif am_isO a0 3 then (am_G a0 0).bind (fun b1 => bif am_isA b1 && am_in (3 : Int32) (am_len b1) then (am_G b1 3).bind (fun b2 => bif am_isI b2 && am_in i1 (am_len b2) then (let h3 := am_pi h b2 i1.toNatClampNeg i2
      bif am_isO a0 3 then (am_G a0 0).bind (fun b4 => bif am_isA b4 && am_in (4 : Int32) (am_len b4) then (am_G b4 4).bind (fun b5 => bif am_isI b5 && am_in i1 (am_len b5) then (let h6 := am_pi h3 b5 i1.toNatClampNeg i3
      some ((), h6)) else none) else none) else none) else none) else none) else none))
def c_X3_putOrigin (N : Nat) : am_Cl := fun _ as h kk => am_sa as (fun a0 w0 => am_s1 w0 (fun i1 w1 => am_s1 w1 (fun i2 w2 => am_s1 w2 (fun i3 w3 => am_st0 w3 (am_bi (f_X3_putOrigin N a0 i1 i2 i3 h) (fun v h => kk (am_ov v) h))))))
def o_X3_putOrigin (N : Nat) : am_Orc := am_o0
set_option maxRecDepth 100000 in
theorem tok_X3_putOrigin : am_tok 21 tX3_putOrigin := by
  unfold am_tok
  decide +kernel
set_option maxHeartbeats 4000000 in
set_option maxRecDepth 100000 in
theorem m_X3_putOrigin {l : Launch} {al : Nat → Nat} {dC : Nat → ClassId} {dI : Nat → Nat → Nat} {aC : Nat → ClassId} {aV : Nat → Nat} (hy : am_Hy l al) (N : Nat) (a0 : Nat) (i1 : Int32) (i2 : Int32) (i3 : Int32) (h : am_Hp) (r : (Unit × am_Hp)) (hf : f_X3_putOrigin N a0 i1 i2 i3 h = some r) : am_Met l al dC dI aC aV 21 [.ref a0, .int i1, .int i2, .int i3] h (am_ov r.1) r.2 :=
  am_met (tab := tX3_putOrigin) (orc := o_X3_putOrigin N) (ret := am_rv) (g := r) (by decide) (by decide) hy.1 hy.2 tok_X3_putOrigin am_os0 am_rv_inv (Nat.le_of_ble_eq_true rfl) (fun At cl wk => by
    skip
    exact cl am_C0 am_c0 400 0 _ _ h hf)
theorem s_X3_putOrigin {l : Launch} {al : Nat → Nat} {dC : Nat → ClassId} {dI : Nat → Nat → Nat} {aC : Nat → ClassId} {aV : Nat → Nat} (hy : am_Hy l al) (N : Nat) : am_CS l al dC dI aC aV 21 (c_X3_putOrigin N) := by
  intro γ as h kk g hc0
  obtain ⟨a0, w0, e_0, hc1⟩ := am_sa_some hc0
  obtain ⟨i1, w1, e_1, hc2⟩ := am_s1_some hc1
  obtain ⟨i2, w2, e_2, hc3⟩ := am_s1_some hc2
  obtain ⟨i3, w3, e_3, hc4⟩ := am_s1_some hc3
  obtain ⟨e_4, hc⟩ := am_st0_some hc4
  subst e_4
  subst e_3
  subst e_2
  subst e_1
  subst e_0
  obtain ⟨q, e1, e2⟩ := am_bi_some hc
  exact ⟨_, _, m_X3_putOrigin hy N a0 i1 i2 i3 h _ e1, e2⟩
