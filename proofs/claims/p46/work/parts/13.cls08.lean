def l_X6_restart_77 (N : Nat) : Nat → Nat → Nat → Int32 → am_Hp → Option (Unit × am_Hp)
  | 0, _, _, _, _ => none
  | n + 1, a0, a1, i3, h =>
    (if (6 : Int32) ≤ i3 then
      some ((), h)
    else
      bif am_isO a0 6 then (am_G a0 4).bind (fun b1 => bif am_isA b1 && am_in i3 (am_len b1) then (am_G b1 i3.toNatClampNeg).bind (fun b2 => bif am_isO a1 8 then am_bi (f_X8_sizeOf N a1 i3 (0 : Int32) h) (fun x4 h3 =>
      bif am_isO a1 8 then am_bi (f_X8_sizeOf N a1 i3 (1 : Int32) h3) (fun x6 h5 =>
      bif am_isO b2 5 then am_bi (f_X5_restart N b2 x4 x6 h5) (fun _ h7 =>
      l_X6_restart_77 N n a0 a1 (i3 + (1 : Int32)) h7) else none) else none) else none) else none) else none)
def l_X6_restart_55 (N : Nat) : Nat → Nat → Nat → Int32 → am_Hp → Option (Unit × am_Hp)
  | 0, _, _, _, _ => none
  | n + 1, a0, a1, i3, h =>
    (if (4 : Int32) ≤ i3 then
      l_X6_restart_77 N N a0 a1 (0 : Int32) h
    else
      bif am_isO a0 6 then (am_G a0 3).bind (fun b1 => bif am_isA b1 && am_in i3 (am_len b1) then (am_G b1 i3.toNatClampNeg).bind (fun b2 => bif am_isO b2 0 then am_bi (f_X0_restart N b2 h) (fun _ h3 =>
      l_X6_restart_55 N n a0 a1 (i3 + (1 : Int32)) h3) else none) else none) else none)
def l_X6_restart_35 (N : Nat) : Nat → Nat → Nat → Int32 → am_Hp → Option (Unit × am_Hp)
  | 0, _, _, _, _ => none
  | n + 1, a0, a1, i3, h =>
    (if (4 : Int32) ≤ i3 then
      l_X6_restart_55 N N a0 a1 (0 : Int32) h
    else
      bif am_isO a0 6 then (am_G a0 2).bind (fun b1 => bif am_isI b1 && am_in i3 (am_len b1) then (let h2 := am_pi h b1 i3.toNatClampNeg (0 : Int32)
      l_X6_restart_35 N n a0 a1 (i3 + (1 : Int32)) h2) else none) else none)
def l_X6_restart_7 (N : Nat) : Nat → Nat → Nat → Nat → Int32 → am_Hp → Option (Unit × am_Hp)
  | 0, _, _, _, _, _ => none
  | n + 1, a0, a1, a2, i3, h =>
    (if (2 : Int32) ≤ i3 then
      l_X6_restart_35 N N a0 a1 (0 : Int32) h
    else
      bif am_isI a2 || am_isA a2 || am_isF a2 then (if (Int32.ofNat (am_len a2)) ≤ i3 then
        l_X6_restart_35 N N a0 a1 (0 : Int32) h
      else
        bif am_isO a0 6 then (am_G a0 1).bind (fun b1 => bif am_in i3 (am_len a2) then (bif am_isI a2 then bif am_isI b1 && am_in i3 (am_len b1) then (let h2 := am_pi h b1 i3.toNatClampNeg (h a2 i3.toNatClampNeg)
        l_X6_restart_7 N n a0 a1 a2 (i3 + (1 : Int32)) h2) else none else bif am_isF a2 then bif am_isI b1 && am_in i3 (am_len b1) then (let h3 := am_pi h b1 i3.toNatClampNeg (am_sx a2 i3.toNatClampNeg)
        l_X6_restart_7 N n a0 a1 a2 (i3 + (1 : Int32)) h3) else none else none) else none) else none) else none)
def f_X6_restart (N : Nat) (a0 : Nat) (a1 : Nat) (a2 : Nat) (h : am_Hp) : Option (Unit × am_Hp) :=
  bif am_isO a0 6 then (let h1 := am_pi h a0 0 (0 : Int32)
  l_X6_restart_7 N N a0 a1 a2 (0 : Int32) h1) else none
def c_X6_restart (N : Nat) : am_Cl := fun _ as h kk => am_sa as (fun a0 w0 => am_sa w0 (fun a1 w1 => am_sa w1 (fun a2 w2 => am_st0 w2 (am_bi (f_X6_restart N a0 a1 a2 h) (fun v h => kk (am_ov v) h)))))
def o_X6_restart (N : Nat) : am_Orc := (am_oc 6 (c_X0_restart N) (am_oc 54 (c_X8_sizeOf N) (am_oc 38 (c_X5_restart N) am_o0)))
set_option maxRecDepth 100000 in
theorem tok_X6_restart : am_tok 40 tX6_restart := by
  unfold am_tok
  decide +kernel
set_option maxHeartbeats 4000000 in
set_option maxRecDepth 100000 in
theorem m_X6_restart {l : Launch} {al : Nat → Nat} {dC : Nat → ClassId} {dI : Nat → Nat → Nat} {aC : Nat → ClassId} {aV : Nat → Nat} (hy : am_Hy l al) (N : Nat) (a0 : Nat) (a1 : Nat) (a2 : Nat) (h : am_Hp) (r : (Unit × am_Hp)) (hf : f_X6_restart N a0 a1 a2 h = some r) : am_Met l al dC dI aC aV 40 [.ref a0, .ref a1, .ref a2] h (am_ov r.1) r.2 :=
  am_met (tab := tX6_restart) (orc := o_X6_restart N) (ret := am_rv) (g := r) (by decide) (by decide) hy.1 hy.2 tok_X6_restart (am_os1 (s_X0_restart hy N) (am_os1 (s_X8_sizeOf hy N) (am_os1 (s_X5_restart hy N) am_os0))) am_rv_inv (Nat.le_of_ble_eq_true rfl) (fun At cl wk => by
    have A77 : ∀ n : Nat, ∀ a0 : Nat, ∀ a1 : Nat, ∀ i3 : Int32, ∀ h, l_X6_restart_77 N n a0 a1 i3 h = some r → At 77 [(0, .ref a0), (1, .ref a1), (3, .int i3)] [] h := by
      intro n
      induction n with
      | zero => intro a0 a1 i3 h hr; cases hr
      | succ n ih =>
        intro a0 a1 i3 h hr
        exact cl (am_C1 77 (fun ρ st h => am_lda ρ 0 (fun a0 => am_lda ρ 1 (fun a1 => am_ldi ρ 3 (fun i3 => am_st0 st (l_X6_restart_77 N n a0 a1 i3 h))))) am_C0) (am_c1 (fun ρ st h hc => by
        obtain ⟨a0, m_a0, hc⟩ := am_lda_some hc
        obtain ⟨a1, m_a1, hc⟩ := am_lda_some hc
        obtain ⟨i3, m_i3, hc⟩ := am_ldi_some hc
        obtain ⟨rfl, hc⟩ := am_st0_some hc
        exact wk 77 ρ [(0, .ref a0), (1, .ref a1), (3, .int i3)] _ h (am_m1 m_a0 (am_m1 m_a1 (am_m1 m_i3 am_m0))) (ih a0 a1 i3 h hc)) am_c0) 400 77 _ _ h hr
    have A55 : ∀ n : Nat, ∀ a0 : Nat, ∀ a1 : Nat, ∀ i3 : Int32, ∀ h, l_X6_restart_55 N n a0 a1 i3 h = some r → At 55 [(0, .ref a0), (1, .ref a1), (3, .int i3)] [] h := by
      intro n
      induction n with
      | zero => intro a0 a1 i3 h hr; cases hr
      | succ n ih =>
        intro a0 a1 i3 h hr
        exact cl (am_C1 55 (fun ρ st h => am_lda ρ 0 (fun a0 => am_lda ρ 1 (fun a1 => am_ldi ρ 3 (fun i3 => am_st0 st (l_X6_restart_55 N n a0 a1 i3 h))))) (am_C1 77 (fun ρ st h => am_lda ρ 0 (fun a0 => am_lda ρ 1 (fun a1 => am_ldi ρ 3 (fun i3 => am_st0 st (l_X6_restart_77 N N a0 a1 i3 h))))) am_C0)) (am_c1 (fun ρ st h hc => by
        obtain ⟨a0, m_a0, hc⟩ := am_lda_some hc
        obtain ⟨a1, m_a1, hc⟩ := am_lda_some hc
        obtain ⟨i3, m_i3, hc⟩ := am_ldi_some hc
        obtain ⟨rfl, hc⟩ := am_st0_some hc
        exact wk 55 ρ [(0, .ref a0), (1, .ref a1), (3, .int i3)] _ h (am_m1 m_a0 (am_m1 m_a1 (am_m1 m_i3 am_m0))) (ih a0 a1 i3 h hc)) (am_c1 (fun ρ st h hc => by
        obtain ⟨a0, m_a0, hc⟩ := am_lda_some hc
        obtain ⟨a1, m_a1, hc⟩ := am_lda_some hc
        obtain ⟨i3, m_i3, hc⟩ := am_ldi_some hc
        obtain ⟨rfl, hc⟩ := am_st0_some hc
        exact wk 77 ρ [(0, .ref a0), (1, .ref a1), (3, .int i3)] _ h (am_m1 m_a0 (am_m1 m_a1 (am_m1 m_i3 am_m0))) (A77 N a0 a1 i3 h hc)) am_c0)) 400 55 _ _ h hr
    have A35 : ∀ n : Nat, ∀ a0 : Nat, ∀ a1 : Nat, ∀ i3 : Int32, ∀ h, l_X6_restart_35 N n a0 a1 i3 h = some r → At 35 [(0, .ref a0), (1, .ref a1), (3, .int i3)] [] h := by
      intro n
      induction n with
      | zero => intro a0 a1 i3 h hr; cases hr
      | succ n ih =>
        intro a0 a1 i3 h hr
        exact cl (am_C1 35 (fun ρ st h => am_lda ρ 0 (fun a0 => am_lda ρ 1 (fun a1 => am_ldi ρ 3 (fun i3 => am_st0 st (l_X6_restart_35 N n a0 a1 i3 h))))) (am_C1 55 (fun ρ st h => am_lda ρ 0 (fun a0 => am_lda ρ 1 (fun a1 => am_ldi ρ 3 (fun i3 => am_st0 st (l_X6_restart_55 N N a0 a1 i3 h))))) am_C0)) (am_c1 (fun ρ st h hc => by
        obtain ⟨a0, m_a0, hc⟩ := am_lda_some hc
        obtain ⟨a1, m_a1, hc⟩ := am_lda_some hc
        obtain ⟨i3, m_i3, hc⟩ := am_ldi_some hc
        obtain ⟨rfl, hc⟩ := am_st0_some hc
        exact wk 35 ρ [(0, .ref a0), (1, .ref a1), (3, .int i3)] _ h (am_m1 m_a0 (am_m1 m_a1 (am_m1 m_i3 am_m0))) (ih a0 a1 i3 h hc)) (am_c1 (fun ρ st h hc => by
        obtain ⟨a0, m_a0, hc⟩ := am_lda_some hc
        obtain ⟨a1, m_a1, hc⟩ := am_lda_some hc
        obtain ⟨i3, m_i3, hc⟩ := am_ldi_some hc
        obtain ⟨rfl, hc⟩ := am_st0_some hc
        exact wk 55 ρ [(0, .ref a0), (1, .ref a1), (3, .int i3)] _ h (am_m1 m_a0 (am_m1 m_a1 (am_m1 m_i3 am_m0))) (A55 N a0 a1 i3 h hc)) am_c0)) 400 35 _ _ h hr
    have A7 : ∀ n : Nat, ∀ a0 : Nat, ∀ a1 : Nat, ∀ a2 : Nat, ∀ i3 : Int32, ∀ h, l_X6_restart_7 N n a0 a1 a2 i3 h = some r → At 7 [(0, .ref a0), (1, .ref a1), (2, .ref a2), (3, .int i3)] [] h := by
      intro n
      induction n with
      | zero => intro a0 a1 a2 i3 h hr; cases hr
      | succ n ih =>
        intro a0 a1 a2 i3 h hr
        exact cl (am_C1 7 (fun ρ st h => am_lda ρ 0 (fun a0 => am_lda ρ 1 (fun a1 => am_lda ρ 2 (fun a2 => am_ldi ρ 3 (fun i3 => am_st0 st (l_X6_restart_7 N n a0 a1 a2 i3 h)))))) (am_C1 35 (fun ρ st h => am_lda ρ 0 (fun a0 => am_lda ρ 1 (fun a1 => am_ldi ρ 3 (fun i3 => am_st0 st (l_X6_restart_35 N N a0 a1 i3 h))))) am_C0)) (am_c1 (fun ρ st h hc => by
        obtain ⟨a0, m_a0, hc⟩ := am_lda_some hc
        obtain ⟨a1, m_a1, hc⟩ := am_lda_some hc
        obtain ⟨a2, m_a2, hc⟩ := am_lda_some hc
        obtain ⟨i3, m_i3, hc⟩ := am_ldi_some hc
        obtain ⟨rfl, hc⟩ := am_st0_some hc
        exact wk 7 ρ [(0, .ref a0), (1, .ref a1), (2, .ref a2), (3, .int i3)] _ h (am_m1 m_a0 (am_m1 m_a1 (am_m1 m_a2 (am_m1 m_i3 am_m0)))) (ih a0 a1 a2 i3 h hc)) (am_c1 (fun ρ st h hc => by
        obtain ⟨a0, m_a0, hc⟩ := am_lda_some hc
        obtain ⟨a1, m_a1, hc⟩ := am_lda_some hc
        obtain ⟨i3, m_i3, hc⟩ := am_ldi_some hc
        obtain ⟨rfl, hc⟩ := am_st0_some hc
        exact wk 35 ρ [(0, .ref a0), (1, .ref a1), (3, .int i3)] _ h (am_m1 m_a0 (am_m1 m_a1 (am_m1 m_i3 am_m0))) (A35 N a0 a1 i3 h hc)) am_c0)) 400 7 _ _ h hr
    exact cl (am_C1 7 (fun ρ st h => am_lda ρ 0 (fun a0 => am_lda ρ 1 (fun a1 => am_lda ρ 2 (fun a2 => am_ldi ρ 3 (fun i3 => am_st0 st (l_X6_restart_7 N N a0 a1 a2 i3 h)))))) am_C0) (am_c1 (fun ρ st h hc => by
        obtain ⟨a0, m_a0, hc⟩ := am_lda_some hc
        obtain ⟨a1, m_a1, hc⟩ := am_lda_some hc
        obtain ⟨a2, m_a2, hc⟩ := am_lda_some hc
        obtain ⟨i3, m_i3, hc⟩ := am_ldi_some hc
        obtain ⟨rfl, hc⟩ := am_st0_some hc
        exact wk 7 ρ [(0, .ref a0), (1, .ref a1), (2, .ref a2), (3, .int i3)] _ h (am_m1 m_a0 (am_m1 m_a1 (am_m1 m_a2 (am_m1 m_i3 am_m0)))) (A7 N a0 a1 a2 i3 h hc)) am_c0) 400 0 _ _ h hf)
theorem s_X6_restart {l : Launch} {al : Nat → Nat} {dC : Nat → ClassId} {dI : Nat → Nat → Nat} {aC : Nat → ClassId} {aV : Nat → Nat} (hy : am_Hy l al) (N : Nat) : am_CS l al dC dI aC aV 40 (c_X6_restart N) := by
  intro γ as h kk g hc0
  obtain ⟨a0, w0, e_0, hc1⟩ := am_sa_some hc0
  obtain ⟨a1, w1, e_1, hc2⟩ := am_sa_some hc1
  obtain ⟨a2, w2, e_2, hc3⟩ := am_sa_some hc2
  obtain ⟨e_3, hc⟩ := am_st0_some hc3
  subst e_3
  subst e_2
  subst e_1
  subst e_0
  obtain ⟨q, e1, e2⟩ := am_bi_some hc
  exact ⟨_, _, m_X6_restart hy N a0 a1 a2 h _ e1, e2⟩

def l_X7_append_3 (N : Nat) : Nat → Int32 → Int32 → am_Hp → Option (Unit × am_Hp)
  | 0, _, _, _ => none
  | n + 1, i1, i2, h =>
    (if i2 < 0 then
      some ((), h)
    else
      (if (Int32.ofNat 600) ≤ (h 1 1) then
        l_X7_append_3 N n i1 (i2 + (-8 : Int32)) h
      else
        bif am_in (h 1 1) 600 then (let h1 := am_pi h 2 ((h 1 1).toNatClampNeg) ((i1 >>> (i2 &&& 31)) &&& (255 : Int32))
        let h2 := am_pi h1 1 1 ((h1 1 1) + (1 : Int32))
        l_X7_append_3 N n i1 (i2 + (-8 : Int32)) h2) else none))
def f_X7_append (N : Nat) (i1 : Int32) (h : am_Hp) : Option (Unit × am_Hp) :=
  l_X7_append_3 N N i1 (24 : Int32) h
def c_X7_append (N : Nat) : am_Cl := fun _ as h kk => am_sa as (fun z w0 => bif Nat.beq z 1 then am_s1 w0 (fun i1 w1 => am_st0 w1 (am_bi (f_X7_append N i1 h) (fun v h => kk (am_ov v) h))) else none)
def o_X7_append (N : Nat) : am_Orc := am_o0
set_option maxRecDepth 100000 in
theorem tok_X7_append : am_tok 42 tX7_append := by
  unfold am_tok
  decide +kernel
set_option maxHeartbeats 4000000 in
set_option maxRecDepth 100000 in
theorem m_X7_append {l : Launch} {al : Nat → Nat} {dC : Nat → ClassId} {dI : Nat → Nat → Nat} {aC : Nat → ClassId} {aV : Nat → Nat} (hy : am_Hy l al) (N : Nat) (i1 : Int32) (h : am_Hp) (r : (Unit × am_Hp)) (hf : f_X7_append N i1 h = some r) : am_Met l al dC dI aC aV 42 [.ref 1, .int i1] h (am_ov r.1) r.2 :=
  am_met (tab := tX7_append) (orc := o_X7_append N) (ret := am_rv) (g := r) (by decide) (by decide) hy.1 hy.2 tok_X7_append am_os0 am_rv_inv (Nat.le_of_ble_eq_true rfl) (fun At cl wk => by
    have A3 : ∀ n : Nat, ∀ i1 : Int32, ∀ i2 : Int32, ∀ h, l_X7_append_3 N n i1 i2 h = some r → At 3 [(0, .ref 1), (1, .int i1), (2, .int i2)] [] h := by
      intro n
      induction n with
      | zero => intro i1 i2 h hr; cases hr
      | succ n ih =>
        intro i1 i2 h hr
        exact cl (am_C1 3 (fun ρ st h => am_lda ρ 0 (fun z => bif Nat.beq z 1 then am_ldi ρ 1 (fun i1 => am_ldi ρ 2 (fun i2 => am_st0 st (l_X7_append_3 N n i1 i2 h))) else none)) am_C0) (am_c1 (fun ρ st h hc => by
        obtain ⟨z, m_a0, hc⟩ := am_lda_some hc
        obtain ⟨hz, hc⟩ := am_bif hc
        cases Nat.eq_of_beq_eq_true hz
        obtain ⟨i1, m_i1, hc⟩ := am_ldi_some hc
        obtain ⟨i2, m_i2, hc⟩ := am_ldi_some hc
        obtain ⟨rfl, hc⟩ := am_st0_some hc
        exact wk 3 ρ [(0, .ref 1), (1, .int i1), (2, .int i2)] _ h (am_m1 m_a0 (am_m1 m_i1 (am_m1 m_i2 am_m0))) (ih i1 i2 h hc)) am_c0) 400 3 _ _ h hr
    exact cl (am_C1 3 (fun ρ st h => am_lda ρ 0 (fun z => bif Nat.beq z 1 then am_ldi ρ 1 (fun i1 => am_ldi ρ 2 (fun i2 => am_st0 st (l_X7_append_3 N N i1 i2 h))) else none)) am_C0) (am_c1 (fun ρ st h hc => by
        obtain ⟨z, m_a0, hc⟩ := am_lda_some hc
        obtain ⟨hz, hc⟩ := am_bif hc
        cases Nat.eq_of_beq_eq_true hz
        obtain ⟨i1, m_i1, hc⟩ := am_ldi_some hc
        obtain ⟨i2, m_i2, hc⟩ := am_ldi_some hc
        obtain ⟨rfl, hc⟩ := am_st0_some hc
        exact wk 3 ρ [(0, .ref 1), (1, .int i1), (2, .int i2)] _ h (am_m1 m_a0 (am_m1 m_i1 (am_m1 m_i2 am_m0))) (A3 N i1 i2 h hc)) am_c0) 400 0 _ _ h hf)
theorem s_X7_append {l : Launch} {al : Nat → Nat} {dC : Nat → ClassId} {dI : Nat → Nat → Nat} {aC : Nat → ClassId} {aV : Nat → Nat} (hy : am_Hy l al) (N : Nat) : am_CS l al dC dI aC aV 42 (c_X7_append N) := by
  intro γ as h kk g hc0
  obtain ⟨z0, w0, e_0, hcz0⟩ := am_sa_some hc0
  obtain ⟨hz0, hc1⟩ := am_bif hcz0
  cases Nat.eq_of_beq_eq_true hz0
  obtain ⟨i1, w1, e_1, hc2⟩ := am_s1_some hc1
  obtain ⟨e_2, hc⟩ := am_st0_some hc2
  subst e_2
  subst e_1
  subst e_0
  obtain ⟨q, e1, e2⟩ := am_bi_some hc
  exact ⟨_, _, m_X7_append hy N i1 h _ e1, e2⟩

def f_X7_open (N : Nat) (i1 : Int32) (h : am_Hp) : Option (Unit × am_Hp) :=
  let h1 := am_pi h 1 2 i1
  let h2 := am_pi h1 1 4 (0 : Int32)
  let h3 := am_pi h2 1 5 (0 : Int32)
  am_bi (f_X7_advance N h3) (fun _ h4 =>
  some ((), h4))
def c_X7_open (N : Nat) : am_Cl := fun _ as h kk => am_sa as (fun z w0 => bif Nat.beq z 1 then am_s1 w0 (fun i1 w1 => am_st0 w1 (am_bi (f_X7_open N i1 h) (fun v h => kk (am_ov v) h))) else none)
def o_X7_open (N : Nat) : am_Orc := (am_oc 44 (c_X7_advance N) am_o0)
set_option maxRecDepth 100000 in
theorem tok_X7_open : am_tok 43 tX7_open := by
  unfold am_tok
  decide +kernel
set_option maxHeartbeats 4000000 in
set_option maxRecDepth 100000 in
theorem m_X7_open {l : Launch} {al : Nat → Nat} {dC : Nat → ClassId} {dI : Nat → Nat → Nat} {aC : Nat → ClassId} {aV : Nat → Nat} (hy : am_Hy l al) (N : Nat) (i1 : Int32) (h : am_Hp) (r : (Unit × am_Hp)) (hf : f_X7_open N i1 h = some r) : am_Met l al dC dI aC aV 43 [.ref 1, .int i1] h (am_ov r.1) r.2 :=
  am_met (tab := tX7_open) (orc := o_X7_open N) (ret := am_rv) (g := r) (by decide) (by decide) hy.1 hy.2 tok_X7_open (am_os1 (s_X7_advance hy N) am_os0) am_rv_inv (Nat.le_of_ble_eq_true rfl) (fun At cl wk => by
    skip
    exact cl am_C0 am_c0 400 0 _ _ h hf)
theorem s_X7_open {l : Launch} {al : Nat → Nat} {dC : Nat → ClassId} {dI : Nat → Nat → Nat} {aC : Nat → ClassId} {aV : Nat → Nat} (hy : am_Hy l al) (N : Nat) : am_CS l al dC dI aC aV 43 (c_X7_open N) := by
  intro γ as h kk g hc0
  obtain ⟨z0, w0, e_0, hcz0⟩ := am_sa_some hc0
  obtain ⟨hz0, hc1⟩ := am_bif hcz0
  cases Nat.eq_of_beq_eq_true hz0
  obtain ⟨i1, w1, e_1, hc2⟩ := am_s1_some hc1
  obtain ⟨e_2, hc⟩ := am_st0_some hc2
  subst e_2
  subst e_1
  subst e_0
  obtain ⟨q, e1, e2⟩ := am_bi_some hc
  exact ⟨_, _, m_X7_open hy N i1 h _ e1, e2⟩

def l_X8_copyFrom_7 (N : Nat) : Nat → Nat → Nat → Int32 → am_Hp → Option (Unit × am_Hp)
  | 0, _, _, _, _ => none
  | n + 1, a0, a1, i2, h =>
    bif am_isO a1 8 then (if (h a1 4) ≤ i2 then
      some ((), h)
    else
      bif am_isO a1 8 then (am_G a1 1).bind (fun b1 => bif am_isI b1 || am_isA b1 || am_isF b1 then (if (Int32.ofNat (am_len b1)) ≤ i2 then
        some ((), h)
      else
        bif am_isO a1 8 then (am_G a1 1).bind (fun b2 => bif am_in i2 (am_len b2) then (bif am_isI b2 then bif am_isO a1 8 then (am_G a1 2).bind (fun b3 => bif am_in i2 (am_len b3) then (bif am_isI b3 then bif am_isO a1 8 then (am_G a1 3).bind (fun b4 => bif am_in i2 (am_len b4) then (bif am_isI b4 then bif am_isO a0 8 then am_bi (f_X8_add N a0 (h b2 i2.toNatClampNeg) (h b3 i2.toNatClampNeg) (h b4 i2.toNatClampNeg) h) (fun _ h5 =>
        l_X8_copyFrom_7 N n a0 a1 (i2 + (1 : Int32)) h5) else none else bif am_isF b4 then bif am_isO a0 8 then am_bi (f_X8_add N a0 (h b2 i2.toNatClampNeg) (h b3 i2.toNatClampNeg) (am_sx b4 i2.toNatClampNeg) h) (fun _ h6 =>
        l_X8_copyFrom_7 N n a0 a1 (i2 + (1 : Int32)) h6) else none else none) else none) else none else bif am_isF b3 then bif am_isO a1 8 then (am_G a1 3).bind (fun b7 => bif am_in i2 (am_len b7) then (bif am_isI b7 then bif am_isO a0 8 then am_bi (f_X8_add N a0 (h b2 i2.toNatClampNeg) (am_sx b3 i2.toNatClampNeg) (h b7 i2.toNatClampNeg) h) (fun _ h8 =>
        l_X8_copyFrom_7 N n a0 a1 (i2 + (1 : Int32)) h8) else none else bif am_isF b7 then bif am_isO a0 8 then am_bi (f_X8_add N a0 (h b2 i2.toNatClampNeg) (am_sx b3 i2.toNatClampNeg) (am_sx b7 i2.toNatClampNeg) h) (fun _ h9 =>
        l_X8_copyFrom_7 N n a0 a1 (i2 + (1 : Int32)) h9) else none else none) else none) else none else none) else none) else none else bif am_isF b2 then bif am_isO a1 8 then (am_G a1 2).bind (fun b10 => bif am_in i2 (am_len b10) then (bif am_isI b10 then bif am_isO a1 8 then (am_G a1 3).bind (fun b11 => bif am_in i2 (am_len b11) then (bif am_isI b11 then bif am_isO a0 8 then am_bi (f_X8_add N a0 (am_sx b2 i2.toNatClampNeg) (h b10 i2.toNatClampNeg) (h b11 i2.toNatClampNeg) h) (fun _ h12 =>
        l_X8_copyFrom_7 N n a0 a1 (i2 + (1 : Int32)) h12) else none else bif am_isF b11 then bif am_isO a0 8 then am_bi (f_X8_add N a0 (am_sx b2 i2.toNatClampNeg) (h b10 i2.toNatClampNeg) (am_sx b11 i2.toNatClampNeg) h) (fun _ h13 =>
        l_X8_copyFrom_7 N n a0 a1 (i2 + (1 : Int32)) h13) else none else none) else none) else none else bif am_isF b10 then bif am_isO a1 8 then (am_G a1 3).bind (fun b14 => bif am_in i2 (am_len b14) then (bif am_isI b14 then bif am_isO a0 8 then am_bi (f_X8_add N a0 (am_sx b2 i2.toNatClampNeg) (am_sx b10 i2.toNatClampNeg) (h b14 i2.toNatClampNeg) h) (fun _ h15 =>
        l_X8_copyFrom_7 N n a0 a1 (i2 + (1 : Int32)) h15) else none else bif am_isF b14 then bif am_isO a0 8 then am_bi (f_X8_add N a0 (am_sx b2 i2.toNatClampNeg) (am_sx b10 i2.toNatClampNeg) (am_sx b14 i2.toNatClampNeg) h) (fun _ h16 =>
        l_X8_copyFrom_7 N n a0 a1 (i2 + (1 : Int32)) h16) else none else none) else none) else none else none) else none) else none else none) else none) else none) else none) else none) else none
def f_X8_copyFrom (N : Nat) (a0 : Nat) (a1 : Nat) (h : am_Hp) : Option (Unit × am_Hp) :=
  bif am_isO a0 8 then (let h1 := am_pi h a0 4 (0 : Int32)
  l_X8_copyFrom_7 N N a0 a1 (0 : Int32) h1) else none
def c_X8_copyFrom (N : Nat) : am_Cl := fun _ as h kk => am_sa as (fun a0 w0 => am_sa w0 (fun a1 w1 => am_st0 w1 (am_bi (f_X8_copyFrom N a0 a1 h) (fun v h => kk (am_ov v) h))))
def o_X8_copyFrom (N : Nat) : am_Orc := (am_oc 55 (c_X8_add N) am_o0)
set_option maxRecDepth 100000 in
theorem tok_X8_copyFrom : am_tok 56 tX8_copyFrom := by
  unfold am_tok
  decide +kernel
set_option maxHeartbeats 4000000 in
set_option maxRecDepth 100000 in
theorem m_X8_copyFrom {l : Launch} {al : Nat → Nat} {dC : Nat → ClassId} {dI : Nat → Nat → Nat} {aC : Nat → ClassId} {aV : Nat → Nat} (hy : am_Hy l al) (N : Nat) (a0 : Nat) (a1 : Nat) (h : am_Hp) (r : (Unit × am_Hp)) (hf : f_X8_copyFrom N a0 a1 h = some r) : am_Met l al dC dI aC aV 56 [.ref a0, .ref a1] h (am_ov r.1) r.2 :=
  am_met (tab := tX8_copyFrom) (orc := o_X8_copyFrom N) (ret := am_rv) (g := r) (by decide) (by decide) hy.1 hy.2 tok_X8_copyFrom (am_os1 (s_X8_add hy N) am_os0) am_rv_inv (Nat.le_of_ble_eq_true rfl) (fun At cl wk => by
    have A7 : ∀ n : Nat, ∀ a0 : Nat, ∀ a1 : Nat, ∀ i2 : Int32, ∀ h, l_X8_copyFrom_7 N n a0 a1 i2 h = some r → At 7 [(0, .ref a0), (1, .ref a1), (2, .int i2)] [] h := by
      intro n
      induction n with
      | zero => intro a0 a1 i2 h hr; cases hr
      | succ n ih =>
        intro a0 a1 i2 h hr
        exact cl (am_C1 7 (fun ρ st h => am_lda ρ 0 (fun a0 => am_lda ρ 1 (fun a1 => am_ldi ρ 2 (fun i2 => am_st0 st (l_X8_copyFrom_7 N n a0 a1 i2 h))))) am_C0) (am_c1 (fun ρ st h hc => by
        obtain ⟨a0, m_a0, hc⟩ := am_lda_some hc
        obtain ⟨a1, m_a1, hc⟩ := am_lda_some hc
        obtain ⟨i2, m_i2, hc⟩ := am_ldi_some hc
        obtain ⟨rfl, hc⟩ := am_st0_some hc
        exact wk 7 ρ [(0, .ref a0), (1, .ref a1), (2, .int i2)] _ h (am_m1 m_a0 (am_m1 m_a1 (am_m1 m_i2 am_m0))) (ih a0 a1 i2 h hc)) am_c0) 400 7 _ _ h hr
    exact cl (am_C1 7 (fun ρ st h => am_lda ρ 0 (fun a0 => am_lda ρ 1 (fun a1 => am_ldi ρ 2 (fun i2 => am_st0 st (l_X8_copyFrom_7 N N a0 a1 i2 h))))) am_C0) (am_c1 (fun ρ st h hc => by
        obtain ⟨a0, m_a0, hc⟩ := am_lda_some hc
        obtain ⟨a1, m_a1, hc⟩ := am_lda_some hc
        obtain ⟨i2, m_i2, hc⟩ := am_ldi_some hc
        obtain ⟨rfl, hc⟩ := am_st0_some hc
        exact wk 7 ρ [(0, .ref a0), (1, .ref a1), (2, .int i2)] _ h (am_m1 m_a0 (am_m1 m_a1 (am_m1 m_i2 am_m0))) (A7 N a0 a1 i2 h hc)) am_c0) 400 0 _ _ h hf)
theorem s_X8_copyFrom {l : Launch} {al : Nat → Nat} {dC : Nat → ClassId} {dI : Nat → Nat → Nat} {aC : Nat → ClassId} {aV : Nat → Nat} (hy : am_Hy l al) (N : Nat) : am_CS l al dC dI aC aV 56 (c_X8_copyFrom N) := by
  intro γ as h kk g hc0
  obtain ⟨a0, w0, e_0, hc1⟩ := am_sa_some hc0
  obtain ⟨a1, w1, e_1, hc2⟩ := am_sa_some hc1
  obtain ⟨e_2, hc⟩ := am_st0_some hc2
  subst e_2
  subst e_1
  subst e_0
  obtain ⟨q, e1, e2⟩ := am_bi_some hc
  exact ⟨_, _, m_X8_copyFrom hy N a0 a1 h _ e1, e2⟩
