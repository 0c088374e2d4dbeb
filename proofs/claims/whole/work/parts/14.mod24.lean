def l_X10_pass_63 (N : Nat) (K45 : Int32 → Int32 → Int32 → am_Hp → Option (Int32 × am_Hp)) : Nat → Int32 → Int32 → Int32 → Int32 → am_Hp → Option (Int32 × am_Hp)
  | 0, _, _, _, _, _ => none
  | n + 1, i1, i2, i3, i4, h =>
    bif am_in (0 : Int32) 20 then (if (h 195 0) ≤ i4 then
      K45 i1 i2 (i3 + (1 : Int32)) h
    else
      am_bi (f_X10_ofS N i4 (2 : Int32) h) (fun x2 h1 =>
      (if x2 = (-1 : Int32) then
        l_X10_pass_63 N K45 n i1 i2 i3 (i4 + (1 : Int32)) h1
      else
        bif am_in (2 : Int32) 6071 then am_bi (f_X10_ofS N i4 (3 : Int32) h1) (fun x4 h3 =>
        bif am_in (0 : Int32) 6071 then (if (h3 197 0) ≤ ((h1 197 2) - x4) then
          am_bi (f_X10_givesUp N i4 h3) (fun _ h5 =>
          bif am_in (5 : Int32) 6071 then bif am_in (5 : Int32) 6071 then (let h6 := am_pi h5 197 5 ((h5 197 5) + (1 : Int32))
          l_X10_pass_63 N K45 n i1 (i2 + (1 : Int32)) i3 (i4 + (1 : Int32)) h6) else none else none)
        else
          l_X10_pass_63 N K45 n i1 i2 i3 (i4 + (1 : Int32)) h3) else none) else none))) else none
def l_X10_pass_45 (N : Nat) : Nat → Int32 → Int32 → Int32 → am_Hp → Option (Int32 × am_Hp)
  | 0, _, _, _, _ => none
  | n + 1, i1, i2, i3, h =>
    (if i1 ≤ i3 then
      am_bi (f_X10_settles N h) (fun _ h1 =>
      some (i2, h1))
    else
      bif am_in (2 : Int32) 6071 then bif am_in (2 : Int32) 6071 then (let h2 := am_pi h 197 2 ((h 197 2) + (1 : Int32))
      l_X10_pass_63 N (l_X10_pass_45 N n) N i1 i2 i3 (0 : Int32) h2) else none else none)
def f_X10_pass (N : Nat) (i1 : Int32) (h : am_Hp) : Option (Int32 × am_Hp) :=
  let h1 := am_pi h 193 0 (0 : Int32)
  (if i1 < (1 : Int32) then
    some ((-2 : Int32), h1)
  else
    (if i1 ≤ (500 : Int32) then
      bif am_in (2 : Int32) 6071 then (if ((h1 197 2) + i1) ≤ (9999 : Int32) then
        am_bi (f_X10_keeps N h1) (fun _ h2 =>
        l_X10_pass_45 N N i1 (0 : Int32) (0 : Int32) h2)
      else
        some ((-3 : Int32), h1)) else none
    else
      some ((-2 : Int32), h1)))
def c_X10_pass (N : Nat) : am_Cl := fun _ as h kk => am_sa as (fun z w0 => bif Nat.beq z 193 then am_s1 w0 (fun i1 w1 => am_st0 w1 (am_bi (f_X10_pass N i1 h) (fun v h => kk (am_oi v) h))) else none)
def o_X10_pass (N : Nat) : am_Orc := (am_oc 209 (c_X10_keeps N) (am_oc 129 (c_X10_ofS N) (am_oc 152 (c_X10_givesUp N) (am_oc 150 (c_X10_settles N) am_o0))))
set_option maxRecDepth 100000 in
theorem tok_X10_pass : am_tok 223 tX10_pass := by
  unfold am_tok
  decide +kernel
set_option maxHeartbeats 4000000 in
set_option maxRecDepth 100000 in
theorem m_X10_pass {l : Launch} {al : Nat → Nat} {dC : Nat → ClassId} {dI : Nat → Nat → Nat} {aC : Nat → ClassId} {aV : Nat → Nat} (hy : am_Hy l al) (N : Nat) (i1 : Int32) (h : am_Hp) (r : (Int32 × am_Hp)) (hf : f_X10_pass N i1 h = some r) : am_Met l al dC dI aC aV 223 [.ref 193, .int i1] h (am_oi r.1) r.2 :=
  am_met (tab := tX10_pass) (orc := o_X10_pass N) (ret := am_ri) (g := r) (by decide) (by decide) hy.1 hy.2 tok_X10_pass (am_os1 (s_X10_keeps hy N) (am_os1 (s_X10_ofS hy N) (am_os1 (s_X10_givesUp hy N) (am_os1 (s_X10_settles hy N) am_os0)))) am_ri_inv (Nat.le_of_ble_eq_true rfl) (fun At cl wk => by
    have A63 : ∀ (K45 : Int32 → Int32 → Int32 → am_Hp → Option (Int32 × am_Hp)), (∀ i1 : Int32, ∀ i2 : Int32, ∀ i3 : Int32, ∀ h, K45 i1 i2 i3 h = some r → At 45 [(0, .ref 193), (1, .int i1), (2, .int i2), (3, .int i3)] [] h) → ∀ n : Nat, ∀ i1 : Int32, ∀ i2 : Int32, ∀ i3 : Int32, ∀ i4 : Int32, ∀ h, l_X10_pass_63 N K45 n i1 i2 i3 i4 h = some r → At 63 [(0, .ref 193), (1, .int i1), (2, .int i2), (3, .int i3), (4, .int i4)] [] h := by
      intro K45 hK45 n
      induction n with
      | zero => intro i1 i2 i3 i4 h hr; cases hr
      | succ n ih =>
        intro i1 i2 i3 i4 h hr
        exact cl (am_C1 45 (fun ρ st h => am_lda ρ 0 (fun z => bif Nat.beq z 193 then am_ldi ρ 1 (fun i1 => am_ldi ρ 2 (fun i2 => am_ldi ρ 3 (fun i3 => am_st0 st (K45 i1 i2 i3 h)))) else none)) (am_C1 63 (fun ρ st h => am_lda ρ 0 (fun z => bif Nat.beq z 193 then am_ldi ρ 1 (fun i1 => am_ldi ρ 2 (fun i2 => am_ldi ρ 3 (fun i3 => am_ldi ρ 4 (fun i4 => am_st0 st (l_X10_pass_63 N K45 n i1 i2 i3 i4 h))))) else none)) am_C0)) (am_c1 (fun ρ st h hc => by
        obtain ⟨z, m_a0, hc⟩ := am_lda_some hc
        obtain ⟨hz, hc⟩ := am_bif hc
        cases Nat.eq_of_beq_eq_true hz
        obtain ⟨i1, m_i1, hc⟩ := am_ldi_some hc
        obtain ⟨i2, m_i2, hc⟩ := am_ldi_some hc
        obtain ⟨i3, m_i3, hc⟩ := am_ldi_some hc
        obtain ⟨rfl, hc⟩ := am_st0_some hc
        exact wk 45 ρ [(0, .ref 193), (1, .int i1), (2, .int i2), (3, .int i3)] _ h (am_m1 m_a0 (am_m1 m_i1 (am_m1 m_i2 (am_m1 m_i3 am_m0)))) (hK45 i1 i2 i3 h hc)) (am_c1 (fun ρ st h hc => by
        obtain ⟨z, m_a0, hc⟩ := am_lda_some hc
        obtain ⟨hz, hc⟩ := am_bif hc
        cases Nat.eq_of_beq_eq_true hz
        obtain ⟨i1, m_i1, hc⟩ := am_ldi_some hc
        obtain ⟨i2, m_i2, hc⟩ := am_ldi_some hc
        obtain ⟨i3, m_i3, hc⟩ := am_ldi_some hc
        obtain ⟨i4, m_i4, hc⟩ := am_ldi_some hc
        obtain ⟨rfl, hc⟩ := am_st0_some hc
        exact wk 63 ρ [(0, .ref 193), (1, .int i1), (2, .int i2), (3, .int i3), (4, .int i4)] _ h (am_m1 m_a0 (am_m1 m_i1 (am_m1 m_i2 (am_m1 m_i3 (am_m1 m_i4 am_m0))))) (ih i1 i2 i3 i4 h hc)) am_c0)) 400 63 _ _ h hr
    have A45 : ∀ n : Nat, ∀ i1 : Int32, ∀ i2 : Int32, ∀ i3 : Int32, ∀ h, l_X10_pass_45 N n i1 i2 i3 h = some r → At 45 [(0, .ref 193), (1, .int i1), (2, .int i2), (3, .int i3)] [] h := by
      intro n
      induction n with
      | zero => intro i1 i2 i3 h hr; cases hr
      | succ n ih =>
        intro i1 i2 i3 h hr
        exact cl (am_C1 63 (fun ρ st h => am_lda ρ 0 (fun z => bif Nat.beq z 193 then am_ldi ρ 1 (fun i1 => am_ldi ρ 2 (fun i2 => am_ldi ρ 3 (fun i3 => am_ldi ρ 4 (fun i4 => am_st0 st (l_X10_pass_63 N (l_X10_pass_45 N n) N i1 i2 i3 i4 h))))) else none)) am_C0) (am_c1 (fun ρ st h hc => by
        obtain ⟨z, m_a0, hc⟩ := am_lda_some hc
        obtain ⟨hz, hc⟩ := am_bif hc
        cases Nat.eq_of_beq_eq_true hz
        obtain ⟨i1, m_i1, hc⟩ := am_ldi_some hc
        obtain ⟨i2, m_i2, hc⟩ := am_ldi_some hc
        obtain ⟨i3, m_i3, hc⟩ := am_ldi_some hc
        obtain ⟨i4, m_i4, hc⟩ := am_ldi_some hc
        obtain ⟨rfl, hc⟩ := am_st0_some hc
        exact wk 63 ρ [(0, .ref 193), (1, .int i1), (2, .int i2), (3, .int i3), (4, .int i4)] _ h (am_m1 m_a0 (am_m1 m_i1 (am_m1 m_i2 (am_m1 m_i3 (am_m1 m_i4 am_m0))))) (A63 (l_X10_pass_45 N n) ih N i1 i2 i3 i4 h hc)) am_c0) 400 45 _ _ h hr
    exact cl (am_C1 45 (fun ρ st h => am_lda ρ 0 (fun z => bif Nat.beq z 193 then am_ldi ρ 1 (fun i1 => am_ldi ρ 2 (fun i2 => am_ldi ρ 3 (fun i3 => am_st0 st (l_X10_pass_45 N N i1 i2 i3 h)))) else none)) am_C0) (am_c1 (fun ρ st h hc => by
        obtain ⟨z, m_a0, hc⟩ := am_lda_some hc
        obtain ⟨hz, hc⟩ := am_bif hc
        cases Nat.eq_of_beq_eq_true hz
        obtain ⟨i1, m_i1, hc⟩ := am_ldi_some hc
        obtain ⟨i2, m_i2, hc⟩ := am_ldi_some hc
        obtain ⟨i3, m_i3, hc⟩ := am_ldi_some hc
        obtain ⟨rfl, hc⟩ := am_st0_some hc
        exact wk 45 ρ [(0, .ref 193), (1, .int i1), (2, .int i2), (3, .int i3)] _ h (am_m1 m_a0 (am_m1 m_i1 (am_m1 m_i2 (am_m1 m_i3 am_m0)))) (A45 N i1 i2 i3 h hc)) am_c0) 400 0 _ _ h hf)
theorem s_X10_pass {l : Launch} {al : Nat → Nat} {dC : Nat → ClassId} {dI : Nat → Nat → Nat} {aC : Nat → ClassId} {aV : Nat → Nat} (hy : am_Hy l al) (N : Nat) : am_CS l al dC dI aC aV 223 (c_X10_pass N) := by
  intro γ as h kk g hc0
  obtain ⟨z0, w0, e_0, hcz0⟩ := am_sa_some hc0
  obtain ⟨hz0, hc1⟩ := am_bif hcz0
  cases Nat.eq_of_beq_eq_true hz0
  obtain ⟨i1, w1, e_1, hc2⟩ := am_s1_some hc1
  obtain ⟨e_2, hc⟩ := am_st0_some hc2
  subst e_2
  subst e_1
  subst e_0
  obtain ⟨q, e1, e2⟩ := am_bi_some hc
  exact ⟨_, _, m_X10_pass hy N i1 h _ e1, e2⟩

def f_X10_setSetting (N : Nat) (i1 : Int32) (i2 : Int32) (h : am_Hp) : Option (Int32 × am_Hp) :=
  let h1 := am_pi h 193 0 (0 : Int32)
  am_bi (f_X10_isSetting N i1 h1) (fun x3 h2 =>
  (if x3 = 0 then
    some ((-2 : Int32), h2)
  else
    am_bi (f_X10_low N i1 h2) (fun x5 h4 =>
    (if i2 < x5 then
      some ((-2 : Int32), h4)
    else
      am_bi (f_X10_top N i1 h4) (fun x7 h6 =>
      (if i2 ≤ x7 then
        am_bi (f_X10_keeps N h6) (fun _ h8 =>
        bif am_in ((0 : Int32) + i1) 6071 then bif am_in ((0 : Int32) + i1) 6071 then (let h9 := am_pi h8 197 (((0 : Int32) + i1).toNatClampNeg) i2
        am_bi (f_X10_settles N h9) (fun _ h10 =>
        some (h8 197 (((0 : Int32) + i1).toNatClampNeg), h10))) else none else none)
      else
        some ((-2 : Int32), h6)))))))
def c_X10_setSetting (N : Nat) : am_Cl := fun _ as h kk => am_sa as (fun z w0 => bif Nat.beq z 193 then am_s1 w0 (fun i1 w1 => am_s1 w1 (fun i2 w2 => am_st0 w2 (am_bi (f_X10_setSetting N i1 i2 h) (fun v h => kk (am_oi v) h)))) else none)
def o_X10_setSetting (N : Nat) : am_Orc := (am_oc 177 (c_X10_isSetting N) (am_oc 168 (c_X10_low N) (am_oc 169 (c_X10_top N) (am_oc 209 (c_X10_keeps N) (am_oc 150 (c_X10_settles N) am_o0)))))
set_option maxRecDepth 100000 in
theorem tok_X10_setSetting : am_tok 224 tX10_setSetting := by
  unfold am_tok
  decide +kernel
set_option maxHeartbeats 4000000 in
set_option maxRecDepth 100000 in
theorem m_X10_setSetting {l : Launch} {al : Nat → Nat} {dC : Nat → ClassId} {dI : Nat → Nat → Nat} {aC : Nat → ClassId} {aV : Nat → Nat} (hy : am_Hy l al) (N : Nat) (i1 : Int32) (i2 : Int32) (h : am_Hp) (r : (Int32 × am_Hp)) (hf : f_X10_setSetting N i1 i2 h = some r) : am_Met l al dC dI aC aV 224 [.ref 193, .int i1, .int i2] h (am_oi r.1) r.2 :=
  am_met (tab := tX10_setSetting) (orc := o_X10_setSetting N) (ret := am_ri) (g := r) (by decide) (by decide) hy.1 hy.2 tok_X10_setSetting (am_os1 (s_X10_isSetting hy N) (am_os1 (s_X10_low hy N) (am_os1 (s_X10_top hy N) (am_os1 (s_X10_keeps hy N) (am_os1 (s_X10_settles hy N) am_os0))))) am_ri_inv (Nat.le_of_ble_eq_true rfl) (fun At cl wk => by
    skip
    exact cl am_C0 am_c0 400 0 _ _ h hf)
theorem s_X10_setSetting {l : Launch} {al : Nat → Nat} {dC : Nat → ClassId} {dI : Nat → Nat → Nat} {aC : Nat → ClassId} {aV : Nat → Nat} (hy : am_Hy l al) (N : Nat) : am_CS l al dC dI aC aV 224 (c_X10_setSetting N) := by
  intro γ as h kk g hc0
  obtain ⟨z0, w0, e_0, hcz0⟩ := am_sa_some hc0
  obtain ⟨hz0, hc1⟩ := am_bif hcz0
  cases Nat.eq_of_beq_eq_true hz0
  obtain ⟨i1, w1, e_1, hc2⟩ := am_s1_some hc1
  obtain ⟨i2, w2, e_2, hc3⟩ := am_s1_some hc2
  obtain ⟨e_3, hc⟩ := am_st0_some hc3
  subst e_3
  subst e_2
  subst e_1
  subst e_0
  obtain ⟨q, e1, e2⟩ := am_bi_some hc
  exact ⟨_, _, m_X10_setSetting hy N i1 i2 h _ e1, e2⟩

def f_X10_writes (N : Nat) (i1 : Int32) (h : am_Hp) : Option (Unit × am_Hp) :=
  bif am_in (h 193 30) 110 then (let h1 := am_pi h 204 ((h 193 30).toNatClampNeg) i1
  let h2 := am_pi h1 193 30 ((h1 193 30) + (1 : Int32))
  some ((), h2)) else none
def c_X10_writes (N : Nat) : am_Cl := fun _ as h kk => am_sa as (fun z w0 => bif Nat.beq z 193 then am_s1 w0 (fun i1 w1 => am_st0 w1 (am_bi (f_X10_writes N i1 h) (fun v h => kk (am_ov v) h))) else none)
def o_X10_writes (N : Nat) : am_Orc := am_o0
set_option maxRecDepth 100000 in
theorem tok_X10_writes : am_tok 225 tX10_writes := by
  unfold am_tok
  decide +kernel
set_option maxHeartbeats 4000000 in
set_option maxRecDepth 100000 in
theorem m_X10_writes {l : Launch} {al : Nat → Nat} {dC : Nat → ClassId} {dI : Nat → Nat → Nat} {aC : Nat → ClassId} {aV : Nat → Nat} (hy : am_Hy l al) (N : Nat) (i1 : Int32) (h : am_Hp) (r : (Unit × am_Hp)) (hf : f_X10_writes N i1 h = some r) : am_Met l al dC dI aC aV 225 [.ref 193, .int i1] h (am_ov r.1) r.2 :=
  am_met (tab := tX10_writes) (orc := o_X10_writes N) (ret := am_rv) (g := r) (by decide) (by decide) hy.1 hy.2 tok_X10_writes am_os0 am_rv_inv (Nat.le_of_ble_eq_true rfl) (fun At cl wk => by
    skip
    exact cl am_C0 am_c0 400 0 _ _ h hf)
theorem s_X10_writes {l : Launch} {al : Nat → Nat} {dC : Nat → ClassId} {dI : Nat → Nat → Nat} {aC : Nat → ClassId} {aV : Nat → Nat} (hy : am_Hy l al) (N : Nat) : am_CS l al dC dI aC aV 225 (c_X10_writes N) := by
  intro γ as h kk g hc0
  obtain ⟨z0, w0, e_0, hcz0⟩ := am_sa_some hc0
  obtain ⟨hz0, hc1⟩ := am_bif hcz0
  cases Nat.eq_of_beq_eq_true hz0
  obtain ⟨i1, w1, e_1, hc2⟩ := am_s1_some hc1
  obtain ⟨e_2, hc⟩ := am_st0_some hc2
  subst e_2
  subst e_1
  subst e_0
  obtain ⟨q, e1, e2⟩ := am_bi_some hc
  exact ⟨_, _, m_X10_writes hy N i1 h _ e1, e2⟩
