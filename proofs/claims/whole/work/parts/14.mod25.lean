def l_X10_write_48 (N : Nat) (K36 : Int32 → Int32 → am_Hp → Option (Int32 × am_Hp)) : Nat → Int32 → Int32 → Int32 → am_Hp → Option (Int32 × am_Hp)
  | 0, _, _, _, _ => none
  | n + 1, i1, i2, i3, h =>
    am_bi (f_X10_ofU N i1 (0 : Int32) h) (fun x2 h1 =>
    (if x2 ≤ i3 then
      am_bi (f_X10_writes N (10 : Int32) h1) (fun _ h3 =>
      K36 i1 (i2 + (1 : Int32)) h3)
    else
      am_bi (f_X10_seen N i2 i3 h1) (fun x5 h4 =>
      (if x5 = (27 : Int32) then
        am_bi (f_X10_writes N (32 : Int32) h4) (fun _ h7 =>
        l_X10_write_48 N K36 n i1 i2 (i3 + (1 : Int32)) h7)
      else
        am_bi (f_X10_writes N ((96 : Int32) + x5) h4) (fun _ h6 =>
        l_X10_write_48 N K36 n i1 i2 (i3 + (1 : Int32)) h6)))))
def l_X10_write_36 (N : Nat) : Nat → Int32 → Int32 → am_Hp → Option (Int32 × am_Hp)
  | 0, _, _, _ => none
  | n + 1, i1, i2, h =>
    am_bi (f_X10_ofU N i1 (1 : Int32) h) (fun x2 h1 =>
    (if x2 ≤ i2 then
      some (h1 193 30, h1)
    else
      l_X10_write_48 N (l_X10_write_36 N n) N i1 i2 (0 : Int32) h1))
def f_X10_write (N : Nat) (i1 : Int32) (h : am_Hp) : Option (Int32 × am_Hp) :=
  am_bi (f_X10_isUser N i1 h) (fun x2 h1 =>
  am_bi (f_X10_checks N x2 h1) (fun x4 h3 =>
  (if x4 = 0 then
    some ((0 : Int32), h3)
  else
    let h5 := am_pi h3 193 30 (0 : Int32)
    am_bi (f_X10_watches N i1 h5) (fun x7 h6 =>
    (if x7 = 0 then
      some ((0 : Int32), h6)
    else
      am_bi (f_X10_laysWindow N i1 h6) (fun _ h8 =>
      l_X10_write_36 N N i1 (0 : Int32) h8))))))
def c_X10_write (N : Nat) : am_Cl := fun _ as h kk => am_sa as (fun z w0 => bif Nat.beq z 193 then am_s1 w0 (fun i1 w1 => am_st0 w1 (am_bi (f_X10_write N i1 h) (fun v h => kk (am_oi v) h))) else none)
def o_X10_write (N : Nat) : am_Orc := (am_oc 175 (c_X10_isUser N) (am_oc 178 (c_X10_checks N) (am_oc 135 (c_X10_watches N) (am_oc 189 (c_X10_laysWindow N) (am_oc 131 (c_X10_ofU N) (am_oc 190 (c_X10_seen N) (am_oc 225 (c_X10_writes N) am_o0)))))))
set_option maxRecDepth 100000 in
theorem tok_X10_write : am_tok 226 tX10_write := by
  unfold am_tok
  decide +kernel
set_option maxHeartbeats 4000000 in
set_option maxRecDepth 100000 in
theorem m_X10_write {l : Launch} {al : Nat → Nat} {dC : Nat → ClassId} {dI : Nat → Nat → Nat} {aC : Nat → ClassId} {aV : Nat → Nat} (hy : am_Hy l al) (N : Nat) (i1 : Int32) (h : am_Hp) (r : (Int32 × am_Hp)) (hf : f_X10_write N i1 h = some r) : am_Met l al dC dI aC aV 226 [.ref 193, .int i1] h (am_oi r.1) r.2 :=
  am_met (tab := tX10_write) (orc := o_X10_write N) (ret := am_ri) (g := r) (by decide) (by decide) hy.1 hy.2 tok_X10_write (am_os1 (s_X10_isUser hy N) (am_os1 (s_X10_checks hy N) (am_os1 (s_X10_watches hy N) (am_os1 (s_X10_laysWindow hy N) (am_os1 (s_X10_ofU hy N) (am_os1 (s_X10_seen hy N) (am_os1 (s_X10_writes hy N) am_os0))))))) am_ri_inv (Nat.le_of_ble_eq_true rfl) (fun At cl wk => by
    have A48 : ∀ (K36 : Int32 → Int32 → am_Hp → Option (Int32 × am_Hp)), (∀ i1 : Int32, ∀ i2 : Int32, ∀ h, K36 i1 i2 h = some r → At 36 [(0, .ref 193), (1, .int i1), (2, .int i2)] [] h) → ∀ n : Nat, ∀ i1 : Int32, ∀ i2 : Int32, ∀ i3 : Int32, ∀ h, l_X10_write_48 N K36 n i1 i2 i3 h = some r → At 48 [(0, .ref 193), (1, .int i1), (2, .int i2), (3, .int i3)] [] h := by
      intro K36 hK36 n
      induction n with
      | zero => intro i1 i2 i3 h hr; cases hr
      | succ n ih =>
        intro i1 i2 i3 h hr
        exact cl (am_C1 36 (fun ρ st h => am_lda ρ 0 (fun z => bif Nat.beq z 193 then am_ldi ρ 1 (fun i1 => am_ldi ρ 2 (fun i2 => am_st0 st (K36 i1 i2 h))) else none)) (am_C1 48 (fun ρ st h => am_lda ρ 0 (fun z => bif Nat.beq z 193 then am_ldi ρ 1 (fun i1 => am_ldi ρ 2 (fun i2 => am_ldi ρ 3 (fun i3 => am_st0 st (l_X10_write_48 N K36 n i1 i2 i3 h)))) else none)) am_C0)) (am_c1 (fun ρ st h hc => by
        obtain ⟨z, m_a0, hc⟩ := am_lda_some hc
        obtain ⟨hz, hc⟩ := am_bif hc
        cases Nat.eq_of_beq_eq_true hz
        obtain ⟨i1, m_i1, hc⟩ := am_ldi_some hc
        obtain ⟨i2, m_i2, hc⟩ := am_ldi_some hc
        obtain ⟨rfl, hc⟩ := am_st0_some hc
        exact wk 36 ρ [(0, .ref 193), (1, .int i1), (2, .int i2)] _ h (am_m1 m_a0 (am_m1 m_i1 (am_m1 m_i2 am_m0))) (hK36 i1 i2 h hc)) (am_c1 (fun ρ st h hc => by
        obtain ⟨z, m_a0, hc⟩ := am_lda_some hc
        obtain ⟨hz, hc⟩ := am_bif hc
        cases Nat.eq_of_beq_eq_true hz
        obtain ⟨i1, m_i1, hc⟩ := am_ldi_some hc
        obtain ⟨i2, m_i2, hc⟩ := am_ldi_some hc
        obtain ⟨i3, m_i3, hc⟩ := am_ldi_some hc
        obtain ⟨rfl, hc⟩ := am_st0_some hc
        exact wk 48 ρ [(0, .ref 193), (1, .int i1), (2, .int i2), (3, .int i3)] _ h (am_m1 m_a0 (am_m1 m_i1 (am_m1 m_i2 (am_m1 m_i3 am_m0)))) (ih i1 i2 i3 h hc)) am_c0)) 400 48 _ _ h hr
    have A36 : ∀ n : Nat, ∀ i1 : Int32, ∀ i2 : Int32, ∀ h, l_X10_write_36 N n i1 i2 h = some r → At 36 [(0, .ref 193), (1, .int i1), (2, .int i2)] [] h := by
      intro n
      induction n with
      | zero => intro i1 i2 h hr; cases hr
      | succ n ih =>
        intro i1 i2 h hr
        exact cl (am_C1 48 (fun ρ st h => am_lda ρ 0 (fun z => bif Nat.beq z 193 then am_ldi ρ 1 (fun i1 => am_ldi ρ 2 (fun i2 => am_ldi ρ 3 (fun i3 => am_st0 st (l_X10_write_48 N (l_X10_write_36 N n) N i1 i2 i3 h)))) else none)) am_C0) (am_c1 (fun ρ st h hc => by
        obtain ⟨z, m_a0, hc⟩ := am_lda_some hc
        obtain ⟨hz, hc⟩ := am_bif hc
        cases Nat.eq_of_beq_eq_true hz
        obtain ⟨i1, m_i1, hc⟩ := am_ldi_some hc
        obtain ⟨i2, m_i2, hc⟩ := am_ldi_some hc
        obtain ⟨i3, m_i3, hc⟩ := am_ldi_some hc
        obtain ⟨rfl, hc⟩ := am_st0_some hc
        exact wk 48 ρ [(0, .ref 193), (1, .int i1), (2, .int i2), (3, .int i3)] _ h (am_m1 m_a0 (am_m1 m_i1 (am_m1 m_i2 (am_m1 m_i3 am_m0)))) (A48 (l_X10_write_36 N n) ih N i1 i2 i3 h hc)) am_c0) 400 36 _ _ h hr
    exact cl (am_C1 36 (fun ρ st h => am_lda ρ 0 (fun z => bif Nat.beq z 193 then am_ldi ρ 1 (fun i1 => am_ldi ρ 2 (fun i2 => am_st0 st (l_X10_write_36 N N i1 i2 h))) else none)) am_C0) (am_c1 (fun ρ st h hc => by
        obtain ⟨z, m_a0, hc⟩ := am_lda_some hc
        obtain ⟨hz, hc⟩ := am_bif hc
        cases Nat.eq_of_beq_eq_true hz
        obtain ⟨i1, m_i1, hc⟩ := am_ldi_some hc
        obtain ⟨i2, m_i2, hc⟩ := am_ldi_some hc
        obtain ⟨rfl, hc⟩ := am_st0_some hc
        exact wk 36 ρ [(0, .ref 193), (1, .int i1), (2, .int i2)] _ h (am_m1 m_a0 (am_m1 m_i1 (am_m1 m_i2 am_m0))) (A36 N i1 i2 h hc)) am_c0) 400 0 _ _ h hf)
theorem s_X10_write {l : Launch} {al : Nat → Nat} {dC : Nat → ClassId} {dI : Nat → Nat → Nat} {aC : Nat → ClassId} {aV : Nat → Nat} (hy : am_Hy l al) (N : Nat) : am_CS l al dC dI aC aV 226 (c_X10_write N) := by
  intro γ as h kk g hc0
  obtain ⟨z0, w0, e_0, hcz0⟩ := am_sa_some hc0
  obtain ⟨hz0, hc1⟩ := am_bif hcz0
  cases Nat.eq_of_beq_eq_true hz0
  obtain ⟨i1, w1, e_1, hc2⟩ := am_s1_some hc1
  obtain ⟨e_2, hc⟩ := am_st0_some hc2
  subst e_2
  subst e_1
  subst e_0
  obtain ⟨q, e1, e2⟩ := am_bi_some hc
  exact ⟨_, _, m_X10_write hy N i1 h _ e1, e2⟩

def f_X10_outputAt (N : Nat) (i1 : Int32) (h : am_Hp) : Option (Int32 × am_Hp) :=
  let h1 := am_pi h 193 0 (0 : Int32)
  (if i1 < 0 then
    some ((-1 : Int32), h1)
  else
    (if i1 < (h1 193 30) then
      bif am_in i1 110 then some (h1 204 i1.toNatClampNeg, h1) else none
    else
      some ((-1 : Int32), h1)))
def c_X10_outputAt (N : Nat) : am_Cl := fun _ as h kk => am_sa as (fun z w0 => bif Nat.beq z 193 then am_s1 w0 (fun i1 w1 => am_st0 w1 (am_bi (f_X10_outputAt N i1 h) (fun v h => kk (am_oi v) h))) else none)
def o_X10_outputAt (N : Nat) : am_Orc := am_o0
set_option maxRecDepth 100000 in
theorem tok_X10_outputAt : am_tok 227 tX10_outputAt := by
  unfold am_tok
  decide +kernel
set_option maxHeartbeats 4000000 in
set_option maxRecDepth 100000 in
theorem m_X10_outputAt {l : Launch} {al : Nat → Nat} {dC : Nat → ClassId} {dI : Nat → Nat → Nat} {aC : Nat → ClassId} {aV : Nat → Nat} (hy : am_Hy l al) (N : Nat) (i1 : Int32) (h : am_Hp) (r : (Int32 × am_Hp)) (hf : f_X10_outputAt N i1 h = some r) : am_Met l al dC dI aC aV 227 [.ref 193, .int i1] h (am_oi r.1) r.2 :=
  am_met (tab := tX10_outputAt) (orc := o_X10_outputAt N) (ret := am_ri) (g := r) (by decide) (by decide) hy.1 hy.2 tok_X10_outputAt am_os0 am_ri_inv (Nat.le_of_ble_eq_true rfl) (fun At cl wk => by
    skip
    exact cl am_C0 am_c0 400 0 _ _ h hf)
theorem s_X10_outputAt {l : Launch} {al : Nat → Nat} {dC : Nat → ClassId} {dI : Nat → Nat → Nat} {aC : Nat → ClassId} {aV : Nat → Nat} (hy : am_Hy l al) (N : Nat) : am_CS l al dC dI aC aV 227 (c_X10_outputAt N) := by
  intro γ as h kk g hc0
  obtain ⟨z0, w0, e_0, hcz0⟩ := am_sa_some hc0
  obtain ⟨hz0, hc1⟩ := am_bif hcz0
  cases Nat.eq_of_beq_eq_true hz0
  obtain ⟨i1, w1, e_1, hc2⟩ := am_s1_some hc1
  obtain ⟨e_2, hc⟩ := am_st0_some hc2
  subst e_2
  subst e_1
  subst e_0
  obtain ⟨q, e1, e2⟩ := am_bi_some hc
  exact ⟨_, _, m_X10_outputAt hy N i1 h _ e1, e2⟩
