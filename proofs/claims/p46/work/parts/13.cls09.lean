def f_X9_feed (N : Nat) (i1 : Int32) (i2 : Int32) (i3 : Int32) (i4 : Int32) (i5 : Int32) (h : am_Hp) : Option (Int32 × am_Hp) :=
  (if ((h 1 1) + (20 : Int32)) ≤ (600 : Int32) then
    am_bi (f_X7_append N i1 h) (fun _ h1 =>
    am_bi (f_X7_append N i2 h1) (fun _ h2 =>
    am_bi (f_X7_append N i3 h2) (fun _ h3 =>
    am_bi (f_X7_append N i4 h3) (fun _ h4 =>
    am_bi (f_X7_append N i5 h4) (fun _ h5 =>
    some (h5 1 1, h5))))))
  else
    some ((-3 : Int32), h))
def c_X9_feed (N : Nat) : am_Cl := fun _ as h kk => am_sa as (fun z w0 => bif Nat.beq z 0 then am_s1 w0 (fun i1 w1 => am_s1 w1 (fun i2 w2 => am_s1 w2 (fun i3 w3 => am_s1 w3 (fun i4 w4 => am_s1 w4 (fun i5 w5 => am_st0 w5 (am_bi (f_X9_feed N i1 i2 i3 i4 i5 h) (fun v h => kk (am_oi v) h))))))) else none)
def o_X9_feed (N : Nat) : am_Orc := (am_oc 42 (c_X7_append N) am_o0)
set_option maxRecDepth 100000 in
theorem tok_X9_feed : am_tok 57 tX9_feed := by
  unfold am_tok
  decide +kernel
set_option maxHeartbeats 4000000 in
set_option maxRecDepth 100000 in
theorem m_X9_feed {l : Launch} {al : Nat → Nat} {dC : Nat → ClassId} {dI : Nat → Nat → Nat} {aC : Nat → ClassId} {aV : Nat → Nat} (hy : am_Hy l al) (N : Nat) (i1 : Int32) (i2 : Int32) (i3 : Int32) (i4 : Int32) (i5 : Int32) (h : am_Hp) (r : (Int32 × am_Hp)) (hf : f_X9_feed N i1 i2 i3 i4 i5 h = some r) : am_Met l al dC dI aC aV 57 [.ref 0, .int i1, .int i2, .int i3, .int i4, .int i5] h (am_oi r.1) r.2 :=
  am_met (tab := tX9_feed) (orc := o_X9_feed N) (ret := am_ri) (g := r) (by decide) (by decide) hy.1 hy.2 tok_X9_feed (am_os1 (s_X7_append hy N) am_os0) am_ri_inv (Nat.le_of_ble_eq_true rfl) (fun At cl wk => by
    skip
    exact cl am_C0 am_c0 400 0 _ _ h hf)
theorem s_X9_feed {l : Launch} {al : Nat → Nat} {dC : Nat → ClassId} {dI : Nat → Nat → Nat} {aC : Nat → ClassId} {aV : Nat → Nat} (hy : am_Hy l al) (N : Nat) : am_CS l al dC dI aC aV 57 (c_X9_feed N) := by
  intro γ as h kk g hc0
  obtain ⟨z0, w0, e_0, hcz0⟩ := am_sa_some hc0
  obtain ⟨hz0, hc1⟩ := am_bif hcz0
  cases Nat.eq_of_beq_eq_true hz0
  obtain ⟨i1, w1, e_1, hc2⟩ := am_s1_some hc1
  obtain ⟨i2, w2, e_2, hc3⟩ := am_s1_some hc2
  obtain ⟨i3, w3, e_3, hc4⟩ := am_s1_some hc3
  obtain ⟨i4, w4, e_4, hc5⟩ := am_s1_some hc4
  obtain ⟨i5, w5, e_5, hc6⟩ := am_s1_some hc5
  obtain ⟨e_6, hc⟩ := am_st0_some hc6
  subst e_6
  subst e_5
  subst e_4
  subst e_3
  subst e_2
  subst e_1
  subst e_0
  obtain ⟨q, e1, e2⟩ := am_bi_some hc
  exact ⟨_, _, m_X9_feed hy N i1 i2 i3 i4 i5 h _ e1, e2⟩

def f_X9_load (N : Nat) (i1 : Int32) (h : am_Hp) : Option (Int32 × am_Hp) :=
  (if i1 < 0 then
    some ((-2 : Int32), h)
  else
    (if i1 ≤ (h 1 1) then
      am_bi (f_X7_open N i1 h) (fun _ h1 =>
      am_bi (f_X1_read N h1) (fun x3 h2 =>
      let h4 := am_pi h2 1 1 (0 : Int32)
      (if 0 ≤ x3 then
        let h5 := am_pi h4 0 2 (-1 : Int32)
        am_bi (f_X8_copyFrom N 15 4 h5) (fun _ h6 =>
        am_bi (f_X8_copyFrom N 19 8 h6) (fun _ h7 =>
        am_bi (f_X6_restart N 24 19 12 h7) (fun _ h8 =>
        am_bi (f_X2_forget N h8) (fun _ h9 =>
        some (x3, h9)))))
      else
        let h10 := am_pi h4 0 2 (h4 1 4)
        some (x3, h10))))
    else
      some ((-2 : Int32), h)))
def c_X9_load (N : Nat) : am_Cl := fun _ as h kk => am_sa as (fun z w0 => bif Nat.beq z 0 then am_s1 w0 (fun i1 w1 => am_st0 w1 (am_bi (f_X9_load N i1 h) (fun v h => kk (am_oi v) h))) else none)
def o_X9_load (N : Nat) : am_Orc := (am_oc 43 (c_X7_open N) (am_oc 8 (c_X1_read N) (am_oc 56 (c_X8_copyFrom N) (am_oc 40 (c_X6_restart N) (am_oc 15 (c_X2_forget N) am_o0)))))
set_option maxRecDepth 100000 in
theorem tok_X9_load : am_tok 58 tX9_load := by
  unfold am_tok
  decide +kernel
set_option maxHeartbeats 4000000 in
set_option maxRecDepth 100000 in
theorem m_X9_load {l : Launch} {al : Nat → Nat} {dC : Nat → ClassId} {dI : Nat → Nat → Nat} {aC : Nat → ClassId} {aV : Nat → Nat} (hy : am_Hy l al) (N : Nat) (i1 : Int32) (h : am_Hp) (r : (Int32 × am_Hp)) (hf : f_X9_load N i1 h = some r) : am_Met l al dC dI aC aV 58 [.ref 0, .int i1] h (am_oi r.1) r.2 :=
  am_met (tab := tX9_load) (orc := o_X9_load N) (ret := am_ri) (g := r) (by decide) (by decide) hy.1 hy.2 tok_X9_load (am_os1 (s_X7_open hy N) (am_os1 (s_X1_read hy N) (am_os1 (s_X8_copyFrom hy N) (am_os1 (s_X6_restart hy N) (am_os1 (s_X2_forget hy N) am_os0))))) am_ri_inv (Nat.le_of_ble_eq_true rfl) (fun At cl wk => by
    skip
    exact cl am_C0 am_c0 400 0 _ _ h hf)
theorem s_X9_load {l : Launch} {al : Nat → Nat} {dC : Nat → ClassId} {dI : Nat → Nat → Nat} {aC : Nat → ClassId} {aV : Nat → Nat} (hy : am_Hy l al) (N : Nat) : am_CS l al dC dI aC aV 58 (c_X9_load N) := by
  intro γ as h kk g hc0
  obtain ⟨z0, w0, e_0, hcz0⟩ := am_sa_some hc0
  obtain ⟨hz0, hc1⟩ := am_bif hcz0
  cases Nat.eq_of_beq_eq_true hz0
  obtain ⟨i1, w1, e_1, hc2⟩ := am_s1_some hc1
  obtain ⟨e_2, hc⟩ := am_st0_some hc2
  subst e_2
  subst e_1
  subst e_0
  obtain ⟨q, e1, e2⟩ := am_bi_some hc
  exact ⟨_, _, m_X9_load hy N i1 h _ e1, e2⟩

def f_X9_seatOf (N : Nat) (i1 : Int32) (h : am_Hp) : Option (Option Nat × am_Hp) :=
  am_bi (f_X8_has N 19 i1 h) (fun x2 h1 =>
  (if x2 = 0 then
    some (none, h1)
  else
    (if i1 < (Int32.ofNat 6) then
      bif am_in i1 6 then (am_G 28 i1.toNatClampNeg).bind (fun b3 => some (some b3, h1)) else none
    else
      some (none, h1))))
def c_X9_seatOf (N : Nat) : am_Cl := fun _ as h kk => am_sa as (fun z w0 => bif Nat.beq z 0 then am_s1 w0 (fun i1 w1 => am_st0 w1 (am_bt (f_X9_seatOf N i1 h) (fun h => kk none h) (fun v h => kk (am_or v) h))) else none)
def uX9_seatOf : List (Nat × Instr × Nat) := [(0, .aload_n 0, 1), (1, .getfield 43, 3), (4, .iload_n 1, 1), (5, .invokevirtual 261, 3), (8, .ifCond .eq 15, 3), (11, .iload_n 1, 1), (12, .aload_n 0, 1), (13, .getfield 55, 3), (16, .getfield 320, 3), (19, .arraylength, 1), (20, .if_icmp .lt 11, 3), (23, .new 317, 3), (31, .aload_n 0, 1), (32, .getfield 55, 3), (35, .getfield 320, 3), (38, .iload_n 1, 1), (39, .aaload, 1), (40, .areturn, 1)]
def o_X9_seatOf (N : Nat) : am_Orc := (am_oc 51 (c_X8_has N) am_o0)
set_option maxRecDepth 100000 in
theorem tok_X9_seatOf : am_tok 87 uX9_seatOf := by
  unfold am_tok
  decide +kernel
set_option maxHeartbeats 4000000 in
set_option maxRecDepth 100000 in
theorem m_X9_seatOf {l : Launch} {al : Nat → Nat} {dC : Nat → ClassId} {dI : Nat → Nat → Nat} {aC : Nat → ClassId} {aV : Nat → Nat} (hy : am_Hy l al) (N : Nat) (i1 : Int32) (h : am_Hp) (r : (Option Nat × am_Hp)) (hf : f_X9_seatOf N i1 h = some r) : am_Met l al dC dI aC aV 87 [.ref 0, .int i1] h (am_ot am_or r.1) r.2 :=
  am_met (tab := uX9_seatOf) (orc := o_X9_seatOf N) (ret := am_tr) (g := r) (by decide) (by decide) hy.1 hy.2 tok_X9_seatOf (am_os1 (s_X8_has hy N) am_os0) am_tr_inv (Nat.le_of_ble_eq_true rfl) (fun At cl wk => by
    skip
    exact cl am_C0 am_c0 400 0 _ _ h hf)
theorem s_X9_seatOf {l : Launch} {al : Nat → Nat} {dC : Nat → ClassId} {dI : Nat → Nat → Nat} {aC : Nat → ClassId} {aV : Nat → Nat} (hy : am_Hy l al) (N : Nat) : am_CS l al dC dI aC aV 87 (c_X9_seatOf N) := by
  intro γ as h kk g hc0
  obtain ⟨z0, w0, e_0, hcz0⟩ := am_sa_some hc0
  obtain ⟨hz0, hc1⟩ := am_bif hcz0
  cases Nat.eq_of_beq_eq_true hz0
  obtain ⟨i1, w1, e_1, hc2⟩ := am_s1_some hc1
  obtain ⟨e_2, hc⟩ := am_st0_some hc2
  subst e_2
  subst e_1
  subst e_0
  rcases am_bt_some hc with ⟨h1, e1, e2⟩ | ⟨v, h1, e1, e2⟩
  · exact ⟨_, _, m_X9_seatOf hy N i1 h _ e1, e2⟩
  · exact ⟨_, _, m_X9_seatOf hy N i1 h _ e1, e2⟩

def l_X9_usersWhoWatch_4 (N : Nat) : Nat → Int32 → Int32 → am_Hp → Option (Option Int32 × am_Hp)
  | 0, _, _, _ => none
  | n + 1, i1, i2, h =>
    (if (h 19 4) ≤ i2 then
      some (some i1, h)
    else
      am_bt (f_X9_seatOf N i2 h) (fun h1 => some (none, h1)) (fun b2 h1 => bif am_isO b2 5 then (if (h1 b2 2) = 0 then
        l_X9_usersWhoWatch_4 N n i1 (i2 + (1 : Int32)) h1
      else
        l_X9_usersWhoWatch_4 N n (i1 + (1 : Int32)) (i2 + (1 : Int32)) h1) else none))
def f_X9_usersWhoWatch (N : Nat)  (h : am_Hp) : Option (Option Int32 × am_Hp) :=
  l_X9_usersWhoWatch_4 N N (0 : Int32) (0 : Int32) h
def c_X9_usersWhoWatch (N : Nat) : am_Cl := fun _ as h kk => am_sa as (fun z w0 => bif Nat.beq z 0 then am_st0 w0 (am_bt (f_X9_usersWhoWatch N  h) (fun h => kk none h) (fun v h => kk (am_oi v) h)) else none)
def o_X9_usersWhoWatch (N : Nat) : am_Orc := (am_oc 87 (c_X9_seatOf N) am_o0)
set_option maxRecDepth 100000 in
theorem tok_X9_usersWhoWatch : am_tok 89 tX9_usersWhoWatch := by
  unfold am_tok
  decide +kernel
set_option maxHeartbeats 4000000 in
set_option maxRecDepth 100000 in
theorem m_X9_usersWhoWatch {l : Launch} {al : Nat → Nat} {dC : Nat → ClassId} {dI : Nat → Nat → Nat} {aC : Nat → ClassId} {aV : Nat → Nat} (hy : am_Hy l al) (N : Nat)  (h : am_Hp) (r : (Option Int32 × am_Hp)) (hf : f_X9_usersWhoWatch N  h = some r) : am_Met l al dC dI aC aV 89 [.ref 0] h (am_ot am_oi r.1) r.2 :=
  am_met (tab := tX9_usersWhoWatch) (orc := o_X9_usersWhoWatch N) (ret := am_ti) (g := r) (by decide) (by decide) hy.1 hy.2 tok_X9_usersWhoWatch (am_os1 (s_X9_seatOf hy N) am_os0) am_ti_inv (Nat.le_of_ble_eq_true rfl) (fun At cl wk => by
    have A4 : ∀ n : Nat, ∀ i1 : Int32, ∀ i2 : Int32, ∀ h, l_X9_usersWhoWatch_4 N n i1 i2 h = some r → At 4 [(0, .ref 0), (1, .int i1), (2, .int i2)] [] h := by
      intro n
      induction n with
      | zero => intro i1 i2 h hr; cases hr
      | succ n ih =>
        intro i1 i2 h hr
        exact cl (am_C1 4 (fun ρ st h => am_lda ρ 0 (fun z => bif Nat.beq z 0 then am_ldi ρ 1 (fun i1 => am_ldi ρ 2 (fun i2 => am_st0 st (l_X9_usersWhoWatch_4 N n i1 i2 h))) else none)) am_C0) (am_c1 (fun ρ st h hc => by
        obtain ⟨z, m_a0, hc⟩ := am_lda_some hc
        obtain ⟨hz, hc⟩ := am_bif hc
        cases Nat.eq_of_beq_eq_true hz
        obtain ⟨i1, m_i1, hc⟩ := am_ldi_some hc
        obtain ⟨i2, m_i2, hc⟩ := am_ldi_some hc
        obtain ⟨rfl, hc⟩ := am_st0_some hc
        exact wk 4 ρ [(0, .ref 0), (1, .int i1), (2, .int i2)] _ h (am_m1 m_a0 (am_m1 m_i1 (am_m1 m_i2 am_m0))) (ih i1 i2 h hc)) am_c0) 400 4 _ _ h hr
    exact cl (am_C1 4 (fun ρ st h => am_lda ρ 0 (fun z => bif Nat.beq z 0 then am_ldi ρ 1 (fun i1 => am_ldi ρ 2 (fun i2 => am_st0 st (l_X9_usersWhoWatch_4 N N i1 i2 h))) else none)) am_C0) (am_c1 (fun ρ st h hc => by
        obtain ⟨z, m_a0, hc⟩ := am_lda_some hc
        obtain ⟨hz, hc⟩ := am_bif hc
        cases Nat.eq_of_beq_eq_true hz
        obtain ⟨i1, m_i1, hc⟩ := am_ldi_some hc
        obtain ⟨i2, m_i2, hc⟩ := am_ldi_some hc
        obtain ⟨rfl, hc⟩ := am_st0_some hc
        exact wk 4 ρ [(0, .ref 0), (1, .int i1), (2, .int i2)] _ h (am_m1 m_a0 (am_m1 m_i1 (am_m1 m_i2 am_m0))) (A4 N i1 i2 h hc)) am_c0) 400 0 _ _ h hf)
theorem s_X9_usersWhoWatch {l : Launch} {al : Nat → Nat} {dC : Nat → ClassId} {dI : Nat → Nat → Nat} {aC : Nat → ClassId} {aV : Nat → Nat} (hy : am_Hy l al) (N : Nat) : am_CS l al dC dI aC aV 89 (c_X9_usersWhoWatch N) := by
  intro γ as h kk g hc0
  obtain ⟨z0, w0, e_0, hcz0⟩ := am_sa_some hc0
  obtain ⟨hz0, hc1⟩ := am_bif hcz0
  cases Nat.eq_of_beq_eq_true hz0
  obtain ⟨e_1, hc⟩ := am_st0_some hc1
  subst e_1
  subst e_0
  rcases am_bt_some hc with ⟨h1, e1, e2⟩ | ⟨v, h1, e1, e2⟩
  · exact ⟨_, _, m_X9_usersWhoWatch hy N  h _ e1, e2⟩
  · exact ⟨_, _, m_X9_usersWhoWatch hy N  h _ e1, e2⟩

def f_X9_count (N : Nat) (i1 : Int32) (h : am_Hp) : Option (Option Int32 × am_Hp) :=
  (if i1.toInt = 0 then
    some (some (h 15 4), h)
  else if i1.toInt = 1 then
    some (some (h 19 4), h)
  else if i1.toInt = 2 then
    am_bt (f_X9_usersWhoWatch N h) (fun h1 => some (none, h1)) (fun x2 h1 => some (some x2, h1))
  else if i1.toInt = 3 then
    some (some (h 24 0), h)
  else some (some (-2 : Int32), h))
def c_X9_count (N : Nat) : am_Cl := fun _ as h kk => am_sa as (fun z w0 => bif Nat.beq z 0 then am_s1 w0 (fun i1 w1 => am_st0 w1 (am_bt (f_X9_count N i1 h) (fun h => kk none h) (fun v h => kk (am_oi v) h))) else none)
def o_X9_count (N : Nat) : am_Orc := (am_oc 89 (c_X9_usersWhoWatch N) am_o0)
set_option maxRecDepth 100000 in
theorem tok_X9_count : am_tok 59 tX9_count := by
  unfold am_tok
  decide +kernel
set_option maxHeartbeats 4000000 in
set_option maxRecDepth 100000 in
theorem m_X9_count {l : Launch} {al : Nat → Nat} {dC : Nat → ClassId} {dI : Nat → Nat → Nat} {aC : Nat → ClassId} {aV : Nat → Nat} (hy : am_Hy l al) (N : Nat) (i1 : Int32) (h : am_Hp) (r : (Option Int32 × am_Hp)) (hf : f_X9_count N i1 h = some r) : am_Met l al dC dI aC aV 59 [.ref 0, .int i1] h (am_ot am_oi r.1) r.2 :=
  am_met (tab := tX9_count) (orc := o_X9_count N) (ret := am_ti) (g := r) (by decide) (by decide) hy.1 hy.2 tok_X9_count (am_os1 (s_X9_usersWhoWatch hy N) am_os0) am_ti_inv (Nat.le_of_ble_eq_true rfl) (fun At cl wk => by
    skip
    exact cl am_C0 am_c0 400 0 _ _ h hf)
theorem s_X9_count {l : Launch} {al : Nat → Nat} {dC : Nat → ClassId} {dI : Nat → Nat → Nat} {aC : Nat → ClassId} {aV : Nat → Nat} (hy : am_Hy l al) (N : Nat) : am_CS l al dC dI aC aV 59 (c_X9_count N) := by
  intro γ as h kk g hc0
  obtain ⟨z0, w0, e_0, hcz0⟩ := am_sa_some hc0
  obtain ⟨hz0, hc1⟩ := am_bif hcz0
  cases Nat.eq_of_beq_eq_true hz0
  obtain ⟨i1, w1, e_1, hc2⟩ := am_s1_some hc1
  obtain ⟨e_2, hc⟩ := am_st0_some hc2
  subst e_2
  subst e_1
  subst e_0
  rcases am_bt_some hc with ⟨h1, e1, e2⟩ | ⟨v, h1, e1, e2⟩
  · exact ⟨_, _, m_X9_count hy N i1 h _ e1, e2⟩
  · exact ⟨_, _, m_X9_count hy N i1 h _ e1, e2⟩
