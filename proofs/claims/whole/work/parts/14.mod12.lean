def l_X10_count_54 (N : Nat) : Nat → Int32 → Int32 → am_Hp → Option (Int32 × am_Hp)
  | 0, _, _, _ => none
  | n + 1, i2, i3, h =>
    bif am_in (1 : Int32) 20 then (if (h 195 1) ≤ i3 then
      some (i2, h)
    else
      am_bi (f_X10_watches N i3 h) (fun x2 h1 =>
      (if x2 = 0 then
        l_X10_count_54 N n (i2 + (0 : Int32)) (i3 + (1 : Int32)) h1
      else
        l_X10_count_54 N n (i2 + (1 : Int32)) (i3 + (1 : Int32)) h1))) else none
def f_X10_count (N : Nat) (i1 : Int32) (h : am_Hp) : Option (Int32 × am_Hp) :=
  let h1 := am_pi h 193 0 (0 : Int32)
  (if i1.toInt = 0 then
    bif am_in (0 : Int32) 20 then some (h1 195 0, h1) else none
  else if i1.toInt = 1 then
    bif am_in (1 : Int32) 20 then some (h1 195 1, h1) else none
  else if i1.toInt = 2 then
    l_X10_count_54 N N (0 : Int32) (0 : Int32) h1
  else if i1.toInt = 3 then
    bif am_in (2 : Int32) 6071 then some (h1 197 2, h1) else none
  else some ((-2 : Int32), h1))
def c_X10_count (N : Nat) : am_Cl := fun _ as h kk => am_sa as (fun z w0 => bif Nat.beq z 193 then am_s1 w0 (fun i1 w1 => am_st0 w1 (am_bi (f_X10_count N i1 h) (fun v h => kk (am_oi v) h))) else none)
def o_X10_count (N : Nat) : am_Orc := (am_oc 135 (c_X10_watches N) am_o0)
set_option maxRecDepth 100000 in
theorem tok_X10_count : am_tok 179 tX10_count := by
  unfold am_tok
  decide +kernel
set_option maxHeartbeats 4000000 in
set_option maxRecDepth 100000 in
theorem m_X10_count {l : Launch} {al : Nat → Nat} {dC : Nat → ClassId} {dI : Nat → Nat → Nat} {aC : Nat → ClassId} {aV : Nat → Nat} (hy : am_Hy l al) (N : Nat) (i1 : Int32) (h : am_Hp) (r : (Int32 × am_Hp)) (hf : f_X10_count N i1 h = some r) : am_Met l al dC dI aC aV 179 [.ref 193, .int i1] h (am_oi r.1) r.2 :=
  am_met (tab := tX10_count) (orc := o_X10_count N) (ret := am_ri) (g := r) (by decide) (by decide) hy.1 hy.2 tok_X10_count (am_os1 (s_X10_watches hy N) am_os0) am_ri_inv (Nat.le_of_ble_eq_true rfl) (fun At cl wk => by
    have A54 : ∀ n : Nat, ∀ i2 : Int32, ∀ i3 : Int32, ∀ h, l_X10_count_54 N n i2 i3 h = some r → At 54 [(0, .ref 193), (2, .int i2), (3, .int i3)] [] h := by
      intro n
      induction n with
      | zero => intro i2 i3 h hr; cases hr
      | succ n ih =>
        intro i2 i3 h hr
        exact cl (am_C1 54 (fun ρ st h => am_lda ρ 0 (fun z => bif Nat.beq z 193 then am_ldi ρ 2 (fun i2 => am_ldi ρ 3 (fun i3 => am_st0 st (l_X10_count_54 N n i2 i3 h))) else none)) am_C0) (am_c1 (fun ρ st h hc => by
        obtain ⟨z, m_a0, hc⟩ := am_lda_some hc
        obtain ⟨hz, hc⟩ := am_bif hc
        cases Nat.eq_of_beq_eq_true hz
        obtain ⟨i2, m_i2, hc⟩ := am_ldi_some hc
        obtain ⟨i3, m_i3, hc⟩ := am_ldi_some hc
        obtain ⟨rfl, hc⟩ := am_st0_some hc
        exact wk 54 ρ [(0, .ref 193), (2, .int i2), (3, .int i3)] _ h (am_m1 m_a0 (am_m1 m_i2 (am_m1 m_i3 am_m0))) (ih i2 i3 h hc)) am_c0) 400 54 _ _ h hr
    exact cl (am_C1 54 (fun ρ st h => am_lda ρ 0 (fun z => bif Nat.beq z 193 then am_ldi ρ 2 (fun i2 => am_ldi ρ 3 (fun i3 => am_st0 st (l_X10_count_54 N N i2 i3 h))) else none)) am_C0) (am_c1 (fun ρ st h hc => by
        obtain ⟨z, m_a0, hc⟩ := am_lda_some hc
        obtain ⟨hz, hc⟩ := am_bif hc
        cases Nat.eq_of_beq_eq_true hz
        obtain ⟨i2, m_i2, hc⟩ := am_ldi_some hc
        obtain ⟨i3, m_i3, hc⟩ := am_ldi_some hc
        obtain ⟨rfl, hc⟩ := am_st0_some hc
        exact wk 54 ρ [(0, .ref 193), (2, .int i2), (3, .int i3)] _ h (am_m1 m_a0 (am_m1 m_i2 (am_m1 m_i3 am_m0))) (A54 N i2 i3 h hc)) am_c0) 400 0 _ _ h hf)
theorem s_X10_count {l : Launch} {al : Nat → Nat} {dC : Nat → ClassId} {dI : Nat → Nat → Nat} {aC : Nat → ClassId} {aV : Nat → Nat} (hy : am_Hy l al) (N : Nat) : am_CS l al dC dI aC aV 179 (c_X10_count N) := by
  intro γ as h kk g hc0
  obtain ⟨z0, w0, e_0, hcz0⟩ := am_sa_some hc0
  obtain ⟨hz0, hc1⟩ := am_bif hcz0
  cases Nat.eq_of_beq_eq_true hz0
  obtain ⟨i1, w1, e_1, hc2⟩ := am_s1_some hc1
  obtain ⟨e_2, hc⟩ := am_st0_some hc2
  subst e_2
  subst e_1
  subst e_0
  obtain ⟨q, e1, e2⟩ := am_bi_some hc
  exact ⟨_, _, m_X10_count hy N i1 h _ e1, e2⟩

def f_X10_undoCount (N : Nat)  (h : am_Hp) : Option (Int32 × am_Hp) :=
  let h1 := am_pi h 193 0 (0 : Int32)
  some (h1 193 8, h1)
def c_X10_undoCount (N : Nat) : am_Cl := fun _ as h kk => am_sa as (fun z w0 => bif Nat.beq z 193 then am_st0 w0 (am_bi (f_X10_undoCount N  h) (fun v h => kk (am_oi v) h)) else none)
def o_X10_undoCount (N : Nat) : am_Orc := am_o0
set_option maxRecDepth 100000 in
theorem tok_X10_undoCount : am_tok 180 tX10_undoCount := by
  unfold am_tok
  decide +kernel
set_option maxHeartbeats 4000000 in
set_option maxRecDepth 100000 in
theorem m_X10_undoCount {l : Launch} {al : Nat → Nat} {dC : Nat → ClassId} {dI : Nat → Nat → Nat} {aC : Nat → ClassId} {aV : Nat → Nat} (hy : am_Hy l al) (N : Nat)  (h : am_Hp) (r : (Int32 × am_Hp)) (hf : f_X10_undoCount N  h = some r) : am_Met l al dC dI aC aV 180 [.ref 193] h (am_oi r.1) r.2 :=
  am_met (tab := tX10_undoCount) (orc := o_X10_undoCount N) (ret := am_ri) (g := r) (by decide) (by decide) hy.1 hy.2 tok_X10_undoCount am_os0 am_ri_inv (Nat.le_of_ble_eq_true rfl) (fun At cl wk => by
    skip
    exact cl am_C0 am_c0 400 0 _ _ h hf)
theorem s_X10_undoCount {l : Launch} {al : Nat → Nat} {dC : Nat → ClassId} {dI : Nat → Nat → Nat} {aC : Nat → ClassId} {aV : Nat → Nat} (hy : am_Hy l al) (N : Nat) : am_CS l al dC dI aC aV 180 (c_X10_undoCount N) := by
  intro γ as h kk g hc0
  obtain ⟨z0, w0, e_0, hcz0⟩ := am_sa_some hc0
  obtain ⟨hz0, hc1⟩ := am_bif hcz0
  cases Nat.eq_of_beq_eq_true hz0
  obtain ⟨e_1, hc⟩ := am_st0_some hc1
  subst e_1
  subst e_0
  obtain ⟨q, e1, e2⟩ := am_bi_some hc
  exact ⟨_, _, m_X10_undoCount hy N  h _ e1, e2⟩

def f_X10_named (N : Nat) (i1 : Int32) (i2 : Int32) (h : am_Hp) : Option (Int32 × am_Hp) :=
  let h1 := am_pi h 193 0 (0 : Int32)
  am_bi (f_X10_found N i1 i2 h1) (fun x3 h2 =>
  some (x3, h2))
def c_X10_named (N : Nat) : am_Cl := fun _ as h kk => am_sa as (fun z w0 => bif Nat.beq z 193 then am_s1 w0 (fun i1 w1 => am_s1 w1 (fun i2 w2 => am_st0 w2 (am_bi (f_X10_named N i1 i2 h) (fun v h => kk (am_oi v) h)))) else none)
def o_X10_named (N : Nat) : am_Orc := (am_oc 166 (c_X10_found N) am_o0)
set_option maxRecDepth 100000 in
theorem tok_X10_named : am_tok 181 tX10_named := by
  unfold am_tok
  decide +kernel
set_option maxHeartbeats 4000000 in
set_option maxRecDepth 100000 in
theorem m_X10_named {l : Launch} {al : Nat → Nat} {dC : Nat → ClassId} {dI : Nat → Nat → Nat} {aC : Nat → ClassId} {aV : Nat → Nat} (hy : am_Hy l al) (N : Nat) (i1 : Int32) (i2 : Int32) (h : am_Hp) (r : (Int32 × am_Hp)) (hf : f_X10_named N i1 i2 h = some r) : am_Met l al dC dI aC aV 181 [.ref 193, .int i1, .int i2] h (am_oi r.1) r.2 :=
  am_met (tab := tX10_named) (orc := o_X10_named N) (ret := am_ri) (g := r) (by decide) (by decide) hy.1 hy.2 tok_X10_named (am_os1 (s_X10_found hy N) am_os0) am_ri_inv (Nat.le_of_ble_eq_true rfl) (fun At cl wk => by
    skip
    exact cl am_C0 am_c0 400 0 _ _ h hf)
theorem s_X10_named {l : Launch} {al : Nat → Nat} {dC : Nat → ClassId} {dI : Nat → Nat → Nat} {aC : Nat → ClassId} {aV : Nat → Nat} (hy : am_Hy l al) (N : Nat) : am_CS l al dC dI aC aV 181 (c_X10_named N) := by
  intro γ as h kk g hc0
  obtain ⟨z0, w0, e_0, hcz0⟩ := am_sa_some hc0
  obtain ⟨hz0, hc1⟩ := am_bif hcz0
  cases Nat.eq_of_beq_eq_true hz0
  obtain ⟨i1, w1, e_1, hc2⟩ := am_s1_some hc1
  obtain ⟨i2, w2, e_2, hc3⟩ := am_s1_some hc2
  obtain ⟨e_3, hc⟩ := am_st0_some hc3
  subst e_3
  subst e_2
  subst e_1
  subst e_0
  obtain ⟨q, e1, e2⟩ := am_bi_some hc
  exact ⟨_, _, m_X10_named hy N i1 i2 h _ e1, e2⟩

def f_X10_getSetting (N : Nat) (i1 : Int32) (h : am_Hp) : Option (Int32 × am_Hp) :=
  let h1 := am_pi h 193 0 (0 : Int32)
  am_bi (f_X10_isSetting N i1 h1) (fun x3 h2 =>
  (if x3 = 0 then
    some ((-2 : Int32), h2)
  else
    bif am_in ((0 : Int32) + i1) 6071 then some (h2 197 (((0 : Int32) + i1).toNatClampNeg), h2) else none))
def c_X10_getSetting (N : Nat) : am_Cl := fun _ as h kk => am_sa as (fun z w0 => bif Nat.beq z 193 then am_s1 w0 (fun i1 w1 => am_st0 w1 (am_bi (f_X10_getSetting N i1 h) (fun v h => kk (am_oi v) h))) else none)
def o_X10_getSetting (N : Nat) : am_Orc := (am_oc 177 (c_X10_isSetting N) am_o0)
set_option maxRecDepth 100000 in
theorem tok_X10_getSetting : am_tok 182 tX10_getSetting := by
  unfold am_tok
  decide +kernel
set_option maxHeartbeats 4000000 in
set_option maxRecDepth 100000 in
theorem m_X10_getSetting {l : Launch} {al : Nat → Nat} {dC : Nat → ClassId} {dI : Nat → Nat → Nat} {aC : Nat → ClassId} {aV : Nat → Nat} (hy : am_Hy l al) (N : Nat) (i1 : Int32) (h : am_Hp) (r : (Int32 × am_Hp)) (hf : f_X10_getSetting N i1 h = some r) : am_Met l al dC dI aC aV 182 [.ref 193, .int i1] h (am_oi r.1) r.2 :=
  am_met (tab := tX10_getSetting) (orc := o_X10_getSetting N) (ret := am_ri) (g := r) (by decide) (by decide) hy.1 hy.2 tok_X10_getSetting (am_os1 (s_X10_isSetting hy N) am_os0) am_ri_inv (Nat.le_of_ble_eq_true rfl) (fun At cl wk => by
    skip
    exact cl am_C0 am_c0 400 0 _ _ h hf)
theorem s_X10_getSetting {l : Launch} {al : Nat → Nat} {dC : Nat → ClassId} {dI : Nat → Nat → Nat} {aC : Nat → ClassId} {aV : Nat → Nat} (hy : am_Hy l al) (N : Nat) : am_CS l al dC dI aC aV 182 (c_X10_getSetting N) := by
  intro γ as h kk g hc0
  obtain ⟨z0, w0, e_0, hcz0⟩ := am_sa_some hc0
  obtain ⟨hz0, hc1⟩ := am_bif hcz0
  cases Nat.eq_of_beq_eq_true hz0
  obtain ⟨i1, w1, e_1, hc2⟩ := am_s1_some hc1
  obtain ⟨e_2, hc⟩ := am_st0_some hc2
  subst e_2
  subst e_1
  subst e_0
  obtain ⟨q, e1, e2⟩ := am_bi_some hc
  exact ⟨_, _, m_X10_getSetting hy N i1 h _ e1, e2⟩

def f_X10_session (N : Nat) (i1 : Int32) (i2 : Int32) (h : am_Hp) : Option (Int32 × am_Hp) :=
  am_bi (f_X10_isSession N i1 h) (fun x2 h1 =>
  am_bi (f_X10_checks N x2 h1) (fun x4 h3 =>
  (if x4 = 0 then
    some ((0 : Int32), h3)
  else
    (if i2.toInt = 0 then
      bif am_in ((12 : Int32) + i1) 20 then some (h3 195 (((12 : Int32) + i1).toNatClampNeg), h3) else none
    else if i2.toInt = 1 then
      bif am_in ((16 : Int32) + i1) 20 then some (h3 195 (((16 : Int32) + i1).toNatClampNeg), h3) else none
    else if i2.toInt = 2 then
      am_bi (f_X10_events N i1 h3) (fun x14 h13 =>
      some (x14, h13))
    else if i2.toInt = 3 then
      am_bi (f_X10_ofS N i1 (1 : Int32) h3) (fun x12 h11 =>
      some (x12, h11))
    else if i2.toInt = 4 then
      am_bi (f_X10_ofS N i1 (2 : Int32) h3) (fun x10 h9 =>
      some (x10, h9))
    else if i2.toInt = 5 then
      am_bi (f_X10_ofS N i1 (2 : Int32) h3) (fun x6 h5 =>
      (if x6 = (-1 : Int32) then
        some ((-1 : Int32), h5)
      else
        am_bi (f_X10_ofS N i1 (3 : Int32) h5) (fun x8 h7 =>
        some (x8, h7))))
    else some ((-2 : Int32), h3)))))
def c_X10_session (N : Nat) : am_Cl := fun _ as h kk => am_sa as (fun z w0 => bif Nat.beq z 193 then am_s1 w0 (fun i1 w1 => am_s1 w1 (fun i2 w2 => am_st0 w2 (am_bi (f_X10_session N i1 i2 h) (fun v h => kk (am_oi v) h)))) else none)
def o_X10_session (N : Nat) : am_Orc := (am_oc 174 (c_X10_isSession N) (am_oc 178 (c_X10_checks N) (am_oc 134 (c_X10_events N) (am_oc 129 (c_X10_ofS N) am_o0))))
set_option maxRecDepth 100000 in
theorem tok_X10_session : am_tok 183 tX10_session := by
  unfold am_tok
  decide +kernel
set_option maxHeartbeats 4000000 in
set_option maxRecDepth 100000 in
theorem m_X10_session {l : Launch} {al : Nat → Nat} {dC : Nat → ClassId} {dI : Nat → Nat → Nat} {aC : Nat → ClassId} {aV : Nat → Nat} (hy : am_Hy l al) (N : Nat) (i1 : Int32) (i2 : Int32) (h : am_Hp) (r : (Int32 × am_Hp)) (hf : f_X10_session N i1 i2 h = some r) : am_Met l al dC dI aC aV 183 [.ref 193, .int i1, .int i2] h (am_oi r.1) r.2 :=
  am_met (tab := tX10_session) (orc := o_X10_session N) (ret := am_ri) (g := r) (by decide) (by decide) hy.1 hy.2 tok_X10_session (am_os1 (s_X10_isSession hy N) (am_os1 (s_X10_checks hy N) (am_os1 (s_X10_events hy N) (am_os1 (s_X10_ofS hy N) am_os0)))) am_ri_inv (Nat.le_of_ble_eq_true rfl) (fun At cl wk => by
    skip
    exact cl am_C0 am_c0 400 0 _ _ h hf)
theorem s_X10_session {l : Launch} {al : Nat → Nat} {dC : Nat → ClassId} {dI : Nat → Nat → Nat} {aC : Nat → ClassId} {aV : Nat → Nat} (hy : am_Hy l al) (N : Nat) : am_CS l al dC dI aC aV 183 (c_X10_session N) := by
  intro γ as h kk g hc0
  obtain ⟨z0, w0, e_0, hcz0⟩ := am_sa_some hc0
  obtain ⟨hz0, hc1⟩ := am_bif hcz0
  cases Nat.eq_of_beq_eq_true hz0
  obtain ⟨i1, w1, e_1, hc2⟩ := am_s1_some hc1
  obtain ⟨i2, w2, e_2, hc3⟩ := am_s1_some hc2
  obtain ⟨e_3, hc⟩ := am_st0_some hc3
  subst e_3
  subst e_2
  subst e_1
  subst e_0
  obtain ⟨q, e1, e2⟩ := am_bi_some hc
  exact ⟨_, _, m_X10_session hy N i1 i2 h _ e1, e2⟩

def f_X10_event (N : Nat) (i1 : Int32) (i2 : Int32) (i3 : Int32) (h : am_Hp) : Option (Int32 × am_Hp) :=
  am_bi (f_X10_isSession N i1 h) (fun x2 h1 =>
  am_bi (f_X10_checks N x2 h1) (fun x4 h3 =>
  (if x4 = 0 then
    some ((0 : Int32), h3)
  else
    (if i2 < 0 then
      some ((-1 : Int32), h3)
    else
      am_bi (f_X10_events N i1 h3) (fun x6 h5 =>
      (if i2 < x6 then
        (if i3 < 0 then
          some ((-2 : Int32), h5)
        else
          (if i3 ≤ (3 : Int32) then
            am_bi (f_X10_ofE N i1 i2 i3 h5) (fun x8 h7 =>
            some (x8, h7))
          else
            some ((-2 : Int32), h5)))
      else
        some ((-1 : Int32), h5)))))))
def c_X10_event (N : Nat) : am_Cl := fun _ as h kk => am_sa as (fun z w0 => bif Nat.beq z 193 then am_s1 w0 (fun i1 w1 => am_s1 w1 (fun i2 w2 => am_s1 w2 (fun i3 w3 => am_st0 w3 (am_bi (f_X10_event N i1 i2 i3 h) (fun v h => kk (am_oi v) h))))) else none)
def o_X10_event (N : Nat) : am_Orc := (am_oc 174 (c_X10_isSession N) (am_oc 178 (c_X10_checks N) (am_oc 134 (c_X10_events N) (am_oc 133 (c_X10_ofE N) am_o0))))
set_option maxRecDepth 100000 in
theorem tok_X10_event : am_tok 184 tX10_event := by
  unfold am_tok
  decide +kernel
set_option maxHeartbeats 4000000 in
set_option maxRecDepth 100000 in
theorem m_X10_event {l : Launch} {al : Nat → Nat} {dC : Nat → ClassId} {dI : Nat → Nat → Nat} {aC : Nat → ClassId} {aV : Nat → Nat} (hy : am_Hy l al) (N : Nat) (i1 : Int32) (i2 : Int32) (i3 : Int32) (h : am_Hp) (r : (Int32 × am_Hp)) (hf : f_X10_event N i1 i2 i3 h = some r) : am_Met l al dC dI aC aV 184 [.ref 193, .int i1, .int i2, .int i3] h (am_oi r.1) r.2 :=
  am_met (tab := tX10_event) (orc := o_X10_event N) (ret := am_ri) (g := r) (by decide) (by decide) hy.1 hy.2 tok_X10_event (am_os1 (s_X10_isSession hy N) (am_os1 (s_X10_checks hy N) (am_os1 (s_X10_events hy N) (am_os1 (s_X10_ofE hy N) am_os0)))) am_ri_inv (Nat.le_of_ble_eq_true rfl) (fun At cl wk => by
    skip
    exact cl am_C0 am_c0 400 0 _ _ h hf)
theorem s_X10_event {l : Launch} {al : Nat → Nat} {dC : Nat → ClassId} {dI : Nat → Nat → Nat} {aC : Nat → ClassId} {aV : Nat → Nat} (hy : am_Hy l al) (N : Nat) : am_CS l al dC dI aC aV 184 (c_X10_event N) := by
  intro γ as h kk g hc0
  obtain ⟨z0, w0, e_0, hcz0⟩ := am_sa_some hc0
  obtain ⟨hz0, hc1⟩ := am_bif hcz0
  cases Nat.eq_of_beq_eq_true hz0
  obtain ⟨i1, w1, e_1, hc2⟩ := am_s1_some hc1
  obtain ⟨i2, w2, e_2, hc3⟩ := am_s1_some hc2
  obtain ⟨i3, w3, e_3, hc4⟩ := am_s1_some hc3
  obtain ⟨e_4, hc⟩ := am_st0_some hc4
  subst e_4
  subst e_3
  subst e_2
  subst e_1
  subst e_0
  obtain ⟨q, e1, e2⟩ := am_bi_some hc
  exact ⟨_, _, m_X10_event hy N i1 i2 i3 h _ e1, e2⟩
