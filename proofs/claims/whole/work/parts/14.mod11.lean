def l_X10_load_75 (N : Nat) : Nat → am_Hp → Option (Int32 × am_Hp)
  | 0, _ => none
  | n + 1, h =>
    (if (h 193 22) = 0 then
      (if (h 193 20) = (3 : Int32) then
        let h10 := am_pi h 193 2 (0 : Int32)
        (if (h10 193 22) = 0 then
          let h15 := am_pi h10 193 24 (-1 : Int32)
          (if (h15 193 22) = 0 then
            let h16 := am_pi h15 193 8 (0 : Int32)
            some (h16 193 25, h16)
          else
            am_bi (f_X10_copies N 196 195 h15) (fun _ h17 =>
            am_bi (f_X10_copies N 198 197 h17) (fun _ h18 =>
            some (h18 193 22, h18))))
        else
          let h11 := am_pi h10 193 24 (h10 193 23)
          (if (h11 193 22) = 0 then
            let h12 := am_pi h11 193 8 (0 : Int32)
            some (h12 193 25, h12)
          else
            am_bi (f_X10_copies N 196 195 h11) (fun _ h13 =>
            am_bi (f_X10_copies N 198 197 h13) (fun _ h14 =>
            some (h14 193 22, h14)))))
      else
        am_bi (f_X10_readStatement N h) (fun _ h19 =>
        l_X10_load_75 N n h19))
    else
      let h1 := am_pi h 193 2 (0 : Int32)
      (if (h1 193 22) = 0 then
        let h6 := am_pi h1 193 24 (-1 : Int32)
        (if (h6 193 22) = 0 then
          let h7 := am_pi h6 193 8 (0 : Int32)
          some (h7 193 25, h7)
        else
          am_bi (f_X10_copies N 196 195 h6) (fun _ h8 =>
          am_bi (f_X10_copies N 198 197 h8) (fun _ h9 =>
          some (h9 193 22, h9))))
      else
        let h2 := am_pi h1 193 24 (h1 193 23)
        (if (h2 193 22) = 0 then
          let h3 := am_pi h2 193 8 (0 : Int32)
          some (h3 193 25, h3)
        else
          am_bi (f_X10_copies N 196 195 h2) (fun _ h4 =>
          am_bi (f_X10_copies N 198 197 h4) (fun _ h5 =>
          some (h5 193 22, h5))))))
def f_X10_load (N : Nat) (i1 : Int32) (h : am_Hp) : Option (Int32 × am_Hp) :=
  let h1 := am_pi h 193 0 (0 : Int32)
  (if i1 < 0 then
    some ((-2 : Int32), h1)
  else
    (if i1 ≤ (h1 193 2) then
      am_bi (f_X10_copies N 195 196 h1) (fun _ h2 =>
      am_bi (f_X10_copies N 197 198 h2) (fun _ h3 =>
      am_bi (f_X10_newConsoles N h3) (fun _ h4 =>
      let h5 := am_pi h4 193 17 i1
      let h6 := am_pi h5 193 18 (0 : Int32)
      let h7 := am_pi h6 193 22 (0 : Int32)
      let h8 := am_pi h7 193 25 (0 : Int32)
      let h9 := am_pi h8 193 26 (0 : Int32)
      am_bi (f_X10_next N h9) (fun _ h10 =>
      l_X10_load_75 N N h10))))
    else
      some ((-2 : Int32), h1)))
def c_X10_load (N : Nat) : am_Cl := fun _ as h kk => am_sa as (fun z w0 => bif Nat.beq z 193 then am_s1 w0 (fun i1 w1 => am_st0 w1 (am_bi (f_X10_load N i1 h) (fun v h => kk (am_oi v) h))) else none)
def o_X10_load (N : Nat) : am_Orc := (am_oc 127 (c_X10_copies N) (am_oc 128 (c_X10_newConsoles N) (am_oc 160 (c_X10_next N) (am_oc 171 (c_X10_readStatement N) am_o0))))
set_option maxRecDepth 100000 in
theorem tok_X10_load : am_tok 172 tX10_load := by
  unfold am_tok
  decide +kernel
set_option maxHeartbeats 4000000 in
set_option maxRecDepth 100000 in
theorem m_X10_load {l : Launch} {al : Nat → Nat} {dC : Nat → ClassId} {dI : Nat → Nat → Nat} {aC : Nat → ClassId} {aV : Nat → Nat} (hy : am_Hy l al) (N : Nat) (i1 : Int32) (h : am_Hp) (r : (Int32 × am_Hp)) (hf : f_X10_load N i1 h = some r) : am_Met l al dC dI aC aV 172 [.ref 193, .int i1] h (am_oi r.1) r.2 :=
  am_met (tab := tX10_load) (orc := o_X10_load N) (ret := am_ri) (g := r) (by decide) (by decide) hy.1 hy.2 tok_X10_load (am_os1 (s_X10_copies hy N) (am_os1 (s_X10_newConsoles hy N) (am_os1 (s_X10_next hy N) (am_os1 (s_X10_readStatement hy N) am_os0)))) am_ri_inv (Nat.le_of_ble_eq_true rfl) (fun At cl wk => by
    have A75 : ∀ n : Nat, ∀ h, l_X10_load_75 N n h = some r → At 75 [(0, .ref 193)] [] h := by
      intro n
      induction n with
      | zero => intro h hr; cases hr
      | succ n ih =>
        intro h hr
        exact cl (am_C1 75 (fun ρ st h => am_lda ρ 0 (fun z => bif Nat.beq z 193 then am_st0 st (l_X10_load_75 N n h) else none)) am_C0) (am_c1 (fun ρ st h hc => by
        obtain ⟨z, m_a0, hc⟩ := am_lda_some hc
        obtain ⟨hz, hc⟩ := am_bif hc
        cases Nat.eq_of_beq_eq_true hz
        obtain ⟨rfl, hc⟩ := am_st0_some hc
        exact wk 75 ρ [(0, .ref 193)] _ h (am_m1 m_a0 am_m0) (ih h hc)) am_c0) 400 75 _ _ h hr
    exact cl (am_C1 75 (fun ρ st h => am_lda ρ 0 (fun z => bif Nat.beq z 193 then am_st0 st (l_X10_load_75 N N h) else none)) am_C0) (am_c1 (fun ρ st h hc => by
        obtain ⟨z, m_a0, hc⟩ := am_lda_some hc
        obtain ⟨hz, hc⟩ := am_bif hc
        cases Nat.eq_of_beq_eq_true hz
        obtain ⟨rfl, hc⟩ := am_st0_some hc
        exact wk 75 ρ [(0, .ref 193)] _ h (am_m1 m_a0 am_m0) (A75 N h hc)) am_c0) 400 0 _ _ h hf)
theorem s_X10_load {l : Launch} {al : Nat → Nat} {dC : Nat → ClassId} {dI : Nat → Nat → Nat} {aC : Nat → ClassId} {aV : Nat → Nat} (hy : am_Hy l al) (N : Nat) : am_CS l al dC dI aC aV 172 (c_X10_load N) := by
  intro γ as h kk g hc0
  obtain ⟨z0, w0, e_0, hcz0⟩ := am_sa_some hc0
  obtain ⟨hz0, hc1⟩ := am_bif hcz0
  cases Nat.eq_of_beq_eq_true hz0
  obtain ⟨i1, w1, e_1, hc2⟩ := am_s1_some hc1
  obtain ⟨e_2, hc⟩ := am_st0_some hc2
  subst e_2
  subst e_1
  subst e_0
  obtain ⟨q, e1, e2⟩ := am_bi_some hc
  exact ⟨_, _, m_X10_load hy N i1 h _ e1, e2⟩

def f_X10_errorPosition (N : Nat)  (h : am_Hp) : Option (Int32 × am_Hp) :=
  let h1 := am_pi h 193 0 (0 : Int32)
  some (h1 193 24, h1)
def c_X10_errorPosition (N : Nat) : am_Cl := fun _ as h kk => am_sa as (fun z w0 => bif Nat.beq z 193 then am_st0 w0 (am_bi (f_X10_errorPosition N  h) (fun v h => kk (am_oi v) h)) else none)
def o_X10_errorPosition (N : Nat) : am_Orc := am_o0
set_option maxRecDepth 100000 in
theorem tok_X10_errorPosition : am_tok 173 tX10_errorPosition := by
  unfold am_tok
  decide +kernel
set_option maxHeartbeats 4000000 in
set_option maxRecDepth 100000 in
theorem m_X10_errorPosition {l : Launch} {al : Nat → Nat} {dC : Nat → ClassId} {dI : Nat → Nat → Nat} {aC : Nat → ClassId} {aV : Nat → Nat} (hy : am_Hy l al) (N : Nat)  (h : am_Hp) (r : (Int32 × am_Hp)) (hf : f_X10_errorPosition N  h = some r) : am_Met l al dC dI aC aV 173 [.ref 193] h (am_oi r.1) r.2 :=
  am_met (tab := tX10_errorPosition) (orc := o_X10_errorPosition N) (ret := am_ri) (g := r) (by decide) (by decide) hy.1 hy.2 tok_X10_errorPosition am_os0 am_ri_inv (Nat.le_of_ble_eq_true rfl) (fun At cl wk => by
    skip
    exact cl am_C0 am_c0 400 0 _ _ h hf)
theorem s_X10_errorPosition {l : Launch} {al : Nat → Nat} {dC : Nat → ClassId} {dI : Nat → Nat → Nat} {aC : Nat → ClassId} {aV : Nat → Nat} (hy : am_Hy l al) (N : Nat) : am_CS l al dC dI aC aV 173 (c_X10_errorPosition N) := by
  intro γ as h kk g hc0
  obtain ⟨z0, w0, e_0, hcz0⟩ := am_sa_some hc0
  obtain ⟨hz0, hc1⟩ := am_bif hcz0
  cases Nat.eq_of_beq_eq_true hz0
  obtain ⟨e_1, hc⟩ := am_st0_some hc1
  subst e_1
  subst e_0
  obtain ⟨q, e1, e2⟩ := am_bi_some hc
  exact ⟨_, _, m_X10_errorPosition hy N  h _ e1, e2⟩

def f_X10_isSession (N : Nat) (i1 : Int32) (h : am_Hp) : Option (Int32 × am_Hp) :=
  (if i1 < 0 then
    if (0 : Int32) &&& 1 = (0 : Int32) then some ((0 : Int32), h) else none
  else
    bif am_in (0 : Int32) 20 then (if (h 195 0) ≤ i1 then
      if (0 : Int32) &&& 1 = (0 : Int32) then some ((0 : Int32), h) else none
    else
      if (1 : Int32) &&& 1 = (1 : Int32) then some ((1 : Int32), h) else none) else none)
def c_X10_isSession (N : Nat) : am_Cl := fun _ as h kk => am_sa as (fun z w0 => bif Nat.beq z 193 then am_s1 w0 (fun i1 w1 => am_st0 w1 (am_bi (f_X10_isSession N i1 h) (fun v h => kk (am_oi v) h))) else none)
def o_X10_isSession (N : Nat) : am_Orc := am_o0
set_option maxRecDepth 100000 in
theorem tok_X10_isSession : am_tok 174 tX10_isSession := by
  unfold am_tok
  decide +kernel
set_option maxHeartbeats 4000000 in
set_option maxRecDepth 100000 in
theorem m_X10_isSession {l : Launch} {al : Nat → Nat} {dC : Nat → ClassId} {dI : Nat → Nat → Nat} {aC : Nat → ClassId} {aV : Nat → Nat} (hy : am_Hy l al) (N : Nat) (i1 : Int32) (h : am_Hp) (r : (Int32 × am_Hp)) (hf : f_X10_isSession N i1 h = some r) : am_Met l al dC dI aC aV 174 [.ref 193, .int i1] h (am_oi r.1) r.2 :=
  am_met (tab := tX10_isSession) (orc := o_X10_isSession N) (ret := am_ri) (g := r) (by decide) (by decide) hy.1 hy.2 tok_X10_isSession am_os0 am_ri_inv (Nat.le_of_ble_eq_true rfl) (fun At cl wk => by
    skip
    exact cl am_C0 am_c0 400 0 _ _ h hf)
theorem s_X10_isSession {l : Launch} {al : Nat → Nat} {dC : Nat → ClassId} {dI : Nat → Nat → Nat} {aC : Nat → ClassId} {aV : Nat → Nat} (hy : am_Hy l al) (N : Nat) : am_CS l al dC dI aC aV 174 (c_X10_isSession N) := by
  intro γ as h kk g hc0
  obtain ⟨z0, w0, e_0, hcz0⟩ := am_sa_some hc0
  obtain ⟨hz0, hc1⟩ := am_bif hcz0
  cases Nat.eq_of_beq_eq_true hz0
  obtain ⟨i1, w1, e_1, hc2⟩ := am_s1_some hc1
  obtain ⟨e_2, hc⟩ := am_st0_some hc2
  subst e_2
  subst e_1
  subst e_0
  obtain ⟨q, e1, e2⟩ := am_bi_some hc
  exact ⟨_, _, m_X10_isSession hy N i1 h _ e1, e2⟩

def f_X10_isUser (N : Nat) (i1 : Int32) (h : am_Hp) : Option (Int32 × am_Hp) :=
  (if i1 < 0 then
    if (0 : Int32) &&& 1 = (0 : Int32) then some ((0 : Int32), h) else none
  else
    bif am_in (1 : Int32) 20 then (if (h 195 1) ≤ i1 then
      if (0 : Int32) &&& 1 = (0 : Int32) then some ((0 : Int32), h) else none
    else
      if (1 : Int32) &&& 1 = (1 : Int32) then some ((1 : Int32), h) else none) else none)
def c_X10_isUser (N : Nat) : am_Cl := fun _ as h kk => am_sa as (fun z w0 => bif Nat.beq z 193 then am_s1 w0 (fun i1 w1 => am_st0 w1 (am_bi (f_X10_isUser N i1 h) (fun v h => kk (am_oi v) h))) else none)
def o_X10_isUser (N : Nat) : am_Orc := am_o0
set_option maxRecDepth 100000 in
theorem tok_X10_isUser : am_tok 175 tX10_isUser := by
  unfold am_tok
  decide +kernel
set_option maxHeartbeats 4000000 in
set_option maxRecDepth 100000 in
theorem m_X10_isUser {l : Launch} {al : Nat → Nat} {dC : Nat → ClassId} {dI : Nat → Nat → Nat} {aC : Nat → ClassId} {aV : Nat → Nat} (hy : am_Hy l al) (N : Nat) (i1 : Int32) (h : am_Hp) (r : (Int32 × am_Hp)) (hf : f_X10_isUser N i1 h = some r) : am_Met l al dC dI aC aV 175 [.ref 193, .int i1] h (am_oi r.1) r.2 :=
  am_met (tab := tX10_isUser) (orc := o_X10_isUser N) (ret := am_ri) (g := r) (by decide) (by decide) hy.1 hy.2 tok_X10_isUser am_os0 am_ri_inv (Nat.le_of_ble_eq_true rfl) (fun At cl wk => by
    skip
    exact cl am_C0 am_c0 400 0 _ _ h hf)
theorem s_X10_isUser {l : Launch} {al : Nat → Nat} {dC : Nat → ClassId} {dI : Nat → Nat → Nat} {aC : Nat → ClassId} {aV : Nat → Nat} (hy : am_Hy l al) (N : Nat) : am_CS l al dC dI aC aV 175 (c_X10_isUser N) := by
  intro γ as h kk g hc0
  obtain ⟨z0, w0, e_0, hcz0⟩ := am_sa_some hc0
  obtain ⟨hz0, hc1⟩ := am_bif hcz0
  cases Nat.eq_of_beq_eq_true hz0
  obtain ⟨i1, w1, e_1, hc2⟩ := am_s1_some hc1
  obtain ⟨e_2, hc⟩ := am_st0_some hc2
  subst e_2
  subst e_1
  subst e_0
  obtain ⟨q, e1, e2⟩ := am_bi_some hc
  exact ⟨_, _, m_X10_isUser hy N i1 h _ e1, e2⟩

def f_X10_isPosition (N : Nat) (i1 : Int32) (i2 : Int32) (h : am_Hp) : Option (Int32 × am_Hp) :=
  am_bi (f_X10_isSession N i1 h) (fun x2 h1 =>
  (if x2 = 0 then
    if (0 : Int32) &&& 1 = (0 : Int32) then some ((0 : Int32), h1) else none
  else
    (if i2 < 0 then
      if (0 : Int32) &&& 1 = (0 : Int32) then some ((0 : Int32), h1) else none
    else
      am_bi (f_X10_events N i1 h1) (fun x4 h3 =>
      (if x4 < i2 then
        if (0 : Int32) &&& 1 = (0 : Int32) then some ((0 : Int32), h3) else none
      else
        if (1 : Int32) &&& 1 = (1 : Int32) then some ((1 : Int32), h3) else none)))))
def c_X10_isPosition (N : Nat) : am_Cl := fun _ as h kk => am_sa as (fun z w0 => bif Nat.beq z 193 then am_s1 w0 (fun i1 w1 => am_s1 w1 (fun i2 w2 => am_st0 w2 (am_bi (f_X10_isPosition N i1 i2 h) (fun v h => kk (am_oi v) h)))) else none)
def o_X10_isPosition (N : Nat) : am_Orc := (am_oc 174 (c_X10_isSession N) (am_oc 134 (c_X10_events N) am_o0))
set_option maxRecDepth 100000 in
theorem tok_X10_isPosition : am_tok 176 tX10_isPosition := by
  unfold am_tok
  decide +kernel
set_option maxHeartbeats 4000000 in
set_option maxRecDepth 100000 in
theorem m_X10_isPosition {l : Launch} {al : Nat → Nat} {dC : Nat → ClassId} {dI : Nat → Nat → Nat} {aC : Nat → ClassId} {aV : Nat → Nat} (hy : am_Hy l al) (N : Nat) (i1 : Int32) (i2 : Int32) (h : am_Hp) (r : (Int32 × am_Hp)) (hf : f_X10_isPosition N i1 i2 h = some r) : am_Met l al dC dI aC aV 176 [.ref 193, .int i1, .int i2] h (am_oi r.1) r.2 :=
  am_met (tab := tX10_isPosition) (orc := o_X10_isPosition N) (ret := am_ri) (g := r) (by decide) (by decide) hy.1 hy.2 tok_X10_isPosition (am_os1 (s_X10_isSession hy N) (am_os1 (s_X10_events hy N) am_os0)) am_ri_inv (Nat.le_of_ble_eq_true rfl) (fun At cl wk => by
    skip
    exact cl am_C0 am_c0 400 0 _ _ h hf)
theorem s_X10_isPosition {l : Launch} {al : Nat → Nat} {dC : Nat → ClassId} {dI : Nat → Nat → Nat} {aC : Nat → ClassId} {aV : Nat → Nat} (hy : am_Hy l al) (N : Nat) : am_CS l al dC dI aC aV 176 (c_X10_isPosition N) := by
  intro γ as h kk g hc0
  obtain ⟨z0, w0, e_0, hcz0⟩ := am_sa_some hc0
  obtain ⟨hz0, hc1⟩ := am_bif hcz0
  cases Nat.eq_of_beq_eq_true hz0
  obtain ⟨i1, w1, e_1, hc2⟩ := am_s1_some hc1
  obtain ⟨i2, w2, e_2, hc3⟩ := am_s1_some hc2
  obtain ⟨e_3, hc⟩ := am_st0_some hc3
  subst e_3
  subst e_2
  subst e_1
  subst e_0
  obtain ⟨q, e1, e2⟩ := am_bi_some hc
  exact ⟨_, _, m_X10_isPosition hy N i1 i2 h _ e1, e2⟩

def f_X10_isSetting (N : Nat) (i0 : Int32) (h : am_Hp) : Option (Int32 × am_Hp) :=
  (if i0 = 0 then
    if (1 : Int32) &&& 1 = (1 : Int32) then some ((1 : Int32), h) else none
  else
    (if i0 = (1 : Int32) then
      if (1 : Int32) &&& 1 = (1 : Int32) then some ((1 : Int32), h) else none
    else
      if (0 : Int32) &&& 1 = (0 : Int32) then some ((0 : Int32), h) else none))
def c_X10_isSetting (N : Nat) : am_Cl := fun _ as h kk => am_s1 as (fun i0 w0 => am_st0 w0 (am_bi (f_X10_isSetting N i0 h) (fun v h => kk (am_oi v) h)))
def o_X10_isSetting (N : Nat) : am_Orc := am_o0
set_option maxRecDepth 100000 in
theorem tok_X10_isSetting : am_tok 177 tX10_isSetting := by
  unfold am_tok
  decide +kernel
set_option maxHeartbeats 4000000 in
set_option maxRecDepth 100000 in
theorem m_X10_isSetting {l : Launch} {al : Nat → Nat} {dC : Nat → ClassId} {dI : Nat → Nat → Nat} {aC : Nat → ClassId} {aV : Nat → Nat} (hy : am_Hy l al) (N : Nat) (i0 : Int32) (h : am_Hp) (r : (Int32 × am_Hp)) (hf : f_X10_isSetting N i0 h = some r) : am_Met l al dC dI aC aV 177 [.int i0] h (am_oi r.1) r.2 :=
  am_met (tab := tX10_isSetting) (orc := o_X10_isSetting N) (ret := am_ri) (g := r) (by decide) (by decide) hy.1 hy.2 tok_X10_isSetting am_os0 am_ri_inv (Nat.le_of_ble_eq_true rfl) (fun At cl wk => by
    skip
    exact cl am_C0 am_c0 400 0 _ _ h hf)
theorem s_X10_isSetting {l : Launch} {al : Nat → Nat} {dC : Nat → ClassId} {dI : Nat → Nat → Nat} {aC : Nat → ClassId} {aV : Nat → Nat} (hy : am_Hy l al) (N : Nat) : am_CS l al dC dI aC aV 177 (c_X10_isSetting N) := by
  intro γ as h kk g hc0
  obtain ⟨i0, w0, e_0, hc1⟩ := am_s1_some hc0
  obtain ⟨e_1, hc⟩ := am_st0_some hc1
  subst e_1
  subst e_0
  obtain ⟨q, e1, e2⟩ := am_bi_some hc
  exact ⟨_, _, m_X10_isSetting hy N i0 h _ e1, e2⟩

def f_X10_checks (N : Nat) (i1 : Int32) (h : am_Hp) : Option (Int32 × am_Hp) :=
  (if i1 = 0 then
    let h1 := am_pi h 193 0 (1 : Int32)
    if i1 &&& 1 = i1 then some (i1, h1) else none
  else
    let h2 := am_pi h 193 0 (0 : Int32)
    if i1 &&& 1 = i1 then some (i1, h2) else none)
def c_X10_checks (N : Nat) : am_Cl := fun _ as h kk => am_sa as (fun z w0 => bif Nat.beq z 193 then am_s1 w0 (fun i1 w1 => am_st0 w1 (am_bi (f_X10_checks N i1 h) (fun v h => kk (am_oi v) h))) else none)
def o_X10_checks (N : Nat) : am_Orc := am_o0
set_option maxRecDepth 100000 in
theorem tok_X10_checks : am_tok 178 tX10_checks := by
  unfold am_tok
  decide +kernel
set_option maxHeartbeats 4000000 in
set_option maxRecDepth 100000 in
theorem m_X10_checks {l : Launch} {al : Nat → Nat} {dC : Nat → ClassId} {dI : Nat → Nat → Nat} {aC : Nat → ClassId} {aV : Nat → Nat} (hy : am_Hy l al) (N : Nat) (i1 : Int32) (h : am_Hp) (r : (Int32 × am_Hp)) (hf : f_X10_checks N i1 h = some r) : am_Met l al dC dI aC aV 178 [.ref 193, .int i1] h (am_oi r.1) r.2 :=
  am_met (tab := tX10_checks) (orc := o_X10_checks N) (ret := am_ri) (g := r) (by decide) (by decide) hy.1 hy.2 tok_X10_checks am_os0 am_ri_inv (Nat.le_of_ble_eq_true rfl) (fun At cl wk => by
    skip
    exact cl am_C0 am_c0 400 0 _ _ h hf)
theorem s_X10_checks {l : Launch} {al : Nat → Nat} {dC : Nat → ClassId} {dI : Nat → Nat → Nat} {aC : Nat → ClassId} {aV : Nat → Nat} (hy : am_Hy l al) (N : Nat) : am_CS l al dC dI aC aV 178 (c_X10_checks N) := by
  intro γ as h kk g hc0
  obtain ⟨z0, w0, e_0, hcz0⟩ := am_sa_some hc0
  obtain ⟨hz0, hc1⟩ := am_bif hcz0
  cases Nat.eq_of_beq_eq_true hz0
  obtain ⟨i1, w1, e_1, hc2⟩ := am_s1_some hc1
  obtain ⟨e_2, hc⟩ := am_st0_some hc2
  subst e_2
  subst e_1
  subst e_0
  obtain ⟨q, e1, e2⟩ := am_bi_some hc
  exact ⟨_, _, m_X10_checks hy N i1 h _ e1, e2⟩
