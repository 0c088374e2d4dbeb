def f_X0_handOver (N : Nat) (a0 : Nat) (h : am_Hp) : Option (Unit × am_Hp) :=
  bif am_isO a0 0 then bif am_isO a0 0 then (let h1 := am_pi h a0 1 (h a0 2)
  bif am_isO a0 0 then (let h2 := am_pi h1 a0 2 (-1 : Int32)
  some ((), h2)) else none) else none else none
def c_X0_handOver (N : Nat) : am_Cl := fun _ as h kk => am_sa as (fun a0 w0 => am_st0 w0 (am_bi (f_X0_handOver N a0 h) (fun v h => kk (am_ov v) h)))
def o_X0_handOver (N : Nat) : am_Orc := am_o0
set_option maxRecDepth 100000 in
theorem tok_X0_handOver : am_tok 5 tX0_handOver := by
  unfold am_tok
  decide +kernel
set_option maxHeartbeats 4000000 in
set_option maxRecDepth 100000 in
theorem m_X0_handOver {l : Launch} {al : Nat → Nat} {dC : Nat → ClassId} {dI : Nat → Nat → Nat} {aC : Nat → ClassId} {aV : Nat → Nat} (hy : am_Hy l al) (N : Nat) (a0 : Nat) (h : am_Hp) (r : (Unit × am_Hp)) (hf : f_X0_handOver N a0 h = some r) : am_Met l al dC dI aC aV 5 [.ref a0] h (am_ov r.1) r.2 :=
  am_met (tab := tX0_handOver) (orc := o_X0_handOver N) (ret := am_rv) (g := r) (by decide) (by decide) hy.1 hy.2 tok_X0_handOver am_os0 am_rv_inv (Nat.le_of_ble_eq_true rfl) (fun At cl wk => by
    skip
    exact cl am_C0 am_c0 400 0 _ _ h hf)
theorem s_X0_handOver {l : Launch} {al : Nat → Nat} {dC : Nat → ClassId} {dI : Nat → Nat → Nat} {aC : Nat → ClassId} {aV : Nat → Nat} (hy : am_Hy l al) (N : Nat) : am_CS l al dC dI aC aV 5 (c_X0_handOver N) := by
  intro γ as h kk g hc0
  obtain ⟨a0, w0, e_0, hc1⟩ := am_sa_some hc0
  obtain ⟨e_1, hc⟩ := am_st0_some hc1
  subst e_1
  subst e_0
  obtain ⟨q, e1, e2⟩ := am_bi_some hc
  exact ⟨_, _, m_X0_handOver hy N a0 h _ e1, e2⟩

def f_X0_restart (N : Nat) (a0 : Nat) (h : am_Hp) : Option (Unit × am_Hp) :=
  bif am_isO a0 0 then (let h1 := am_pi h a0 0 (0 : Int32)
  bif am_isO a0 0 then (let h2 := am_pi h1 a0 1 (-1 : Int32)
  bif am_isO a0 0 then (let h3 := am_pi h2 a0 2 (-1 : Int32)
  bif am_isO a0 0 then (let h4 := am_pi h3 a0 3 (0 : Int32)
  some ((), h4)) else none) else none) else none) else none
def c_X0_restart (N : Nat) : am_Cl := fun _ as h kk => am_sa as (fun a0 w0 => am_st0 w0 (am_bi (f_X0_restart N a0 h) (fun v h => kk (am_ov v) h)))
def o_X0_restart (N : Nat) : am_Orc := am_o0
set_option maxRecDepth 100000 in
theorem tok_X0_restart : am_tok 6 tX0_restart := by
  unfold am_tok
  decide +kernel
set_option maxHeartbeats 4000000 in
set_option maxRecDepth 100000 in
theorem m_X0_restart {l : Launch} {al : Nat → Nat} {dC : Nat → ClassId} {dI : Nat → Nat → Nat} {aC : Nat → ClassId} {aV : Nat → Nat} (hy : am_Hy l al) (N : Nat) (a0 : Nat) (h : am_Hp) (r : (Unit × am_Hp)) (hf : f_X0_restart N a0 h = some r) : am_Met l al dC dI aC aV 6 [.ref a0] h (am_ov r.1) r.2 :=
  am_met (tab := tX0_restart) (orc := o_X0_restart N) (ret := am_rv) (g := r) (by decide) (by decide) hy.1 hy.2 tok_X0_restart am_os0 am_rv_inv (Nat.le_of_ble_eq_true rfl) (fun At cl wk => by
    skip
    exact cl am_C0 am_c0 400 0 _ _ h hf)
theorem s_X0_restart {l : Launch} {al : Nat → Nat} {dC : Nat → ClassId} {dI : Nat → Nat → Nat} {aC : Nat → ClassId} {aV : Nat → Nat} (hy : am_Hy l al) (N : Nat) : am_CS l al dC dI aC aV 6 (c_X0_restart N) := by
  intro γ as h kk g hc0
  obtain ⟨a0, w0, e_0, hc1⟩ := am_sa_some hc0
  obtain ⟨e_1, hc⟩ := am_st0_some hc1
  subst e_1
  subst e_0
  obtain ⟨q, e1, e2⟩ := am_bi_some hc
  exact ⟨_, _, m_X0_restart hy N a0 h _ e1, e2⟩

def f_X0_copyFrom (N : Nat) (a0 : Nat) (a1 : Nat) (h : am_Hp) : Option (Unit × am_Hp) :=
  bif am_isO a1 0 then bif am_isO a0 0 then (let h1 := am_pi h a0 0 (h a1 0)
  bif am_isO a1 0 then bif am_isO a0 0 then (let h2 := am_pi h1 a0 1 (h1 a1 1)
  bif am_isO a1 0 then bif am_isO a0 0 then (let h3 := am_pi h2 a0 2 (h2 a1 2)
  bif am_isO a1 0 then bif am_isO a0 0 then (let h4 := am_pi h3 a0 3 (h3 a1 3)
  some ((), h4)) else none else none) else none else none) else none else none) else none else none
def c_X0_copyFrom (N : Nat) : am_Cl := fun _ as h kk => am_sa as (fun a0 w0 => am_sa w0 (fun a1 w1 => am_st0 w1 (am_bi (f_X0_copyFrom N a0 a1 h) (fun v h => kk (am_ov v) h))))
def o_X0_copyFrom (N : Nat) : am_Orc := am_o0
set_option maxRecDepth 100000 in
theorem tok_X0_copyFrom : am_tok 7 tX0_copyFrom := by
  unfold am_tok
  decide +kernel
set_option maxHeartbeats 4000000 in
set_option maxRecDepth 100000 in
theorem m_X0_copyFrom {l : Launch} {al : Nat → Nat} {dC : Nat → ClassId} {dI : Nat → Nat → Nat} {aC : Nat → ClassId} {aV : Nat → Nat} (hy : am_Hy l al) (N : Nat) (a0 : Nat) (a1 : Nat) (h : am_Hp) (r : (Unit × am_Hp)) (hf : f_X0_copyFrom N a0 a1 h = some r) : am_Met l al dC dI aC aV 7 [.ref a0, .ref a1] h (am_ov r.1) r.2 :=
  am_met (tab := tX0_copyFrom) (orc := o_X0_copyFrom N) (ret := am_rv) (g := r) (by decide) (by decide) hy.1 hy.2 tok_X0_copyFrom am_os0 am_rv_inv (Nat.le_of_ble_eq_true rfl) (fun At cl wk => by
    skip
    exact cl am_C0 am_c0 400 0 _ _ h hf)
theorem s_X0_copyFrom {l : Launch} {al : Nat → Nat} {dC : Nat → ClassId} {dI : Nat → Nat → Nat} {aC : Nat → ClassId} {aV : Nat → Nat} (hy : am_Hy l al) (N : Nat) : am_CS l al dC dI aC aV 7 (c_X0_copyFrom N) := by
  intro γ as h kk g hc0
  obtain ⟨a0, w0, e_0, hc1⟩ := am_sa_some hc0
  obtain ⟨a1, w1, e_1, hc2⟩ := am_sa_some hc1
  obtain ⟨e_2, hc⟩ := am_st0_some hc2
  subst e_2
  subst e_1
  subst e_0
  obtain ⟨q, e1, e2⟩ := am_bi_some hc
  exact ⟨_, _, m_X0_copyFrom hy N a0 a1 h _ e1, e2⟩

def l_X1_restart_18 (N : Nat) : Nat → Int32 → am_Hp → Option (Unit × am_Hp)
  | 0, _, _ => none
  | n + 1, i1, h =>
    (if (2 : Int32) ≤ i1 then
      some ((), h)
    else
      bif am_in i1 2 then bif am_in i1 2 then (let h1 := am_pi h 12 i1.toNatClampNeg (am_sx 205 i1.toNatClampNeg)
      bif am_in i1 2 then (let h2 := am_pi h1 13 i1.toNatClampNeg ((0 : Int32) &&& 1)
      l_X1_restart_18 N n (i1 + (1 : Int32)) h2) else none) else none else none)
def f_X1_restart (N : Nat)  (h : am_Hp) : Option (Unit × am_Hp) :=
  let h1 := am_pi h 4 4 (0 : Int32)
  let h2 := am_pi h1 8 4 (0 : Int32)
  l_X1_restart_18 N N (0 : Int32) h2
def c_X1_restart (N : Nat) : am_Cl := fun _ as h kk => am_sa as (fun z w0 => bif Nat.beq z 3 then am_st0 w0 (am_bi (f_X1_restart N  h) (fun v h => kk (am_ov v) h)) else none)
def o_X1_restart (N : Nat) : am_Orc := am_o0
set_option maxRecDepth 100000 in
theorem tok_X1_restart : am_tok 9 tX1_restart := by
  unfold am_tok
  decide +kernel
set_option maxHeartbeats 4000000 in
set_option maxRecDepth 100000 in
theorem m_X1_restart {l : Launch} {al : Nat → Nat} {dC : Nat → ClassId} {dI : Nat → Nat → Nat} {aC : Nat → ClassId} {aV : Nat → Nat} (hy : am_Hy l al) (N : Nat)  (h : am_Hp) (r : (Unit × am_Hp)) (hf : f_X1_restart N  h = some r) : am_Met l al dC dI aC aV 9 [.ref 3] h (am_ov r.1) r.2 :=
  am_met (tab := tX1_restart) (orc := o_X1_restart N) (ret := am_rv) (g := r) (by decide) (by decide) hy.1 hy.2 tok_X1_restart am_os0 am_rv_inv (Nat.le_of_ble_eq_true rfl) (fun At cl wk => by
    have A18 : ∀ n : Nat, ∀ i1 : Int32, ∀ h, l_X1_restart_18 N n i1 h = some r → At 18 [(0, .ref 3), (1, .int i1)] [] h := by
      intro n
      induction n with
      | zero => intro i1 h hr; cases hr
      | succ n ih =>
        intro i1 h hr
        exact cl (am_C1 18 (fun ρ st h => am_lda ρ 0 (fun z => bif Nat.beq z 3 then am_ldi ρ 1 (fun i1 => am_st0 st (l_X1_restart_18 N n i1 h)) else none)) am_C0) (am_c1 (fun ρ st h hc => by
        obtain ⟨z, m_a0, hc⟩ := am_lda_some hc
        obtain ⟨hz, hc⟩ := am_bif hc
        cases Nat.eq_of_beq_eq_true hz
        obtain ⟨i1, m_i1, hc⟩ := am_ldi_some hc
        obtain ⟨rfl, hc⟩ := am_st0_some hc
        exact wk 18 ρ [(0, .ref 3), (1, .int i1)] _ h (am_m1 m_a0 (am_m1 m_i1 am_m0)) (ih i1 h hc)) am_c0) 400 18 _ _ h hr
    exact cl (am_C1 18 (fun ρ st h => am_lda ρ 0 (fun z => bif Nat.beq z 3 then am_ldi ρ 1 (fun i1 => am_st0 st (l_X1_restart_18 N N i1 h)) else none)) am_C0) (am_c1 (fun ρ st h hc => by
        obtain ⟨z, m_a0, hc⟩ := am_lda_some hc
        obtain ⟨hz, hc⟩ := am_bif hc
        cases Nat.eq_of_beq_eq_true hz
        obtain ⟨i1, m_i1, hc⟩ := am_ldi_some hc
        obtain ⟨rfl, hc⟩ := am_st0_some hc
        exact wk 18 ρ [(0, .ref 3), (1, .int i1)] _ h (am_m1 m_a0 (am_m1 m_i1 am_m0)) (A18 N i1 h hc)) am_c0) 400 0 _ _ h hf)
theorem s_X1_restart {l : Launch} {al : Nat → Nat} {dC : Nat → ClassId} {dI : Nat → Nat → Nat} {aC : Nat → ClassId} {aV : Nat → Nat} (hy : am_Hy l al) (N : Nat) : am_CS l al dC dI aC aV 9 (c_X1_restart N) := by
  intro γ as h kk g hc0
  obtain ⟨z0, w0, e_0, hcz0⟩ := am_sa_some hc0
  obtain ⟨hz0, hc1⟩ := am_bif hcz0
  cases Nat.eq_of_beq_eq_true hz0
  obtain ⟨e_1, hc⟩ := am_st0_some hc1
  subst e_1
  subst e_0
  obtain ⟨q, e1, e2⟩ := am_bi_some hc
  exact ⟨_, _, m_X1_restart hy N  h _ e1, e2⟩

def f_X7_tokenLength (N : Nat)  (h : am_Hp) : Option (Int32 × am_Hp) :=
  some ((h 1 5) - (h 1 4), h)
def c_X7_tokenLength (N : Nat) : am_Cl := fun _ as h kk => am_sa as (fun z w0 => bif Nat.beq z 1 then am_st0 w0 (am_bi (f_X7_tokenLength N  h) (fun v h => kk (am_oi v) h)) else none)
def o_X7_tokenLength (N : Nat) : am_Orc := am_o0
set_option maxRecDepth 100000 in
theorem tok_X7_tokenLength : am_tok 45 tX7_tokenLength := by
  unfold am_tok
  decide +kernel
set_option maxHeartbeats 4000000 in
set_option maxRecDepth 100000 in
theorem m_X7_tokenLength {l : Launch} {al : Nat → Nat} {dC : Nat → ClassId} {dI : Nat → Nat → Nat} {aC : Nat → ClassId} {aV : Nat → Nat} (hy : am_Hy l al) (N : Nat)  (h : am_Hp) (r : (Int32 × am_Hp)) (hf : f_X7_tokenLength N  h = some r) : am_Met l al dC dI aC aV 45 [.ref 1] h (am_oi r.1) r.2 :=
  am_met (tab := tX7_tokenLength) (orc := o_X7_tokenLength N) (ret := am_ri) (g := r) (by decide) (by decide) hy.1 hy.2 tok_X7_tokenLength am_os0 am_ri_inv (Nat.le_of_ble_eq_true rfl) (fun At cl wk => by
    skip
    exact cl am_C0 am_c0 400 0 _ _ h hf)
theorem s_X7_tokenLength {l : Launch} {al : Nat → Nat} {dC : Nat → ClassId} {dI : Nat → Nat → Nat} {aC : Nat → ClassId} {aV : Nat → Nat} (hy : am_Hy l al) (N : Nat) : am_CS l al dC dI aC aV 45 (c_X7_tokenLength N) := by
  intro γ as h kk g hc0
  obtain ⟨z0, w0, e_0, hcz0⟩ := am_sa_some hc0
  obtain ⟨hz0, hc1⟩ := am_bif hcz0
  cases Nat.eq_of_beq_eq_true hz0
  obtain ⟨e_1, hc⟩ := am_st0_some hc1
  subst e_1
  subst e_0
  obtain ⟨q, e1, e2⟩ := am_bi_some hc
  exact ⟨_, _, m_X7_tokenLength hy N  h _ e1, e2⟩

def f_X7_byteAt (N : Nat) (i1 : Int32) (h : am_Hp) : Option (Int32 × am_Hp) :=
  (if i1 < 0 then
    some ((-1 : Int32), h)
  else
    (if (h 1 2) ≤ i1 then
      some ((-1 : Int32), h)
    else
      (if i1 < (Int32.ofNat 600) then
        bif am_in i1 600 then some (h 2 i1.toNatClampNeg, h) else none
      else
        some ((-1 : Int32), h))))
def c_X7_byteAt (N : Nat) : am_Cl := fun _ as h kk => am_sa as (fun z w0 => bif Nat.beq z 1 then am_s1 w0 (fun i1 w1 => am_st0 w1 (am_bi (f_X7_byteAt N i1 h) (fun v h => kk (am_oi v) h))) else none)
def o_X7_byteAt (N : Nat) : am_Orc := am_o0
set_option maxRecDepth 100000 in
theorem tok_X7_byteAt : am_tok 50 tX7_byteAt := by
  unfold am_tok
  decide +kernel
set_option maxHeartbeats 4000000 in
set_option maxRecDepth 100000 in
theorem m_X7_byteAt {l : Launch} {al : Nat → Nat} {dC : Nat → ClassId} {dI : Nat → Nat → Nat} {aC : Nat → ClassId} {aV : Nat → Nat} (hy : am_Hy l al) (N : Nat) (i1 : Int32) (h : am_Hp) (r : (Int32 × am_Hp)) (hf : f_X7_byteAt N i1 h = some r) : am_Met l al dC dI aC aV 50 [.ref 1, .int i1] h (am_oi r.1) r.2 :=
  am_met (tab := tX7_byteAt) (orc := o_X7_byteAt N) (ret := am_ri) (g := r) (by decide) (by decide) hy.1 hy.2 tok_X7_byteAt am_os0 am_ri_inv (Nat.le_of_ble_eq_true rfl) (fun At cl wk => by
    skip
    exact cl am_C0 am_c0 400 0 _ _ h hf)
theorem s_X7_byteAt {l : Launch} {al : Nat → Nat} {dC : Nat → ClassId} {dI : Nat → Nat → Nat} {aC : Nat → ClassId} {aV : Nat → Nat} (hy : am_Hy l al) (N : Nat) : am_CS l al dC dI aC aV 50 (c_X7_byteAt N) := by
  intro γ as h kk g hc0
  obtain ⟨z0, w0, e_0, hcz0⟩ := am_sa_some hc0
  obtain ⟨hz0, hc1⟩ := am_bif hcz0
  cases Nat.eq_of_beq_eq_true hz0
  obtain ⟨i1, w1, e_1, hc2⟩ := am_s1_some hc1
  obtain ⟨e_2, hc⟩ := am_st0_some hc2
  subst e_2
  subst e_1
  subst e_0
  obtain ⟨q, e1, e2⟩ := am_bi_some hc
  exact ⟨_, _, m_X7_byteAt hy N i1 h _ e1, e2⟩

def l_X7_isWord_23 (N : Nat) : Nat → Nat → Int32 → am_Hp → Option (Int32 × am_Hp)
  | 0, _, _, _ => none
  | n + 1, a1, i2, h =>
    bif Nat.beq (am_kd a1).1 6 then am_bi (f_SLEN N a1 h) (fun x2 h1 =>
    (if x2 ≤ i2 then
      if (1 : Int32) &&& 1 = (1 : Int32) then some ((1 : Int32), h1) else none
    else
      am_bi (f_X7_byteAt N ((h1 1 4) + i2) h1) (fun x4 h3 =>
      bif Nat.beq (am_kd a1).1 6 then am_bi (f_SCHR N a1 i2 h3) (fun x6 h5 =>
      (if x4 = x6 then
        l_X7_isWord_23 N n a1 (i2 + (1 : Int32)) h5
      else
        if (0 : Int32) &&& 1 = (0 : Int32) then some ((0 : Int32), h5) else none)) else none))) else none
def f_X7_isWord (N : Nat) (a1 : Nat) (h : am_Hp) : Option (Int32 × am_Hp) :=
  (if (h 1 3) = (1 : Int32) then
    am_bi (f_X7_tokenLength N h) (fun x2 h1 =>
    bif Nat.beq (am_kd a1).1 6 then am_bi (f_SLEN N a1 h1) (fun x4 h3 =>
    (if x2 = x4 then
      l_X7_isWord_23 N N a1 (0 : Int32) h3
    else
      if (0 : Int32) &&& 1 = (0 : Int32) then some ((0 : Int32), h3) else none)) else none)
  else
    if (0 : Int32) &&& 1 = (0 : Int32) then some ((0 : Int32), h) else none)
def c_X7_isWord (N : Nat) : am_Cl := fun _ as h kk => am_sa as (fun z w0 => bif Nat.beq z 1 then am_sa w0 (fun a1 w1 => am_st0 w1 (am_bi (f_X7_isWord N a1 h) (fun v h => kk (am_oi v) h))) else none)
def o_X7_isWord (N : Nat) : am_Orc := (am_oc 45 (c_X7_tokenLength N) (am_oc 3 (c_SLEN N) (am_oc 50 (c_X7_byteAt N) (am_oc 4 (c_SCHR N) am_o0))))
set_option maxRecDepth 100000 in
theorem tok_X7_isWord : am_tok 46 tX7_isWord := by
  unfold am_tok
  decide +kernel
set_option maxHeartbeats 4000000 in
set_option maxRecDepth 100000 in
theorem m_X7_isWord {l : Launch} {al : Nat → Nat} {dC : Nat → ClassId} {dI : Nat → Nat → Nat} {aC : Nat → ClassId} {aV : Nat → Nat} (hy : am_Hy l al) (N : Nat) (a1 : Nat) (h : am_Hp) (r : (Int32 × am_Hp)) (hf : f_X7_isWord N a1 h = some r) : am_Met l al dC dI aC aV 46 [.ref 1, .ref a1] h (am_oi r.1) r.2 :=
  am_met (tab := tX7_isWord) (orc := o_X7_isWord N) (ret := am_ri) (g := r) (by decide) (by decide) hy.1 hy.2 tok_X7_isWord (am_os1 (s_X7_tokenLength hy N) (am_os1 (s_SLEN hy N) (am_os1 (s_X7_byteAt hy N) (am_os1 (s_SCHR hy N) am_os0)))) am_ri_inv (Nat.le_of_ble_eq_true rfl) (fun At cl wk => by
    have A23 : ∀ n : Nat, ∀ a1 : Nat, ∀ i2 : Int32, ∀ h, l_X7_isWord_23 N n a1 i2 h = some r → At 23 [(0, .ref 1), (1, .ref a1), (2, .int i2)] [] h := by
      intro n
      induction n with
      | zero => intro a1 i2 h hr; cases hr
      | succ n ih =>
        intro a1 i2 h hr
        exact cl (am_C1 23 (fun ρ st h => am_lda ρ 0 (fun z => bif Nat.beq z 1 then am_lda ρ 1 (fun a1 => am_ldi ρ 2 (fun i2 => am_st0 st (l_X7_isWord_23 N n a1 i2 h))) else none)) am_C0) (am_c1 (fun ρ st h hc => by
        obtain ⟨z, m_a0, hc⟩ := am_lda_some hc
        obtain ⟨hz, hc⟩ := am_bif hc
        cases Nat.eq_of_beq_eq_true hz
        obtain ⟨a1, m_a1, hc⟩ := am_lda_some hc
        obtain ⟨i2, m_i2, hc⟩ := am_ldi_some hc
        obtain ⟨rfl, hc⟩ := am_st0_some hc
        exact wk 23 ρ [(0, .ref 1), (1, .ref a1), (2, .int i2)] _ h (am_m1 m_a0 (am_m1 m_a1 (am_m1 m_i2 am_m0))) (ih a1 i2 h hc)) am_c0) 400 23 _ _ h hr
    exact cl (am_C1 23 (fun ρ st h => am_lda ρ 0 (fun z => bif Nat.beq z 1 then am_lda ρ 1 (fun a1 => am_ldi ρ 2 (fun i2 => am_st0 st (l_X7_isWord_23 N N a1 i2 h))) else none)) am_C0) (am_c1 (fun ρ st h hc => by
        obtain ⟨z, m_a0, hc⟩ := am_lda_some hc
        obtain ⟨hz, hc⟩ := am_bif hc
        cases Nat.eq_of_beq_eq_true hz
        obtain ⟨a1, m_a1, hc⟩ := am_lda_some hc
        obtain ⟨i2, m_i2, hc⟩ := am_ldi_some hc
        obtain ⟨rfl, hc⟩ := am_st0_some hc
        exact wk 23 ρ [(0, .ref 1), (1, .ref a1), (2, .int i2)] _ h (am_m1 m_a0 (am_m1 m_a1 (am_m1 m_i2 am_m0))) (A23 N a1 i2 h hc)) am_c0) 400 0 _ _ h hf)
theorem s_X7_isWord {l : Launch} {al : Nat → Nat} {dC : Nat → ClassId} {dI : Nat → Nat → Nat} {aC : Nat → ClassId} {aV : Nat → Nat} (hy : am_Hy l al) (N : Nat) : am_CS l al dC dI aC aV 46 (c_X7_isWord N) := by
  intro γ as h kk g hc0
  obtain ⟨z0, w0, e_0, hcz0⟩ := am_sa_some hc0
  obtain ⟨hz0, hc1⟩ := am_bif hcz0
  cases Nat.eq_of_beq_eq_true hz0
  obtain ⟨a1, w1, e_1, hc2⟩ := am_sa_some hc1
  obtain ⟨e_2, hc⟩ := am_st0_some hc2
  subst e_2
  subst e_1
  subst e_0
  obtain ⟨q, e1, e2⟩ := am_bi_some hc
  exact ⟨_, _, m_X7_isWord hy N a1 h _ e1, e2⟩

def f_X8_isFull (N : Nat) (a0 : Nat) (h : am_Hp) : Option (Int32 × am_Hp) :=
  bif am_isO a0 8 then bif am_isO a0 8 then (if (h a0 0) ≤ (h a0 4) then
    if (1 : Int32) &&& 1 = (1 : Int32) then some ((1 : Int32), h) else none
  else
    bif am_isO a0 8 then bif am_isO a0 8 then (am_G a0 1).bind (fun b1 => bif am_isI b1 || am_isA b1 || am_isF b1 then (if (h a0 4) < (Int32.ofNat (am_len b1)) then
      if (0 : Int32) &&& 1 = (0 : Int32) then some ((0 : Int32), h) else none
    else
      if (1 : Int32) &&& 1 = (1 : Int32) then some ((1 : Int32), h) else none) else none) else none else none) else none else none
def c_X8_isFull (N : Nat) : am_Cl := fun _ as h kk => am_sa as (fun a0 w0 => am_st0 w0 (am_bi (f_X8_isFull N a0 h) (fun v h => kk (am_oi v) h)))
def o_X8_isFull (N : Nat) : am_Orc := am_o0
set_option maxRecDepth 100000 in
theorem tok_X8_isFull : am_tok 52 tX8_isFull := by
  unfold am_tok
  decide +kernel
set_option maxHeartbeats 4000000 in
set_option maxRecDepth 100000 in
theorem m_X8_isFull {l : Launch} {al : Nat → Nat} {dC : Nat → ClassId} {dI : Nat → Nat → Nat} {aC : Nat → ClassId} {aV : Nat → Nat} (hy : am_Hy l al) (N : Nat) (a0 : Nat) (h : am_Hp) (r : (Int32 × am_Hp)) (hf : f_X8_isFull N a0 h = some r) : am_Met l al dC dI aC aV 52 [.ref a0] h (am_oi r.1) r.2 :=
  am_met (tab := tX8_isFull) (orc := o_X8_isFull N) (ret := am_ri) (g := r) (by decide) (by decide) hy.1 hy.2 tok_X8_isFull am_os0 am_ri_inv (Nat.le_of_ble_eq_true rfl) (fun At cl wk => by
    skip
    exact cl am_C0 am_c0 400 0 _ _ h hf)
theorem s_X8_isFull {l : Launch} {al : Nat → Nat} {dC : Nat → ClassId} {dI : Nat → Nat → Nat} {aC : Nat → ClassId} {aV : Nat → Nat} (hy : am_Hy l al) (N : Nat) : am_CS l al dC dI aC aV 52 (c_X8_isFull N) := by
  intro γ as h kk g hc0
  obtain ⟨a0, w0, e_0, hc1⟩ := am_sa_some hc0
  obtain ⟨e_1, hc⟩ := am_st0_some hc1
  subst e_1
  subst e_0
  obtain ⟨q, e1, e2⟩ := am_bi_some hc
  exact ⟨_, _, m_X8_isFull hy N a0 h _ e1, e2⟩

def f_X7_kindOf (N : Nat) (i0 : Int32) (h : am_Hp) : Option (Int32 × am_Hp) :=
  (if 0 ≤ i0 then
    (if i0 < (97 : Int32) then
      (if i0 < (48 : Int32) then
        (if i0 = (59 : Int32) then
          some ((3 : Int32), h)
        else
          some ((4 : Int32), h))
      else
        (if (57 : Int32) < i0 then
          (if i0 = (59 : Int32) then
            some ((3 : Int32), h)
          else
            some ((4 : Int32), h))
        else
          some ((2 : Int32), h)))
    else
      (if (122 : Int32) < i0 then
        (if i0 < (48 : Int32) then
          (if i0 = (59 : Int32) then
            some ((3 : Int32), h)
          else
            some ((4 : Int32), h))
        else
          (if (57 : Int32) < i0 then
            (if i0 = (59 : Int32) then
              some ((3 : Int32), h)
            else
              some ((4 : Int32), h))
          else
            some ((2 : Int32), h)))
      else
        some ((1 : Int32), h)))
  else
    some ((0 : Int32), h))
def c_X7_kindOf (N : Nat) : am_Cl := fun _ as h kk => am_s1 as (fun i0 w0 => am_st0 w0 (am_bi (f_X7_kindOf N i0 h) (fun v h => kk (am_oi v) h)))
def o_X7_kindOf (N : Nat) : am_Orc := am_o0
set_option maxRecDepth 100000 in
theorem tok_X7_kindOf : am_tok 49 tX7_kindOf := by
  unfold am_tok
  decide +kernel
set_option maxHeartbeats 4000000 in
set_option maxRecDepth 100000 in
theorem m_X7_kindOf {l : Launch} {al : Nat → Nat} {dC : Nat → ClassId} {dI : Nat → Nat → Nat} {aC : Nat → ClassId} {aV : Nat → Nat} (hy : am_Hy l al) (N : Nat) (i0 : Int32) (h : am_Hp) (r : (Int32 × am_Hp)) (hf : f_X7_kindOf N i0 h = some r) : am_Met l al dC dI aC aV 49 [.int i0] h (am_oi r.1) r.2 :=
  am_met (tab := tX7_kindOf) (orc := o_X7_kindOf N) (ret := am_ri) (g := r) (by decide) (by decide) hy.1 hy.2 tok_X7_kindOf am_os0 am_ri_inv (Nat.le_of_ble_eq_true rfl) (fun At cl wk => by
    skip
    exact cl am_C0 am_c0 400 0 _ _ h hf)
theorem s_X7_kindOf {l : Launch} {al : Nat → Nat} {dC : Nat → ClassId} {dI : Nat → Nat → Nat} {aC : Nat → ClassId} {aV : Nat → Nat} (hy : am_Hy l al) (N : Nat) : am_CS l al dC dI aC aV 49 (c_X7_kindOf N) := by
  intro γ as h kk g hc0
  obtain ⟨i0, w0, e_0, hc1⟩ := am_s1_some hc0
  obtain ⟨e_1, hc⟩ := am_st0_some hc1
  subst e_1
  subst e_0
  obtain ⟨q, e1, e2⟩ := am_bi_some hc
  exact ⟨_, _, m_X7_kindOf hy N i0 h _ e1, e2⟩
