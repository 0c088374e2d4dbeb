def f_X0_handOver (a0 : Nat) (h : am_Hp) : Option (Unit × am_Hp) :=
  bif am_isO a0 0 then bif am_isO a0 0 then (let h1 := am_pi h a0 1 (h a0 2)
  bif am_isO a0 0 then (let h2 := am_pi h1 a0 2 (-1 : Int32)
  some ((), h2)) else none) else none else none
def c_X0_handOver : am_Cl := fun _ as h kk => am_sa as (fun a0 w0 => am_st0 w0 (am_bi (f_X0_handOver a0 h) (fun v h => kk (am_ov v) h)))
def o_X0_handOver : am_Orc := am_o0
set_option maxRecDepth 100000 in
theorem tok_X0_handOver : am_tok 5 tX0_handOver := by
  unfold am_tok
  decide +kernel
set_option maxHeartbeats 4000000 in
set_option maxRecDepth 100000 in
theorem m_X0_handOver {l : Launch} {al : Nat → Nat} {dC : Nat → ClassId} {dI : Nat → Nat → Nat} {aC : Nat → ClassId} {aV : Nat → Nat} (hy : am_Hy l al) (a0 : Nat) (h : am_Hp) (r : (Unit × am_Hp)) (hf : f_X0_handOver a0 h = some r) : am_Met l al dC dI aC aV 5 [.ref a0] h (am_ov r.1) r.2 :=
  am_met (tab := tX0_handOver) (orc := o_X0_handOver) (ret := am_rv) (g := r) (by decide) (by decide) hy.1 hy.2 tok_X0_handOver am_os0 am_rv_inv (Nat.le_of_ble_eq_true rfl) (fun At cl wk => by
    skip
    exact cl am_C0 am_c0 400 0 _ _ h hf)
theorem s_X0_handOver {l : Launch} {al : Nat → Nat} {dC : Nat → ClassId} {dI : Nat → Nat → Nat} {aC : Nat → ClassId} {aV : Nat → Nat} (hy : am_Hy l al) : am_CS l al dC dI aC aV 5 c_X0_handOver := by
  intro γ as h kk g hc
  obtain ⟨a0, w0, rfl, hc⟩ := am_sa_some hc
  obtain ⟨rfl, hc⟩ := am_st0_some hc
  obtain ⟨q, e1, e2⟩ := am_bi_some hc
  exact ⟨_, _, m_X0_handOver hy a0 h _ e1, e2⟩

def f_X0_restart (a0 : Nat) (h : am_Hp) : Option (Unit × am_Hp) :=
  bif am_isO a0 0 then (let h1 := am_pi h a0 0 (0 : Int32)
  bif am_isO a0 0 then (let h2 := am_pi h1 a0 1 (-1 : Int32)
  bif am_isO a0 0 then (let h3 := am_pi h2 a0 2 (-1 : Int32)
  bif am_isO a0 0 then (let h4 := am_pi h3 a0 3 (0 : Int32)
  some ((), h4)) else none) else none) else none) else none
def c_X0_restart : am_Cl := fun _ as h kk => am_sa as (fun a0 w0 => am_st0 w0 (am_bi (f_X0_restart a0 h) (fun v h => kk (am_ov v) h)))
def o_X0_restart : am_Orc := am_o0
set_option maxRecDepth 100000 in
theorem tok_X0_restart : am_tok 6 tX0_restart := by
  unfold am_tok
  decide +kernel
set_option maxHeartbeats 4000000 in
set_option maxRecDepth 100000 in
theorem m_X0_restart {l : Launch} {al : Nat → Nat} {dC : Nat → ClassId} {dI : Nat → Nat → Nat} {aC : Nat → ClassId} {aV : Nat → Nat} (hy : am_Hy l al) (a0 : Nat) (h : am_Hp) (r : (Unit × am_Hp)) (hf : f_X0_restart a0 h = some r) : am_Met l al dC dI aC aV 6 [.ref a0] h (am_ov r.1) r.2 :=
  am_met (tab := tX0_restart) (orc := o_X0_restart) (ret := am_rv) (g := r) (by decide) (by decide) hy.1 hy.2 tok_X0_restart am_os0 am_rv_inv (Nat.le_of_ble_eq_true rfl) (fun At cl wk => by
    skip
    exact cl am_C0 am_c0 400 0 _ _ h hf)
theorem s_X0_restart {l : Launch} {al : Nat → Nat} {dC : Nat → ClassId} {dI : Nat → Nat → Nat} {aC : Nat → ClassId} {aV : Nat → Nat} (hy : am_Hy l al) : am_CS l al dC dI aC aV 6 c_X0_restart := by
  intro γ as h kk g hc
  obtain ⟨a0, w0, rfl, hc⟩ := am_sa_some hc
  obtain ⟨rfl, hc⟩ := am_st0_some hc
  obtain ⟨q, e1, e2⟩ := am_bi_some hc
  exact ⟨_, _, m_X0_restart hy a0 h _ e1, e2⟩

def f_X0_copyFrom (a0 : Nat) (a1 : Nat) (h : am_Hp) : Option (Unit × am_Hp) :=
  bif am_isO a1 0 then bif am_isO a0 0 then (let h1 := am_pi h a0 0 (h a1 0)
  bif am_isO a1 0 then bif am_isO a0 0 then (let h2 := am_pi h1 a0 1 (h1 a1 1)
  bif am_isO a1 0 then bif am_isO a0 0 then (let h3 := am_pi h2 a0 2 (h2 a1 2)
  bif am_isO a1 0 then bif am_isO a0 0 then (let h4 := am_pi h3 a0 3 (h3 a1 3)
  some ((), h4)) else none else none) else none else none) else none else none) else none else none
def c_X0_copyFrom : am_Cl := fun _ as h kk => am_sa as (fun a0 w0 => am_sa w0 (fun a1 w1 => am_st0 w1 (am_bi (f_X0_copyFrom a0 a1 h) (fun v h => kk (am_ov v) h))))
def o_X0_copyFrom : am_Orc := am_o0
set_option maxRecDepth 100000 in
theorem tok_X0_copyFrom : am_tok 7 tX0_copyFrom := by
  unfold am_tok
  decide +kernel
set_option maxHeartbeats 4000000 in
set_option maxRecDepth 100000 in
theorem m_X0_copyFrom {l : Launch} {al : Nat → Nat} {dC : Nat → ClassId} {dI : Nat → Nat → Nat} {aC : Nat → ClassId} {aV : Nat → Nat} (hy : am_Hy l al) (a0 : Nat) (a1 : Nat) (h : am_Hp) (r : (Unit × am_Hp)) (hf : f_X0_copyFrom a0 a1 h = some r) : am_Met l al dC dI aC aV 7 [.ref a0, .ref a1] h (am_ov r.1) r.2 :=
  am_met (tab := tX0_copyFrom) (orc := o_X0_copyFrom) (ret := am_rv) (g := r) (by decide) (by decide) hy.1 hy.2 tok_X0_copyFrom am_os0 am_rv_inv (Nat.le_of_ble_eq_true rfl) (fun At cl wk => by
    skip
    exact cl am_C0 am_c0 400 0 _ _ h hf)
theorem s_X0_copyFrom {l : Launch} {al : Nat → Nat} {dC : Nat → ClassId} {dI : Nat → Nat → Nat} {aC : Nat → ClassId} {aV : Nat → Nat} (hy : am_Hy l al) : am_CS l al dC dI aC aV 7 c_X0_copyFrom := by
  intro γ as h kk g hc
  obtain ⟨a0, w0, rfl, hc⟩ := am_sa_some hc
  obtain ⟨a1, w1, rfl, hc⟩ := am_sa_some hc
  obtain ⟨rfl, hc⟩ := am_st0_some hc
  obtain ⟨q, e1, e2⟩ := am_bi_some hc
  exact ⟨_, _, m_X0_copyFrom hy a0 a1 h _ e1, e2⟩

def l_X1_restart_18 : Nat → Int32 → am_Hp → Option (Unit × am_Hp)
  | 0, _, _ => none
  | n + 1, i1, h =>
    (if (2 : Int32) ≤ i1 then
      some ((), h)
    else
      bif am_in i1 2 then bif am_in i1 2 then (let h1 := am_pi h 12 i1.toNatClampNeg (am_sx 205 i1.toNatClampNeg)
      bif am_in i1 2 then (let h2 := am_pi h1 13 i1.toNatClampNeg ((0 : Int32) &&& 1)
      l_X1_restart_18 n (i1 + (1 : Int32)) h2) else none) else none else none)
def f_X1_restart  (h : am_Hp) : Option (Unit × am_Hp) :=
  let h1 := am_pi h 4 4 (0 : Int32)
  let h2 := am_pi h1 8 4 (0 : Int32)
  l_X1_restart_18 am_fu (0 : Int32) h2
def c_X1_restart : am_Cl := fun _ as h kk => am_sa as (fun z w0 => bif Nat.beq z 3 then am_st0 w0 (am_bi (f_X1_restart  h) (fun v h => kk (am_ov v) h)) else none)
def o_X1_restart : am_Orc := am_o0
set_option maxRecDepth 100000 in
theorem tok_X1_restart : am_tok 9 tX1_restart := by
  unfold am_tok
  decide +kernel
set_option maxHeartbeats 4000000 in
set_option maxRecDepth 100000 in
theorem m_X1_restart {l : Launch} {al : Nat → Nat} {dC : Nat → ClassId} {dI : Nat → Nat → Nat} {aC : Nat → ClassId} {aV : Nat → Nat} (hy : am_Hy l al)  (h : am_Hp) (r : (Unit × am_Hp)) (hf : f_X1_restart  h = some r) : am_Met l al dC dI aC aV 9 [.ref 3] h (am_ov r.1) r.2 :=
  am_met (tab := tX1_restart) (orc := o_X1_restart) (ret := am_rv) (g := r) (by decide) (by decide) hy.1 hy.2 tok_X1_restart am_os0 am_rv_inv (Nat.le_of_ble_eq_true rfl) (fun At cl wk => by
    have A18 : ∀ n : Nat, ∀ i1 : Int32, ∀ h, l_X1_restart_18 n i1 h = some r → At 18 [(0, .ref 3), (1, .int i1)] [] h := by
      intro n
      induction n with
      | zero => intro i1 h hr; cases hr
      | succ n ih =>
        intro i1 h hr
        exact cl (am_C1 18 (fun ρ st h => am_lda ρ 0 (fun z => bif Nat.beq z 3 then am_ldi ρ 1 (fun i1 => am_st0 st (l_X1_restart_18 n i1 h)) else none)) am_C0) (am_c1 (fun ρ st h hc => by
        obtain ⟨z, m_a0, hc⟩ := am_lda_some hc
        obtain ⟨hz, hc⟩ := am_bif hc
        cases Nat.eq_of_beq_eq_true hz
        obtain ⟨i1, m_i1, hc⟩ := am_ldi_some hc
        obtain ⟨rfl, hc⟩ := am_st0_some hc
        exact wk 18 ρ [(0, .ref 3), (1, .int i1)] _ h (am_m1 m_a0 (am_m1 m_i1 am_m0)) (ih i1 h hc)) am_c0) 400 18 _ _ h hr
    exact cl (am_C1 18 (fun ρ st h => am_lda ρ 0 (fun z => bif Nat.beq z 3 then am_ldi ρ 1 (fun i1 => am_st0 st (l_X1_restart_18 am_fu i1 h)) else none)) am_C0) (am_c1 (fun ρ st h hc => by
        obtain ⟨z, m_a0, hc⟩ := am_lda_some hc
        obtain ⟨hz, hc⟩ := am_bif hc
        cases Nat.eq_of_beq_eq_true hz
        obtain ⟨i1, m_i1, hc⟩ := am_ldi_some hc
        obtain ⟨rfl, hc⟩ := am_st0_some hc
        exact wk 18 ρ [(0, .ref 3), (1, .int i1)] _ h (am_m1 m_a0 (am_m1 m_i1 am_m0)) (A18 am_fu i1 h hc)) am_c0) 400 0 _ _ h hf)
theorem s_X1_restart {l : Launch} {al : Nat → Nat} {dC : Nat → ClassId} {dI : Nat → Nat → Nat} {aC : Nat → ClassId} {aV : Nat → Nat} (hy : am_Hy l al) : am_CS l al dC dI aC aV 9 c_X1_restart := by
  intro γ as h kk g hc
  obtain ⟨z, w0, rfl, hc⟩ := am_sa_some hc
  obtain ⟨hz, hc⟩ := am_bif hc
  cases Nat.eq_of_beq_eq_true hz
  obtain ⟨rfl, hc⟩ := am_st0_some hc
  obtain ⟨q, e1, e2⟩ := am_bi_some hc
  exact ⟨_, _, m_X1_restart hy  h _ e1, e2⟩

def f_X7_tokenLength  (h : am_Hp) : Option (Int32 × am_Hp) :=
  some ((h 1 5) - (h 1 4), h)
def c_X7_tokenLength : am_Cl := fun _ as h kk => am_sa as (fun z w0 => bif Nat.beq z 1 then am_st0 w0 (am_bi (f_X7_tokenLength  h) (fun v h => kk (am_oi v) h)) else none)
def o_X7_tokenLength : am_Orc := am_o0
set_option maxRecDepth 100000 in
theorem tok_X7_tokenLength : am_tok 49 tX7_tokenLength := by
  unfold am_tok
  decide +kernel
set_option maxHeartbeats 4000000 in
set_option maxRecDepth 100000 in
theorem m_X7_tokenLength {l : Launch} {al : Nat → Nat} {dC : Nat → ClassId} {dI : Nat → Nat → Nat} {aC : Nat → ClassId} {aV : Nat → Nat} (hy : am_Hy l al)  (h : am_Hp) (r : (Int32 × am_Hp)) (hf : f_X7_tokenLength  h = some r) : am_Met l al dC dI aC aV 49 [.ref 1] h (am_oi r.1) r.2 :=
  am_met (tab := tX7_tokenLength) (orc := o_X7_tokenLength) (ret := am_ri) (g := r) (by decide) (by decide) hy.1 hy.2 tok_X7_tokenLength am_os0 am_ri_inv (Nat.le_of_ble_eq_true rfl) (fun At cl wk => by
    skip
    exact cl am_C0 am_c0 400 0 _ _ h hf)
theorem s_X7_tokenLength {l : Launch} {al : Nat → Nat} {dC : Nat → ClassId} {dI : Nat → Nat → Nat} {aC : Nat → ClassId} {aV : Nat → Nat} (hy : am_Hy l al) : am_CS l al dC dI aC aV 49 c_X7_tokenLength := by
  intro γ as h kk g hc
  obtain ⟨z, w0, rfl, hc⟩ := am_sa_some hc
  obtain ⟨hz, hc⟩ := am_bif hc
  cases Nat.eq_of_beq_eq_true hz
  obtain ⟨rfl, hc⟩ := am_st0_some hc
  obtain ⟨q, e1, e2⟩ := am_bi_some hc
  exact ⟨_, _, m_X7_tokenLength hy  h _ e1, e2⟩

def f_X7_byteAt (i1 : Int32) (h : am_Hp) : Option (Int32 × am_Hp) :=
  (if i1 < 0 then
    some ((-1 : Int32), h)
  else
    (if (h 1 2) ≤ i1 then
      some ((-1 : Int32), h)
    else
      (if i1 < (Int32.ofNat 600) then
        bif am_in i1 600 then some (h 2 i1.toNatClampNeg, h) else none
      else
        some ((-1 : Int32), h))))
def c_X7_byteAt : am_Cl := fun _ as h kk => am_sa as (fun z w0 => bif Nat.beq z 1 then am_s1 w0 (fun i1 w1 => am_st0 w1 (am_bi (f_X7_byteAt i1 h) (fun v h => kk (am_oi v) h))) else none)
def o_X7_byteAt : am_Orc := am_o0
set_option maxRecDepth 100000 in
theorem tok_X7_byteAt : am_tok 54 tX7_byteAt := by
  unfold am_tok
  decide +kernel
set_option maxHeartbeats 4000000 in
set_option maxRecDepth 100000 in
theorem m_X7_byteAt {l : Launch} {al : Nat → Nat} {dC : Nat → ClassId} {dI : Nat → Nat → Nat} {aC : Nat → ClassId} {aV : Nat → Nat} (hy : am_Hy l al) (i1 : Int32) (h : am_Hp) (r : (Int32 × am_Hp)) (hf : f_X7_byteAt i1 h = some r) : am_Met l al dC dI aC aV 54 [.ref 1, .int i1] h (am_oi r.1) r.2 :=
  am_met (tab := tX7_byteAt) (orc := o_X7_byteAt) (ret := am_ri) (g := r) (by decide) (by decide) hy.1 hy.2 tok_X7_byteAt am_os0 am_ri_inv (Nat.le_of_ble_eq_true rfl) (fun At cl wk => by
    skip
    exact cl am_C0 am_c0 400 0 _ _ h hf)
theorem s_X7_byteAt {l : Launch} {al : Nat → Nat} {dC : Nat → ClassId} {dI : Nat → Nat → Nat} {aC : Nat → ClassId} {aV : Nat → Nat} (hy : am_Hy l al) : am_CS l al dC dI aC aV 54 c_X7_byteAt := by
  intro γ as h kk g hc
  obtain ⟨z, w0, rfl, hc⟩ := am_sa_some hc
  obtain ⟨hz, hc⟩ := am_bif hc
  cases Nat.eq_of_beq_eq_true hz
  obtain ⟨i1, w1, rfl, hc⟩ := am_s1_some hc
  obtain ⟨rfl, hc⟩ := am_st0_some hc
  obtain ⟨q, e1, e2⟩ := am_bi_some hc
  exact ⟨_, _, m_X7_byteAt hy i1 h _ e1, e2⟩

def l_X7_isWord_23 : Nat → Nat → Int32 → am_Hp → Option (Int32 × am_Hp)
  | 0, _, _, _ => none
  | n + 1, a1, i2, h =>
    bif Nat.beq (am_kd a1).1 6 then am_bi (f_SLEN a1 h) (fun x2 h1 =>
    (if x2 ≤ i2 then
      if (1 : Int32) &&& 1 = (1 : Int32) then some ((1 : Int32), h1) else none
    else
      am_bi (f_X7_byteAt ((h1 1 4) + i2) h1) (fun x4 h3 =>
      bif Nat.beq (am_kd a1).1 6 then am_bi (f_SCHR a1 i2 h3) (fun x6 h5 =>
      (if x4 = x6 then
        l_X7_isWord_23 n a1 (i2 + (1 : Int32)) h5
      else
        if (0 : Int32) &&& 1 = (0 : Int32) then some ((0 : Int32), h5) else none)) else none))) else none
def f_X7_isWord (a1 : Nat) (h : am_Hp) : Option (Int32 × am_Hp) :=
  (if (h 1 3) = (1 : Int32) then
    am_bi (f_X7_tokenLength h) (fun x2 h1 =>
    bif Nat.beq (am_kd a1).1 6 then am_bi (f_SLEN a1 h1) (fun x4 h3 =>
    (if x2 = x4 then
      l_X7_isWord_23 am_fu a1 (0 : Int32) h3
    else
      if (0 : Int32) &&& 1 = (0 : Int32) then some ((0 : Int32), h3) else none)) else none)
  else
    if (0 : Int32) &&& 1 = (0 : Int32) then some ((0 : Int32), h) else none)
def c_X7_isWord : am_Cl := fun _ as h kk => am_sa as (fun z w0 => bif Nat.beq z 1 then am_sa w0 (fun a1 w1 => am_st0 w1 (am_bi (f_X7_isWord a1 h) (fun v h => kk (am_oi v) h))) else none)
def o_X7_isWord : am_Orc := (am_oc 49 c_X7_tokenLength (am_oc 3 c_SLEN (am_oc 54 c_X7_byteAt (am_oc 4 c_SCHR am_o0))))
set_option maxRecDepth 100000 in
theorem tok_X7_isWord : am_tok 50 tX7_isWord := by
  unfold am_tok
  decide +kernel
set_option maxHeartbeats 4000000 in
set_option maxRecDepth 100000 in
theorem m_X7_isWord {l : Launch} {al : Nat → Nat} {dC : Nat → ClassId} {dI : Nat → Nat → Nat} {aC : Nat → ClassId} {aV : Nat → Nat} (hy : am_Hy l al) (a1 : Nat) (h : am_Hp) (r : (Int32 × am_Hp)) (hf : f_X7_isWord a1 h = some r) : am_Met l al dC dI aC aV 50 [.ref 1, .ref a1] h (am_oi r.1) r.2 :=
  am_met (tab := tX7_isWord) (orc := o_X7_isWord) (ret := am_ri) (g := r) (by decide) (by decide) hy.1 hy.2 tok_X7_isWord (am_os1 (s_X7_tokenLength hy) (am_os1 (s_SLEN hy) (am_os1 (s_X7_byteAt hy) (am_os1 (s_SCHR hy) am_os0)))) am_ri_inv (Nat.le_of_ble_eq_true rfl) (fun At cl wk => by
    have A23 : ∀ n : Nat, ∀ a1 : Nat, ∀ i2 : Int32, ∀ h, l_X7_isWord_23 n a1 i2 h = some r → At 23 [(0, .ref 1), (1, .ref a1), (2, .int i2)] [] h := by
      intro n
      induction n with
      | zero => intro a1 i2 h hr; cases hr
      | succ n ih =>
        intro a1 i2 h hr
        exact cl (am_C1 23 (fun ρ st h => am_lda ρ 0 (fun z => bif Nat.beq z 1 then am_lda ρ 1 (fun a1 => am_ldi ρ 2 (fun i2 => am_st0 st (l_X7_isWord_23 n a1 i2 h))) else none)) am_C0) (am_c1 (fun ρ st h hc => by
        obtain ⟨z, m_a0, hc⟩ := am_lda_some hc
        obtain ⟨hz, hc⟩ := am_bif hc
        cases Nat.eq_of_beq_eq_true hz
        obtain ⟨a1, m_a1, hc⟩ := am_lda_some hc
        obtain ⟨i2, m_i2, hc⟩ := am_ldi_some hc
        obtain ⟨rfl, hc⟩ := am_st0_some hc
        exact wk 23 ρ [(0, .ref 1), (1, .ref a1), (2, .int i2)] _ h (am_m1 m_a0 (am_m1 m_a1 (am_m1 m_i2 am_m0))) (ih a1 i2 h hc)) am_c0) 400 23 _ _ h hr
    exact cl (am_C1 23 (fun ρ st h => am_lda ρ 0 (fun z => bif Nat.beq z 1 then am_lda ρ 1 (fun a1 => am_ldi ρ 2 (fun i2 => am_st0 st (l_X7_isWord_23 am_fu a1 i2 h))) else none)) am_C0) (am_c1 (fun ρ st h hc => by
        obtain ⟨z, m_a0, hc⟩ := am_lda_some hc
        obtain ⟨hz, hc⟩ := am_bif hc
        cases Nat.eq_of_beq_eq_true hz
        obtain ⟨a1, m_a1, hc⟩ := am_lda_some hc
        obtain ⟨i2, m_i2, hc⟩ := am_ldi_some hc
        obtain ⟨rfl, hc⟩ := am_st0_some hc
        exact wk 23 ρ [(0, .ref 1), (1, .ref a1), (2, .int i2)] _ h (am_m1 m_a0 (am_m1 m_a1 (am_m1 m_i2 am_m0))) (A23 am_fu a1 i2 h hc)) am_c0) 400 0 _ _ h hf)
theorem s_X7_isWord {l : Launch} {al : Nat → Nat} {dC : Nat → ClassId} {dI : Nat → Nat → Nat} {aC : Nat → ClassId} {aV : Nat → Nat} (hy : am_Hy l al) : am_CS l al dC dI aC aV 50 c_X7_isWord := by
  intro γ as h kk g hc
  obtain ⟨z, w0, rfl, hc⟩ := am_sa_some hc
  obtain ⟨hz, hc⟩ := am_bif hc
  cases Nat.eq_of_beq_eq_true hz
  obtain ⟨a1, w1, rfl, hc⟩ := am_sa_some hc
  obtain ⟨rfl, hc⟩ := am_st0_some hc
  obtain ⟨q, e1, e2⟩ := am_bi_some hc
  exact ⟨_, _, m_X7_isWord hy a1 h _ e1, e2⟩

def f_X8_isFull (a0 : Nat) (h : am_Hp) : Option (Int32 × am_Hp) :=
  bif am_isO a0 8 then bif am_isO a0 8 then (if (h a0 0) ≤ (h a0 4) then
    if (1 : Int32) &&& 1 = (1 : Int32) then some ((1 : Int32), h) else none
  else
    bif am_isO a0 8 then bif am_isO a0 8 then (am_G a0 1).bind (fun b1 => bif am_isI b1 || am_isA b1 || am_isF b1 then (if (h a0 4) < (Int32.ofNat (am_len b1)) then
      if (0 : Int32) &&& 1 = (0 : Int32) then some ((0 : Int32), h) else none
    else
      if (1 : Int32) &&& 1 = (1 : Int32) then some ((1 : Int32), h) else none) else none) else none else none) else none else none
def c_X8_isFull : am_Cl := fun _ as h kk => am_sa as (fun a0 w0 => am_st0 w0 (am_bi (f_X8_isFull a0 h) (fun v h => kk (am_oi v) h)))
def o_X8_isFull : am_Orc := am_o0
set_option maxRecDepth 100000 in
theorem tok_X8_isFull : am_tok 56 tX8_isFull := by
  unfold am_tok
  decide +kernel
set_option maxHeartbeats 4000000 in
set_option maxRecDepth 100000 in
theorem m_X8_isFull {l : Launch} {al : Nat → Nat} {dC : Nat → ClassId} {dI : Nat → Nat → Nat} {aC : Nat → ClassId} {aV : Nat → Nat} (hy : am_Hy l al) (a0 : Nat) (h : am_Hp) (r : (Int32 × am_Hp)) (hf : f_X8_isFull a0 h = some r) : am_Met l al dC dI aC aV 56 [.ref a0] h (am_oi r.1) r.2 :=
  am_met (tab := tX8_isFull) (orc := o_X8_isFull) (ret := am_ri) (g := r) (by decide) (by decide) hy.1 hy.2 tok_X8_isFull am_os0 am_ri_inv (Nat.le_of_ble_eq_true rfl) (fun At cl wk => by
    skip
    exact cl am_C0 am_c0 400 0 _ _ h hf)
theorem s_X8_isFull {l : Launch} {al : Nat → Nat} {dC : Nat → ClassId} {dI : Nat → Nat → Nat} {aC : Nat → ClassId} {aV : Nat → Nat} (hy : am_Hy l al) : am_CS l al dC dI aC aV 56 c_X8_isFull := by
  intro γ as h kk g hc
  obtain ⟨a0, w0, rfl, hc⟩ := am_sa_some hc
  obtain ⟨rfl, hc⟩ := am_st0_some hc
  obtain ⟨q, e1, e2⟩ := am_bi_some hc
  exact ⟨_, _, m_X8_isFull hy a0 h _ e1, e2⟩

def f_X7_kindOf (i0 : Int32) (h : am_Hp) : Option (Int32 × am_Hp) :=
  (if 0 ≤ i0 then
    (if i0 < (97 : Int32) then
      (if i0 < (48 : Int32) then
        (if i0 = (59 : Int32) then
          some ((3 : Int32), h)
        else
          some ((4 : Int32), h))
      else
        (if (57 : Int32) < i0 then
          (if i0 = (59 : Int32) then
            some ((3 : Int32), h)
          else
            some ((4 : Int32), h))
        else
          some ((2 : Int32), h)))
    else
      (if (122 : Int32) < i0 then
        (if i0 < (48 : Int32) then
          (if i0 = (59 : Int32) then
            some ((3 : Int32), h)
          else
            some ((4 : Int32), h))
        else
          (if (57 : Int32) < i0 then
            (if i0 = (59 : Int32) then
              some ((3 : Int32), h)
            else
              some ((4 : Int32), h))
          else
            some ((2 : Int32), h)))
      else
        some ((1 : Int32), h)))
  else
    some ((0 : Int32), h))
def c_X7_kindOf : am_Cl := fun _ as h kk => am_s1 as (fun i0 w0 => am_st0 w0 (am_bi (f_X7_kindOf i0 h) (fun v h => kk (am_oi v) h)))
def o_X7_kindOf : am_Orc := am_o0
set_option maxRecDepth 100000 in
theorem tok_X7_kindOf : am_tok 53 tX7_kindOf := by
  unfold am_tok
  decide +kernel
set_option maxHeartbeats 4000000 in
set_option maxRecDepth 100000 in
theorem m_X7_kindOf {l : Launch} {al : Nat → Nat} {dC : Nat → ClassId} {dI : Nat → Nat → Nat} {aC : Nat → ClassId} {aV : Nat → Nat} (hy : am_Hy l al) (i0 : Int32) (h : am_Hp) (r : (Int32 × am_Hp)) (hf : f_X7_kindOf i0 h = some r) : am_Met l al dC dI aC aV 53 [.int i0] h (am_oi r.1) r.2 :=
  am_met (tab := tX7_kindOf) (orc := o_X7_kindOf) (ret := am_ri) (g := r) (by decide) (by decide) hy.1 hy.2 tok_X7_kindOf am_os0 am_ri_inv (Nat.le_of_ble_eq_true rfl) (fun At cl wk => by
    skip
    exact cl am_C0 am_c0 400 0 _ _ h hf)
theorem s_X7_kindOf {l : Launch} {al : Nat → Nat} {dC : Nat → ClassId} {dI : Nat → Nat → Nat} {aC : Nat → ClassId} {aV : Nat → Nat} (hy : am_Hy l al) : am_CS l al dC dI aC aV 53 c_X7_kindOf := by
  intro γ as h kk g hc
  obtain ⟨i0, w0, rfl, hc⟩ := am_s1_some hc
  obtain ⟨rfl, hc⟩ := am_st0_some hc
  obtain ⟨q, e1, e2⟩ := am_bi_some hc
  exact ⟨_, _, m_X7_kindOf hy i0 h _ e1, e2⟩

def l_X7_advance_97 : Nat → am_Hp → Option (Unit × am_Hp)
  | 0, _ => none
  | n + 1, h =>
    (if (h 1 2) ≤ (h 1 5) then
      some ((), h)
    else
      am_bi (f_X7_byteAt (h 1 5) h) (fun x2 h1 =>
      am_bi (f_X7_kindOf x2 h1) (fun x4 h3 =>
      (if x4 = (h3 1 3) then
        let h5 := am_pi h3 1 5 ((h3 1 5) + (1 : Int32))
        l_X7_advance_97 n h5
      else
        some ((), h3)))))
def l_X7_advance_8 : Nat → am_Hp → Option (Unit × am_Hp)
  | 0, _ => none
  | n + 1, h =>
    (if (h 1 2) ≤ (h 1 4) then
      am_bi (f_X7_byteAt (h 1 4) h) (fun x2 h1 =>
      am_bi (f_X7_kindOf x2 h1) (fun x4 h3 =>
      let h5 := am_pi h3 1 3 x4
      let h6 := am_pi h5 1 5 (h5 1 4)
      (if (h6 1 3) = (1 : Int32) then
        l_X7_advance_97 am_fu h6
      else
        (if (h6 1 3) = (2 : Int32) then
          l_X7_advance_97 am_fu h6
        else
          (if (h6 1 3) = 0 then
            some ((), h6)
          else
            let h7 := am_pi h6 1 5 ((h6 1 5) + (1 : Int32))
            some ((), h7))))))
    else
      am_bi (f_X7_byteAt (h 1 4) h) (fun x9 h8 =>
      (if x9 = (32 : Int32) then
        let h10 := am_pi h8 1 4 ((h8 1 4) + (1 : Int32))
        l_X7_advance_8 n h10
      else
        am_bi (f_X7_byteAt (h8 1 4) h8) (fun x12 h11 =>
        (if x12 = (10 : Int32) then
          let h20 := am_pi h11 1 4 ((h11 1 4) + (1 : Int32))
          l_X7_advance_8 n h20
        else
          am_bi (f_X7_byteAt (h11 1 4) h11) (fun x14 h13 =>
          am_bi (f_X7_kindOf x14 h13) (fun x16 h15 =>
          let h17 := am_pi h15 1 3 x16
          let h18 := am_pi h17 1 5 (h17 1 4)
          (if (h18 1 3) = (1 : Int32) then
            l_X7_advance_97 am_fu h18
          else
            (if (h18 1 3) = (2 : Int32) then
              l_X7_advance_97 am_fu h18
            else
              (if (h18 1 3) = 0 then
                some ((), h18)
              else
                let h19 := am_pi h18 1 5 ((h18 1 5) + (1 : Int32))
                some ((), h19)))))))))))
def f_X7_advance  (h : am_Hp) : Option (Unit × am_Hp) :=
  let h1 := am_pi h 1 4 (h 1 5)
  l_X7_advance_8 am_fu h1
def c_X7_advance : am_Cl := fun _ as h kk => am_sa as (fun z w0 => bif Nat.beq z 1 then am_st0 w0 (am_bi (f_X7_advance  h) (fun v h => kk (am_ov v) h)) else none)
def o_X7_advance : am_Orc := (am_oc 54 c_X7_byteAt (am_oc 53 c_X7_kindOf am_o0))
set_option maxRecDepth 100000 in
theorem tok_X7_advance : am_tok 48 tX7_advance := by
  unfold am_tok
  decide +kernel
set_option maxHeartbeats 4000000 in
set_option maxRecDepth 100000 in
theorem m_X7_advance {l : Launch} {al : Nat → Nat} {dC : Nat → ClassId} {dI : Nat → Nat → Nat} {aC : Nat → ClassId} {aV : Nat → Nat} (hy : am_Hy l al)  (h : am_Hp) (r : (Unit × am_Hp)) (hf : f_X7_advance  h = some r) : am_Met l al dC dI aC aV 48 [.ref 1] h (am_ov r.1) r.2 :=
  am_met (tab := tX7_advance) (orc := o_X7_advance) (ret := am_rv) (g := r) (by decide) (by decide) hy.1 hy.2 tok_X7_advance (am_os1 (s_X7_byteAt hy) (am_os1 (s_X7_kindOf hy) am_os0)) am_rv_inv (Nat.le_of_ble_eq_true rfl) (fun At cl wk => by
    have A97 : ∀ n : Nat, ∀ h, l_X7_advance_97 n h = some r → At 97 [(0, .ref 1)] [] h := by
      intro n
      induction n with
      | zero => intro h hr; cases hr
      | succ n ih =>
        intro h hr
        exact cl (am_C1 97 (fun ρ st h => am_lda ρ 0 (fun z => bif Nat.beq z 1 then am_st0 st (l_X7_advance_97 n h) else none)) am_C0) (am_c1 (fun ρ st h hc => by
        obtain ⟨z, m_a0, hc⟩ := am_lda_some hc
        obtain ⟨hz, hc⟩ := am_bif hc
        cases Nat.eq_of_beq_eq_true hz
        obtain ⟨rfl, hc⟩ := am_st0_some hc
        exact wk 97 ρ [(0, .ref 1)] _ h (am_m1 m_a0 am_m0) (ih h hc)) am_c0) 400 97 _ _ h hr
    have A8 : ∀ n : Nat, ∀ h, l_X7_advance_8 n h = some r → At 8 [(0, .ref 1)] [] h := by
      intro n
      induction n with
      | zero => intro h hr; cases hr
      | succ n ih =>
        intro h hr
        exact cl (am_C1 8 (fun ρ st h => am_lda ρ 0 (fun z => bif Nat.beq z 1 then am_st0 st (l_X7_advance_8 n h) else none)) (am_C1 97 (fun ρ st h => am_lda ρ 0 (fun z => bif Nat.beq z 1 then am_st0 st (l_X7_advance_97 am_fu h) else none)) am_C0)) (am_c1 (fun ρ st h hc => by
        obtain ⟨z, m_a0, hc⟩ := am_lda_some hc
        obtain ⟨hz, hc⟩ := am_bif hc
        cases Nat.eq_of_beq_eq_true hz
        obtain ⟨rfl, hc⟩ := am_st0_some hc
        exact wk 8 ρ [(0, .ref 1)] _ h (am_m1 m_a0 am_m0) (ih h hc)) (am_c1 (fun ρ st h hc => by
        obtain ⟨z, m_a0, hc⟩ := am_lda_some hc
        obtain ⟨hz, hc⟩ := am_bif hc
        cases Nat.eq_of_beq_eq_true hz
        obtain ⟨rfl, hc⟩ := am_st0_some hc
        exact wk 97 ρ [(0, .ref 1)] _ h (am_m1 m_a0 am_m0) (A97 am_fu h hc)) am_c0)) 400 8 _ _ h hr
    exact cl (am_C1 8 (fun ρ st h => am_lda ρ 0 (fun z => bif Nat.beq z 1 then am_st0 st (l_X7_advance_8 am_fu h) else none)) am_C0) (am_c1 (fun ρ st h hc => by
        obtain ⟨z, m_a0, hc⟩ := am_lda_some hc
        obtain ⟨hz, hc⟩ := am_bif hc
        cases Nat.eq_of_beq_eq_true hz
        obtain ⟨rfl, hc⟩ := am_st0_some hc
        exact wk 8 ρ [(0, .ref 1)] _ h (am_m1 m_a0 am_m0) (A8 am_fu h hc)) am_c0) 400 0 _ _ h hf)
theorem s_X7_advance {l : Launch} {al : Nat → Nat} {dC : Nat → ClassId} {dI : Nat → Nat → Nat} {aC : Nat → ClassId} {aV : Nat → Nat} (hy : am_Hy l al) : am_CS l al dC dI aC aV 48 c_X7_advance := by
  intro γ as h kk g hc
  obtain ⟨z, w0, rfl, hc⟩ := am_sa_some hc
  obtain ⟨hz, hc⟩ := am_bif hc
  cases Nat.eq_of_beq_eq_true hz
  obtain ⟨rfl, hc⟩ := am_st0_some hc
  obtain ⟨q, e1, e2⟩ := am_bi_some hc
  exact ⟨_, _, m_X7_advance hy  h _ e1, e2⟩

def l_X7_letters_4 : Nat → Int32 → Int32 → am_Hp → Option (Int32 × am_Hp)
  | 0, _, _, _ => none
  | n + 1, i1, i2, h =>
    (if (6 : Int32) ≤ i2 then
      some (i1, h)
    else
      (if (h 1 5) ≤ ((h 1 4) + i2) then
        l_X7_letters_4 n (i1 <<< ((5 : Int32) &&& 31)) (i2 + (1 : Int32)) h
      else
        am_bi (f_X7_byteAt ((h 1 4) + i2) h) (fun x2 h1 =>
        l_X7_letters_4 n ((i1 <<< ((5 : Int32) &&& 31)) ||| ((x2 - (97 : Int32)) + (1 : Int32))) (i2 + (1 : Int32)) h1)))
def f_X7_letters  (h : am_Hp) : Option (Int32 × am_Hp) :=
  l_X7_letters_4 am_fu (0 : Int32) (0 : Int32) h
def c_X7_letters : am_Cl := fun _ as h kk => am_sa as (fun z w0 => bif Nat.beq z 1 then am_st0 w0 (am_bi (f_X7_letters  h) (fun v h => kk (am_oi v) h)) else none)
def o_X7_letters : am_Orc := (am_oc 54 c_X7_byteAt am_o0)
set_option maxRecDepth 100000 in
theorem tok_X7_letters : am_tok 51 tX7_letters := by
  unfold am_tok
  decide +kernel
set_option maxHeartbeats 4000000 in
set_option maxRecDepth 100000 in
theorem m_X7_letters {l : Launch} {al : Nat → Nat} {dC : Nat → ClassId} {dI : Nat → Nat → Nat} {aC : Nat → ClassId} {aV : Nat → Nat} (hy : am_Hy l al)  (h : am_Hp) (r : (Int32 × am_Hp)) (hf : f_X7_letters  h = some r) : am_Met l al dC dI aC aV 51 [.ref 1] h (am_oi r.1) r.2 :=
  am_met (tab := tX7_letters) (orc := o_X7_letters) (ret := am_ri) (g := r) (by decide) (by decide) hy.1 hy.2 tok_X7_letters (am_os1 (s_X7_byteAt hy) am_os0) am_ri_inv (Nat.le_of_ble_eq_true rfl) (fun At cl wk => by
    have A4 : ∀ n : Nat, ∀ i1 : Int32, ∀ i2 : Int32, ∀ h, l_X7_letters_4 n i1 i2 h = some r → At 4 [(0, .ref 1), (1, .int i1), (2, .int i2)] [] h := by
      intro n
      induction n with
      | zero => intro i1 i2 h hr; cases hr
      | succ n ih =>
        intro i1 i2 h hr
        exact cl (am_C1 4 (fun ρ st h => am_lda ρ 0 (fun z => bif Nat.beq z 1 then am_ldi ρ 1 (fun i1 => am_ldi ρ 2 (fun i2 => am_st0 st (l_X7_letters_4 n i1 i2 h))) else none)) am_C0) (am_c1 (fun ρ st h hc => by
        obtain ⟨z, m_a0, hc⟩ := am_lda_some hc
        obtain ⟨hz, hc⟩ := am_bif hc
        cases Nat.eq_of_beq_eq_true hz
        obtain ⟨i1, m_i1, hc⟩ := am_ldi_some hc
        obtain ⟨i2, m_i2, hc⟩ := am_ldi_some hc
        obtain ⟨rfl, hc⟩ := am_st0_some hc
        exact wk 4 ρ [(0, .ref 1), (1, .int i1), (2, .int i2)] _ h (am_m1 m_a0 (am_m1 m_i1 (am_m1 m_i2 am_m0))) (ih i1 i2 h hc)) am_c0) 400 4 _ _ h hr
    exact cl (am_C1 4 (fun ρ st h => am_lda ρ 0 (fun z => bif Nat.beq z 1 then am_ldi ρ 1 (fun i1 => am_ldi ρ 2 (fun i2 => am_st0 st (l_X7_letters_4 am_fu i1 i2 h))) else none)) am_C0) (am_c1 (fun ρ st h hc => by
        obtain ⟨z, m_a0, hc⟩ := am_lda_some hc
        obtain ⟨hz, hc⟩ := am_bif hc
        cases Nat.eq_of_beq_eq_true hz
        obtain ⟨i1, m_i1, hc⟩ := am_ldi_some hc
        obtain ⟨i2, m_i2, hc⟩ := am_ldi_some hc
        obtain ⟨rfl, hc⟩ := am_st0_some hc
        exact wk 4 ρ [(0, .ref 1), (1, .int i1), (2, .int i2)] _ h (am_m1 m_a0 (am_m1 m_i1 (am_m1 m_i2 am_m0))) (A4 am_fu i1 i2 h hc)) am_c0) 400 0 _ _ h hf)
theorem s_X7_letters {l : Launch} {al : Nat → Nat} {dC : Nat → ClassId} {dI : Nat → Nat → Nat} {aC : Nat → ClassId} {aV : Nat → Nat} (hy : am_Hy l al) : am_CS l al dC dI aC aV 51 c_X7_letters := by
  intro γ as h kk g hc
  obtain ⟨z, w0, rfl, hc⟩ := am_sa_some hc
  obtain ⟨hz, hc⟩ := am_bif hc
  cases Nat.eq_of_beq_eq_true hz
  obtain ⟨rfl, hc⟩ := am_st0_some hc
  obtain ⟨q, e1, e2⟩ := am_bi_some hc
  exact ⟨_, _, m_X7_letters hy  h _ e1, e2⟩

def l_X8_indexOf_2 : Nat → Nat → Int32 → Int32 → am_Hp → Option (Int32 × am_Hp)
  | 0, _, _, _, _ => none
  | n + 1, a0, i1, i2, h =>
    bif am_isO a0 8 then (if (h a0 4) ≤ i2 then
      some ((-1 : Int32), h)
    else
      bif am_isO a0 8 then (am_G a0 1).bind (fun b1 => bif am_isI b1 || am_isA b1 || am_isF b1 then (if (Int32.ofNat (am_len b1)) ≤ i2 then
        some ((-1 : Int32), h)
      else
        bif am_isO a0 8 then (am_G a0 1).bind (fun b2 => bif am_in i2 (am_len b2) then (bif am_isI b2 then (if (h b2 i2.toNatClampNeg) = i1 then
          some (i2, h)
        else
          l_X8_indexOf_2 n a0 i1 (i2 + (1 : Int32)) h) else bif am_isF b2 then (if (am_sx b2 i2.toNatClampNeg) = i1 then
          some (i2, h)
        else
          l_X8_indexOf_2 n a0 i1 (i2 + (1 : Int32)) h) else none) else none) else none) else none) else none) else none
def f_X8_indexOf (a0 : Nat) (i1 : Int32) (h : am_Hp) : Option (Int32 × am_Hp) :=
  l_X8_indexOf_2 am_fu a0 i1 (0 : Int32) h
def c_X8_indexOf : am_Cl := fun _ as h kk => am_sa as (fun a0 w0 => am_s1 w0 (fun i1 w1 => am_st0 w1 (am_bi (f_X8_indexOf a0 i1 h) (fun v h => kk (am_oi v) h))))
def o_X8_indexOf : am_Orc := am_o0
set_option maxRecDepth 100000 in
theorem tok_X8_indexOf : am_tok 57 tX8_indexOf := by
  unfold am_tok
  decide +kernel
set_option maxHeartbeats 4000000 in
set_option maxRecDepth 100000 in
theorem m_X8_indexOf {l : Launch} {al : Nat → Nat} {dC : Nat → ClassId} {dI : Nat → Nat → Nat} {aC : Nat → ClassId} {aV : Nat → Nat} (hy : am_Hy l al) (a0 : Nat) (i1 : Int32) (h : am_Hp) (r : (Int32 × am_Hp)) (hf : f_X8_indexOf a0 i1 h = some r) : am_Met l al dC dI aC aV 57 [.ref a0, .int i1] h (am_oi r.1) r.2 :=
  am_met (tab := tX8_indexOf) (orc := o_X8_indexOf) (ret := am_ri) (g := r) (by decide) (by decide) hy.1 hy.2 tok_X8_indexOf am_os0 am_ri_inv (Nat.le_of_ble_eq_true rfl) (fun At cl wk => by
    have A2 : ∀ n : Nat, ∀ a0 : Nat, ∀ i1 : Int32, ∀ i2 : Int32, ∀ h, l_X8_indexOf_2 n a0 i1 i2 h = some r → At 2 [(0, .ref a0), (1, .int i1), (2, .int i2)] [] h := by
      intro n
      induction n with
      | zero => intro a0 i1 i2 h hr; cases hr
      | succ n ih =>
        intro a0 i1 i2 h hr
        exact cl (am_C1 2 (fun ρ st h => am_lda ρ 0 (fun a0 => am_ldi ρ 1 (fun i1 => am_ldi ρ 2 (fun i2 => am_st0 st (l_X8_indexOf_2 n a0 i1 i2 h))))) am_C0) (am_c1 (fun ρ st h hc => by
        obtain ⟨a0, m_a0, hc⟩ := am_lda_some hc
        obtain ⟨i1, m_i1, hc⟩ := am_ldi_some hc
        obtain ⟨i2, m_i2, hc⟩ := am_ldi_some hc
        obtain ⟨rfl, hc⟩ := am_st0_some hc
        exact wk 2 ρ [(0, .ref a0), (1, .int i1), (2, .int i2)] _ h (am_m1 m_a0 (am_m1 m_i1 (am_m1 m_i2 am_m0))) (ih a0 i1 i2 h hc)) am_c0) 400 2 _ _ h hr
    exact cl (am_C1 2 (fun ρ st h => am_lda ρ 0 (fun a0 => am_ldi ρ 1 (fun i1 => am_ldi ρ 2 (fun i2 => am_st0 st (l_X8_indexOf_2 am_fu a0 i1 i2 h))))) am_C0) (am_c1 (fun ρ st h hc => by
        obtain ⟨a0, m_a0, hc⟩ := am_lda_some hc
        obtain ⟨i1, m_i1, hc⟩ := am_ldi_some hc
        obtain ⟨i2, m_i2, hc⟩ := am_ldi_some hc
        obtain ⟨rfl, hc⟩ := am_st0_some hc
        exact wk 2 ρ [(0, .ref a0), (1, .int i1), (2, .int i2)] _ h (am_m1 m_a0 (am_m1 m_i1 (am_m1 m_i2 am_m0))) (A2 am_fu a0 i1 i2 h hc)) am_c0) 400 0 _ _ h hf)
theorem s_X8_indexOf {l : Launch} {al : Nat → Nat} {dC : Nat → ClassId} {dI : Nat → Nat → Nat} {aC : Nat → ClassId} {aV : Nat → Nat} (hy : am_Hy l al) : am_CS l al dC dI aC aV 57 c_X8_indexOf := by
  intro γ as h kk g hc
  obtain ⟨a0, w0, rfl, hc⟩ := am_sa_some hc
  obtain ⟨i1, w1, rfl, hc⟩ := am_s1_some hc
  obtain ⟨rfl, hc⟩ := am_st0_some hc
  obtain ⟨q, e1, e2⟩ := am_bi_some hc
  exact ⟨_, _, m_X8_indexOf hy a0 i1 h _ e1, e2⟩

def l_X7_number_7 : Nat → Int32 → Int32 → am_Hp → Option (Int32 × am_Hp)
  | 0, _, _, _ => none
  | n + 1, i1, i2, h =>
    (if (h 1 5) ≤ i2 then
      some (i1, h)
    else
      am_bi (f_X7_byteAt i2 h) (fun x2 h1 =>
      l_X7_number_7 n (if (1000 : Int32) < (((i1 * (10 : Int32)) + x2) - (48 : Int32)) then (1000 : Int32) else ((i1 * (10 : Int32)) + x2) - (48 : Int32)) (i2 + (1 : Int32)) h1))
def f_X7_number  (h : am_Hp) : Option (Int32 × am_Hp) :=
  l_X7_number_7 am_fu (0 : Int32) (h 1 4) h
def c_X7_number : am_Cl := fun _ as h kk => am_sa as (fun z w0 => bif Nat.beq z 1 then am_st0 w0 (am_bi (f_X7_number  h) (fun v h => kk (am_oi v) h)) else none)
def o_X7_number : am_Orc := (am_oc 54 c_X7_byteAt am_o0)
set_option maxRecDepth 100000 in
theorem tok_X7_number : am_tok 52 tX7_number := by
  unfold am_tok
  decide +kernel
set_option maxHeartbeats 4000000 in
set_option maxRecDepth 100000 in
theorem m_X7_number {l : Launch} {al : Nat → Nat} {dC : Nat → ClassId} {dI : Nat → Nat → Nat} {aC : Nat → ClassId} {aV : Nat → Nat} (hy : am_Hy l al)  (h : am_Hp) (r : (Int32 × am_Hp)) (hf : f_X7_number  h = some r) : am_Met l al dC dI aC aV 52 [.ref 1] h (am_oi r.1) r.2 :=
  am_met (tab := tX7_number) (orc := o_X7_number) (ret := am_ri) (g := r) (by decide) (by decide) hy.1 hy.2 tok_X7_number (am_os1 (s_X7_byteAt hy) am_os0) am_ri_inv (Nat.le_of_ble_eq_true rfl) (fun At cl wk => by
    have A7 : ∀ n : Nat, ∀ i1 : Int32, ∀ i2 : Int32, ∀ h, l_X7_number_7 n i1 i2 h = some r → At 7 [(0, .ref 1), (1, .int i1), (2, .int i2)] [] h := by
      intro n
      induction n with
      | zero => intro i1 i2 h hr; cases hr
      | succ n ih =>
        intro i1 i2 h hr
        exact cl (am_C1 7 (fun ρ st h => am_lda ρ 0 (fun z => bif Nat.beq z 1 then am_ldi ρ 1 (fun i1 => am_ldi ρ 2 (fun i2 => am_st0 st (l_X7_number_7 n i1 i2 h))) else none)) am_C0) (am_c1 (fun ρ st h hc => by
        obtain ⟨z, m_a0, hc⟩ := am_lda_some hc
        obtain ⟨hz, hc⟩ := am_bif hc
        cases Nat.eq_of_beq_eq_true hz
        obtain ⟨i1, m_i1, hc⟩ := am_ldi_some hc
        obtain ⟨i2, m_i2, hc⟩ := am_ldi_some hc
        obtain ⟨rfl, hc⟩ := am_st0_some hc
        exact wk 7 ρ [(0, .ref 1), (1, .int i1), (2, .int i2)] _ h (am_m1 m_a0 (am_m1 m_i1 (am_m1 m_i2 am_m0))) (ih i1 i2 h hc)) am_c0) 400 7 _ _ h hr
    exact cl (am_C1 7 (fun ρ st h => am_lda ρ 0 (fun z => bif Nat.beq z 1 then am_ldi ρ 1 (fun i1 => am_ldi ρ 2 (fun i2 => am_st0 st (l_X7_number_7 am_fu i1 i2 h))) else none)) am_C0) (am_c1 (fun ρ st h hc => by
        obtain ⟨z, m_a0, hc⟩ := am_lda_some hc
        obtain ⟨hz, hc⟩ := am_bif hc
        cases Nat.eq_of_beq_eq_true hz
        obtain ⟨i1, m_i1, hc⟩ := am_ldi_some hc
        obtain ⟨i2, m_i2, hc⟩ := am_ldi_some hc
        obtain ⟨rfl, hc⟩ := am_st0_some hc
        exact wk 7 ρ [(0, .ref 1), (1, .int i1), (2, .int i2)] _ h (am_m1 m_a0 (am_m1 m_i1 (am_m1 m_i2 am_m0))) (A7 am_fu i1 i2 h hc)) am_c0) 400 0 _ _ h hf)
theorem s_X7_number {l : Launch} {al : Nat → Nat} {dC : Nat → ClassId} {dI : Nat → Nat → Nat} {aC : Nat → ClassId} {aV : Nat → Nat} (hy : am_Hy l al) : am_CS l al dC dI aC aV 52 c_X7_number := by
  intro γ as h kk g hc
  obtain ⟨z, w0, rfl, hc⟩ := am_sa_some hc
  obtain ⟨hz, hc⟩ := am_bif hc
  cases Nat.eq_of_beq_eq_true hz
  obtain ⟨rfl, hc⟩ := am_st0_some hc
  obtain ⟨q, e1, e2⟩ := am_bi_some hc
  exact ⟨_, _, m_X7_number hy  h _ e1, e2⟩

def f_X1_readNumber (i2 : Int32) (i3 : Int32) (h : am_Hp) : Option (Int32 × am_Hp) :=
  am_bi (f_X7_advance h) (fun _ h1 =>
  (if (h1 1 3) = (2 : Int32) then
    am_bi (f_X7_number h1) (fun x3 h2 =>
    (if x3 < i2 then
      some ((-12 : Int32), h2)
    else
      am_bi (f_X7_number h2) (fun x5 h4 =>
      (if x5 ≤ i3 then
        some ((0 : Int32), h4)
      else
        some ((-12 : Int32), h4)))))
  else
    some ((-11 : Int32), h1)))
def c_X1_readNumber : am_Cl := fun _ as h kk => am_sa as (fun z w0 => bif Nat.beq z 3 then am_sa w0 (fun z w1 => bif Nat.beq z 1 then am_s1 w1 (fun i2 w2 => am_s1 w2 (fun i3 w3 => am_st0 w3 (am_bi (f_X1_readNumber i2 i3 h) (fun v h => kk (am_oi v) h)))) else none) else none)
def o_X1_readNumber : am_Orc := (am_oc 48 c_X7_advance (am_oc 52 c_X7_number am_o0))
set_option maxRecDepth 100000 in
theorem tok_X1_readNumber : am_tok 13 tX1_readNumber := by
  unfold am_tok
  decide +kernel
set_option maxHeartbeats 4000000 in
set_option maxRecDepth 100000 in
theorem m_X1_readNumber {l : Launch} {al : Nat → Nat} {dC : Nat → ClassId} {dI : Nat → Nat → Nat} {aC : Nat → ClassId} {aV : Nat → Nat} (hy : am_Hy l al) (i2 : Int32) (i3 : Int32) (h : am_Hp) (r : (Int32 × am_Hp)) (hf : f_X1_readNumber i2 i3 h = some r) : am_Met l al dC dI aC aV 13 [.ref 3, .ref 1, .int i2, .int i3] h (am_oi r.1) r.2 :=
  am_met (tab := tX1_readNumber) (orc := o_X1_readNumber) (ret := am_ri) (g := r) (by decide) (by decide) hy.1 hy.2 tok_X1_readNumber (am_os1 (s_X7_advance hy) (am_os1 (s_X7_number hy) am_os0)) am_ri_inv (Nat.le_of_ble_eq_true rfl) (fun At cl wk => by
    skip
    exact cl am_C0 am_c0 400 0 _ _ h hf)
theorem s_X1_readNumber {l : Launch} {al : Nat → Nat} {dC : Nat → ClassId} {dI : Nat → Nat → Nat} {aC : Nat → ClassId} {aV : Nat → Nat} (hy : am_Hy l al) : am_CS l al dC dI aC aV 13 c_X1_readNumber := by
  intro γ as h kk g hc
  obtain ⟨z, w0, rfl, hc⟩ := am_sa_some hc
  obtain ⟨hz, hc⟩ := am_bif hc
  cases Nat.eq_of_beq_eq_true hz
  obtain ⟨z, w1, rfl, hc⟩ := am_sa_some hc
  obtain ⟨hz, hc⟩ := am_bif hc
  cases Nat.eq_of_beq_eq_true hz
  obtain ⟨i2, w2, rfl, hc⟩ := am_s1_some hc
  obtain ⟨i3, w3, rfl, hc⟩ := am_s1_some hc
  obtain ⟨rfl, hc⟩ := am_st0_some hc
  obtain ⟨q, e1, e2⟩ := am_bi_some hc
  exact ⟨_, _, m_X1_readNumber hy i2 i3 h _ e1, e2⟩

def f_X8_add (a0 : Nat) (i1 : Int32) (i2 : Int32) (i3 : Int32) (h : am_Hp) : Option (Unit × am_Hp) :=
  bif am_isO a0 8 then am_bi (f_X8_isFull a0 h) (fun x2 h1 =>
  (if x2 = 0 then
    bif am_isO a0 8 then (am_G a0 1).bind (fun b3 => bif am_isO a0 8 then bif am_isI b3 && am_in (h1 a0 4) (am_len b3) then (let h4 := am_pi h1 b3 ((h1 a0 4).toNatClampNeg) i1
    bif am_isO a0 8 then (am_G a0 2).bind (fun b5 => bif am_isO a0 8 then bif am_isI b5 && am_in (h4 a0 4) (am_len b5) then (let h6 := am_pi h4 b5 ((h4 a0 4).toNatClampNeg) i2
    bif am_isO a0 8 then (am_G a0 3).bind (fun b7 => bif am_isO a0 8 then bif am_isI b7 && am_in (h6 a0 4) (am_len b7) then (let h8 := am_pi h6 b7 ((h6 a0 4).toNatClampNeg) i3
    bif am_isO a0 8 then bif am_isO a0 8 then (let h9 := am_pi h8 a0 4 ((h8 a0 4) + (1 : Int32))
    some ((), h9)) else none else none) else none else none) else none) else none else none) else none) else none else none) else none
  else
    some ((), h1))) else none
def c_X8_add : am_Cl := fun _ as h kk => am_sa as (fun a0 w0 => am_s1 w0 (fun i1 w1 => am_s1 w1 (fun i2 w2 => am_s1 w2 (fun i3 w3 => am_st0 w3 (am_bi (f_X8_add a0 i1 i2 i3 h) (fun v h => kk (am_ov v) h))))))
def o_X8_add : am_Orc := (am_oc 56 c_X8_isFull am_o0)
set_option maxRecDepth 100000 in
theorem tok_X8_add : am_tok 59 tX8_add := by
  unfold am_tok
  decide +kernel
set_option maxHeartbeats 4000000 in
set_option maxRecDepth 100000 in
theorem m_X8_add {l : Launch} {al : Nat → Nat} {dC : Nat → ClassId} {dI : Nat → Nat → Nat} {aC : Nat → ClassId} {aV : Nat → Nat} (hy : am_Hy l al) (a0 : Nat) (i1 : Int32) (i2 : Int32) (i3 : Int32) (h : am_Hp) (r : (Unit × am_Hp)) (hf : f_X8_add a0 i1 i2 i3 h = some r) : am_Met l al dC dI aC aV 59 [.ref a0, .int i1, .int i2, .int i3] h (am_ov r.1) r.2 :=
  am_met (tab := tX8_add) (orc := o_X8_add) (ret := am_rv) (g := r) (by decide) (by decide) hy.1 hy.2 tok_X8_add (am_os1 (s_X8_isFull hy) am_os0) am_rv_inv (Nat.le_of_ble_eq_true rfl) (fun At cl wk => by
    skip
    exact cl am_C0 am_c0 400 0 _ _ h hf)
theorem s_X8_add {l : Launch} {al : Nat → Nat} {dC : Nat → ClassId} {dI : Nat → Nat → Nat} {aC : Nat → ClassId} {aV : Nat → Nat} (hy : am_Hy l al) : am_CS l al dC dI aC aV 59 c_X8_add := by
  intro γ as h kk g hc
  obtain ⟨a0, w0, rfl, hc⟩ := am_sa_some hc
  obtain ⟨i1, w1, rfl, hc⟩ := am_s1_some hc
  obtain ⟨i2, w2, rfl, hc⟩ := am_s1_some hc
  obtain ⟨i3, w3, rfl, hc⟩ := am_s1_some hc
  obtain ⟨rfl, hc⟩ := am_st0_some hc
  obtain ⟨q, e1, e2⟩ := am_bi_some hc
  exact ⟨_, _, m_X8_add hy a0 i1 i2 i3 h _ e1, e2⟩

def f_X1_readDeclaration (a2 : Nat) (h : am_Hp) : Option (Int32 × am_Hp) :=
  bif am_isO a2 8 then am_bi (f_X8_isFull a2 h) (fun x2 h1 =>
  (if x2 = 0 then
    am_bi (f_X7_advance h1) (fun _ h3 =>
    (if (h3 1 3) = (1 : Int32) then
      am_bi (f_X7_tokenLength h3) (fun x5 h4 =>
      (if x5 ≤ (6 : Int32) then
        am_bi (f_X7_letters h4) (fun x7 h6 =>
        bif am_isO a2 8 then am_bi (f_X8_indexOf a2 x7 h6) (fun x9 h8 =>
        (if x9 = (-1 : Int32) then
          am_bi (f_X1_readNumber (2 : Int32) (16 : Int32) h8) (fun x11 h10 =>
          (if x11 = 0 then
            am_bi (f_X7_number h10) (fun x13 h12 =>
            am_bi (f_X1_readNumber (1 : Int32) (6 : Int32) h12) (fun x15 h14 =>
            (if x15 = 0 then
              am_bi (f_X7_number h14) (fun x17 h16 =>
              bif am_isO a2 8 then am_bi (f_X8_add a2 x7 x13 x17 h16) (fun _ h18 =>
              some ((0 : Int32), h18)) else none)
            else
              some (x15, h14))))
          else
            some (x11, h10)))
        else
          some ((-14 : Int32), h8))) else none)
      else
        some ((-11 : Int32), h4)))
    else
      some ((-11 : Int32), h3)))
  else
    some ((-15 : Int32), h1))) else none
def c_X1_readDeclaration : am_Cl := fun _ as h kk => am_sa as (fun z w0 => bif Nat.beq z 3 then am_sa w0 (fun z w1 => bif Nat.beq z 1 then am_sa w1 (fun a2 w2 => am_st0 w2 (am_bi (f_X1_readDeclaration a2 h) (fun v h => kk (am_oi v) h))) else none) else none)
def o_X1_readDeclaration : am_Orc := (am_oc 56 c_X8_isFull (am_oc 48 c_X7_advance (am_oc 49 c_X7_tokenLength (am_oc 51 c_X7_letters (am_oc 57 c_X8_indexOf (am_oc 13 c_X1_readNumber (am_oc 52 c_X7_number (am_oc 59 c_X8_add am_o0))))))))
set_option maxRecDepth 100000 in
theorem tok_X1_readDeclaration : am_tok 11 tX1_readDeclaration := by
  unfold am_tok
  decide +kernel
set_option maxHeartbeats 4000000 in
set_option maxRecDepth 100000 in
theorem m_X1_readDeclaration {l : Launch} {al : Nat → Nat} {dC : Nat → ClassId} {dI : Nat → Nat → Nat} {aC : Nat → ClassId} {aV : Nat → Nat} (hy : am_Hy l al) (a2 : Nat) (h : am_Hp) (r : (Int32 × am_Hp)) (hf : f_X1_readDeclaration a2 h = some r) : am_Met l al dC dI aC aV 11 [.ref 3, .ref 1, .ref a2] h (am_oi r.1) r.2 :=
  am_met (tab := tX1_readDeclaration) (orc := o_X1_readDeclaration) (ret := am_ri) (g := r) (by decide) (by decide) hy.1 hy.2 tok_X1_readDeclaration (am_os1 (s_X8_isFull hy) (am_os1 (s_X7_advance hy) (am_os1 (s_X7_tokenLength hy) (am_os1 (s_X7_letters hy) (am_os1 (s_X8_indexOf hy) (am_os1 (s_X1_readNumber hy) (am_os1 (s_X7_number hy) (am_os1 (s_X8_add hy) am_os0)))))))) am_ri_inv (Nat.le_of_ble_eq_true rfl) (fun At cl wk => by
    skip
    exact cl am_C0 am_c0 400 0 _ _ h hf)
theorem s_X1_readDeclaration {l : Launch} {al : Nat → Nat} {dC : Nat → ClassId} {dI : Nat → Nat → Nat} {aC : Nat → ClassId} {aV : Nat → Nat} (hy : am_Hy l al) : am_CS l al dC dI aC aV 11 c_X1_readDeclaration := by
  intro γ as h kk g hc
  obtain ⟨z, w0, rfl, hc⟩ := am_sa_some hc
  obtain ⟨hz, hc⟩ := am_bif hc
  cases Nat.eq_of_beq_eq_true hz
  obtain ⟨z, w1, rfl, hc⟩ := am_sa_some hc
  obtain ⟨hz, hc⟩ := am_bif hc
  cases Nat.eq_of_beq_eq_true hz
  obtain ⟨a2, w2, rfl, hc⟩ := am_sa_some hc
  obtain ⟨rfl, hc⟩ := am_st0_some hc
  obtain ⟨q, e1, e2⟩ := am_bi_some hc
  exact ⟨_, _, m_X1_readDeclaration hy a2 h _ e1, e2⟩

def f_X1_readSetting  (h : am_Hp) : Option (Int32 × am_Hp) :=
  am_bi (f_X7_advance h) (fun _ h1 =>
  am_bi (f_X7_isWord 211 h1) (fun x3 h2 =>
  (if x3 = 0 then
    am_bi (f_X7_isWord 212 h2) (fun x19 h18 =>
    (if x19 = 0 then
      some ((-11 : Int32), h18)
    else
      am_bi (f_X7_isWord 211 h18) (fun x21 h20 =>
      (if x21 = 0 then
        bif am_in (1 : Int32) 2 then (if (h20 13 1) = 0 then
          bif am_in (1 : Int32) 2 then bif am_in (1 : Int32) 2 then am_bi (f_X1_readNumber (am_sx 206 1) (am_sx 207 1) h20) (fun x23 h22 =>
          (if x23 = 0 then
            bif am_in (1 : Int32) 2 then (let h24 := am_pi h22 13 1 ((1 : Int32) &&& 1)
            am_bi (f_X7_number h24) (fun x26 h25 =>
            bif am_in (1 : Int32) 2 then (let h27 := am_pi h25 12 1 x26
            some ((0 : Int32), h27)) else none)) else none
          else
            some (x23, h22))) else none else none
        else
          some ((-14 : Int32), h20)) else none
      else
        bif am_in (0 : Int32) 2 then (if (h20 13 0) = 0 then
          bif am_in (0 : Int32) 2 then bif am_in (0 : Int32) 2 then am_bi (f_X1_readNumber (am_sx 206 0) (am_sx 207 0) h20) (fun x29 h28 =>
          (if x29 = 0 then
            bif am_in (0 : Int32) 2 then (let h30 := am_pi h28 13 0 ((1 : Int32) &&& 1)
            am_bi (f_X7_number h30) (fun x32 h31 =>
            bif am_in (0 : Int32) 2 then (let h33 := am_pi h31 12 0 x32
            some ((0 : Int32), h33)) else none)) else none
          else
            some (x29, h28))) else none else none
        else
          some ((-14 : Int32), h20)) else none))))
  else
    am_bi (f_X7_isWord 211 h2) (fun x5 h4 =>
    (if x5 = 0 then
      bif am_in (1 : Int32) 2 then (if (h4 13 1) = 0 then
        bif am_in (1 : Int32) 2 then bif am_in (1 : Int32) 2 then am_bi (f_X1_readNumber (am_sx 206 1) (am_sx 207 1) h4) (fun x7 h6 =>
        (if x7 = 0 then
          bif am_in (1 : Int32) 2 then (let h8 := am_pi h6 13 1 ((1 : Int32) &&& 1)
          am_bi (f_X7_number h8) (fun x10 h9 =>
          bif am_in (1 : Int32) 2 then (let h11 := am_pi h9 12 1 x10
          some ((0 : Int32), h11)) else none)) else none
        else
          some (x7, h6))) else none else none
      else
        some ((-14 : Int32), h4)) else none
    else
      bif am_in (0 : Int32) 2 then (if (h4 13 0) = 0 then
        bif am_in (0 : Int32) 2 then bif am_in (0 : Int32) 2 then am_bi (f_X1_readNumber (am_sx 206 0) (am_sx 207 0) h4) (fun x13 h12 =>
        (if x13 = 0 then
          bif am_in (0 : Int32) 2 then (let h14 := am_pi h12 13 0 ((1 : Int32) &&& 1)
          am_bi (f_X7_number h14) (fun x16 h15 =>
          bif am_in (0 : Int32) 2 then (let h17 := am_pi h15 12 0 x16
          some ((0 : Int32), h17)) else none)) else none
        else
          some (x13, h12))) else none else none
      else
        some ((-14 : Int32), h4)) else none)))))
def c_X1_readSetting : am_Cl := fun _ as h kk => am_sa as (fun z w0 => bif Nat.beq z 3 then am_sa w0 (fun z w1 => bif Nat.beq z 1 then am_st0 w1 (am_bi (f_X1_readSetting  h) (fun v h => kk (am_oi v) h)) else none) else none)
def o_X1_readSetting : am_Orc := (am_oc 48 c_X7_advance (am_oc 50 c_X7_isWord (am_oc 13 c_X1_readNumber (am_oc 52 c_X7_number am_o0))))
set_option maxRecDepth 100000 in
theorem tok_X1_readSetting : am_tok 12 tX1_readSetting := by
  unfold am_tok
  decide +kernel
set_option maxHeartbeats 4000000 in
set_option maxRecDepth 100000 in
theorem m_X1_readSetting {l : Launch} {al : Nat → Nat} {dC : Nat → ClassId} {dI : Nat → Nat → Nat} {aC : Nat → ClassId} {aV : Nat → Nat} (hy : am_Hy l al)  (h : am_Hp) (r : (Int32 × am_Hp)) (hf : f_X1_readSetting  h = some r) : am_Met l al dC dI aC aV 12 [.ref 3, .ref 1] h (am_oi r.1) r.2 :=
  am_met (tab := tX1_readSetting) (orc := o_X1_readSetting) (ret := am_ri) (g := r) (by decide) (by decide) hy.1 hy.2 tok_X1_readSetting (am_os1 (s_X7_advance hy) (am_os1 (s_X7_isWord hy) (am_os1 (s_X1_readNumber hy) (am_os1 (s_X7_number hy) am_os0)))) am_ri_inv (Nat.le_of_ble_eq_true rfl) (fun At cl wk => by
    skip
    exact cl am_C0 am_c0 400 0 _ _ h hf)
theorem s_X1_readSetting {l : Launch} {al : Nat → Nat} {dC : Nat → ClassId} {dI : Nat → Nat → Nat} {aC : Nat → ClassId} {aV : Nat → Nat} (hy : am_Hy l al) : am_CS l al dC dI aC aV 12 c_X1_readSetting := by
  intro γ as h kk g hc
  obtain ⟨z, w0, rfl, hc⟩ := am_sa_some hc
  obtain ⟨hz, hc⟩ := am_bif hc
  cases Nat.eq_of_beq_eq_true hz
  obtain ⟨z, w1, rfl, hc⟩ := am_sa_some hc
  obtain ⟨hz, hc⟩ := am_bif hc
  cases Nat.eq_of_beq_eq_true hz
  obtain ⟨rfl, hc⟩ := am_st0_some hc
  obtain ⟨q, e1, e2⟩ := am_bi_some hc
  exact ⟨_, _, m_X1_readSetting hy  h _ e1, e2⟩

def f_X1_readStatement  (h : am_Hp) : Option (Int32 × am_Hp) :=
  am_bi (f_X7_isWord 208 h) (fun x2 h1 =>
  (if x2 = 0 then
    am_bi (f_X7_isWord 209 h1) (fun x4 h3 =>
    (if x4 = 0 then
      am_bi (f_X7_isWord 210 h3) (fun x6 h5 =>
      (if x6 = 0 then
        (if (-11 : Int32) = 0 then
          am_bi (f_X7_advance h5) (fun _ h7 =>
          (if (h7 1 3) = (3 : Int32) then
            some ((0 : Int32), h7)
          else
            some ((-11 : Int32), h7)))
        else
          some ((-11 : Int32), h5))
      else
        am_bi (f_X1_readSetting h5) (fun x9 h8 =>
        (if x9 = 0 then
          am_bi (f_X7_advance h8) (fun _ h10 =>
          (if (h10 1 3) = (3 : Int32) then
            some ((0 : Int32), h10)
          else
            some ((-11 : Int32), h10)))
        else
          some (x9, h8)))))
    else
      am_bi (f_X1_readDeclaration 8 h3) (fun x12 h11 =>
      (if x12 = 0 then
        am_bi (f_X7_advance h11) (fun _ h13 =>
        (if (h13 1 3) = (3 : Int32) then
          some ((0 : Int32), h13)
        else
          some ((-11 : Int32), h13)))
      else
        some (x12, h11)))))
  else
    am_bi (f_X1_readDeclaration 4 h1) (fun x15 h14 =>
    (if x15 = 0 then
      am_bi (f_X7_advance h14) (fun _ h16 =>
      (if (h16 1 3) = (3 : Int32) then
        some ((0 : Int32), h16)
      else
        some ((-11 : Int32), h16)))
    else
      some (x15, h14)))))
def c_X1_readStatement : am_Cl := fun _ as h kk => am_sa as (fun z w0 => bif Nat.beq z 3 then am_sa w0 (fun z w1 => bif Nat.beq z 1 then am_st0 w1 (am_bi (f_X1_readStatement  h) (fun v h => kk (am_oi v) h)) else none) else none)
def o_X1_readStatement : am_Orc := (am_oc 50 c_X7_isWord (am_oc 11 c_X1_readDeclaration (am_oc 12 c_X1_readSetting (am_oc 48 c_X7_advance am_o0))))
set_option maxRecDepth 100000 in
theorem tok_X1_readStatement : am_tok 10 tX1_readStatement := by
  unfold am_tok
  decide +kernel
set_option maxHeartbeats 4000000 in
set_option maxRecDepth 100000 in
theorem m_X1_readStatement {l : Launch} {al : Nat → Nat} {dC : Nat → ClassId} {dI : Nat → Nat → Nat} {aC : Nat → ClassId} {aV : Nat → Nat} (hy : am_Hy l al)  (h : am_Hp) (r : (Int32 × am_Hp)) (hf : f_X1_readStatement  h = some r) : am_Met l al dC dI aC aV 10 [.ref 3, .ref 1] h (am_oi r.1) r.2 :=
  am_met (tab := tX1_readStatement) (orc := o_X1_readStatement) (ret := am_ri) (g := r) (by decide) (by decide) hy.1 hy.2 tok_X1_readStatement (am_os1 (s_X7_isWord hy) (am_os1 (s_X1_readDeclaration hy) (am_os1 (s_X1_readSetting hy) (am_os1 (s_X7_advance hy) am_os0)))) am_ri_inv (Nat.le_of_ble_eq_true rfl) (fun At cl wk => by
    skip
    exact cl am_C0 am_c0 400 0 _ _ h hf)
theorem s_X1_readStatement {l : Launch} {al : Nat → Nat} {dC : Nat → ClassId} {dI : Nat → Nat → Nat} {aC : Nat → ClassId} {aV : Nat → Nat} (hy : am_Hy l al) : am_CS l al dC dI aC aV 10 c_X1_readStatement := by
  intro γ as h kk g hc
  obtain ⟨z, w0, rfl, hc⟩ := am_sa_some hc
  obtain ⟨hz, hc⟩ := am_bif hc
  cases Nat.eq_of_beq_eq_true hz
  obtain ⟨z, w1, rfl, hc⟩ := am_sa_some hc
  obtain ⟨hz, hc⟩ := am_bif hc
  cases Nat.eq_of_beq_eq_true hz
  obtain ⟨rfl, hc⟩ := am_st0_some hc
  obtain ⟨q, e1, e2⟩ := am_bi_some hc
  exact ⟨_, _, m_X1_readStatement hy  h _ e1, e2⟩

def l_X1_read_6 : Nat → Int32 → am_Hp → Option (Int32 × am_Hp)
  | 0, _, _ => none
  | n + 1, i2, h =>
    (if (600 : Int32) ≤ i2 then
      some (i2, h)
    else
      (if (h 1 3) = 0 then
        some (i2, h)
      else
        am_bi (f_X1_readStatement h) (fun x2 h1 =>
        (if x2 = 0 then
          am_bi (f_X7_advance h1) (fun _ h3 =>
          l_X1_read_6 n (i2 + (1 : Int32)) h3)
        else
          some (x2, h1)))))
def f_X1_read  (h : am_Hp) : Option (Int32 × am_Hp) :=
  am_bi (f_X1_restart h) (fun _ h1 =>
  l_X1_read_6 am_fu (0 : Int32) h1)
def c_X1_read : am_Cl := fun _ as h kk => am_sa as (fun z w0 => bif Nat.beq z 3 then am_sa w0 (fun z w1 => bif Nat.beq z 1 then am_st0 w1 (am_bi (f_X1_read  h) (fun v h => kk (am_oi v) h)) else none) else none)
def o_X1_read : am_Orc := (am_oc 9 c_X1_restart (am_oc 10 c_X1_readStatement (am_oc 48 c_X7_advance am_o0)))
set_option maxRecDepth 100000 in
theorem tok_X1_read : am_tok 8 tX1_read := by
  unfold am_tok
  decide +kernel
set_option maxHeartbeats 4000000 in
set_option maxRecDepth 100000 in
theorem m_X1_read {l : Launch} {al : Nat → Nat} {dC : Nat → ClassId} {dI : Nat → Nat → Nat} {aC : Nat → ClassId} {aV : Nat → Nat} (hy : am_Hy l al)  (h : am_Hp) (r : (Int32 × am_Hp)) (hf : f_X1_read  h = some r) : am_Met l al dC dI aC aV 8 [.ref 3, .ref 1] h (am_oi r.1) r.2 :=
  am_met (tab := tX1_read) (orc := o_X1_read) (ret := am_ri) (g := r) (by decide) (by decide) hy.1 hy.2 tok_X1_read (am_os1 (s_X1_restart hy) (am_os1 (s_X1_readStatement hy) (am_os1 (s_X7_advance hy) am_os0))) am_ri_inv (Nat.le_of_ble_eq_true rfl) (fun At cl wk => by
    have A6 : ∀ n : Nat, ∀ i2 : Int32, ∀ h, l_X1_read_6 n i2 h = some r → At 6 [(0, .ref 3), (1, .ref 1), (2, .int i2)] [] h := by
      intro n
      induction n with
      | zero => intro i2 h hr; cases hr
      | succ n ih =>
        intro i2 h hr
        exact cl (am_C1 6 (fun ρ st h => am_lda ρ 0 (fun z => bif Nat.beq z 3 then am_lda ρ 1 (fun z => bif Nat.beq z 1 then am_ldi ρ 2 (fun i2 => am_st0 st (l_X1_read_6 n i2 h)) else none) else none)) am_C0) (am_c1 (fun ρ st h hc => by
        obtain ⟨z, m_a0, hc⟩ := am_lda_some hc
        obtain ⟨hz, hc⟩ := am_bif hc
        cases Nat.eq_of_beq_eq_true hz
        obtain ⟨z, m_a1, hc⟩ := am_lda_some hc
        obtain ⟨hz, hc⟩ := am_bif hc
        cases Nat.eq_of_beq_eq_true hz
        obtain ⟨i2, m_i2, hc⟩ := am_ldi_some hc
        obtain ⟨rfl, hc⟩ := am_st0_some hc
        exact wk 6 ρ [(0, .ref 3), (1, .ref 1), (2, .int i2)] _ h (am_m1 m_a0 (am_m1 m_a1 (am_m1 m_i2 am_m0))) (ih i2 h hc)) am_c0) 400 6 _ _ h hr
    exact cl (am_C1 6 (fun ρ st h => am_lda ρ 0 (fun z => bif Nat.beq z 3 then am_lda ρ 1 (fun z => bif Nat.beq z 1 then am_ldi ρ 2 (fun i2 => am_st0 st (l_X1_read_6 am_fu i2 h)) else none) else none)) am_C0) (am_c1 (fun ρ st h hc => by
        obtain ⟨z, m_a0, hc⟩ := am_lda_some hc
        obtain ⟨hz, hc⟩ := am_bif hc
        cases Nat.eq_of_beq_eq_true hz
        obtain ⟨z, m_a1, hc⟩ := am_lda_some hc
        obtain ⟨hz, hc⟩ := am_bif hc
        cases Nat.eq_of_beq_eq_true hz
        obtain ⟨i2, m_i2, hc⟩ := am_ldi_some hc
        obtain ⟨rfl, hc⟩ := am_st0_some hc
        exact wk 6 ρ [(0, .ref 3), (1, .ref 1), (2, .int i2)] _ h (am_m1 m_a0 (am_m1 m_a1 (am_m1 m_i2 am_m0))) (A6 am_fu i2 h hc)) am_c0) 400 0 _ _ h hf)
theorem s_X1_read {l : Launch} {al : Nat → Nat} {dC : Nat → ClassId} {dI : Nat → Nat → Nat} {aC : Nat → ClassId} {aV : Nat → Nat} (hy : am_Hy l al) : am_CS l al dC dI aC aV 8 c_X1_read := by
  intro γ as h kk g hc
  obtain ⟨z, w0, rfl, hc⟩ := am_sa_some hc
  obtain ⟨hz, hc⟩ := am_bif hc
  cases Nat.eq_of_beq_eq_true hz
  obtain ⟨z, w1, rfl, hc⟩ := am_sa_some hc
  obtain ⟨hz, hc⟩ := am_bif hc
  cases Nat.eq_of_beq_eq_true hz
  obtain ⟨rfl, hc⟩ := am_st0_some hc
  obtain ⟨q, e1, e2⟩ := am_bi_some hc
  exact ⟨_, _, m_X1_read hy  h _ e1, e2⟩

def f_X5_copyFrom (a0 : Nat) (a1 : Nat) (h : am_Hp) : Option (Unit × am_Hp) :=
  bif am_isO a1 5 then bif am_isO a0 5 then (let h1 := am_pi h a0 0 (h a1 0)
  bif am_isO a1 5 then bif am_isO a0 5 then (let h2 := am_pi h1 a0 1 (h1 a1 1)
  bif am_isO a1 5 then bif am_isO a0 5 then (let h3 := am_pi h2 a0 2 (h2 a1 2)
  bif am_isO a1 5 then bif am_isO a0 5 then (let h4 := am_pi h3 a0 3 (h3 a1 3)
  bif am_isO a1 5 then bif am_isO a0 5 then (let h5 := am_pi h4 a0 4 (h4 a1 4)
  bif am_isO a1 5 then bif am_isO a0 5 then (let h6 := am_pi h5 a0 5 (h5 a1 5)
  bif am_isO a1 5 then bif am_isO a0 5 then (let h7 := am_pi h6 a0 6 (h6 a1 6)
  bif am_isO a1 5 then bif am_isO a0 5 then (let h8 := am_pi h7 a0 7 (h7 a1 7)
  some ((), h8)) else none else none) else none else none) else none else none) else none else none) else none else none) else none else none) else none else none) else none else none
def c_X5_copyFrom : am_Cl := fun _ as h kk => am_sa as (fun a0 w0 => am_sa w0 (fun a1 w1 => am_st0 w1 (am_bi (f_X5_copyFrom a0 a1 h) (fun v h => kk (am_ov v) h))))
def o_X5_copyFrom : am_Orc := am_o0
set_option maxRecDepth 100000 in
theorem tok_X5_copyFrom : am_tok 43 tX5_copyFrom := by
  unfold am_tok
  decide +kernel
set_option maxHeartbeats 4000000 in
set_option maxRecDepth 100000 in
theorem m_X5_copyFrom {l : Launch} {al : Nat → Nat} {dC : Nat → ClassId} {dI : Nat → Nat → Nat} {aC : Nat → ClassId} {aV : Nat → Nat} (hy : am_Hy l al) (a0 : Nat) (a1 : Nat) (h : am_Hp) (r : (Unit × am_Hp)) (hf : f_X5_copyFrom a0 a1 h = some r) : am_Met l al dC dI aC aV 43 [.ref a0, .ref a1] h (am_ov r.1) r.2 :=
  am_met (tab := tX5_copyFrom) (orc := o_X5_copyFrom) (ret := am_rv) (g := r) (by decide) (by decide) hy.1 hy.2 tok_X5_copyFrom am_os0 am_rv_inv (Nat.le_of_ble_eq_true rfl) (fun At cl wk => by
    skip
    exact cl am_C0 am_c0 400 0 _ _ h hf)
theorem s_X5_copyFrom {l : Launch} {al : Nat → Nat} {dC : Nat → ClassId} {dI : Nat → Nat → Nat} {aC : Nat → ClassId} {aV : Nat → Nat} (hy : am_Hy l al) : am_CS l al dC dI aC aV 43 c_X5_copyFrom := by
  intro γ as h kk g hc
  obtain ⟨a0, w0, rfl, hc⟩ := am_sa_some hc
  obtain ⟨a1, w1, rfl, hc⟩ := am_sa_some hc
  obtain ⟨rfl, hc⟩ := am_st0_some hc
  obtain ⟨q, e1, e2⟩ := am_bi_some hc
  exact ⟨_, _, m_X5_copyFrom hy a0 a1 h _ e1, e2⟩

def l_X6_copyFrom_88 : Nat → Nat → Nat → Int32 → am_Hp → Option (Unit × am_Hp)
  | 0, _, _, _, _ => none
  | n + 1, a0, a1, i2, h =>
    (if (6 : Int32) ≤ i2 then
      some ((), h)
    else
      bif am_isO a0 6 then (am_G a0 4).bind (fun b1 => bif am_isA b1 && am_in i2 (am_len b1) then (am_G b1 i2.toNatClampNeg).bind (fun b2 => bif am_isO a1 6 then (am_G a1 4).bind (fun b3 => bif am_isA b3 && am_in i2 (am_len b3) then (am_G b3 i2.toNatClampNeg).bind (fun b4 => bif am_isO b2 5 then am_bi (f_X5_copyFrom b2 b4 h) (fun _ h5 =>
      l_X6_copyFrom_88 n a0 a1 (i2 + (1 : Int32)) h5) else none) else none) else none) else none) else none)
def l_X6_copyFrom_60 : Nat → Nat → Nat → Int32 → am_Hp → Option (Unit × am_Hp)
  | 0, _, _, _, _ => none
  | n + 1, a0, a1, i2, h =>
    (if (4 : Int32) ≤ i2 then
      l_X6_copyFrom_88 am_fu a0 a1 (0 : Int32) h
    else
      bif am_isO a0 6 then (am_G a0 3).bind (fun b1 => bif am_isA b1 && am_in i2 (am_len b1) then (am_G b1 i2.toNatClampNeg).bind (fun b2 => bif am_isO a1 6 then (am_G a1 3).bind (fun b3 => bif am_isA b3 && am_in i2 (am_len b3) then (am_G b3 i2.toNatClampNeg).bind (fun b4 => bif am_isO b2 0 then am_bi (f_X0_copyFrom b2 b4 h) (fun _ h5 =>
      l_X6_copyFrom_60 n a0 a1 (i2 + (1 : Int32)) h5) else none) else none) else none) else none) else none)
def l_X6_copyFrom_35 : Nat → Nat → Nat → Int32 → am_Hp → Option (Unit × am_Hp)
  | 0, _, _, _, _ => none
  | n + 1, a0, a1, i2, h =>
    (if (4 : Int32) ≤ i2 then
      l_X6_copyFrom_60 am_fu a0 a1 (0 : Int32) h
    else
      bif am_isO a0 6 then (am_G a0 2).bind (fun b1 => bif am_isO a1 6 then (am_G a1 2).bind (fun b2 => bif am_in i2 (am_len b2) then (bif am_isI b2 then bif am_isI b1 && am_in i2 (am_len b1) then (let h3 := am_pi h b1 i2.toNatClampNeg (h b2 i2.toNatClampNeg)
      l_X6_copyFrom_35 n a0 a1 (i2 + (1 : Int32)) h3) else none else bif am_isF b2 then bif am_isI b1 && am_in i2 (am_len b1) then (let h4 := am_pi h b1 i2.toNatClampNeg (am_sx b2 i2.toNatClampNeg)
      l_X6_copyFrom_35 n a0 a1 (i2 + (1 : Int32)) h4) else none else none) else none) else none) else none)
def l_X6_copyFrom_10 : Nat → Nat → Nat → Int32 → am_Hp → Option (Unit × am_Hp)
  | 0, _, _, _, _ => none
  | n + 1, a0, a1, i2, h =>
    (if (2 : Int32) ≤ i2 then
      l_X6_copyFrom_35 am_fu a0 a1 (0 : Int32) h
    else
      bif am_isO a0 6 then (am_G a0 1).bind (fun b1 => bif am_isO a1 6 then (am_G a1 1).bind (fun b2 => bif am_in i2 (am_len b2) then (bif am_isI b2 then bif am_isI b1 && am_in i2 (am_len b1) then (let h3 := am_pi h b1 i2.toNatClampNeg (h b2 i2.toNatClampNeg)
      l_X6_copyFrom_10 n a0 a1 (i2 + (1 : Int32)) h3) else none else bif am_isF b2 then bif am_isI b1 && am_in i2 (am_len b1) then (let h4 := am_pi h b1 i2.toNatClampNeg (am_sx b2 i2.toNatClampNeg)
      l_X6_copyFrom_10 n a0 a1 (i2 + (1 : Int32)) h4) else none else none) else none) else none) else none)
def f_X6_copyFrom (a0 : Nat) (a1 : Nat) (h : am_Hp) : Option (Unit × am_Hp) :=
  bif am_isO a1 6 then bif am_isO a0 6 then (let h1 := am_pi h a0 0 (h a1 0)
  l_X6_copyFrom_10 am_fu a0 a1 (0 : Int32) h1) else none else none
def c_X6_copyFrom : am_Cl := fun _ as h kk => am_sa as (fun a0 w0 => am_sa w0 (fun a1 w1 => am_st0 w1 (am_bi (f_X6_copyFrom a0 a1 h) (fun v h => kk (am_ov v) h))))
def o_X6_copyFrom : am_Orc := (am_oc 7 c_X0_copyFrom (am_oc 43 c_X5_copyFrom am_o0))
set_option maxRecDepth 100000 in
theorem tok_X6_copyFrom : am_tok 45 tX6_copyFrom := by
  unfold am_tok
  decide +kernel
set_option maxHeartbeats 4000000 in
set_option maxRecDepth 100000 in
theorem m_X6_copyFrom {l : Launch} {al : Nat → Nat} {dC : Nat → ClassId} {dI : Nat → Nat → Nat} {aC : Nat → ClassId} {aV : Nat → Nat} (hy : am_Hy l al) (a0 : Nat) (a1 : Nat) (h : am_Hp) (r : (Unit × am_Hp)) (hf : f_X6_copyFrom a0 a1 h = some r) : am_Met l al dC dI aC aV 45 [.ref a0, .ref a1] h (am_ov r.1) r.2 :=
  am_met (tab := tX6_copyFrom) (orc := o_X6_copyFrom) (ret := am_rv) (g := r) (by decide) (by decide) hy.1 hy.2 tok_X6_copyFrom (am_os1 (s_X0_copyFrom hy) (am_os1 (s_X5_copyFrom hy) am_os0)) am_rv_inv (Nat.le_of_ble_eq_true rfl) (fun At cl wk => by
    have A88 : ∀ n : Nat, ∀ a0 : Nat, ∀ a1 : Nat, ∀ i2 : Int32, ∀ h, l_X6_copyFrom_88 n a0 a1 i2 h = some r → At 88 [(0, .ref a0), (1, .ref a1), (2, .int i2)] [] h := by
      intro n
      induction n with
      | zero => intro a0 a1 i2 h hr; cases hr
      | succ n ih =>
        intro a0 a1 i2 h hr
        exact cl (am_C1 88 (fun ρ st h => am_lda ρ 0 (fun a0 => am_lda ρ 1 (fun a1 => am_ldi ρ 2 (fun i2 => am_st0 st (l_X6_copyFrom_88 n a0 a1 i2 h))))) am_C0) (am_c1 (fun ρ st h hc => by
        obtain ⟨a0, m_a0, hc⟩ := am_lda_some hc
        obtain ⟨a1, m_a1, hc⟩ := am_lda_some hc
        obtain ⟨i2, m_i2, hc⟩ := am_ldi_some hc
        obtain ⟨rfl, hc⟩ := am_st0_some hc
        exact wk 88 ρ [(0, .ref a0), (1, .ref a1), (2, .int i2)] _ h (am_m1 m_a0 (am_m1 m_a1 (am_m1 m_i2 am_m0))) (ih a0 a1 i2 h hc)) am_c0) 400 88 _ _ h hr
    have A60 : ∀ n : Nat, ∀ a0 : Nat, ∀ a1 : Nat, ∀ i2 : Int32, ∀ h, l_X6_copyFrom_60 n a0 a1 i2 h = some r → At 60 [(0, .ref a0), (1, .ref a1), (2, .int i2)] [] h := by
      intro n
      induction n with
      | zero => intro a0 a1 i2 h hr; cases hr
      | succ n ih =>
        intro a0 a1 i2 h hr
        exact cl (am_C1 60 (fun ρ st h => am_lda ρ 0 (fun a0 => am_lda ρ 1 (fun a1 => am_ldi ρ 2 (fun i2 => am_st0 st (l_X6_copyFrom_60 n a0 a1 i2 h))))) (am_C1 88 (fun ρ st h => am_lda ρ 0 (fun a0 => am_lda ρ 1 (fun a1 => am_ldi ρ 2 (fun i2 => am_st0 st (l_X6_copyFrom_88 am_fu a0 a1 i2 h))))) am_C0)) (am_c1 (fun ρ st h hc => by
        obtain ⟨a0, m_a0, hc⟩ := am_lda_some hc
        obtain ⟨a1, m_a1, hc⟩ := am_lda_some hc
        obtain ⟨i2, m_i2, hc⟩ := am_ldi_some hc
        obtain ⟨rfl, hc⟩ := am_st0_some hc
        exact wk 60 ρ [(0, .ref a0), (1, .ref a1), (2, .int i2)] _ h (am_m1 m_a0 (am_m1 m_a1 (am_m1 m_i2 am_m0))) (ih a0 a1 i2 h hc)) (am_c1 (fun ρ st h hc => by
        obtain ⟨a0, m_a0, hc⟩ := am_lda_some hc
        obtain ⟨a1, m_a1, hc⟩ := am_lda_some hc
        obtain ⟨i2, m_i2, hc⟩ := am_ldi_some hc
        obtain ⟨rfl, hc⟩ := am_st0_some hc
        exact wk 88 ρ [(0, .ref a0), (1, .ref a1), (2, .int i2)] _ h (am_m1 m_a0 (am_m1 m_a1 (am_m1 m_i2 am_m0))) (A88 am_fu a0 a1 i2 h hc)) am_c0)) 400 60 _ _ h hr
    have A35 : ∀ n : Nat, ∀ a0 : Nat, ∀ a1 : Nat, ∀ i2 : Int32, ∀ h, l_X6_copyFrom_35 n a0 a1 i2 h = some r → At 35 [(0, .ref a0), (1, .ref a1), (2, .int i2)] [] h := by
      intro n
      induction n with
      | zero => intro a0 a1 i2 h hr; cases hr
      | succ n ih =>
        intro a0 a1 i2 h hr
        exact cl (am_C1 35 (fun ρ st h => am_lda ρ 0 (fun a0 => am_lda ρ 1 (fun a1 => am_ldi ρ 2 (fun i2 => am_st0 st (l_X6_copyFrom_35 n a0 a1 i2 h))))) (am_C1 60 (fun ρ st h => am_lda ρ 0 (fun a0 => am_lda ρ 1 (fun a1 => am_ldi ρ 2 (fun i2 => am_st0 st (l_X6_copyFrom_60 am_fu a0 a1 i2 h))))) am_C0)) (am_c1 (fun ρ st h hc => by
        obtain ⟨a0, m_a0, hc⟩ := am_lda_some hc
        obtain ⟨a1, m_a1, hc⟩ := am_lda_some hc
        obtain ⟨i2, m_i2, hc⟩ := am_ldi_some hc
        obtain ⟨rfl, hc⟩ := am_st0_some hc
        exact wk 35 ρ [(0, .ref a0), (1, .ref a1), (2, .int i2)] _ h (am_m1 m_a0 (am_m1 m_a1 (am_m1 m_i2 am_m0))) (ih a0 a1 i2 h hc)) (am_c1 (fun ρ st h hc => by
        obtain ⟨a0, m_a0, hc⟩ := am_lda_some hc
        obtain ⟨a1, m_a1, hc⟩ := am_lda_some hc
        obtain ⟨i2, m_i2, hc⟩ := am_ldi_some hc
        obtain ⟨rfl, hc⟩ := am_st0_some hc
        exact wk 60 ρ [(0, .ref a0), (1, .ref a1), (2, .int i2)] _ h (am_m1 m_a0 (am_m1 m_a1 (am_m1 m_i2 am_m0))) (A60 am_fu a0 a1 i2 h hc)) am_c0)) 400 35 _ _ h hr
    have A10 : ∀ n : Nat, ∀ a0 : Nat, ∀ a1 : Nat, ∀ i2 : Int32, ∀ h, l_X6_copyFrom_10 n a0 a1 i2 h = some r → At 10 [(0, .ref a0), (1, .ref a1), (2, .int i2)] [] h := by
      intro n
      induction n with
      | zero => intro a0 a1 i2 h hr; cases hr
      | succ n ih =>
        intro a0 a1 i2 h hr
        exact cl (am_C1 10 (fun ρ st h => am_lda ρ 0 (fun a0 => am_lda ρ 1 (fun a1 => am_ldi ρ 2 (fun i2 => am_st0 st (l_X6_copyFrom_10 n a0 a1 i2 h))))) (am_C1 35 (fun ρ st h => am_lda ρ 0 (fun a0 => am_lda ρ 1 (fun a1 => am_ldi ρ 2 (fun i2 => am_st0 st (l_X6_copyFrom_35 am_fu a0 a1 i2 h))))) am_C0)) (am_c1 (fun ρ st h hc => by
        obtain ⟨a0, m_a0, hc⟩ := am_lda_some hc
        obtain ⟨a1, m_a1, hc⟩ := am_lda_some hc
        obtain ⟨i2, m_i2, hc⟩ := am_ldi_some hc
        obtain ⟨rfl, hc⟩ := am_st0_some hc
        exact wk 10 ρ [(0, .ref a0), (1, .ref a1), (2, .int i2)] _ h (am_m1 m_a0 (am_m1 m_a1 (am_m1 m_i2 am_m0))) (ih a0 a1 i2 h hc)) (am_c1 (fun ρ st h hc => by
        obtain ⟨a0, m_a0, hc⟩ := am_lda_some hc
        obtain ⟨a1, m_a1, hc⟩ := am_lda_some hc
        obtain ⟨i2, m_i2, hc⟩ := am_ldi_some hc
        obtain ⟨rfl, hc⟩ := am_st0_some hc
        exact wk 35 ρ [(0, .ref a0), (1, .ref a1), (2, .int i2)] _ h (am_m1 m_a0 (am_m1 m_a1 (am_m1 m_i2 am_m0))) (A35 am_fu a0 a1 i2 h hc)) am_c0)) 400 10 _ _ h hr
    exact cl (am_C1 10 (fun ρ st h => am_lda ρ 0 (fun a0 => am_lda ρ 1 (fun a1 => am_ldi ρ 2 (fun i2 => am_st0 st (l_X6_copyFrom_10 am_fu a0 a1 i2 h))))) am_C0) (am_c1 (fun ρ st h hc => by
        obtain ⟨a0, m_a0, hc⟩ := am_lda_some hc
        obtain ⟨a1, m_a1, hc⟩ := am_lda_some hc
        obtain ⟨i2, m_i2, hc⟩ := am_ldi_some hc
        obtain ⟨rfl, hc⟩ := am_st0_some hc
        exact wk 10 ρ [(0, .ref a0), (1, .ref a1), (2, .int i2)] _ h (am_m1 m_a0 (am_m1 m_a1 (am_m1 m_i2 am_m0))) (A10 am_fu a0 a1 i2 h hc)) am_c0) 400 0 _ _ h hf)
theorem s_X6_copyFrom {l : Launch} {al : Nat → Nat} {dC : Nat → ClassId} {dI : Nat → Nat → Nat} {aC : Nat → ClassId} {aV : Nat → Nat} (hy : am_Hy l al) : am_CS l al dC dI aC aV 45 c_X6_copyFrom := by
  intro γ as h kk g hc
  obtain ⟨a0, w0, rfl, hc⟩ := am_sa_some hc
  obtain ⟨a1, w1, rfl, hc⟩ := am_sa_some hc
  obtain ⟨rfl, hc⟩ := am_st0_some hc
  obtain ⟨q, e1, e2⟩ := am_bi_some hc
  exact ⟨_, _, m_X6_copyFrom hy a0 a1 h _ e1, e2⟩

def f_X2_keep (a1 : Nat) (h : am_Hp) : Option (Unit × am_Hp) :=
  am_bi (f_J9_floorMod_7cf53 (h 39 1) (8 : Int32) h) (fun x2 h1 =>
  bif am_in x2 8 then (am_G 40 x2.toNatClampNeg).bind (fun b3 => bif am_isO b3 6 then am_bi (f_X6_copyFrom b3 a1 h1) (fun _ h4 =>
  am_bi (f_J9_floorMod_7cf53 ((h4 39 1) + (1 : Int32)) (8 : Int32) h4) (fun x6 h5 =>
  let h7 := am_pi h5 39 1 x6
  let h8 := am_pi h7 39 2 (if (8 : Int32) < ((h7 39 2) + (1 : Int32)) then (8 : Int32) else (h7 39 2) + (1 : Int32))
  some ((), h8))) else none) else none)
def c_X2_keep : am_Cl := fun _ as h kk => am_sa as (fun z w0 => bif Nat.beq z 39 then am_sa w0 (fun a1 w1 => am_st0 w1 (am_bi (f_X2_keep a1 h) (fun v h => kk (am_ov v) h))) else none)
def o_X2_keep : am_Orc := (am_oc 2 c_J9_floorMod_7cf53 (am_oc 45 c_X6_copyFrom am_o0))
set_option maxRecDepth 100000 in
theorem tok_X2_keep : am_tok 14 tX2_keep := by
  unfold am_tok
  decide +kernel
set_option maxHeartbeats 4000000 in
set_option maxRecDepth 100000 in
theorem m_X2_keep {l : Launch} {al : Nat → Nat} {dC : Nat → ClassId} {dI : Nat → Nat → Nat} {aC : Nat → ClassId} {aV : Nat → Nat} (hy : am_Hy l al) (a1 : Nat) (h : am_Hp) (r : (Unit × am_Hp)) (hf : f_X2_keep a1 h = some r) : am_Met l al dC dI aC aV 14 [.ref 39, .ref a1] h (am_ov r.1) r.2 :=
  am_met (tab := tX2_keep) (orc := o_X2_keep) (ret := am_rv) (g := r) (by decide) (by decide) hy.1 hy.2 tok_X2_keep (am_os1 (s_J9_floorMod_7cf53 hy) (am_os1 (s_X6_copyFrom hy) am_os0)) am_rv_inv (Nat.le_of_ble_eq_true rfl) (fun At cl wk => by
    skip
    exact cl am_C0 am_c0 400 0 _ _ h hf)
theorem s_X2_keep {l : Launch} {al : Nat → Nat} {dC : Nat → ClassId} {dI : Nat → Nat → Nat} {aC : Nat → ClassId} {aV : Nat → Nat} (hy : am_Hy l al) : am_CS l al dC dI aC aV 14 c_X2_keep := by
  intro γ as h kk g hc
  obtain ⟨z, w0, rfl, hc⟩ := am_sa_some hc
  obtain ⟨hz, hc⟩ := am_bif hc
  cases Nat.eq_of_beq_eq_true hz
  obtain ⟨a1, w1, rfl, hc⟩ := am_sa_some hc
  obtain ⟨rfl, hc⟩ := am_st0_some hc
  obtain ⟨q, e1, e2⟩ := am_bi_some hc
  exact ⟨_, _, m_X2_keep hy a1 h _ e1, e2⟩

def f_X2_takeBack (a1 : Nat) (h : am_Hp) : Option (Unit × am_Hp) :=
  (if (h 39 2) ≤ 0 then
    some ((), h)
  else
    let h1 := am_pi h 39 2 ((h 39 2) - (1 : Int32))
    am_bi (f_J9_floorMod_7cf53 ((h1 39 1) - (1 : Int32)) (8 : Int32) h1) (fun x3 h2 =>
    let h4 := am_pi h2 39 1 x3
    bif am_in (h4 39 1) 8 then (am_G 40 (h4 39 1).toNatClampNeg).bind (fun b5 => bif am_isO a1 6 then am_bi (f_X6_copyFrom a1 b5 h4) (fun _ h6 =>
    some ((), h6)) else none) else none))
def c_X2_takeBack : am_Cl := fun _ as h kk => am_sa as (fun z w0 => bif Nat.beq z 39 then am_sa w0 (fun a1 w1 => am_st0 w1 (am_bi (f_X2_takeBack a1 h) (fun v h => kk (am_ov v) h))) else none)
def o_X2_takeBack : am_Orc := (am_oc 2 c_J9_floorMod_7cf53 (am_oc 45 c_X6_copyFrom am_o0))
set_option maxRecDepth 100000 in
theorem tok_X2_takeBack : am_tok 15 tX2_takeBack := by
  unfold am_tok
  decide +kernel
set_option maxHeartbeats 4000000 in
set_option maxRecDepth 100000 in
theorem m_X2_takeBack {l : Launch} {al : Nat → Nat} {dC : Nat → ClassId} {dI : Nat → Nat → Nat} {aC : Nat → ClassId} {aV : Nat → Nat} (hy : am_Hy l al) (a1 : Nat) (h : am_Hp) (r : (Unit × am_Hp)) (hf : f_X2_takeBack a1 h = some r) : am_Met l al dC dI aC aV 15 [.ref 39, .ref a1] h (am_ov r.1) r.2 :=
  am_met (tab := tX2_takeBack) (orc := o_X2_takeBack) (ret := am_rv) (g := r) (by decide) (by decide) hy.1 hy.2 tok_X2_takeBack (am_os1 (s_J9_floorMod_7cf53 hy) (am_os1 (s_X6_copyFrom hy) am_os0)) am_rv_inv (Nat.le_of_ble_eq_true rfl) (fun At cl wk => by
    skip
    exact cl am_C0 am_c0 400 0 _ _ h hf)
theorem s_X2_takeBack {l : Launch} {al : Nat → Nat} {dC : Nat → ClassId} {dI : Nat → Nat → Nat} {aC : Nat → ClassId} {aV : Nat → Nat} (hy : am_Hy l al) : am_CS l al dC dI aC aV 15 c_X2_takeBack := by
  intro γ as h kk g hc
  obtain ⟨z, w0, rfl, hc⟩ := am_sa_some hc
  obtain ⟨hz, hc⟩ := am_bif hc
  cases Nat.eq_of_beq_eq_true hz
  obtain ⟨a1, w1, rfl, hc⟩ := am_sa_some hc
  obtain ⟨rfl, hc⟩ := am_st0_some hc
  obtain ⟨q, e1, e2⟩ := am_bi_some hc
  exact ⟨_, _, m_X2_takeBack hy a1 h _ e1, e2⟩

def f_X2_forget  (h : am_Hp) : Option (Unit × am_Hp) :=
  let h1 := am_pi h 39 2 (0 : Int32)
  some ((), h1)
def c_X2_forget : am_Cl := fun _ as h kk => am_sa as (fun z w0 => bif Nat.beq z 39 then am_st0 w0 (am_bi (f_X2_forget  h) (fun v h => kk (am_ov v) h)) else none)
def o_X2_forget : am_Orc := am_o0
set_option maxRecDepth 100000 in
theorem tok_X2_forget : am_tok 16 tX2_forget := by
  unfold am_tok
  decide +kernel
set_option maxHeartbeats 4000000 in
set_option maxRecDepth 100000 in
theorem m_X2_forget {l : Launch} {al : Nat → Nat} {dC : Nat → ClassId} {dI : Nat → Nat → Nat} {aC : Nat → ClassId} {aV : Nat → Nat} (hy : am_Hy l al)  (h : am_Hp) (r : (Unit × am_Hp)) (hf : f_X2_forget  h = some r) : am_Met l al dC dI aC aV 16 [.ref 39] h (am_ov r.1) r.2 :=
  am_met (tab := tX2_forget) (orc := o_X2_forget) (ret := am_rv) (g := r) (by decide) (by decide) hy.1 hy.2 tok_X2_forget am_os0 am_rv_inv (Nat.le_of_ble_eq_true rfl) (fun At cl wk => by
    skip
    exact cl am_C0 am_c0 400 0 _ _ h hf)
theorem s_X2_forget {l : Launch} {al : Nat → Nat} {dC : Nat → ClassId} {dI : Nat → Nat → Nat} {aC : Nat → ClassId} {aV : Nat → Nat} (hy : am_Hy l al) : am_CS l al dC dI aC aV 16 c_X2_forget := by
  intro γ as h kk g hc
  obtain ⟨z, w0, rfl, hc⟩ := am_sa_some hc
  obtain ⟨hz, hc⟩ := am_bif hc
  cases Nat.eq_of_beq_eq_true hz
  obtain ⟨rfl, hc⟩ := am_st0_some hc
  obtain ⟨q, e1, e2⟩ := am_bi_some hc
  exact ⟨_, _, m_X2_forget hy  h _ e1, e2⟩

def f_X3_number (a0 : Nat) (i1 : Int32) (i2 : Int32) (h : am_Hp) : Option (Int32 × am_Hp) :=
  (if i1 < 0 then
    some ((0 : Int32), h)
  else
    (if (5 : Int32) ≤ i1 then
      some ((0 : Int32), h)
    else
      (if i2 < 0 then
        some ((0 : Int32), h)
      else
        (if i2 < (300 : Int32) then
          bif am_isO a0 3 then (am_G a0 0).bind (fun b1 => bif am_isA b1 && am_in i1 (am_len b1) then (am_G b1 i1.toNatClampNeg).bind (fun b2 => bif am_in i2 (am_len b2) then (bif am_isI b2 then some (h b2 i2.toNatClampNeg, h) else bif am_isF b2 then some (am_sx b2 i2.toNatClampNeg, h) else none) else none) else none) else none
        else
          some ((0 : Int32), h)))))
def c_X3_number : am_Cl := fun _ as h kk => am_sa as (fun a0 w0 => am_s1 w0 (fun i1 w1 => am_s1 w1 (fun i2 w2 => am_st0 w2 (am_bi (f_X3_number a0 i1 i2 h) (fun v h => kk (am_oi v) h)))))
def o_X3_number : am_Orc := am_o0
set_option maxRecDepth 100000 in
theorem tok_X3_number : am_tok 17 tX3_number := by
  unfold am_tok
  decide +kernel
set_option maxHeartbeats 4000000 in
set_option maxRecDepth 100000 in
theorem m_X3_number {l : Launch} {al : Nat → Nat} {dC : Nat → ClassId} {dI : Nat → Nat → Nat} {aC : Nat → ClassId} {aV : Nat → Nat} (hy : am_Hy l al) (a0 : Nat) (i1 : Int32) (i2 : Int32) (h : am_Hp) (r : (Int32 × am_Hp)) (hf : f_X3_number a0 i1 i2 h = some r) : am_Met l al dC dI aC aV 17 [.ref a0, .int i1, .int i2] h (am_oi r.1) r.2 :=
  am_met (tab := tX3_number) (orc := o_X3_number) (ret := am_ri) (g := r) (by decide) (by decide) hy.1 hy.2 tok_X3_number am_os0 am_ri_inv (Nat.le_of_ble_eq_true rfl) (fun At cl wk => by
    skip
    exact cl am_C0 am_c0 400 0 _ _ h hf)
theorem s_X3_number {l : Launch} {al : Nat → Nat} {dC : Nat → ClassId} {dI : Nat → Nat → Nat} {aC : Nat → ClassId} {aV : Nat → Nat} (hy : am_Hy l al) : am_CS l al dC dI aC aV 17 c_X3_number := by
  intro γ as h kk g hc
  obtain ⟨a0, w0, rfl, hc⟩ := am_sa_some hc
  obtain ⟨i1, w1, rfl, hc⟩ := am_s1_some hc
  obtain ⟨i2, w2, rfl, hc⟩ := am_s1_some hc
  obtain ⟨rfl, hc⟩ := am_st0_some hc
  obtain ⟨q, e1, e2⟩ := am_bi_some hc
  exact ⟨_, _, m_X3_number hy a0 i1 i2 h _ e1, e2⟩

def f_X3_put (a0 : Nat) (i1 : Int32) (i2 : Int32) (i3 : Int32) (i4 : Int32) (h : am_Hp) : Option (Unit × am_Hp) :=
  (if i1 < 0 then
    some ((), h)
  else
    (if (300 : Int32) ≤ i1 then
      some ((), h)
    else
      bif am_isO a0 3 then (am_G a0 0).bind (fun b1 => bif am_isA b1 && am_in (0 : Int32) (am_len b1) then (am_G b1 0).bind (fun b2 => bif am_isI b2 && am_in i1 (am_len b2) then (let h3 := am_pi h b2 i1.toNatClampNeg i2
      bif am_isO a0 3 then (am_G a0 0).bind (fun b4 => bif am_isA b4 && am_in (1 : Int32) (am_len b4) then (am_G b4 1).bind (fun b5 => bif am_isI b5 && am_in i1 (am_len b5) then (let h6 := am_pi h3 b5 i1.toNatClampNeg i3
      bif am_isO a0 3 then (am_G a0 0).bind (fun b7 => bif am_isA b7 && am_in (2 : Int32) (am_len b7) then (am_G b7 2).bind (fun b8 => bif am_isI b8 && am_in i1 (am_len b8) then (let h9 := am_pi h6 b8 i1.toNatClampNeg i4
      some ((), h9)) else none) else none) else none) else none) else none) else none) else none) else none) else none))
def c_X3_put : am_Cl := fun _ as h kk => am_sa as (fun a0 w0 => am_s1 w0 (fun i1 w1 => am_s1 w1 (fun i2 w2 => am_s1 w2 (fun i3 w3 => am_s1 w3 (fun i4 w4 => am_st0 w4 (am_bi (f_X3_put a0 i1 i2 i3 i4 h) (fun v h => kk (am_ov v) h)))))))
def o_X3_put : am_Orc := am_o0
set_option maxRecDepth 100000 in
theorem tok_X3_put : am_tok 22 tX3_put := by
  unfold am_tok
  decide +kernel
set_option maxHeartbeats 4000000 in
set_option maxRecDepth 100000 in
theorem m_X3_put {l : Launch} {al : Nat → Nat} {dC : Nat → ClassId} {dI : Nat → Nat → Nat} {aC : Nat → ClassId} {aV : Nat → Nat} (hy : am_Hy l al) (a0 : Nat) (i1 : Int32) (i2 : Int32) (i3 : Int32) (i4 : Int32) (h : am_Hp) (r : (Unit × am_Hp)) (hf : f_X3_put a0 i1 i2 i3 i4 h = some r) : am_Met l al dC dI aC aV 22 [.ref a0, .int i1, .int i2, .int i3, .int i4] h (am_ov r.1) r.2 :=
  am_met (tab := tX3_put) (orc := o_X3_put) (ret := am_rv) (g := r) (by decide) (by decide) hy.1 hy.2 tok_X3_put am_os0 am_rv_inv (Nat.le_of_ble_eq_true rfl) (fun At cl wk => by
    skip
    exact cl am_C0 am_c0 400 0 _ _ h hf)
theorem s_X3_put {l : Launch} {al : Nat → Nat} {dC : Nat → ClassId} {dI : Nat → Nat → Nat} {aC : Nat → ClassId} {aV : Nat → Nat} (hy : am_Hy l al) : am_CS l al dC dI aC aV 22 c_X3_put := by
  intro γ as h kk g hc
  obtain ⟨a0, w0, rfl, hc⟩ := am_sa_some hc
  obtain ⟨i1, w1, rfl, hc⟩ := am_s1_some hc
  obtain ⟨i2, w2, rfl, hc⟩ := am_s1_some hc
  obtain ⟨i3, w3, rfl, hc⟩ := am_s1_some hc
  obtain ⟨i4, w4, rfl, hc⟩ := am_s1_some hc
  obtain ⟨rfl, hc⟩ := am_st0_some hc
  obtain ⟨q, e1, e2⟩ := am_bi_some hc
  exact ⟨_, _, m_X3_put hy a0 i1 i2 i3 i4 h _ e1, e2⟩

def f_X3_putOrigin (a0 : Nat) (i1 : Int32) (i2 : Int32) (i3 : Int32) (h : am_Hp) : Option (Unit × am_Hp) :=
  (if i1 < 0 then
    some ((), h)
  else
    (if (300 : Int32) ≤ i1 then
      some ((), h)
    else
      bif am_isO a0 3 then (am_G a0 0).bind (fun b1 => bif am_isA b1 && am_in (3 : Int32) (am_len b1) then (am_G b1 3).bind (fun b2 => bif am_isI b2 && am_in i1 (am_len b2) then (let h3 := am_pi h b2 i1.toNatClampNeg i2
      bif am_isO a0 3 then (am_G a0 0).bind (fun b4 => bif am_isA b4 && am_in (4 : Int32) (am_len b4) then (am_G b4 4).bind (fun b5 => bif am_isI b5 && am_in i1 (am_len b5) then (let h6 := am_pi h3 b5 i1.toNatClampNeg i3
      some ((), h6)) else none) else none) else none) else none) else none) else none))
def c_X3_putOrigin : am_Cl := fun _ as h kk => am_sa as (fun a0 w0 => am_s1 w0 (fun i1 w1 => am_s1 w1 (fun i2 w2 => am_s1 w2 (fun i3 w3 => am_st0 w3 (am_bi (f_X3_putOrigin a0 i1 i2 i3 h) (fun v h => kk (am_ov v) h))))))
def o_X3_putOrigin : am_Orc := am_o0
set_option maxRecDepth 100000 in
theorem tok_X3_putOrigin : am_tok 23 tX3_putOrigin := by
  unfold am_tok
  decide +kernel
set_option maxHeartbeats 4000000 in
set_option maxRecDepth 100000 in
theorem m_X3_putOrigin {l : Launch} {al : Nat → Nat} {dC : Nat → ClassId} {dI : Nat → Nat → Nat} {aC : Nat → ClassId} {aV : Nat → Nat} (hy : am_Hy l al) (a0 : Nat) (i1 : Int32) (i2 : Int32) (i3 : Int32) (h : am_Hp) (r : (Unit × am_Hp)) (hf : f_X3_putOrigin a0 i1 i2 i3 h = some r) : am_Met l al dC dI aC aV 23 [.ref a0, .int i1, .int i2, .int i3] h (am_ov r.1) r.2 :=
  am_met (tab := tX3_putOrigin) (orc := o_X3_putOrigin) (ret := am_rv) (g := r) (by decide) (by decide) hy.1 hy.2 tok_X3_putOrigin am_os0 am_rv_inv (Nat.le_of_ble_eq_true rfl) (fun At cl wk => by
    skip
    exact cl am_C0 am_c0 400 0 _ _ h hf)
theorem s_X3_putOrigin {l : Launch} {al : Nat → Nat} {dC : Nat → ClassId} {dI : Nat → Nat → Nat} {aC : Nat → ClassId} {aV : Nat → Nat} (hy : am_Hy l al) : am_CS l al dC dI aC aV 23 c_X3_putOrigin := by
  intro γ as h kk g hc
  obtain ⟨a0, w0, rfl, hc⟩ := am_sa_some hc
  obtain ⟨i1, w1, rfl, hc⟩ := am_s1_some hc
  obtain ⟨i2, w2, rfl, hc⟩ := am_s1_some hc
  obtain ⟨i3, w3, rfl, hc⟩ := am_s1_some hc
  obtain ⟨rfl, hc⟩ := am_st0_some hc
  obtain ⟨q, e1, e2⟩ := am_bi_some hc
  exact ⟨_, _, m_X3_putOrigin hy a0 i1 i2 i3 h _ e1, e2⟩

def f_X3_putTyped (a0 : Nat) (i1 : Int32) (i2 : Int32) (i3 : Int32) (i4 : Int32) (h : am_Hp) : Option (Unit × am_Hp) :=
  bif am_isO a0 3 then am_bi (f_X3_put a0 i1 (0 : Int32) i2 (0 : Int32) h) (fun _ h1 =>
  bif am_isO a0 3 then am_bi (f_X3_putOrigin a0 i1 i3 i4 h1) (fun _ h2 =>
  some ((), h2)) else none) else none
def c_X3_putTyped : am_Cl := fun _ as h kk => am_sa as (fun a0 w0 => am_s1 w0 (fun i1 w1 => am_s1 w1 (fun i2 w2 => am_s1 w2 (fun i3 w3 => am_s1 w3 (fun i4 w4 => am_st0 w4 (am_bi (f_X3_putTyped a0 i1 i2 i3 i4 h) (fun v h => kk (am_ov v) h)))))))
def o_X3_putTyped : am_Orc := (am_oc 22 c_X3_put (am_oc 23 c_X3_putOrigin am_o0))
set_option maxRecDepth 100000 in
theorem tok_X3_putTyped : am_tok 18 tX3_putTyped := by
  unfold am_tok
  decide +kernel
set_option maxHeartbeats 4000000 in
set_option maxRecDepth 100000 in
theorem m_X3_putTyped {l : Launch} {al : Nat → Nat} {dC : Nat → ClassId} {dI : Nat → Nat → Nat} {aC : Nat → ClassId} {aV : Nat → Nat} (hy : am_Hy l al) (a0 : Nat) (i1 : Int32) (i2 : Int32) (i3 : Int32) (i4 : Int32) (h : am_Hp) (r : (Unit × am_Hp)) (hf : f_X3_putTyped a0 i1 i2 i3 i4 h = some r) : am_Met l al dC dI aC aV 18 [.ref a0, .int i1, .int i2, .int i3, .int i4] h (am_ov r.1) r.2 :=
  am_met (tab := tX3_putTyped) (orc := o_X3_putTyped) (ret := am_rv) (g := r) (by decide) (by decide) hy.1 hy.2 tok_X3_putTyped (am_os1 (s_X3_put hy) (am_os1 (s_X3_putOrigin hy) am_os0)) am_rv_inv (Nat.le_of_ble_eq_true rfl) (fun At cl wk => by
    skip
    exact cl am_C0 am_c0 400 0 _ _ h hf)
theorem s_X3_putTyped {l : Launch} {al : Nat → Nat} {dC : Nat → ClassId} {dI : Nat → Nat → Nat} {aC : Nat → ClassId} {aV : Nat → Nat} (hy : am_Hy l al) : am_CS l al dC dI aC aV 18 c_X3_putTyped := by
  intro γ as h kk g hc
  obtain ⟨a0, w0, rfl, hc⟩ := am_sa_some hc
  obtain ⟨i1, w1, rfl, hc⟩ := am_s1_some hc
  obtain ⟨i2, w2, rfl, hc⟩ := am_s1_some hc
  obtain ⟨i3, w3, rfl, hc⟩ := am_s1_some hc
  obtain ⟨i4, w4, rfl, hc⟩ := am_s1_some hc
  obtain ⟨rfl, hc⟩ := am_st0_some hc
  obtain ⟨q, e1, e2⟩ := am_bi_some hc
  exact ⟨_, _, m_X3_putTyped hy a0 i1 i2 i3 i4 h _ e1, e2⟩

def f_X3_putSized (a0 : Nat) (i1 : Int32) (i2 : Int32) (i3 : Int32) (i4 : Int32) (h : am_Hp) : Option (Unit × am_Hp) :=
  bif am_isO a0 3 then am_bi (f_X3_put a0 i1 (1 : Int32) i2 i3 h) (fun _ h1 =>
  bif am_isO a0 3 then am_bi (f_X3_putOrigin a0 i1 i4 (-1 : Int32) h1) (fun _ h2 =>
  some ((), h2)) else none) else none
def c_X3_putSized : am_Cl := fun _ as h kk => am_sa as (fun a0 w0 => am_s1 w0 (fun i1 w1 => am_s1 w1 (fun i2 w2 => am_s1 w2 (fun i3 w3 => am_s1 w3 (fun i4 w4 => am_st0 w4 (am_bi (f_X3_putSized a0 i1 i2 i3 i4 h) (fun v h => kk (am_ov v) h)))))))
def o_X3_putSized : am_Orc := (am_oc 22 c_X3_put (am_oc 23 c_X3_putOrigin am_o0))
set_option maxRecDepth 100000 in
theorem tok_X3_putSized : am_tok 19 tX3_putSized := by
  unfold am_tok
  decide +kernel
set_option maxHeartbeats 4000000 in
set_option maxRecDepth 100000 in
theorem m_X3_putSized {l : Launch} {al : Nat → Nat} {dC : Nat → ClassId} {dI : Nat → Nat → Nat} {aC : Nat → ClassId} {aV : Nat → Nat} (hy : am_Hy l al) (a0 : Nat) (i1 : Int32) (i2 : Int32) (i3 : Int32) (i4 : Int32) (h : am_Hp) (r : (Unit × am_Hp)) (hf : f_X3_putSized a0 i1 i2 i3 i4 h = some r) : am_Met l al dC dI aC aV 19 [.ref a0, .int i1, .int i2, .int i3, .int i4] h (am_ov r.1) r.2 :=
  am_met (tab := tX3_putSized) (orc := o_X3_putSized) (ret := am_rv) (g := r) (by decide) (by decide) hy.1 hy.2 tok_X3_putSized (am_os1 (s_X3_put hy) (am_os1 (s_X3_putOrigin hy) am_os0)) am_rv_inv (Nat.le_of_ble_eq_true rfl) (fun At cl wk => by
    skip
    exact cl am_C0 am_c0 400 0 _ _ h hf)
theorem s_X3_putSized {l : Launch} {al : Nat → Nat} {dC : Nat → ClassId} {dI : Nat → Nat → Nat} {aC : Nat → ClassId} {aV : Nat → Nat} (hy : am_Hy l al) : am_CS l al dC dI aC aV 19 c_X3_putSized := by
  intro γ as h kk g hc
  obtain ⟨a0, w0, rfl, hc⟩ := am_sa_some hc
  obtain ⟨i1, w1, rfl, hc⟩ := am_s1_some hc
  obtain ⟨i2, w2, rfl, hc⟩ := am_s1_some hc
  obtain ⟨i3, w3, rfl, hc⟩ := am_s1_some hc
  obtain ⟨i4, w4, rfl, hc⟩ := am_s1_some hc
  obtain ⟨rfl, hc⟩ := am_st0_some hc
  obtain ⟨q, e1, e2⟩ := am_bi_some hc
  exact ⟨_, _, m_X3_putSized hy a0 i1 i2 i3 i4 h _ e1, e2⟩

def f_X3_timeBetween (a0 : Nat) (i1 : Int32) (i2 : Int32) (h : am_Hp) : Option (Int32 × am_Hp) :=
  bif am_isO a0 3 then am_bi (f_X3_number a0 (3 : Int32) i2 h) (fun x2 h1 =>
  bif am_isO a0 3 then am_bi (f_X3_number a0 (3 : Int32) i1 h1) (fun x4 h3 =>
  some (x2 - x4, h3)) else none) else none
def c_X3_timeBetween : am_Cl := fun _ as h kk => am_sa as (fun a0 w0 => am_s1 w0 (fun i1 w1 => am_s1 w1 (fun i2 w2 => am_st0 w2 (am_bi (f_X3_timeBetween a0 i1 i2 h) (fun v h => kk (am_oi v) h)))))
def o_X3_timeBetween : am_Orc := (am_oc 17 c_X3_number am_o0)
set_option maxRecDepth 100000 in
theorem tok_X3_timeBetween : am_tok 20 tX3_timeBetween := by
  unfold am_tok
  decide +kernel
set_option maxHeartbeats 4000000 in
set_option maxRecDepth 100000 in
theorem m_X3_timeBetween {l : Launch} {al : Nat → Nat} {dC : Nat → ClassId} {dI : Nat → Nat → Nat} {aC : Nat → ClassId} {aV : Nat → Nat} (hy : am_Hy l al) (a0 : Nat) (i1 : Int32) (i2 : Int32) (h : am_Hp) (r : (Int32 × am_Hp)) (hf : f_X3_timeBetween a0 i1 i2 h = some r) : am_Met l al dC dI aC aV 20 [.ref a0, .int i1, .int i2] h (am_oi r.1) r.2 :=
  am_met (tab := tX3_timeBetween) (orc := o_X3_timeBetween) (ret := am_ri) (g := r) (by decide) (by decide) hy.1 hy.2 tok_X3_timeBetween (am_os1 (s_X3_number hy) am_os0) am_ri_inv (Nat.le_of_ble_eq_true rfl) (fun At cl wk => by
    skip
    exact cl am_C0 am_c0 400 0 _ _ h hf)
theorem s_X3_timeBetween {l : Launch} {al : Nat → Nat} {dC : Nat → ClassId} {dI : Nat → Nat → Nat} {aC : Nat → ClassId} {aV : Nat → Nat} (hy : am_Hy l al) : am_CS l al dC dI aC aV 20 c_X3_timeBetween := by
  intro γ as h kk g hc
  obtain ⟨a0, w0, rfl, hc⟩ := am_sa_some hc
  obtain ⟨i1, w1, rfl, hc⟩ := am_s1_some hc
  obtain ⟨i2, w2, rfl, hc⟩ := am_s1_some hc
  obtain ⟨rfl, hc⟩ := am_st0_some hc
  obtain ⟨q, e1, e2⟩ := am_bi_some hc
  exact ⟨_, _, m_X3_timeBetween hy a0 i1 i2 h _ e1, e2⟩
