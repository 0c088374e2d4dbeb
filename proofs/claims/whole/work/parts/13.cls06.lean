def f_X4_symbolInLine (N : Nat) (a0 : Nat) (i1 : Int32) (i2 : Int32) (h : am_Hp) : Option (Int32 × am_Hp) :=
  (if i1 < 0 then
    some ((27 : Int32), h)
  else
    bif am_isO a0 4 then bif am_isO a0 4 then (if ((h a0 2) + (h a0 4)) ≤ i1 then
      some ((27 : Int32), h)
    else
      (if i2 < 0 then
        some ((27 : Int32), h)
      else
        (if i2 < (16 : Int32) then
          bif am_isO a0 4 then (am_G a0 0).bind (fun b1 => bif am_isO a0 4 then am_bi (f_X4_startOf N a0 i1 h) (fun x3 h2 =>
          bif am_in (x3 + i2) (am_len b1) then (bif am_isI b1 then some (h2 b1 (x3 + i2).toNatClampNeg, h2) else bif am_isF b1 then some (am_sx b1 (x3 + i2).toNatClampNeg, h2) else none) else none) else none) else none
        else
          some ((27 : Int32), h)))) else none else none)
def c_X4_symbolInLine (N : Nat) : am_Cl := fun _ as h kk => am_sa as (fun a0 w0 => am_s1 w0 (fun i1 w1 => am_s1 w1 (fun i2 w2 => am_st0 w2 (am_bi (f_X4_symbolInLine N a0 i1 i2 h) (fun v h => kk (am_oi v) h)))))
def o_X4_symbolInLine (N : Nat) : am_Orc := (am_oc 39 (c_X4_startOf N) am_o0)
set_option maxRecDepth 100000 in
theorem tok_X4_symbolInLine : am_tok 26 tX4_symbolInLine := by
  unfold am_tok
  decide +kernel
set_option maxHeartbeats 4000000 in
set_option maxRecDepth 100000 in
theorem m_X4_symbolInLine {l : Launch} {al : Nat → Nat} {dC : Nat → ClassId} {dI : Nat → Nat → Nat} {aC : Nat → ClassId} {aV : Nat → Nat} (hy : am_Hy l al) (N : Nat) (a0 : Nat) (i1 : Int32) (i2 : Int32) (h : am_Hp) (r : (Int32 × am_Hp)) (hf : f_X4_symbolInLine N a0 i1 i2 h = some r) : am_Met l al dC dI aC aV 26 [.ref a0, .int i1, .int i2] h (am_oi r.1) r.2 :=
  am_met (tab := tX4_symbolInLine) (orc := o_X4_symbolInLine N) (ret := am_ri) (g := r) (by decide) (by decide) hy.1 hy.2 tok_X4_symbolInLine (am_os1 (s_X4_startOf hy N) am_os0) am_ri_inv (Nat.le_of_ble_eq_true rfl) (fun At cl wk => by
    skip
    exact cl am_C0 am_c0 400 0 _ _ h hf)
theorem s_X4_symbolInLine {l : Launch} {al : Nat → Nat} {dC : Nat → ClassId} {dI : Nat → Nat → Nat} {aC : Nat → ClassId} {aV : Nat → Nat} (hy : am_Hy l al) (N : Nat) : am_CS l al dC dI aC aV 26 (c_X4_symbolInLine N) := by
  intro γ as h kk g hc0
  obtain ⟨a0, w0, e_0, hc1⟩ := am_sa_some hc0
  obtain ⟨i1, w1, e_1, hc2⟩ := am_s1_some hc1
  obtain ⟨i2, w2, e_2, hc3⟩ := am_s1_some hc2
  obtain ⟨e_3, hc⟩ := am_st0_some hc3
  subst e_3
  subst e_2
  subst e_1
  subst e_0
  obtain ⟨q, e1, e2⟩ := am_bi_some hc
  exact ⟨_, _, m_X4_symbolInLine hy N a0 i1 i2 h _ e1, e2⟩

def f_X4_symbolOnScreen (N : Nat) (a0 : Nat) (i1 : Int32) (i2 : Int32) (h : am_Hp) : Option (Int32 × am_Hp) :=
  bif am_isO a0 4 then bif am_isO a0 4 then am_bi (f_X4_symbolInLine N a0 ((h a0 2) + i1) i2 h) (fun x2 h1 =>
  some (x2, h1)) else none else none
def c_X4_symbolOnScreen (N : Nat) : am_Cl := fun _ as h kk => am_sa as (fun a0 w0 => am_s1 w0 (fun i1 w1 => am_s1 w1 (fun i2 w2 => am_st0 w2 (am_bi (f_X4_symbolOnScreen N a0 i1 i2 h) (fun v h => kk (am_oi v) h)))))
def o_X4_symbolOnScreen (N : Nat) : am_Orc := (am_oc 26 (c_X4_symbolInLine N) am_o0)
set_option maxRecDepth 100000 in
theorem tok_X4_symbolOnScreen : am_tok 27 tX4_symbolOnScreen := by
  unfold am_tok
  decide +kernel
set_option maxHeartbeats 4000000 in
set_option maxRecDepth 100000 in
theorem m_X4_symbolOnScreen {l : Launch} {al : Nat → Nat} {dC : Nat → ClassId} {dI : Nat → Nat → Nat} {aC : Nat → ClassId} {aV : Nat → Nat} (hy : am_Hy l al) (N : Nat) (a0 : Nat) (i1 : Int32) (i2 : Int32) (h : am_Hp) (r : (Int32 × am_Hp)) (hf : f_X4_symbolOnScreen N a0 i1 i2 h = some r) : am_Met l al dC dI aC aV 27 [.ref a0, .int i1, .int i2] h (am_oi r.1) r.2 :=
  am_met (tab := tX4_symbolOnScreen) (orc := o_X4_symbolOnScreen N) (ret := am_ri) (g := r) (by decide) (by decide) hy.1 hy.2 tok_X4_symbolOnScreen (am_os1 (s_X4_symbolInLine hy N) am_os0) am_ri_inv (Nat.le_of_ble_eq_true rfl) (fun At cl wk => by
    skip
    exact cl am_C0 am_c0 400 0 _ _ h hf)
theorem s_X4_symbolOnScreen {l : Launch} {al : Nat → Nat} {dC : Nat → ClassId} {dI : Nat → Nat → Nat} {aC : Nat → ClassId} {aV : Nat → Nat} (hy : am_Hy l al) (N : Nat) : am_CS l al dC dI aC aV 27 (c_X4_symbolOnScreen N) := by
  intro γ as h kk g hc0
  obtain ⟨a0, w0, e_0, hc1⟩ := am_sa_some hc0
  obtain ⟨i1, w1, e_1, hc2⟩ := am_s1_some hc1
  obtain ⟨i2, w2, e_2, hc3⟩ := am_s1_some hc2
  obtain ⟨e_3, hc⟩ := am_st0_some hc3
  subst e_3
  subst e_2
  subst e_1
  subst e_0
  obtain ⟨q, e1, e2⟩ := am_bi_some hc
  exact ⟨_, _, m_X4_symbolOnScreen hy N a0 i1 i2 h _ e1, e2⟩

def l_X4_fullPlaces_14 (N : Nat) (K4 : Nat → Int32 → Int32 → am_Hp → Option (Int32 × am_Hp)) : Nat → Nat → Int32 → Int32 → Int32 → am_Hp → Option (Int32 × am_Hp)
  | 0, _, _, _, _, _ => none
  | n + 1, a0, i1, i2, i3, h =>
    bif am_isO a0 4 then (if (h a0 3) ≤ i3 then
      K4 a0 i1 (i2 + (1 : Int32)) h
    else
      bif am_isO a0 4 then am_bi (f_X4_symbolOnScreen N a0 i2 i3 h) (fun x2 h1 =>
      (if x2 = (27 : Int32) then
        l_X4_fullPlaces_14 N K4 n a0 i1 i2 (i3 + (1 : Int32)) h1
      else
        l_X4_fullPlaces_14 N K4 n a0 (i1 + (1 : Int32)) i2 (i3 + (1 : Int32)) h1)) else none) else none
def l_X4_fullPlaces_4 (N : Nat) : Nat → Nat → Int32 → Int32 → am_Hp → Option (Int32 × am_Hp)
  | 0, _, _, _, _ => none
  | n + 1, a0, i1, i2, h =>
    bif am_isO a0 4 then (if (h a0 4) ≤ i2 then
      some (i1, h)
    else
      l_X4_fullPlaces_14 N (l_X4_fullPlaces_4 N n) N a0 i1 i2 (0 : Int32) h) else none
def f_X4_fullPlaces (N : Nat) (a0 : Nat) (h : am_Hp) : Option (Int32 × am_Hp) :=
  l_X4_fullPlaces_4 N N a0 (0 : Int32) (0 : Int32) h
def c_X4_fullPlaces (N : Nat) : am_Cl := fun _ as h kk => am_sa as (fun a0 w0 => am_st0 w0 (am_bi (f_X4_fullPlaces N a0 h) (fun v h => kk (am_oi v) h)))
def o_X4_fullPlaces (N : Nat) : am_Orc := (am_oc 27 (c_X4_symbolOnScreen N) am_o0)
set_option maxRecDepth 100000 in
theorem tok_X4_fullPlaces : am_tok 28 tX4_fullPlaces := by
  unfold am_tok
  decide +kernel
set_option maxHeartbeats 4000000 in
set_option maxRecDepth 100000 in
theorem m_X4_fullPlaces {l : Launch} {al : Nat → Nat} {dC : Nat → ClassId} {dI : Nat → Nat → Nat} {aC : Nat → ClassId} {aV : Nat → Nat} (hy : am_Hy l al) (N : Nat) (a0 : Nat) (h : am_Hp) (r : (Int32 × am_Hp)) (hf : f_X4_fullPlaces N a0 h = some r) : am_Met l al dC dI aC aV 28 [.ref a0] h (am_oi r.1) r.2 :=
  am_met (tab := tX4_fullPlaces) (orc := o_X4_fullPlaces N) (ret := am_ri) (g := r) (by decide) (by decide) hy.1 hy.2 tok_X4_fullPlaces (am_os1 (s_X4_symbolOnScreen hy N) am_os0) am_ri_inv (Nat.le_of_ble_eq_true rfl) (fun At cl wk => by
    have A14 : ∀ (K4 : Nat → Int32 → Int32 → am_Hp → Option (Int32 × am_Hp)), (∀ a0 : Nat, ∀ i1 : Int32, ∀ i2 : Int32, ∀ h, K4 a0 i1 i2 h = some r → At 4 [(0, .ref a0), (1, .int i1), (2, .int i2)] [] h) → ∀ n : Nat, ∀ a0 : Nat, ∀ i1 : Int32, ∀ i2 : Int32, ∀ i3 : Int32, ∀ h, l_X4_fullPlaces_14 N K4 n a0 i1 i2 i3 h = some r → At 14 [(0, .ref a0), (1, .int i1), (2, .int i2), (3, .int i3)] [] h := by
      intro K4 hK4 n
      induction n with
      | zero => intro a0 i1 i2 i3 h hr; cases hr
      | succ n ih =>
        intro a0 i1 i2 i3 h hr
        exact cl (am_C1 4 (fun ρ st h => am_lda ρ 0 (fun a0 => am_ldi ρ 1 (fun i1 => am_ldi ρ 2 (fun i2 => am_st0 st (K4 a0 i1 i2 h))))) (am_C1 14 (fun ρ st h => am_lda ρ 0 (fun a0 => am_ldi ρ 1 (fun i1 => am_ldi ρ 2 (fun i2 => am_ldi ρ 3 (fun i3 => am_st0 st (l_X4_fullPlaces_14 N K4 n a0 i1 i2 i3 h)))))) am_C0)) (am_c1 (fun ρ st h hc => by
        obtain ⟨a0, m_a0, hc⟩ := am_lda_some hc
        obtain ⟨i1, m_i1, hc⟩ := am_ldi_some hc
        obtain ⟨i2, m_i2, hc⟩ := am_ldi_some hc
        obtain ⟨rfl, hc⟩ := am_st0_some hc
        exact wk 4 ρ [(0, .ref a0), (1, .int i1), (2, .int i2)] _ h (am_m1 m_a0 (am_m1 m_i1 (am_m1 m_i2 am_m0))) (hK4 a0 i1 i2 h hc)) (am_c1 (fun ρ st h hc => by
        obtain ⟨a0, m_a0, hc⟩ := am_lda_some hc
        obtain ⟨i1, m_i1, hc⟩ := am_ldi_some hc
        obtain ⟨i2, m_i2, hc⟩ := am_ldi_some hc
        obtain ⟨i3, m_i3, hc⟩ := am_ldi_some hc
        obtain ⟨rfl, hc⟩ := am_st0_some hc
        exact wk 14 ρ [(0, .ref a0), (1, .int i1), (2, .int i2), (3, .int i3)] _ h (am_m1 m_a0 (am_m1 m_i1 (am_m1 m_i2 (am_m1 m_i3 am_m0)))) (ih a0 i1 i2 i3 h hc)) am_c0)) 400 14 _ _ h hr
    have A4 : ∀ n : Nat, ∀ a0 : Nat, ∀ i1 : Int32, ∀ i2 : Int32, ∀ h, l_X4_fullPlaces_4 N n a0 i1 i2 h = some r → At 4 [(0, .ref a0), (1, .int i1), (2, .int i2)] [] h := by
      intro n
      induction n with
      | zero => intro a0 i1 i2 h hr; cases hr
      | succ n ih =>
        intro a0 i1 i2 h hr
        exact cl (am_C1 14 (fun ρ st h => am_lda ρ 0 (fun a0 => am_ldi ρ 1 (fun i1 => am_ldi ρ 2 (fun i2 => am_ldi ρ 3 (fun i3 => am_st0 st (l_X4_fullPlaces_14 N (l_X4_fullPlaces_4 N n) N a0 i1 i2 i3 h)))))) am_C0) (am_c1 (fun ρ st h hc => by
        obtain ⟨a0, m_a0, hc⟩ := am_lda_some hc
        obtain ⟨i1, m_i1, hc⟩ := am_ldi_some hc
        obtain ⟨i2, m_i2, hc⟩ := am_ldi_some hc
        obtain ⟨i3, m_i3, hc⟩ := am_ldi_some hc
        obtain ⟨rfl, hc⟩ := am_st0_some hc
        exact wk 14 ρ [(0, .ref a0), (1, .int i1), (2, .int i2), (3, .int i3)] _ h (am_m1 m_a0 (am_m1 m_i1 (am_m1 m_i2 (am_m1 m_i3 am_m0)))) (A14 (l_X4_fullPlaces_4 N n) ih N a0 i1 i2 i3 h hc)) am_c0) 400 4 _ _ h hr
    exact cl (am_C1 4 (fun ρ st h => am_lda ρ 0 (fun a0 => am_ldi ρ 1 (fun i1 => am_ldi ρ 2 (fun i2 => am_st0 st (l_X4_fullPlaces_4 N N a0 i1 i2 h))))) am_C0) (am_c1 (fun ρ st h hc => by
        obtain ⟨a0, m_a0, hc⟩ := am_lda_some hc
        obtain ⟨i1, m_i1, hc⟩ := am_ldi_some hc
        obtain ⟨i2, m_i2, hc⟩ := am_ldi_some hc
        obtain ⟨rfl, hc⟩ := am_st0_some hc
        exact wk 4 ρ [(0, .ref a0), (1, .int i1), (2, .int i2)] _ h (am_m1 m_a0 (am_m1 m_i1 (am_m1 m_i2 am_m0))) (A4 N a0 i1 i2 h hc)) am_c0) 400 0 _ _ h hf)
theorem s_X4_fullPlaces {l : Launch} {al : Nat → Nat} {dC : Nat → ClassId} {dI : Nat → Nat → Nat} {aC : Nat → ClassId} {aV : Nat → Nat} (hy : am_Hy l al) (N : Nat) : am_CS l al dC dI aC aV 28 (c_X4_fullPlaces N) := by
  intro γ as h kk g hc0
  obtain ⟨a0, w0, e_0, hc1⟩ := am_sa_some hc0
  obtain ⟨e_1, hc⟩ := am_st0_some hc1
  subst e_1
  subst e_0
  obtain ⟨q, e1, e2⟩ := am_bi_some hc
  exact ⟨_, _, m_X4_fullPlaces hy N a0 h _ e1, e2⟩

def f_X9_groupAt (N : Nat) (i0 : Int32) (i1 : Int32) (h : am_Hp) : Option (Int32 × am_Hp) :=
  some ((i0 >>> (((5 : Int32) * ((5 : Int32) - i1)) &&& 31)) &&& (31 : Int32), h)
def c_X9_groupAt (N : Nat) : am_Cl := fun _ as h kk => am_s1 as (fun i0 w0 => am_s1 w0 (fun i1 w1 => am_st0 w1 (am_bi (f_X9_groupAt N i0 i1 h) (fun v h => kk (am_oi v) h))))
def o_X9_groupAt (N : Nat) : am_Orc := am_o0
set_option maxRecDepth 100000 in
theorem tok_X9_groupAt : am_tok 123 tX9_groupAt := by
  unfold am_tok
  decide +kernel
set_option maxHeartbeats 4000000 in
set_option maxRecDepth 100000 in
theorem m_X9_groupAt {l : Launch} {al : Nat → Nat} {dC : Nat → ClassId} {dI : Nat → Nat → Nat} {aC : Nat → ClassId} {aV : Nat → Nat} (hy : am_Hy l al) (N : Nat) (i0 : Int32) (i1 : Int32) (h : am_Hp) (r : (Int32 × am_Hp)) (hf : f_X9_groupAt N i0 i1 h = some r) : am_Met l al dC dI aC aV 123 [.int i0, .int i1] h (am_oi r.1) r.2 :=
  am_met (tab := tX9_groupAt) (orc := o_X9_groupAt N) (ret := am_ri) (g := r) (by decide) (by decide) hy.1 hy.2 tok_X9_groupAt am_os0 am_ri_inv (Nat.le_of_ble_eq_true rfl) (fun At cl wk => by
    skip
    exact cl am_C0 am_c0 400 0 _ _ h hf)
theorem s_X9_groupAt {l : Launch} {al : Nat → Nat} {dC : Nat → ClassId} {dI : Nat → Nat → Nat} {aC : Nat → ClassId} {aV : Nat → Nat} (hy : am_Hy l al) (N : Nat) : am_CS l al dC dI aC aV 123 (c_X9_groupAt N) := by
  intro γ as h kk g hc0
  obtain ⟨i0, w0, e_0, hc1⟩ := am_s1_some hc0
  obtain ⟨i1, w1, e_1, hc2⟩ := am_s1_some hc1
  obtain ⟨e_2, hc⟩ := am_st0_some hc2
  subst e_2
  subst e_1
  subst e_0
  obtain ⟨q, e1, e2⟩ := am_bi_some hc
  exact ⟨_, _, m_X9_groupAt hy N i0 i1 h _ e1, e2⟩

def l_X4_showsWordFrom_3 (N : Nat) : Nat → Nat → Int32 → Int32 → Int32 → Int32 → am_Hp → Option (Int32 × am_Hp)
  | 0, _, _, _, _, _, _ => none
  | n + 1, a0, i1, i2, i3, i4, h =>
    (if (6 : Int32) ≤ i4 then
      if (1 : Int32) &&& 1 = (1 : Int32) then some ((1 : Int32), h) else none
    else
      am_bi (f_X9_groupAt N i3 i4 h) (fun x2 h1 =>
      (if x2 = 0 then
        if (1 : Int32) &&& 1 = (1 : Int32) then some ((1 : Int32), h1) else none
      else
        bif am_isO a0 4 then am_bi (f_X4_symbolOnScreen N a0 i1 (i2 + i4) h1) (fun x4 h3 =>
        (if x4 = x2 then
          l_X4_showsWordFrom_3 N n a0 i1 i2 i3 (i4 + (1 : Int32)) h3
        else
          if (0 : Int32) &&& 1 = (0 : Int32) then some ((0 : Int32), h3) else none)) else none)))
def f_X4_showsWordFrom (N : Nat) (a0 : Nat) (i1 : Int32) (i2 : Int32) (i3 : Int32) (h : am_Hp) : Option (Int32 × am_Hp) :=
  l_X4_showsWordFrom_3 N N a0 i1 i2 i3 (0 : Int32) h
def c_X4_showsWordFrom (N : Nat) : am_Cl := fun _ as h kk => am_sa as (fun a0 w0 => am_s1 w0 (fun i1 w1 => am_s1 w1 (fun i2 w2 => am_s1 w2 (fun i3 w3 => am_st0 w3 (am_bi (f_X4_showsWordFrom N a0 i1 i2 i3 h) (fun v h => kk (am_oi v) h))))))
def o_X4_showsWordFrom (N : Nat) : am_Orc := (am_oc 123 (c_X9_groupAt N) (am_oc 27 (c_X4_symbolOnScreen N) am_o0))
set_option maxRecDepth 100000 in
theorem tok_X4_showsWordFrom : am_tok 30 tX4_showsWordFrom := by
  unfold am_tok
  decide +kernel
set_option maxHeartbeats 4000000 in
set_option maxRecDepth 100000 in
theorem m_X4_showsWordFrom {l : Launch} {al : Nat → Nat} {dC : Nat → ClassId} {dI : Nat → Nat → Nat} {aC : Nat → ClassId} {aV : Nat → Nat} (hy : am_Hy l al) (N : Nat) (a0 : Nat) (i1 : Int32) (i2 : Int32) (i3 : Int32) (h : am_Hp) (r : (Int32 × am_Hp)) (hf : f_X4_showsWordFrom N a0 i1 i2 i3 h = some r) : am_Met l al dC dI aC aV 30 [.ref a0, .int i1, .int i2, .int i3] h (am_oi r.1) r.2 :=
  am_met (tab := tX4_showsWordFrom) (orc := o_X4_showsWordFrom N) (ret := am_ri) (g := r) (by decide) (by decide) hy.1 hy.2 tok_X4_showsWordFrom (am_os1 (s_X9_groupAt hy N) (am_os1 (s_X4_symbolOnScreen hy N) am_os0)) am_ri_inv (Nat.le_of_ble_eq_true rfl) (fun At cl wk => by
    have A3 : ∀ n : Nat, ∀ a0 : Nat, ∀ i1 : Int32, ∀ i2 : Int32, ∀ i3 : Int32, ∀ i4 : Int32, ∀ h, l_X4_showsWordFrom_3 N n a0 i1 i2 i3 i4 h = some r → At 3 [(0, .ref a0), (1, .int i1), (2, .int i2), (3, .int i3), (4, .int i4)] [] h := by
      intro n
      induction n with
      | zero => intro a0 i1 i2 i3 i4 h hr; cases hr
      | succ n ih =>
        intro a0 i1 i2 i3 i4 h hr
        exact cl (am_C1 3 (fun ρ st h => am_lda ρ 0 (fun a0 => am_ldi ρ 1 (fun i1 => am_ldi ρ 2 (fun i2 => am_ldi ρ 3 (fun i3 => am_ldi ρ 4 (fun i4 => am_st0 st (l_X4_showsWordFrom_3 N n a0 i1 i2 i3 i4 h))))))) am_C0) (am_c1 (fun ρ st h hc => by
        obtain ⟨a0, m_a0, hc⟩ := am_lda_some hc
        obtain ⟨i1, m_i1, hc⟩ := am_ldi_some hc
        obtain ⟨i2, m_i2, hc⟩ := am_ldi_some hc
        obtain ⟨i3, m_i3, hc⟩ := am_ldi_some hc
        obtain ⟨i4, m_i4, hc⟩ := am_ldi_some hc
        obtain ⟨rfl, hc⟩ := am_st0_some hc
        exact wk 3 ρ [(0, .ref a0), (1, .int i1), (2, .int i2), (3, .int i3), (4, .int i4)] _ h (am_m1 m_a0 (am_m1 m_i1 (am_m1 m_i2 (am_m1 m_i3 (am_m1 m_i4 am_m0))))) (ih a0 i1 i2 i3 i4 h hc)) am_c0) 400 3 _ _ h hr
    exact cl (am_C1 3 (fun ρ st h => am_lda ρ 0 (fun a0 => am_ldi ρ 1 (fun i1 => am_ldi ρ 2 (fun i2 => am_ldi ρ 3 (fun i3 => am_ldi ρ 4 (fun i4 => am_st0 st (l_X4_showsWordFrom_3 N N a0 i1 i2 i3 i4 h))))))) am_C0) (am_c1 (fun ρ st h hc => by
        obtain ⟨a0, m_a0, hc⟩ := am_lda_some hc
        obtain ⟨i1, m_i1, hc⟩ := am_ldi_some hc
        obtain ⟨i2, m_i2, hc⟩ := am_ldi_some hc
        obtain ⟨i3, m_i3, hc⟩ := am_ldi_some hc
        obtain ⟨i4, m_i4, hc⟩ := am_ldi_some hc
        obtain ⟨rfl, hc⟩ := am_st0_some hc
        exact wk 3 ρ [(0, .ref a0), (1, .int i1), (2, .int i2), (3, .int i3), (4, .int i4)] _ h (am_m1 m_a0 (am_m1 m_i1 (am_m1 m_i2 (am_m1 m_i3 (am_m1 m_i4 am_m0))))) (A3 N a0 i1 i2 i3 i4 h hc)) am_c0) 400 0 _ _ h hf)
theorem s_X4_showsWordFrom {l : Launch} {al : Nat → Nat} {dC : Nat → ClassId} {dI : Nat → Nat → Nat} {aC : Nat → ClassId} {aV : Nat → Nat} (hy : am_Hy l al) (N : Nat) : am_CS l al dC dI aC aV 30 (c_X4_showsWordFrom N) := by
  intro γ as h kk g hc0
  obtain ⟨a0, w0, e_0, hc1⟩ := am_sa_some hc0
  obtain ⟨i1, w1, e_1, hc2⟩ := am_s1_some hc1
  obtain ⟨i2, w2, e_2, hc3⟩ := am_s1_some hc2
  obtain ⟨i3, w3, e_3, hc4⟩ := am_s1_some hc3
  obtain ⟨e_4, hc⟩ := am_st0_some hc4
  subst e_4
  subst e_3
  subst e_2
  subst e_1
  subst e_0
  obtain ⟨q, e1, e2⟩ := am_bi_some hc
  exact ⟨_, _, m_X4_showsWordFrom hy N a0 i1 i2 i3 h _ e1, e2⟩

def l_X4_showsWord_12 (N : Nat) (K2 : Nat → Int32 → Int32 → am_Hp → Option (Int32 × am_Hp)) : Nat → Nat → Int32 → Int32 → Int32 → am_Hp → Option (Int32 × am_Hp)
  | 0, _, _, _, _, _ => none
  | n + 1, a0, i1, i2, i3, h =>
    bif am_isO a0 4 then (if (h a0 3) ≤ i3 then
      K2 a0 i1 (i2 + (1 : Int32)) h
    else
      bif am_isO a0 4 then am_bi (f_X4_showsWordFrom N a0 i2 i3 i1 h) (fun x2 h1 =>
      (if x2 = 0 then
        l_X4_showsWord_12 N K2 n a0 i1 i2 (i3 + (1 : Int32)) h1
      else
        if (1 : Int32) &&& 1 = (1 : Int32) then some ((1 : Int32), h1) else none)) else none) else none
def l_X4_showsWord_2 (N : Nat) : Nat → Nat → Int32 → Int32 → am_Hp → Option (Int32 × am_Hp)
  | 0, _, _, _, _ => none
  | n + 1, a0, i1, i2, h =>
    bif am_isO a0 4 then (if (h a0 4) ≤ i2 then
      if (0 : Int32) &&& 1 = (0 : Int32) then some ((0 : Int32), h) else none
    else
      l_X4_showsWord_12 N (l_X4_showsWord_2 N n) N a0 i1 i2 (0 : Int32) h) else none
def f_X4_showsWord (N : Nat) (a0 : Nat) (i1 : Int32) (h : am_Hp) : Option (Int32 × am_Hp) :=
  l_X4_showsWord_2 N N a0 i1 (0 : Int32) h
def c_X4_showsWord (N : Nat) : am_Cl := fun _ as h kk => am_sa as (fun a0 w0 => am_s1 w0 (fun i1 w1 => am_st0 w1 (am_bi (f_X4_showsWord N a0 i1 h) (fun v h => kk (am_oi v) h))))
def o_X4_showsWord (N : Nat) : am_Orc := (am_oc 30 (c_X4_showsWordFrom N) am_o0)
set_option maxRecDepth 100000 in
theorem tok_X4_showsWord : am_tok 29 tX4_showsWord := by
  unfold am_tok
  decide +kernel
set_option maxHeartbeats 4000000 in
set_option maxRecDepth 100000 in
theorem m_X4_showsWord {l : Launch} {al : Nat → Nat} {dC : Nat → ClassId} {dI : Nat → Nat → Nat} {aC : Nat → ClassId} {aV : Nat → Nat} (hy : am_Hy l al) (N : Nat) (a0 : Nat) (i1 : Int32) (h : am_Hp) (r : (Int32 × am_Hp)) (hf : f_X4_showsWord N a0 i1 h = some r) : am_Met l al dC dI aC aV 29 [.ref a0, .int i1] h (am_oi r.1) r.2 :=
  am_met (tab := tX4_showsWord) (orc := o_X4_showsWord N) (ret := am_ri) (g := r) (by decide) (by decide) hy.1 hy.2 tok_X4_showsWord (am_os1 (s_X4_showsWordFrom hy N) am_os0) am_ri_inv (Nat.le_of_ble_eq_true rfl) (fun At cl wk => by
    have A12 : ∀ (K2 : Nat → Int32 → Int32 → am_Hp → Option (Int32 × am_Hp)), (∀ a0 : Nat, ∀ i1 : Int32, ∀ i2 : Int32, ∀ h, K2 a0 i1 i2 h = some r → At 2 [(0, .ref a0), (1, .int i1), (2, .int i2)] [] h) → ∀ n : Nat, ∀ a0 : Nat, ∀ i1 : Int32, ∀ i2 : Int32, ∀ i3 : Int32, ∀ h, l_X4_showsWord_12 N K2 n a0 i1 i2 i3 h = some r → At 12 [(0, .ref a0), (1, .int i1), (2, .int i2), (3, .int i3)] [] h := by
      intro K2 hK2 n
      induction n with
      | zero => intro a0 i1 i2 i3 h hr; cases hr
      | succ n ih =>
        intro a0 i1 i2 i3 h hr
        exact cl (am_C1 2 (fun ρ st h => am_lda ρ 0 (fun a0 => am_ldi ρ 1 (fun i1 => am_ldi ρ 2 (fun i2 => am_st0 st (K2 a0 i1 i2 h))))) (am_C1 12 (fun ρ st h => am_lda ρ 0 (fun a0 => am_ldi ρ 1 (fun i1 => am_ldi ρ 2 (fun i2 => am_ldi ρ 3 (fun i3 => am_st0 st (l_X4_showsWord_12 N K2 n a0 i1 i2 i3 h)))))) am_C0)) (am_c1 (fun ρ st h hc => by
        obtain ⟨a0, m_a0, hc⟩ := am_lda_some hc
        obtain ⟨i1, m_i1, hc⟩ := am_ldi_some hc
        obtain ⟨i2, m_i2, hc⟩ := am_ldi_some hc
        obtain ⟨rfl, hc⟩ := am_st0_some hc
        exact wk 2 ρ [(0, .ref a0), (1, .int i1), (2, .int i2)] _ h (am_m1 m_a0 (am_m1 m_i1 (am_m1 m_i2 am_m0))) (hK2 a0 i1 i2 h hc)) (am_c1 (fun ρ st h hc => by
        obtain ⟨a0, m_a0, hc⟩ := am_lda_some hc
        obtain ⟨i1, m_i1, hc⟩ := am_ldi_some hc
        obtain ⟨i2, m_i2, hc⟩ := am_ldi_some hc
        obtain ⟨i3, m_i3, hc⟩ := am_ldi_some hc
        obtain ⟨rfl, hc⟩ := am_st0_some hc
        exact wk 12 ρ [(0, .ref a0), (1, .int i1), (2, .int i2), (3, .int i3)] _ h (am_m1 m_a0 (am_m1 m_i1 (am_m1 m_i2 (am_m1 m_i3 am_m0)))) (ih a0 i1 i2 i3 h hc)) am_c0)) 400 12 _ _ h hr
    have A2 : ∀ n : Nat, ∀ a0 : Nat, ∀ i1 : Int32, ∀ i2 : Int32, ∀ h, l_X4_showsWord_2 N n a0 i1 i2 h = some r → At 2 [(0, .ref a0), (1, .int i1), (2, .int i2)] [] h := by
      intro n
      induction n with
      | zero => intro a0 i1 i2 h hr; cases hr
      | succ n ih =>
        intro a0 i1 i2 h hr
        exact cl (am_C1 12 (fun ρ st h => am_lda ρ 0 (fun a0 => am_ldi ρ 1 (fun i1 => am_ldi ρ 2 (fun i2 => am_ldi ρ 3 (fun i3 => am_st0 st (l_X4_showsWord_12 N (l_X4_showsWord_2 N n) N a0 i1 i2 i3 h)))))) am_C0) (am_c1 (fun ρ st h hc => by
        obtain ⟨a0, m_a0, hc⟩ := am_lda_some hc
        obtain ⟨i1, m_i1, hc⟩ := am_ldi_some hc
        obtain ⟨i2, m_i2, hc⟩ := am_ldi_some hc
        obtain ⟨i3, m_i3, hc⟩ := am_ldi_some hc
        obtain ⟨rfl, hc⟩ := am_st0_some hc
        exact wk 12 ρ [(0, .ref a0), (1, .int i1), (2, .int i2), (3, .int i3)] _ h (am_m1 m_a0 (am_m1 m_i1 (am_m1 m_i2 (am_m1 m_i3 am_m0)))) (A12 (l_X4_showsWord_2 N n) ih N a0 i1 i2 i3 h hc)) am_c0) 400 2 _ _ h hr
    exact cl (am_C1 2 (fun ρ st h => am_lda ρ 0 (fun a0 => am_ldi ρ 1 (fun i1 => am_ldi ρ 2 (fun i2 => am_st0 st (l_X4_showsWord_2 N N a0 i1 i2 h))))) am_C0) (am_c1 (fun ρ st h hc => by
        obtain ⟨a0, m_a0, hc⟩ := am_lda_some hc
        obtain ⟨i1, m_i1, hc⟩ := am_ldi_some hc
        obtain ⟨i2, m_i2, hc⟩ := am_ldi_some hc
        obtain ⟨rfl, hc⟩ := am_st0_some hc
        exact wk 2 ρ [(0, .ref a0), (1, .int i1), (2, .int i2)] _ h (am_m1 m_a0 (am_m1 m_i1 (am_m1 m_i2 am_m0))) (A2 N a0 i1 i2 h hc)) am_c0) 400 0 _ _ h hf)
theorem s_X4_showsWord {l : Launch} {al : Nat → Nat} {dC : Nat → ClassId} {dI : Nat → Nat → Nat} {aC : Nat → ClassId} {aV : Nat → Nat} (hy : am_Hy l al) (N : Nat) : am_CS l al dC dI aC aV 29 (c_X4_showsWord N) := by
  intro γ as h kk g hc0
  obtain ⟨a0, w0, e_0, hc1⟩ := am_sa_some hc0
  obtain ⟨i1, w1, e_1, hc2⟩ := am_s1_some hc1
  obtain ⟨e_2, hc⟩ := am_st0_some hc2
  subst e_2
  subst e_1
  subst e_0
  obtain ⟨q, e1, e2⟩ := am_bi_some hc
  exact ⟨_, _, m_X4_showsWord hy N a0 i1 h _ e1, e2⟩

def f_X4_sendUppermostRowUp (N : Nat) (a0 : Nat) (h : am_Hp) : Option (Unit × am_Hp) :=
  bif am_isO a0 4 then (if (40 : Int32) ≤ (h a0 2) then
    bif am_isO a0 4 then am_bi (f_J9_floorMod_7cf53 N ((h a0 1) + (1 : Int32)) (46 : Int32) h) (fun x2 h1 =>
    bif am_isO a0 4 then (let h3 := am_pi h1 a0 1 x2
    bif am_isO a0 4 then bif am_isO a0 4 then (let h4 := am_pi h3 a0 4 ((h3 a0 4) - (1 : Int32))
    some ((), h4)) else none else none) else none) else none
  else
    bif am_isO a0 4 then bif am_isO a0 4 then (let h5 := am_pi h a0 2 ((h a0 2) + (1 : Int32))
    bif am_isO a0 4 then bif am_isO a0 4 then (let h6 := am_pi h5 a0 4 ((h5 a0 4) - (1 : Int32))
    some ((), h6)) else none else none) else none else none) else none
def c_X4_sendUppermostRowUp (N : Nat) : am_Cl := fun _ as h kk => am_sa as (fun a0 w0 => am_st0 w0 (am_bi (f_X4_sendUppermostRowUp N a0 h) (fun v h => kk (am_ov v) h)))
def o_X4_sendUppermostRowUp (N : Nat) : am_Orc := (am_oc 2 (c_J9_floorMod_7cf53 N) am_o0)
set_option maxRecDepth 100000 in
theorem tok_X4_sendUppermostRowUp : am_tok 35 tX4_sendUppermostRowUp := by
  unfold am_tok
  decide +kernel
set_option maxHeartbeats 4000000 in
set_option maxRecDepth 100000 in
theorem m_X4_sendUppermostRowUp {l : Launch} {al : Nat → Nat} {dC : Nat → ClassId} {dI : Nat → Nat → Nat} {aC : Nat → ClassId} {aV : Nat → Nat} (hy : am_Hy l al) (N : Nat) (a0 : Nat) (h : am_Hp) (r : (Unit × am_Hp)) (hf : f_X4_sendUppermostRowUp N a0 h = some r) : am_Met l al dC dI aC aV 35 [.ref a0] h (am_ov r.1) r.2 :=
  am_met (tab := tX4_sendUppermostRowUp) (orc := o_X4_sendUppermostRowUp N) (ret := am_rv) (g := r) (by decide) (by decide) hy.1 hy.2 tok_X4_sendUppermostRowUp (am_os1 (s_J9_floorMod_7cf53 hy N) am_os0) am_rv_inv (Nat.le_of_ble_eq_true rfl) (fun At cl wk => by
    skip
    exact cl am_C0 am_c0 400 0 _ _ h hf)
theorem s_X4_sendUppermostRowUp {l : Launch} {al : Nat → Nat} {dC : Nat → ClassId} {dI : Nat → Nat → Nat} {aC : Nat → ClassId} {aV : Nat → Nat} (hy : am_Hy l al) (N : Nat) : am_CS l al dC dI aC aV 35 (c_X4_sendUppermostRowUp N) := by
  intro γ as h kk g hc0
  obtain ⟨a0, w0, e_0, hc1⟩ := am_sa_some hc0
  obtain ⟨e_1, hc⟩ := am_st0_some hc1
  subst e_1
  subst e_0
  obtain ⟨q, e1, e2⟩ := am_bi_some hc
  exact ⟨_, _, m_X4_sendUppermostRowUp hy N a0 h _ e1, e2⟩
