def l_X4_fullPlaces_14 (N : Nat) (K4 : Nat → Int32 → Int32 → am_Hp → Option (Int32 × am_Hp)) : Nat → Nat → Int32 → Int32 → Int32 → am_Hp → Option (Int32 × am_Hp)
  | 0, _, _, _, _, _ => none
  | n + 1, a0, i1, i2, i3, h =>
    bif am_isO a0 4 then (if (h a0 3) ≤ i3 then
      K4 a0 i1 (i2 + (1 : Int32)) h
    else
      bif am_isO a0 4 then am_bi (f_X4_symbolOnScreen N a0 i2 i3 h) (fun x2 h1 =>
      (if x2 = (27 : Int32) then
        l_X4_fullPlaces_14 N K4 n a0 i1 i2 (i3 + (1 : Int32)) h1
      else
        l_X4_fullPlaces_14 N K4 n a0 (i1 + (1 : Int32)) i2 (i3 + (1 : Int32)) h1)) else none) else none
def l_X4_fullPlaces_4 (N : Nat) : Nat → Nat → Int32 → Int32 → am_Hp → Option (Int32 × am_Hp)
  | 0, _, _, _, _ => none
  | n + 1, a0, i1, i2, h =>
    bif am_isO a0 4 then (if (h a0 4) ≤ i2 then
      some (i1, h)
    else
      l_X4_fullPlaces_14 N (l_X4_fullPlaces_4 N n) N a0 i1 i2 (0 : Int32) h) else none
def f_X4_fullPlaces (N : Nat) (a0 : Nat) (h : am_Hp) : Option (Int32 × am_Hp) :=
  l_X4_fullPlaces_4 N N a0 (0 : Int32) (0 : Int32) h
def c_X4_fullPlaces (N : Nat) : am_Cl := fun _ as h kk => am_sa as (fun a0 w0 => am_st0 w0 (am_bi (f_X4_fullPlaces N a0 h) (fun v h => kk (am_oi v) h)))
def o_X4_fullPlaces (N : Nat) : am_Orc := (am_oc 25 (c_X4_symbolOnScreen N) am_o0)
set_option maxRecDepth 100000 in
theorem tok_X4_fullPlaces : am_tok 26 tX4_fullPlaces := by
  unfold am_tok
  decide +kernel
set_option maxHeartbeats 4000000 in
set_option maxRecDepth 100000 in
theorem m_X4_fullPlaces {l : Launch} {al : Nat → Nat} {dC : Nat → ClassId} {dI : Nat → Nat → Nat} {aC : Nat → ClassId} {aV : Nat → Nat} (hy : am_Hy l al) (N : Nat) (a0 : Nat) (h : am_Hp) (r : (Int32 × am_Hp)) (hf : f_X4_fullPlaces N a0 h = some r) : am_Met l al dC dI aC aV 26 [.ref a0] h (am_oi r.1) r.2 :=
  am_met (tab := tX4_fullPlaces) (orc := o_X4_fullPlaces N) (ret := am_ri) (g := r) (by decide) (by decide) hy.1 hy.2 tok_X4_fullPlaces (am_os1 (s_X4_symbolOnScreen hy N) am_os0) am_ri_inv (Nat.le_of_ble_eq_true rfl) (fun At cl wk => by
    have A14 : ∀ (K4 : Nat → Int32 → Int32 → am_Hp → Option (Int32 × am_Hp)), (∀ a0 : Nat, ∀ i1 : Int32, ∀ i2 : Int32, ∀ h, K4 a0 i1 i2 h = some r → At 4 [(0, .ref a0), (1, .int i1), (2, .int i2)] [] h) → ∀ n : Nat, ∀ a0 : Nat, ∀ i1 : Int32, ∀ i2 : Int32, ∀ i3 : Int32, ∀ h, l_X4_fullPlaces_14 N K4 n a0 i1 i2 i3 h = some r → At 14 [(0, .ref a0), (1, .int i1), (2, .int i2), (3, .int i3)] [] h := by
      intro K4 hK4 n
      induction n with
      | zero => intro a0 i1 i2 i3 h hr; cases hr
      | succ n ih =>
        intro a0 i1 i2 i3 h hr
        exact cl (am_C1 4 (fun ρ st h => am_lda ρ 0 (fun a0 => am_ldi ρ 1 (fun i1 => am_ldi ρ 2 (fun i2 => am_st0 st (K4 a0 i1 i2 h))))) (am_C1 14 (fun ρ st h => am_lda ρ 0 (fun a0 => am_ldi ρ 1 (fun i1 => am_ldi ρ 2 (fun i2 => am_ldi ρ 3 (fun i3 => am_st0 st (l_X4_fullPlaces_14 N K4 n a0 i1 i2 i3 h)))))) am_C0)) (am_c1 (fun ρ st h hc => by
        obtain ⟨a0, m_a0, hc⟩ := am_lda_some hc
        obtain ⟨i1, m_i1, hc⟩ := am_ldi_some hc
        obtain ⟨i2, m_i2, hc⟩ := am_ldi_some hc
        obtain ⟨rfl, hc⟩ := am_st0_some hc
        exact wk 4 ρ [(0, .ref a0), (1, .int i1), (2, .int i2)] _ h (am_m1 m_a0 (am_m1 m_i1 (am_m1 m_i2 am_m0))) (hK4 a0 i1 i2 h hc)) (am_c1 (fun ρ st h hc => by
        obtain ⟨a0, m_a0, hc⟩ := am_lda_some hc
        obtain ⟨i1, m_i1, hc⟩ := am_ldi_some hc
        obtain ⟨i2, m_i2, hc⟩ := am_ldi_some hc
        obtain ⟨i3, m_i3, hc⟩ := am_ldi_some hc
        obtain ⟨rfl, hc⟩ := am_st0_some hc
        exact wk 14 ρ [(0, .ref a0), (1, .int i1), (2, .int i2), (3, .int i3)] _ h (am_m1 m_a0 (am_m1 m_i1 (am_m1 m_i2 (am_m1 m_i3 am_m0)))) (ih a0 i1 i2 i3 h hc)) am_c0)) 400 14 _ _ h hr
    have A4 : ∀ n : Nat, ∀ a0 : Nat, ∀ i1 : Int32, ∀ i2 : Int32, ∀ h, l_X4_fullPlaces_4 N n a0 i1 i2 h = some r → At 4 [(0, .ref a0), (1, .int i1), (2, .int i2)] [] h := by
      intro n
      induction n with
      | zero => intro a0 i1 i2 h hr; cases hr
      | succ n ih =>
        intro a0 i1 i2 h hr
        exact cl (am_C1 14 (fun ρ st h => am_lda ρ 0 (fun a0 => am_ldi ρ 1 (fun i1 => am_ldi ρ 2 (fun i2 => am_ldi ρ 3 (fun i3 => am_st0 st (l_X4_fullPlaces_14 N (l_X4_fullPlaces_4 N n) N a0 i1 i2 i3 h)))))) am_C0) (am_c1 (fun ρ st h hc => by
        obtain ⟨a0, m_a0, hc⟩ := am_lda_some hc
        obtain ⟨i1, m_i1, hc⟩ := am_ldi_some hc
        obtain ⟨i2, m_i2, hc⟩ := am_ldi_some hc
        obtain ⟨i3, m_i3, hc⟩ := am_ldi_some hc
        obtain ⟨rfl, hc⟩ := am_st0_some hc
        exact wk 14 ρ [(0, .ref a0), (1, .int i1), (2, .int i2), (3, .int i3)] _ h (am_m1 m_a0 (am_m1 m_i1 (am_m1 m_i2 (am_m1 m_i3 am_m0)))) (A14 (l_X4_fullPlaces_4 N n) ih N a0 i1 i2 i3 h hc)) am_c0) 400 4 _ _ h hr
    exact cl (am_C1 4 (fun ρ st h => am_lda ρ 0 (fun a0 => am_ldi ρ 1 (fun i1 => am_ldi ρ 2 (fun i2 => am_st0 st (l_X4_fullPlaces_4 N N a0 i1 i2 h))))) am_C0) (am_c1 (fun ρ st h hc => by
        obtain ⟨a0, m_a0, hc⟩ := am_lda_some hc
        obtain ⟨i1, m_i1, hc⟩ := am_ldi_some hc
        obtain ⟨i2, m_i2, hc⟩ := am_ldi_some hc
        obtain ⟨rfl, hc⟩ := am_st0_some hc
        exact wk 4 ρ [(0, .ref a0), (1, .int i1), (2, .int i2)] _ h (am_m1 m_a0 (am_m1 m_i1 (am_m1 m_i2 am_m0))) (A4 N a0 i1 i2 h hc)) am_c0) 400 0 _ _ h hf)
theorem s_X4_fullPlaces {l : Launch} {al : Nat → Nat} {dC : Nat → ClassId} {dI : Nat → Nat → Nat} {aC : Nat → ClassId} {aV : Nat → Nat} (hy : am_Hy l al) (N : Nat) : am_CS l al dC dI aC aV 26 (c_X4_fullPlaces N) := by
  intro γ as h kk g hc0
  obtain ⟨a0, w0, e_0, hc1⟩ := am_sa_some hc0
  obtain ⟨e_1, hc⟩ := am_st0_some hc1
  subst e_1
  subst e_0
  obtain ⟨q, e1, e2⟩ := am_bi_some hc
  exact ⟨_, _, m_X4_fullPlaces hy N a0 h _ e1, e2⟩

def f_X4_sendUppermostRowUp (N : Nat) (a0 : Nat) (h : am_Hp) : Option (Unit × am_Hp) :=
  bif am_isO a0 4 then (if (40 : Int32) ≤ (h a0 2) then
    bif am_isO a0 4 then am_bi (f_J9_floorMod_7cf53 N ((h a0 1) + (1 : Int32)) (46 : Int32) h) (fun x2 h1 =>
    bif am_isO a0 4 then (let h3 := am_pi h1 a0 1 x2
    bif am_isO a0 4 then bif am_isO a0 4 then (let h4 := am_pi h3 a0 4 ((h3 a0 4) - (1 : Int32))
    some ((), h4)) else none else none) else none) else none
  else
    bif am_isO a0 4 then bif am_isO a0 4 then (let h5 := am_pi h a0 2 ((h a0 2) + (1 : Int32))
    bif am_isO a0 4 then bif am_isO a0 4 then (let h6 := am_pi h5 a0 4 ((h5 a0 4) - (1 : Int32))
    some ((), h6)) else none else none) else none else none) else none
def c_X4_sendUppermostRowUp (N : Nat) : am_Cl := fun _ as h kk => am_sa as (fun a0 w0 => am_st0 w0 (am_bi (f_X4_sendUppermostRowUp N a0 h) (fun v h => kk (am_ov v) h)))
def o_X4_sendUppermostRowUp (N : Nat) : am_Orc := (am_oc 2 (c_J9_floorMod_7cf53 N) am_o0)
set_option maxRecDepth 100000 in
theorem tok_X4_sendUppermostRowUp : am_tok 31 tX4_sendUppermostRowUp := by
  unfold am_tok
  decide +kernel
set_option maxHeartbeats 4000000 in
set_option maxRecDepth 100000 in
theorem m_X4_sendUppermostRowUp {l : Launch} {al : Nat → Nat} {dC : Nat → ClassId} {dI : Nat → Nat → Nat} {aC : Nat → ClassId} {aV : Nat → Nat} (hy : am_Hy l al) (N : Nat) (a0 : Nat) (h : am_Hp) (r : (Unit × am_Hp)) (hf : f_X4_sendUppermostRowUp N a0 h = some r) : am_Met l al dC dI aC aV 31 [.ref a0] h (am_ov r.1) r.2 :=
  am_met (tab := tX4_sendUppermostRowUp) (orc := o_X4_sendUppermostRowUp N) (ret := am_rv) (g := r) (by decide) (by decide) hy.1 hy.2 tok_X4_sendUppermostRowUp (am_os1 (s_J9_floorMod_7cf53 hy N) am_os0) am_rv_inv (Nat.le_of_ble_eq_true rfl) (fun At cl wk => by
    skip
    exact cl am_C0 am_c0 400 0 _ _ h hf)
theorem s_X4_sendUppermostRowUp {l : Launch} {al : Nat → Nat} {dC : Nat → ClassId} {dI : Nat → Nat → Nat} {aC : Nat → ClassId} {aV : Nat → Nat} (hy : am_Hy l al) (N : Nat) : am_CS l al dC dI aC aV 31 (c_X4_sendUppermostRowUp N) := by
  intro γ as h kk g hc0
  obtain ⟨a0, w0, e_0, hc1⟩ := am_sa_some hc0
  obtain ⟨e_1, hc⟩ := am_st0_some hc1
  subst e_1
  subst e_0
  obtain ⟨q, e1, e2⟩ := am_bi_some hc
  exact ⟨_, _, m_X4_sendUppermostRowUp hy N a0 h _ e1, e2⟩

def l_X4_resize_96 (N : Nat) : Nat → Nat → Int32 → Int32 → am_Hp → Option (Unit × am_Hp)
  | 0, _, _, _, _ => none
  | n + 1, a0, i2, i3, h =>
    (if i2 ≤ i3 then
      some ((), h)
    else
      bif am_isO a0 4 then am_bi (f_X4_addRow N a0 h) (fun _ h1 =>
      l_X4_resize_96 N n a0 i2 (i3 + (1 : Int32)) h1) else none)
def l_X4_resize_55 (N : Nat) : Nat → Nat → Int32 → Int32 → am_Hp → Option (Unit × am_Hp)
  | 0, _, _, _, _ => none
  | n + 1, a0, i2, i3, h =>
    (if i3 ≤ 0 then
      bif am_isO a0 4 then bif am_isO a0 4 then (let h1 := am_pi h a0 4 (if i2 < (h a0 4) then i2 else h a0 4)
      bif am_isO a0 4 then l_X4_resize_96 N N a0 i2 (h1 a0 4) h1 else none) else none else none
    else
      bif am_isO a0 4 then am_bi (f_X4_sendUppermostRowUp N a0 h) (fun _ h2 =>
      bif am_isO a0 4 then bif am_isO a0 4 then (let h3 := am_pi h2 a0 5 ((h2 a0 5) - (1 : Int32))
      l_X4_resize_55 N n a0 i2 (i3 + (-1 : Int32)) h3) else none else none) else none)
def l_X4_resize_2 (N : Nat) : Nat → Nat → Int32 → Int32 → Int32 → am_Hp → Option (Unit × am_Hp)
  | 0, _, _, _, _, _ => none
  | n + 1, a0, i1, i2, i3, h =>
    bif am_isO a0 4 then (if (h a0 4) ≤ i3 then
      bif am_isO a0 4 then (let h1 := am_pi h a0 3 i1
      bif am_isO a0 4 then bif am_isO a0 4 then (let h2 := am_pi h1 a0 6 (if (i1 - (1 : Int32)) < (h1 a0 6) then i1 - (1 : Int32) else h1 a0 6)
      bif am_isO a0 4 then l_X4_resize_55 N N a0 i2 (((h2 a0 5) - i2) + (1 : Int32)) h2 else none) else none else none) else none
    else
      bif am_isO a0 4 then bif am_isO a0 4 then am_bi (f_X4_emptyFrom N a0 ((h a0 2) + i3) i1 h) (fun _ h3 =>
      l_X4_resize_2 N n a0 i1 i2 (i3 + (1 : Int32)) h3) else none else none) else none
def f_X4_resize (N : Nat) (a0 : Nat) (i1 : Int32) (i2 : Int32) (h : am_Hp) : Option (Unit × am_Hp) :=
  l_X4_resize_2 N N a0 i1 i2 (0 : Int32) h
def c_X4_resize (N : Nat) : am_Cl := fun _ as h kk => am_sa as (fun a0 w0 => am_s1 w0 (fun i1 w1 => am_s1 w1 (fun i2 w2 => am_st0 w2 (am_bi (f_X4_resize N a0 i1 i2 h) (fun v h => kk (am_ov v) h)))))
def o_X4_resize (N : Nat) : am_Orc := (am_oc 34 (c_X4_emptyFrom N) (am_oc 31 (c_X4_sendUppermostRowUp N) (am_oc 32 (c_X4_addRow N) am_o0)))
set_option maxRecDepth 100000 in
theorem tok_X4_resize : am_tok 28 tX4_resize := by
  unfold am_tok
  decide +kernel
set_option maxHeartbeats 4000000 in
set_option maxRecDepth 100000 in
theorem m_X4_resize {l : Launch} {al : Nat → Nat} {dC : Nat → ClassId} {dI : Nat → Nat → Nat} {aC : Nat → ClassId} {aV : Nat → Nat} (hy : am_Hy l al) (N : Nat) (a0 : Nat) (i1 : Int32) (i2 : Int32) (h : am_Hp) (r : (Unit × am_Hp)) (hf : f_X4_resize N a0 i1 i2 h = some r) : am_Met l al dC dI aC aV 28 [.ref a0, .int i1, .int i2] h (am_ov r.1) r.2 :=
  am_met (tab := tX4_resize) (orc := o_X4_resize N) (ret := am_rv) (g := r) (by decide) (by decide) hy.1 hy.2 tok_X4_resize (am_os1 (s_X4_emptyFrom hy N) (am_os1 (s_X4_sendUppermostRowUp hy N) (am_os1 (s_X4_addRow hy N) am_os0))) am_rv_inv (Nat.le_of_ble_eq_true rfl) (fun At cl wk => by
    have A96 : ∀ n : Nat, ∀ a0 : Nat, ∀ i2 : Int32, ∀ i3 : Int32, ∀ h, l_X4_resize_96 N n a0 i2 i3 h = some r → At 96 [(0, .ref a0), (2, .int i2), (3, .int i3)] [] h := by
      intro n
      induction n with
      | zero => intro a0 i2 i3 h hr; cases hr
      | succ n ih =>
        intro a0 i2 i3 h hr
        exact cl (am_C1 96 (fun ρ st h => am_lda ρ 0 (fun a0 => am_ldi ρ 2 (fun i2 => am_ldi ρ 3 (fun i3 => am_st0 st (l_X4_resize_96 N n a0 i2 i3 h))))) am_C0) (am_c1 (fun ρ st h hc => by
        obtain ⟨a0, m_a0, hc⟩ := am_lda_some hc
        obtain ⟨i2, m_i2, hc⟩ := am_ldi_some hc
        obtain ⟨i3, m_i3, hc⟩ := am_ldi_some hc
        obtain ⟨rfl, hc⟩ := am_st0_some hc
        exact wk 96 ρ [(0, .ref a0), (2, .int i2), (3, .int i3)] _ h (am_m1 m_a0 (am_m1 m_i2 (am_m1 m_i3 am_m0))) (ih a0 i2 i3 h hc)) am_c0) 400 96 _ _ h hr
    have A55 : ∀ n : Nat, ∀ a0 : Nat, ∀ i2 : Int32, ∀ i3 : Int32, ∀ h, l_X4_resize_55 N n a0 i2 i3 h = some r → At 55 [(0, .ref a0), (2, .int i2), (3, .int i3)] [] h := by
      intro n
      induction n with
      | zero => intro a0 i2 i3 h hr; cases hr
      | succ n ih =>
        intro a0 i2 i3 h hr
        exact cl (am_C1 55 (fun ρ st h => am_lda ρ 0 (fun a0 => am_ldi ρ 2 (fun i2 => am_ldi ρ 3 (fun i3 => am_st0 st (l_X4_resize_55 N n a0 i2 i3 h))))) (am_C1 96 (fun ρ st h => am_lda ρ 0 (fun a0 => am_ldi ρ 2 (fun i2 => am_ldi ρ 3 (fun i3 => am_st0 st (l_X4_resize_96 N N a0 i2 i3 h))))) am_C0)) (am_c1 (fun ρ st h hc => by
        obtain ⟨a0, m_a0, hc⟩ := am_lda_some hc
        obtain ⟨i2, m_i2, hc⟩ := am_ldi_some hc
        obtain ⟨i3, m_i3, hc⟩ := am_ldi_some hc
        obtain ⟨rfl, hc⟩ := am_st0_some hc
        exact wk 55 ρ [(0, .ref a0), (2, .int i2), (3, .int i3)] _ h (am_m1 m_a0 (am_m1 m_i2 (am_m1 m_i3 am_m0))) (ih a0 i2 i3 h hc)) (am_c1 (fun ρ st h hc => by
        obtain ⟨a0, m_a0, hc⟩ := am_lda_some hc
        obtain ⟨i2, m_i2, hc⟩ := am_ldi_some hc
        obtain ⟨i3, m_i3, hc⟩ := am_ldi_some hc
        obtain ⟨rfl, hc⟩ := am_st0_some hc
        exact wk 96 ρ [(0, .ref a0), (2, .int i2), (3, .int i3)] _ h (am_m1 m_a0 (am_m1 m_i2 (am_m1 m_i3 am_m0))) (A96 N a0 i2 i3 h hc)) am_c0)) 400 55 _ _ h hr
    have A2 : ∀ n : Nat, ∀ a0 : Nat, ∀ i1 : Int32, ∀ i2 : Int32, ∀ i3 : Int32, ∀ h, l_X4_resize_2 N n a0 i1 i2 i3 h = some r → At 2 [(0, .ref a0), (1, .int i1), (2, .int i2), (3, .int i3)] [] h := by
      intro n
      induction n with
      | zero => intro a0 i1 i2 i3 h hr; cases hr
      | succ n ih =>
        intro a0 i1 i2 i3 h hr
        exact cl (am_C1 2 (fun ρ st h => am_lda ρ 0 (fun a0 => am_ldi ρ 1 (fun i1 => am_ldi ρ 2 (fun i2 => am_ldi ρ 3 (fun i3 => am_st0 st (l_X4_resize_2 N n a0 i1 i2 i3 h)))))) (am_C1 55 (fun ρ st h => am_lda ρ 0 (fun a0 => am_ldi ρ 2 (fun i2 => am_ldi ρ 3 (fun i3 => am_st0 st (l_X4_resize_55 N N a0 i2 i3 h))))) am_C0)) (am_c1 (fun ρ st h hc => by
        obtain ⟨a0, m_a0, hc⟩ := am_lda_some hc
        obtain ⟨i1, m_i1, hc⟩ := am_ldi_some hc
        obtain ⟨i2, m_i2, hc⟩ := am_ldi_some hc
        obtain ⟨i3, m_i3, hc⟩ := am_ldi_some hc
        obtain ⟨rfl, hc⟩ := am_st0_some hc
        exact wk 2 ρ [(0, .ref a0), (1, .int i1), (2, .int i2), (3, .int i3)] _ h (am_m1 m_a0 (am_m1 m_i1 (am_m1 m_i2 (am_m1 m_i3 am_m0)))) (ih a0 i1 i2 i3 h hc)) (am_c1 (fun ρ st h hc => by
        obtain ⟨a0, m_a0, hc⟩ := am_lda_some hc
        obtain ⟨i2, m_i2, hc⟩ := am_ldi_some hc
        obtain ⟨i3, m_i3, hc⟩ := am_ldi_some hc
        obtain ⟨rfl, hc⟩ := am_st0_some hc
        exact wk 55 ρ [(0, .ref a0), (2, .int i2), (3, .int i3)] _ h (am_m1 m_a0 (am_m1 m_i2 (am_m1 m_i3 am_m0))) (A55 N a0 i2 i3 h hc)) am_c0)) 400 2 _ _ h hr
    exact cl (am_C1 2 (fun ρ st h => am_lda ρ 0 (fun a0 => am_ldi ρ 1 (fun i1 => am_ldi ρ 2 (fun i2 => am_ldi ρ 3 (fun i3 => am_st0 st (l_X4_resize_2 N N a0 i1 i2 i3 h)))))) am_C0) (am_c1 (fun ρ st h hc => by
        obtain ⟨a0, m_a0, hc⟩ := am_lda_some hc
        obtain ⟨i1, m_i1, hc⟩ := am_ldi_some hc
        obtain ⟨i2, m_i2, hc⟩ := am_ldi_some hc
        obtain ⟨i3, m_i3, hc⟩ := am_ldi_some hc
        obtain ⟨rfl, hc⟩ := am_st0_some hc
        exact wk 2 ρ [(0, .ref a0), (1, .int i1), (2, .int i2), (3, .int i3)] _ h (am_m1 m_a0 (am_m1 m_i1 (am_m1 m_i2 (am_m1 m_i3 am_m0)))) (A2 N a0 i1 i2 i3 h hc)) am_c0) 400 0 _ _ h hf)
theorem s_X4_resize {l : Launch} {al : Nat → Nat} {dC : Nat → ClassId} {dI : Nat → Nat → Nat} {aC : Nat → ClassId} {aV : Nat → Nat} (hy : am_Hy l al) (N : Nat) : am_CS l al dC dI aC aV 28 (c_X4_resize N) := by
  intro γ as h kk g hc0
  obtain ⟨a0, w0, e_0, hc1⟩ := am_sa_some hc0
  obtain ⟨i1, w1, e_1, hc2⟩ := am_s1_some hc1
  obtain ⟨i2, w2, e_2, hc3⟩ := am_s1_some hc2
  obtain ⟨e_3, hc⟩ := am_st0_some hc3
  subst e_3
  subst e_2
  subst e_1
  subst e_0
  obtain ⟨q, e1, e2⟩ := am_bi_some hc
  exact ⟨_, _, m_X4_resize hy N a0 i1 i2 h _ e1, e2⟩

def f_X4_goDown (N : Nat) (a0 : Nat) (h : am_Hp) : Option (Unit × am_Hp) :=
  bif am_isO a0 4 then (let h1 := am_pi h a0 6 (0 : Int32)
  bif am_isO a0 4 then bif am_isO a0 4 then (if ((h1 a0 4) - (1 : Int32)) ≤ (h1 a0 5) then
    bif am_isO a0 4 then am_bi (f_X4_sendUppermostRowUp N a0 h1) (fun _ h2 =>
    bif am_isO a0 4 then am_bi (f_X4_addRow N a0 h2) (fun _ h3 =>
    some ((), h3)) else none) else none
  else
    bif am_isO a0 4 then bif am_isO a0 4 then (let h4 := am_pi h1 a0 5 ((h1 a0 5) + (1 : Int32))
    some ((), h4)) else none else none) else none else none) else none
def c_X4_goDown (N : Nat) : am_Cl := fun _ as h kk => am_sa as (fun a0 w0 => am_st0 w0 (am_bi (f_X4_goDown N a0 h) (fun v h => kk (am_ov v) h)))
def o_X4_goDown (N : Nat) : am_Orc := (am_oc 31 (c_X4_sendUppermostRowUp N) (am_oc 32 (c_X4_addRow N) am_o0))
set_option maxRecDepth 100000 in
theorem tok_X4_goDown : am_tok 29 tX4_goDown := by
  unfold am_tok
  decide +kernel
set_option maxHeartbeats 4000000 in
set_option maxRecDepth 100000 in
theorem m_X4_goDown {l : Launch} {al : Nat → Nat} {dC : Nat → ClassId} {dI : Nat → Nat → Nat} {aC : Nat → ClassId} {aV : Nat → Nat} (hy : am_Hy l al) (N : Nat) (a0 : Nat) (h : am_Hp) (r : (Unit × am_Hp)) (hf : f_X4_goDown N a0 h = some r) : am_Met l al dC dI aC aV 29 [.ref a0] h (am_ov r.1) r.2 :=
  am_met (tab := tX4_goDown) (orc := o_X4_goDown N) (ret := am_rv) (g := r) (by decide) (by decide) hy.1 hy.2 tok_X4_goDown (am_os1 (s_X4_sendUppermostRowUp hy N) (am_os1 (s_X4_addRow hy N) am_os0)) am_rv_inv (Nat.le_of_ble_eq_true rfl) (fun At cl wk => by
    skip
    exact cl am_C0 am_c0 400 0 _ _ h hf)
theorem s_X4_goDown {l : Launch} {al : Nat → Nat} {dC : Nat → ClassId} {dI : Nat → Nat → Nat} {aC : Nat → ClassId} {aV : Nat → Nat} (hy : am_Hy l al) (N : Nat) : am_CS l al dC dI aC aV 29 (c_X4_goDown N) := by
  intro γ as h kk g hc0
  obtain ⟨a0, w0, e_0, hc1⟩ := am_sa_some hc0
  obtain ⟨e_1, hc⟩ := am_st0_some hc1
  subst e_1
  subst e_0
  obtain ⟨q, e1, e2⟩ := am_bi_some hc
  exact ⟨_, _, m_X4_goDown hy N a0 h _ e1, e2⟩

def l_X4_clear_12 (N : Nat) : Nat → Nat → Int32 → am_Hp → Option (Unit × am_Hp)
  | 0, _, _, _ => none
  | n + 1, a0, i1, h =>
    bif am_isO a0 4 then (if (h a0 4) ≤ i1 then
      some ((), h)
    else
      bif am_isO a0 4 then bif am_isO a0 4 then am_bi (f_X4_emptyFrom N a0 ((h a0 2) + i1) (0 : Int32) h) (fun _ h1 =>
      l_X4_clear_12 N n a0 (i1 + (1 : Int32)) h1) else none else none) else none
def f_X4_clear (N : Nat) (a0 : Nat) (h : am_Hp) : Option (Unit × am_Hp) :=
  bif am_isO a0 4 then (let h1 := am_pi h a0 5 (0 : Int32)
  bif am_isO a0 4 then (let h2 := am_pi h1 a0 6 (0 : Int32)
  l_X4_clear_12 N N a0 (0 : Int32) h2) else none) else none
def c_X4_clear (N : Nat) : am_Cl := fun _ as h kk => am_sa as (fun a0 w0 => am_st0 w0 (am_bi (f_X4_clear N a0 h) (fun v h => kk (am_ov v) h)))
def o_X4_clear (N : Nat) : am_Orc := (am_oc 34 (c_X4_emptyFrom N) am_o0)
set_option maxRecDepth 100000 in
theorem tok_X4_clear : am_tok 30 tX4_clear := by
  unfold am_tok
  decide +kernel
set_option maxHeartbeats 4000000 in
set_option maxRecDepth 100000 in
theorem m_X4_clear {l : Launch} {al : Nat → Nat} {dC : Nat → ClassId} {dI : Nat → Nat → Nat} {aC : Nat → ClassId} {aV : Nat → Nat} (hy : am_Hy l al) (N : Nat) (a0 : Nat) (h : am_Hp) (r : (Unit × am_Hp)) (hf : f_X4_clear N a0 h = some r) : am_Met l al dC dI aC aV 30 [.ref a0] h (am_ov r.1) r.2 :=
  am_met (tab := tX4_clear) (orc := o_X4_clear N) (ret := am_rv) (g := r) (by decide) (by decide) hy.1 hy.2 tok_X4_clear (am_os1 (s_X4_emptyFrom hy N) am_os0) am_rv_inv (Nat.le_of_ble_eq_true rfl) (fun At cl wk => by
    have A12 : ∀ n : Nat, ∀ a0 : Nat, ∀ i1 : Int32, ∀ h, l_X4_clear_12 N n a0 i1 h = some r → At 12 [(0, .ref a0), (1, .int i1)] [] h := by
      intro n
      induction n with
      | zero => intro a0 i1 h hr; cases hr
      | succ n ih =>
        intro a0 i1 h hr
        exact cl (am_C1 12 (fun ρ st h => am_lda ρ 0 (fun a0 => am_ldi ρ 1 (fun i1 => am_st0 st (l_X4_clear_12 N n a0 i1 h)))) am_C0) (am_c1 (fun ρ st h hc => by
        obtain ⟨a0, m_a0, hc⟩ := am_lda_some hc
        obtain ⟨i1, m_i1, hc⟩ := am_ldi_some hc
        obtain ⟨rfl, hc⟩ := am_st0_some hc
        exact wk 12 ρ [(0, .ref a0), (1, .int i1)] _ h (am_m1 m_a0 (am_m1 m_i1 am_m0)) (ih a0 i1 h hc)) am_c0) 400 12 _ _ h hr
    exact cl (am_C1 12 (fun ρ st h => am_lda ρ 0 (fun a0 => am_ldi ρ 1 (fun i1 => am_st0 st (l_X4_clear_12 N N a0 i1 h)))) am_C0) (am_c1 (fun ρ st h hc => by
        obtain ⟨a0, m_a0, hc⟩ := am_lda_some hc
        obtain ⟨i1, m_i1, hc⟩ := am_ldi_some hc
        obtain ⟨rfl, hc⟩ := am_st0_some hc
        exact wk 12 ρ [(0, .ref a0), (1, .int i1)] _ h (am_m1 m_a0 (am_m1 m_i1 am_m0)) (A12 N a0 i1 h hc)) am_c0) 400 0 _ _ h hf)
theorem s_X4_clear {l : Launch} {al : Nat → Nat} {dC : Nat → ClassId} {dI : Nat → Nat → Nat} {aC : Nat → ClassId} {aV : Nat → Nat} (hy : am_Hy l al) (N : Nat) : am_CS l al dC dI aC aV 30 (c_X4_clear N) := by
  intro γ as h kk g hc0
  obtain ⟨a0, w0, e_0, hc1⟩ := am_sa_some hc0
  obtain ⟨e_1, hc⟩ := am_st0_some hc1
  subst e_1
  subst e_0
  obtain ⟨q, e1, e2⟩ := am_bi_some hc
  exact ⟨_, _, m_X4_clear hy N a0 h _ e1, e2⟩
