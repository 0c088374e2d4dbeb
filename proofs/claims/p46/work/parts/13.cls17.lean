def l_X9_groupsIn_17 (N : Nat) : Nat → Int32 → Int32 → Int32 → Int32 → am_Hp → Option (Int32 × am_Hp)
  | 0, _, _, _, _, _ => none
  | n + 1, i0, i1, i2, i3, h =>
    (if (6 : Int32) ≤ i3 then
      some (i2, h)
    else
      am_bi (f_X9_groupAt N i0 i3 h) (fun x2 h1 =>
      (if i1 < x2 then
        some ((0 : Int32), h1)
      else
        (if x2 = 0 then
          (if x2 = 0 then
            l_X9_groupsIn_17 N n i0 i1 i2 (i3 + (1 : Int32)) h1
          else
            l_X9_groupsIn_17 N n i0 i1 (i2 + (1 : Int32)) (i3 + (1 : Int32)) h1)
        else
          (if i3 ≤ i2 then
            (if x2 = 0 then
              l_X9_groupsIn_17 N n i0 i1 i2 (i3 + (1 : Int32)) h1
            else
              l_X9_groupsIn_17 N n i0 i1 (i2 + (1 : Int32)) (i3 + (1 : Int32)) h1)
          else
            some ((0 : Int32), h1))))))
def f_X9_groupsIn (N : Nat) (i0 : Int32) (i1 : Int32) (h : am_Hp) : Option (Int32 × am_Hp) :=
  (if i0 ≤ 0 then
    some ((0 : Int32), h)
  else
    (if (i0 >>> ((30 : Int32) &&& 31)) = 0 then
      l_X9_groupsIn_17 N N i0 i1 (0 : Int32) (0 : Int32) h
    else
      some ((0 : Int32), h)))
def c_X9_groupsIn (N : Nat) : am_Cl := fun _ as h kk => am_s1 as (fun i0 w0 => am_s1 w0 (fun i1 w1 => am_st0 w1 (am_bi (f_X9_groupsIn N i0 i1 h) (fun v h => kk (am_oi v) h))))
def o_X9_groupsIn (N : Nat) : am_Orc := (am_oc 104 (c_X9_groupAt N) am_o0)
set_option maxRecDepth 100000 in
theorem tok_X9_groupsIn : am_tok 105 tX9_groupsIn := by
  unfold am_tok
  decide +kernel
set_option maxHeartbeats 4000000 in
set_option maxRecDepth 100000 in
theorem m_X9_groupsIn {l : Launch} {al : Nat → Nat} {dC : Nat → ClassId} {dI : Nat → Nat → Nat} {aC : Nat → ClassId} {aV : Nat → Nat} (hy : am_Hy l al) (N : Nat) (i0 : Int32) (i1 : Int32) (h : am_Hp) (r : (Int32 × am_Hp)) (hf : f_X9_groupsIn N i0 i1 h = some r) : am_Met l al dC dI aC aV 105 [.int i0, .int i1] h (am_oi r.1) r.2 :=
  am_met (tab := tX9_groupsIn) (orc := o_X9_groupsIn N) (ret := am_ri) (g := r) (by decide) (by decide) hy.1 hy.2 tok_X9_groupsIn (am_os1 (s_X9_groupAt hy N) am_os0) am_ri_inv (Nat.le_of_ble_eq_true rfl) (fun At cl wk => by
    have A17 : ∀ n : Nat, ∀ i0 : Int32, ∀ i1 : Int32, ∀ i2 : Int32, ∀ i3 : Int32, ∀ h, l_X9_groupsIn_17 N n i0 i1 i2 i3 h = some r → At 17 [(0, .int i0), (1, .int i1), (2, .int i2), (3, .int i3)] [] h := by
      intro n
      induction n with
      | zero => intro i0 i1 i2 i3 h hr; cases hr
      | succ n ih =>
        intro i0 i1 i2 i3 h hr
        exact cl (am_C1 17 (fun ρ st h => am_ldi ρ 0 (fun i0 => am_ldi ρ 1 (fun i1 => am_ldi ρ 2 (fun i2 => am_ldi ρ 3 (fun i3 => am_st0 st (l_X9_groupsIn_17 N n i0 i1 i2 i3 h)))))) am_C0) (am_c1 (fun ρ st h hc => by
        obtain ⟨i0, m_i0, hc⟩ := am_ldi_some hc
        obtain ⟨i1, m_i1, hc⟩ := am_ldi_some hc
        obtain ⟨i2, m_i2, hc⟩ := am_ldi_some hc
        obtain ⟨i3, m_i3, hc⟩ := am_ldi_some hc
        obtain ⟨rfl, hc⟩ := am_st0_some hc
        exact wk 17 ρ [(0, .int i0), (1, .int i1), (2, .int i2), (3, .int i3)] _ h (am_m1 m_i0 (am_m1 m_i1 (am_m1 m_i2 (am_m1 m_i3 am_m0)))) (ih i0 i1 i2 i3 h hc)) am_c0) 400 17 _ _ h hr
    exact cl (am_C1 17 (fun ρ st h => am_ldi ρ 0 (fun i0 => am_ldi ρ 1 (fun i1 => am_ldi ρ 2 (fun i2 => am_ldi ρ 3 (fun i3 => am_st0 st (l_X9_groupsIn_17 N N i0 i1 i2 i3 h)))))) am_C0) (am_c1 (fun ρ st h hc => by
        obtain ⟨i0, m_i0, hc⟩ := am_ldi_some hc
        obtain ⟨i1, m_i1, hc⟩ := am_ldi_some hc
        obtain ⟨i2, m_i2, hc⟩ := am_ldi_some hc
        obtain ⟨i3, m_i3, hc⟩ := am_ldi_some hc
        obtain ⟨rfl, hc⟩ := am_st0_some hc
        exact wk 17 ρ [(0, .int i0), (1, .int i1), (2, .int i2), (3, .int i3)] _ h (am_m1 m_i0 (am_m1 m_i1 (am_m1 m_i2 (am_m1 m_i3 am_m0)))) (A17 N i0 i1 i2 i3 h hc)) am_c0) 400 0 _ _ h hf)
theorem s_X9_groupsIn {l : Launch} {al : Nat → Nat} {dC : Nat → ClassId} {dI : Nat → Nat → Nat} {aC : Nat → ClassId} {aV : Nat → Nat} (hy : am_Hy l al) (N : Nat) : am_CS l al dC dI aC aV 105 (c_X9_groupsIn N) := by
  intro γ as h kk g hc0
  obtain ⟨i0, w0, e_0, hc1⟩ := am_s1_some hc0
  obtain ⟨i1, w1, e_1, hc2⟩ := am_s1_some hc1
  obtain ⟨e_2, hc⟩ := am_st0_some hc2
  subst e_2
  subst e_1
  subst e_0
  obtain ⟨q, e1, e2⟩ := am_bi_some hc
  exact ⟨_, _, m_X9_groupsIn hy N i0 i1 h _ e1, e2⟩

def f_X9_reasonNotToType (N : Nat) (i1 : Int32) (a2 : Nat) (h : am_Hp) : Option (Option Int32 × am_Hp) :=
  bif am_isO a2 5 then (if (h a2 2) = 0 then
    some (some (1 : Int32), h)
  else
    bif am_isO a2 5 then (if (h a2 2) = (1 : Int32) then
      bif am_isO a2 5 then am_bt (f_X9_deskOf N (h a2 3) h) (fun h1 => some (none, h1)) (fun b2 h1 => bif am_isO b2 0 then (if (h1 b2 1) = (-1 : Int32) then
        some (some (3 : Int32), h1)
      else
        bif am_isO b2 0 then (if (h1 b2 1) = i1 then
          bif am_isO b2 0 then (if (h1 b2 0) < (300 : Int32) then
            some (some (0 : Int32), h1)
          else
            some (some (5 : Int32), h1)) else none
        else
          some (some (4 : Int32), h1)) else none) else none) else none
    else
      some (some (2 : Int32), h)) else none) else none
def c_X9_reasonNotToType (N : Nat) : am_Cl := fun _ as h kk => am_sa as (fun z w0 => bif Nat.beq z 0 then am_s1 w0 (fun i1 w1 => am_sa w1 (fun a2 w2 => am_st0 w2 (am_bt (f_X9_reasonNotToType N i1 a2 h) (fun h => kk none h) (fun v h => kk (am_oi v) h)))) else none)
def o_X9_reasonNotToType (N : Nat) : am_Orc := (am_oc 85 (c_X9_deskOf N) am_o0)
set_option maxRecDepth 100000 in
theorem tok_X9_reasonNotToType : am_tok 98 tX9_reasonNotToType := by
  unfold am_tok
  decide +kernel
set_option maxHeartbeats 4000000 in
set_option maxRecDepth 100000 in
theorem m_X9_reasonNotToType {l : Launch} {al : Nat → Nat} {dC : Nat → ClassId} {dI : Nat → Nat → Nat} {aC : Nat → ClassId} {aV : Nat → Nat} (hy : am_Hy l al) (N : Nat) (i1 : Int32) (a2 : Nat) (h : am_Hp) (r : (Option Int32 × am_Hp)) (hf : f_X9_reasonNotToType N i1 a2 h = some r) : am_Met l al dC dI aC aV 98 [.ref 0, .int i1, .ref a2] h (am_ot am_oi r.1) r.2 :=
  am_met (tab := tX9_reasonNotToType) (orc := o_X9_reasonNotToType N) (ret := am_ti) (g := r) (by decide) (by decide) hy.1 hy.2 tok_X9_reasonNotToType (am_os1 (s_X9_deskOf hy N) am_os0) am_ti_inv (Nat.le_of_ble_eq_true rfl) (fun At cl wk => by
    skip
    exact cl am_C0 am_c0 400 0 _ _ h hf)
theorem s_X9_reasonNotToType {l : Launch} {al : Nat → Nat} {dC : Nat → ClassId} {dI : Nat → Nat → Nat} {aC : Nat → ClassId} {aV : Nat → Nat} (hy : am_Hy l al) (N : Nat) : am_CS l al dC dI aC aV 98 (c_X9_reasonNotToType N) := by
  intro γ as h kk g hc0
  obtain ⟨z0, w0, e_0, hcz0⟩ := am_sa_some hc0
  obtain ⟨hz0, hc1⟩ := am_bif hcz0
  cases Nat.eq_of_beq_eq_true hz0
  obtain ⟨i1, w1, e_1, hc2⟩ := am_s1_some hc1
  obtain ⟨a2, w2, e_2, hc3⟩ := am_sa_some hc2
  obtain ⟨e_3, hc⟩ := am_st0_some hc3
  subst e_3
  subst e_2
  subst e_1
  subst e_0
  rcases am_bt_some hc with ⟨h1, e1, e2⟩ | ⟨v, h1, e1, e2⟩
  · exact ⟨_, _, m_X9_reasonNotToType hy N i1 a2 h _ e1, e2⟩
  · exact ⟨_, _, m_X9_reasonNotToType hy N i1 a2 h _ e1, e2⟩

def l_X9_type_99 (N : Nat) : Nat → Int32 → Int32 → Int32 → Nat → Nat → Int32 → am_Hp → Option (Option Int32 × am_Hp)
  | 0, _, _, _, _, _, _, _ => none
  | n + 1, i1, i2, i3, a5, a6, i7, h =>
    (if i3 ≤ i7 then
      am_bt (f_X9_recordRightSizes N h) (fun h1 => some (none, h1)) (fun _ h1 => bif am_isO a5 0 then some (some (h1 a5 0), h1) else none)
    else
      bif am_isO a5 0 then am_bi (f_X9_groupAt N i2 i7 h) (fun x3 h2 =>
      bif am_isO a6 3 then am_bi (f_X3_putTyped N a6 (h a5 0) x3 (h2 24 0) i1 h2) (fun _ h4 =>
      bif am_isO a5 0 then bif am_isO a5 0 then (let h5 := am_pi h4 a5 0 ((h4 a5 0) + (1 : Int32))
      l_X9_type_99 N n i1 i2 i3 a5 a6 (i7 + (1 : Int32)) h5) else none else none) else none) else none)
def f_X9_type (N : Nat) (i1 : Int32) (i2 : Int32) (h : am_Hp) : Option (Option Int32 × am_Hp) :=
  am_bi (f_X8_has N 19 i1 h) (fun x2 h1 =>
  (if x2 = 0 then
    some (some (-1 : Int32), h1)
  else
    am_bi (f_X9_groupsIn N i2 (31 : Int32) h1) (fun x4 h3 =>
    (if x4 = 0 then
      some (some (-2 : Int32), h3)
    else
      am_bt (f_X9_seatOf N i1 h3) (fun h5 => some (none, h5)) (fun b6 h5 => am_bt (f_X9_reasonNotToType N i1 b6 h5) (fun h7 => some (none, h7)) (fun x8 h7 => (if x8 = 0 then
        bif am_isO b6 5 then am_bt (f_X9_deskOf N (h7 b6 3) h7) (fun h9 => some (none, h9)) (fun b10 h9 => bif am_isO b10 0 then (if ((h9 b10 0) + x4) ≤ (300 : Int32) then
          am_bi (f_X2_keep N 24 h9) (fun _ h11 =>
          bif am_isO b6 5 then am_bt (f_X9_recordingOf N (h11 b6 3) h11) (fun h12 => some (none, h12)) (fun b13 h12 => l_X9_type_99 N N i1 i2 x4 b10 b13 (0 : Int32) h12) else none)
        else
          some (some (-3 : Int32), h9)) else none) else none
      else
        some (some (-4 : Int32), h7))))))))
def c_X9_type (N : Nat) : am_Cl := fun _ as h kk => am_sa as (fun z w0 => bif Nat.beq z 0 then am_s1 w0 (fun i1 w1 => am_s1 w1 (fun i2 w2 => am_st0 w2 (am_bt (f_X9_type N i1 i2 h) (fun h => kk none h) (fun v h => kk (am_oi v) h)))) else none)
def o_X9_type (N : Nat) : am_Orc := (am_oc 51 (c_X8_has N) (am_oc 105 (c_X9_groupsIn N) (am_oc 87 (c_X9_seatOf N) (am_oc 98 (c_X9_reasonNotToType N) (am_oc 85 (c_X9_deskOf N) (am_oc 14 (c_X2_keep N) (am_oc 86 (c_X9_recordingOf N) (am_oc 104 (c_X9_groupAt N) (am_oc 17 (c_X3_putTyped N) (am_oc 96 (c_X9_recordRightSizes N) am_o0))))))))))
set_option maxRecDepth 100000 in
theorem tok_X9_type : am_tok 77 tX9_type := by
  unfold am_tok
  decide +kernel
set_option maxHeartbeats 4000000 in
set_option maxRecDepth 100000 in
theorem m_X9_type {l : Launch} {al : Nat → Nat} {dC : Nat → ClassId} {dI : Nat → Nat → Nat} {aC : Nat → ClassId} {aV : Nat → Nat} (hy : am_Hy l al) (N : Nat) (i1 : Int32) (i2 : Int32) (h : am_Hp) (r : (Option Int32 × am_Hp)) (hf : f_X9_type N i1 i2 h = some r) : am_Met l al dC dI aC aV 77 [.ref 0, .int i1, .int i2] h (am_ot am_oi r.1) r.2 :=
  am_met (tab := tX9_type) (orc := o_X9_type N) (ret := am_ti) (g := r) (by decide) (by decide) hy.1 hy.2 tok_X9_type (am_os1 (s_X8_has hy N) (am_os1 (s_X9_groupsIn hy N) (am_os1 (s_X9_seatOf hy N) (am_os1 (s_X9_reasonNotToType hy N) (am_os1 (s_X9_deskOf hy N) (am_os1 (s_X2_keep hy N) (am_os1 (s_X9_recordingOf hy N) (am_os1 (s_X9_groupAt hy N) (am_os1 (s_X3_putTyped hy N) (am_os1 (s_X9_recordRightSizes hy N) am_os0)))))))))) am_ti_inv (Nat.le_of_ble_eq_true rfl) (fun At cl wk => by
    have A99 : ∀ n : Nat, ∀ i1 : Int32, ∀ i2 : Int32, ∀ i3 : Int32, ∀ a5 : Nat, ∀ a6 : Nat, ∀ i7 : Int32, ∀ h, l_X9_type_99 N n i1 i2 i3 a5 a6 i7 h = some r → At 99 [(0, .ref 0), (1, .int i1), (2, .int i2), (3, .int i3), (5, .ref a5), (6, .ref a6), (7, .int i7)] [] h := by
      intro n
      induction n with
      | zero => intro i1 i2 i3 a5 a6 i7 h hr; cases hr
      | succ n ih =>
        intro i1 i2 i3 a5 a6 i7 h hr
        exact cl (am_C1 99 (fun ρ st h => am_lda ρ 0 (fun z => bif Nat.beq z 0 then am_ldi ρ 1 (fun i1 => am_ldi ρ 2 (fun i2 => am_ldi ρ 3 (fun i3 => am_lda ρ 5 (fun a5 => am_lda ρ 6 (fun a6 => am_ldi ρ 7 (fun i7 => am_st0 st (l_X9_type_99 N n i1 i2 i3 a5 a6 i7 h))))))) else none)) am_C0) (am_c1 (fun ρ st h hc => by
        obtain ⟨z, m_a0, hc⟩ := am_lda_some hc
        obtain ⟨hz, hc⟩ := am_bif hc
        cases Nat.eq_of_beq_eq_true hz
        obtain ⟨i1, m_i1, hc⟩ := am_ldi_some hc
        obtain ⟨i2, m_i2, hc⟩ := am_ldi_some hc
        obtain ⟨i3, m_i3, hc⟩ := am_ldi_some hc
        obtain ⟨a5, m_a5, hc⟩ := am_lda_some hc
        obtain ⟨a6, m_a6, hc⟩ := am_lda_some hc
        obtain ⟨i7, m_i7, hc⟩ := am_ldi_some hc
        obtain ⟨rfl, hc⟩ := am_st0_some hc
        exact wk 99 ρ [(0, .ref 0), (1, .int i1), (2, .int i2), (3, .int i3), (5, .ref a5), (6, .ref a6), (7, .int i7)] _ h (am_m1 m_a0 (am_m1 m_i1 (am_m1 m_i2 (am_m1 m_i3 (am_m1 m_a5 (am_m1 m_a6 (am_m1 m_i7 am_m0))))))) (ih i1 i2 i3 a5 a6 i7 h hc)) am_c0) 400 99 _ _ h hr
    exact cl (am_C1 99 (fun ρ st h => am_lda ρ 0 (fun z => bif Nat.beq z 0 then am_ldi ρ 1 (fun i1 => am_ldi ρ 2 (fun i2 => am_ldi ρ 3 (fun i3 => am_lda ρ 5 (fun a5 => am_lda ρ 6 (fun a6 => am_ldi ρ 7 (fun i7 => am_st0 st (l_X9_type_99 N N i1 i2 i3 a5 a6 i7 h))))))) else none)) am_C0) (am_c1 (fun ρ st h hc => by
        obtain ⟨z, m_a0, hc⟩ := am_lda_some hc
        obtain ⟨hz, hc⟩ := am_bif hc
        cases Nat.eq_of_beq_eq_true hz
        obtain ⟨i1, m_i1, hc⟩ := am_ldi_some hc
        obtain ⟨i2, m_i2, hc⟩ := am_ldi_some hc
        obtain ⟨i3, m_i3, hc⟩ := am_ldi_some hc
        obtain ⟨a5, m_a5, hc⟩ := am_lda_some hc
        obtain ⟨a6, m_a6, hc⟩ := am_lda_some hc
        obtain ⟨i7, m_i7, hc⟩ := am_ldi_some hc
        obtain ⟨rfl, hc⟩ := am_st0_some hc
        exact wk 99 ρ [(0, .ref 0), (1, .int i1), (2, .int i2), (3, .int i3), (5, .ref a5), (6, .ref a6), (7, .int i7)] _ h (am_m1 m_a0 (am_m1 m_i1 (am_m1 m_i2 (am_m1 m_i3 (am_m1 m_a5 (am_m1 m_a6 (am_m1 m_i7 am_m0))))))) (A99 N i1 i2 i3 a5 a6 i7 h hc)) am_c0) 400 0 _ _ h hf)
theorem s_X9_type {l : Launch} {al : Nat → Nat} {dC : Nat → ClassId} {dI : Nat → Nat → Nat} {aC : Nat → ClassId} {aV : Nat → Nat} (hy : am_Hy l al) (N : Nat) : am_CS l al dC dI aC aV 77 (c_X9_type N) := by
  intro γ as h kk g hc0
  obtain ⟨z0, w0, e_0, hcz0⟩ := am_sa_some hc0
  obtain ⟨hz0, hc1⟩ := am_bif hcz0
  cases Nat.eq_of_beq_eq_true hz0
  obtain ⟨i1, w1, e_1, hc2⟩ := am_s1_some hc1
  obtain ⟨i2, w2, e_2, hc3⟩ := am_s1_some hc2
  obtain ⟨e_3, hc⟩ := am_st0_some hc3
  subst e_3
  subst e_2
  subst e_1
  subst e_0
  rcases am_bt_some hc with ⟨h1, e1, e2⟩ | ⟨v, h1, e1, e2⟩
  · exact ⟨_, _, m_X9_type hy N i1 i2 h _ e1, e2⟩
  · exact ⟨_, _, m_X9_type hy N i1 i2 h _ e1, e2⟩
