def f_X10_thrown (N : Nat)  (h : am_Hp) : Option (Int32 × am_Hp) :=
  some (h 193 0, h)
def c_X10_thrown (N : Nat) : am_Cl := fun _ as h kk => am_sa as (fun z w0 => bif Nat.beq z 193 then am_st0 w0 (am_bi (f_X10_thrown N  h) (fun v h => kk (am_oi v) h)) else none)
def o_X10_thrown (N : Nat) : am_Orc := am_o0
set_option maxRecDepth 100000 in
theorem tok_X10_thrown : am_tok 125 tX10_thrown := by
  unfold am_tok
  decide +kernel
set_option maxHeartbeats 4000000 in
set_option maxRecDepth 100000 in
theorem m_X10_thrown {l : Launch} {al : Nat → Nat} {dC : Nat → ClassId} {dI : Nat → Nat → Nat} {aC : Nat → ClassId} {aV : Nat → Nat} (hy : am_Hy l al) (N : Nat)  (h : am_Hp) (r : (Int32 × am_Hp)) (hf : f_X10_thrown N  h = some r) : am_Met l al dC dI aC aV 125 [.ref 193] h (am_oi r.1) r.2 :=
  am_met (tab := tX10_thrown) (orc := o_X10_thrown N) (ret := am_ri) (g := r) (by decide) (by decide) hy.1 hy.2 tok_X10_thrown am_os0 am_ri_inv (Nat.le_of_ble_eq_true rfl) (fun At cl wk => by
    skip
    exact cl am_C0 am_c0 400 0 _ _ h hf)
theorem s_X10_thrown {l : Launch} {al : Nat → Nat} {dC : Nat → ClassId} {dI : Nat → Nat → Nat} {aC : Nat → ClassId} {aV : Nat → Nat} (hy : am_Hy l al) (N : Nat) : am_CS l al dC dI aC aV 125 (c_X10_thrown N) := by
  intro γ as h kk g hc0
  obtain ⟨z0, w0, e_0, hcz0⟩ := am_sa_some hc0
  obtain ⟨hz0, hc1⟩ := am_bif hcz0
  cases Nat.eq_of_beq_eq_true hz0
  obtain ⟨e_1, hc⟩ := am_st0_some hc1
  subst e_1
  subst e_0
  obtain ⟨q, e1, e2⟩ := am_bi_some hc
  exact ⟨_, _, m_X10_thrown hy N  h _ e1, e2⟩

def l_X10_feed_24 (N : Nat) : Nat → Int32 → Int32 → Int32 → Int32 → Int32 → Int32 → am_Hp → Option (Int32 × am_Hp)
  | 0, _, _, _, _, _, _, _ => none
  | n + 1, i1, i2, i3, i4, i5, i6, h =>
    (if (20 : Int32) ≤ i6 then
      let h1 := am_pi h 193 2 ((h 193 2) + (20 : Int32))
      some (h1 193 2, h1)
    else
      (if (4 : Int32) ≤ i6 then
        (if (8 : Int32) ≤ i6 then
          (if (12 : Int32) ≤ i6 then
            (if (16 : Int32) ≤ i6 then
              if (4 : Int32) = 0 then none else bif am_in ((h 193 2) + i6) 600 then (let h2 := am_pi h 194 (((h 193 2) + i6).toNatClampNeg) ((i5 >>> (((24 : Int32) - ((8 : Int32) * (i6 - i6 / (4 : Int32) * (4 : Int32)))) &&& 31)) &&& (255 : Int32))
              l_X10_feed_24 N n i1 i2 i3 i4 i5 (i6 + (1 : Int32)) h2) else none
            else
              if (4 : Int32) = 0 then none else bif am_in ((h 193 2) + i6) 600 then (let h3 := am_pi h 194 (((h 193 2) + i6).toNatClampNeg) ((i4 >>> (((24 : Int32) - ((8 : Int32) * (i6 - i6 / (4 : Int32) * (4 : Int32)))) &&& 31)) &&& (255 : Int32))
              l_X10_feed_24 N n i1 i2 i3 i4 i5 (i6 + (1 : Int32)) h3) else none)
          else
            if (4 : Int32) = 0 then none else bif am_in ((h 193 2) + i6) 600 then (let h4 := am_pi h 194 (((h 193 2) + i6).toNatClampNeg) ((i3 >>> (((24 : Int32) - ((8 : Int32) * (i6 - i6 / (4 : Int32) * (4 : Int32)))) &&& 31)) &&& (255 : Int32))
            l_X10_feed_24 N n i1 i2 i3 i4 i5 (i6 + (1 : Int32)) h4) else none)
        else
          if (4 : Int32) = 0 then none else bif am_in ((h 193 2) + i6) 600 then (let h5 := am_pi h 194 (((h 193 2) + i6).toNatClampNeg) ((i2 >>> (((24 : Int32) - ((8 : Int32) * (i6 - i6 / (4 : Int32) * (4 : Int32)))) &&& 31)) &&& (255 : Int32))
          l_X10_feed_24 N n i1 i2 i3 i4 i5 (i6 + (1 : Int32)) h5) else none)
      else
        if (4 : Int32) = 0 then none else bif am_in ((h 193 2) + i6) 600 then (let h6 := am_pi h 194 (((h 193 2) + i6).toNatClampNeg) ((i1 >>> (((24 : Int32) - ((8 : Int32) * (i6 - i6 / (4 : Int32) * (4 : Int32)))) &&& 31)) &&& (255 : Int32))
        l_X10_feed_24 N n i1 i2 i3 i4 i5 (i6 + (1 : Int32)) h6) else none))
def f_X10_feed (N : Nat) (i1 : Int32) (i2 : Int32) (i3 : Int32) (i4 : Int32) (i5 : Int32) (h : am_Hp) : Option (Int32 × am_Hp) :=
  let h1 := am_pi h 193 0 (0 : Int32)
  (if ((h1 193 2) + (20 : Int32)) ≤ (600 : Int32) then
    l_X10_feed_24 N N i1 i2 i3 i4 i5 (0 : Int32) h1
  else
    some ((-3 : Int32), h1))
def c_X10_feed (N : Nat) : am_Cl := fun _ as h kk => am_sa as (fun z w0 => bif Nat.beq z 193 then am_s1 w0 (fun i1 w1 => am_s1 w1 (fun i2 w2 => am_s1 w2 (fun i3 w3 => am_s1 w3 (fun i4 w4 => am_s1 w4 (fun i5 w5 => am_st0 w5 (am_bi (f_X10_feed N i1 i2 i3 i4 i5 h) (fun v h => kk (am_oi v) h))))))) else none)
def o_X10_feed (N : Nat) : am_Orc := am_o0
set_option maxRecDepth 100000 in
theorem tok_X10_feed : am_tok 126 tX10_feed := by
  unfold am_tok
  decide +kernel
set_option maxHeartbeats 4000000 in
set_option maxRecDepth 100000 in
theorem m_X10_feed {l : Launch} {al : Nat → Nat} {dC : Nat → ClassId} {dI : Nat → Nat → Nat} {aC : Nat → ClassId} {aV : Nat → Nat} (hy : am_Hy l al) (N : Nat) (i1 : Int32) (i2 : Int32) (i3 : Int32) (i4 : Int32) (i5 : Int32) (h : am_Hp) (r : (Int32 × am_Hp)) (hf : f_X10_feed N i1 i2 i3 i4 i5 h = some r) : am_Met l al dC dI aC aV 126 [.ref 193, .int i1, .int i2, .int i3, .int i4, .int i5] h (am_oi r.1) r.2 :=
  am_met (tab := tX10_feed) (orc := o_X10_feed N) (ret := am_ri) (g := r) (by decide) (by decide) hy.1 hy.2 tok_X10_feed am_os0 am_ri_inv (Nat.le_of_ble_eq_true rfl) (fun At cl wk => by
    have A24 : ∀ n : Nat, ∀ i1 : Int32, ∀ i2 : Int32, ∀ i3 : Int32, ∀ i4 : Int32, ∀ i5 : Int32, ∀ i6 : Int32, ∀ h, l_X10_feed_24 N n i1 i2 i3 i4 i5 i6 h = some r → At 24 [(0, .ref 193), (1, .int i1), (2, .int i2), (3, .int i3), (4, .int i4), (5, .int i5), (6, .int i6)] [] h := by
      intro n
      induction n with
      | zero => intro i1 i2 i3 i4 i5 i6 h hr; cases hr
      | succ n ih =>
        intro i1 i2 i3 i4 i5 i6 h hr
        exact cl (am_C1 24 (fun ρ st h => am_lda ρ 0 (fun z => bif Nat.beq z 193 then am_ldi ρ 1 (fun i1 => am_ldi ρ 2 (fun i2 => am_ldi ρ 3 (fun i3 => am_ldi ρ 4 (fun i4 => am_ldi ρ 5 (fun i5 => am_ldi ρ 6 (fun i6 => am_st0 st (l_X10_feed_24 N n i1 i2 i3 i4 i5 i6 h))))))) else none)) am_C0) (am_c1 (fun ρ st h hc => by
        obtain ⟨z, m_a0, hc⟩ := am_lda_some hc
        obtain ⟨hz, hc⟩ := am_bif hc
        cases Nat.eq_of_beq_eq_true hz
        obtain ⟨i1, m_i1, hc⟩ := am_ldi_some hc
        obtain ⟨i2, m_i2, hc⟩ := am_ldi_some hc
        obtain ⟨i3, m_i3, hc⟩ := am_ldi_some hc
        obtain ⟨i4, m_i4, hc⟩ := am_ldi_some hc
        obtain ⟨i5, m_i5, hc⟩ := am_ldi_some hc
        obtain ⟨i6, m_i6, hc⟩ := am_ldi_some hc
        obtain ⟨rfl, hc⟩ := am_st0_some hc
        exact wk 24 ρ [(0, .ref 193), (1, .int i1), (2, .int i2), (3, .int i3), (4, .int i4), (5, .int i5), (6, .int i6)] _ h (am_m1 m_a0 (am_m1 m_i1 (am_m1 m_i2 (am_m1 m_i3 (am_m1 m_i4 (am_m1 m_i5 (am_m1 m_i6 am_m0))))))) (ih i1 i2 i3 i4 i5 i6 h hc)) am_c0) 400 24 _ _ h hr
    exact cl (am_C1 24 (fun ρ st h => am_lda ρ 0 (fun z => bif Nat.beq z 193 then am_ldi ρ 1 (fun i1 => am_ldi ρ 2 (fun i2 => am_ldi ρ 3 (fun i3 => am_ldi ρ 4 (fun i4 => am_ldi ρ 5 (fun i5 => am_ldi ρ 6 (fun i6 => am_st0 st (l_X10_feed_24 N N i1 i2 i3 i4 i5 i6 h))))))) else none)) am_C0) (am_c1 (fun ρ st h hc => by
        obtain ⟨z, m_a0, hc⟩ := am_lda_some hc
        obtain ⟨hz, hc⟩ := am_bif hc
        cases Nat.eq_of_beq_eq_true hz
        obtain ⟨i1, m_i1, hc⟩ := am_ldi_some hc
        obtain ⟨i2, m_i2, hc⟩ := am_ldi_some hc
        obtain ⟨i3, m_i3, hc⟩ := am_ldi_some hc
        obtain ⟨i4, m_i4, hc⟩ := am_ldi_some hc
        obtain ⟨i5, m_i5, hc⟩ := am_ldi_some hc
        obtain ⟨i6, m_i6, hc⟩ := am_ldi_some hc
        obtain ⟨rfl, hc⟩ := am_st0_some hc
        exact wk 24 ρ [(0, .ref 193), (1, .int i1), (2, .int i2), (3, .int i3), (4, .int i4), (5, .int i5), (6, .int i6)] _ h (am_m1 m_a0 (am_m1 m_i1 (am_m1 m_i2 (am_m1 m_i3 (am_m1 m_i4 (am_m1 m_i5 (am_m1 m_i6 am_m0))))))) (A24 N i1 i2 i3 i4 i5 i6 h hc)) am_c0) 400 0 _ _ h hf)
theorem s_X10_feed {l : Launch} {al : Nat → Nat} {dC : Nat → ClassId} {dI : Nat → Nat → Nat} {aC : Nat → ClassId} {aV : Nat → Nat} (hy : am_Hy l al) (N : Nat) : am_CS l al dC dI aC aV 126 (c_X10_feed N) := by
  intro γ as h kk g hc0
  obtain ⟨z0, w0, e_0, hcz0⟩ := am_sa_some hc0
  obtain ⟨hz0, hc1⟩ := am_bif hcz0
  cases Nat.eq_of_beq_eq_true hz0
  obtain ⟨i1, w1, e_1, hc2⟩ := am_s1_some hc1
  obtain ⟨i2, w2, e_2, hc3⟩ := am_s1_some hc2
  obtain ⟨i3, w3, e_3, hc4⟩ := am_s1_some hc3
  obtain ⟨i4, w4, e_4, hc5⟩ := am_s1_some hc4
  obtain ⟨i5, w5, e_5, hc6⟩ := am_s1_some hc5
  obtain ⟨e_6, hc⟩ := am_st0_some hc6
  subst e_6
  subst e_5
  subst e_4
  subst e_3
  subst e_2
  subst e_1
  subst e_0
  obtain ⟨q, e1, e2⟩ := am_bi_some hc
  exact ⟨_, _, m_X10_feed hy N i1 i2 i3 i4 i5 h _ e1, e2⟩

def l_X10_copies_2 (N : Nat) : Nat → Nat → Nat → Int32 → am_Hp → Option (Unit × am_Hp)
  | 0, _, _, _, _ => none
  | n + 1, a0, a1, i2, h =>
    bif am_isI a0 || am_isA a0 || am_isF a0 then (if (Int32.ofNat (am_len a0)) ≤ i2 then
      some ((), h)
    else
      bif am_in i2 (am_len a0) then (bif am_isI a0 then bif am_isI a1 && am_in i2 (am_len a1) then (let h1 := am_pi h a1 i2.toNatClampNeg (h a0 i2.toNatClampNeg)
      l_X10_copies_2 N n a0 a1 (i2 + (1 : Int32)) h1) else none else bif am_isF a0 then bif am_isI a1 && am_in i2 (am_len a1) then (let h2 := am_pi h a1 i2.toNatClampNeg (am_sx a0 i2.toNatClampNeg)
      l_X10_copies_2 N n a0 a1 (i2 + (1 : Int32)) h2) else none else none) else none) else none
def f_X10_copies (N : Nat) (a0 : Nat) (a1 : Nat) (h : am_Hp) : Option (Unit × am_Hp) :=
  l_X10_copies_2 N N a0 a1 (0 : Int32) h
def c_X10_copies (N : Nat) : am_Cl := fun _ as h kk => am_sa as (fun a0 w0 => am_sa w0 (fun a1 w1 => am_st0 w1 (am_bi (f_X10_copies N a0 a1 h) (fun v h => kk (am_ov v) h))))
def o_X10_copies (N : Nat) : am_Orc := am_o0
set_option maxRecDepth 100000 in
theorem tok_X10_copies : am_tok 127 tX10_copies := by
  unfold am_tok
  decide +kernel
set_option maxHeartbeats 4000000 in
set_option maxRecDepth 100000 in
theorem m_X10_copies {l : Launch} {al : Nat → Nat} {dC : Nat → ClassId} {dI : Nat → Nat → Nat} {aC : Nat → ClassId} {aV : Nat → Nat} (hy : am_Hy l al) (N : Nat) (a0 : Nat) (a1 : Nat) (h : am_Hp) (r : (Unit × am_Hp)) (hf : f_X10_copies N a0 a1 h = some r) : am_Met l al dC dI aC aV 127 [.ref a0, .ref a1] h (am_ov r.1) r.2 :=
  am_met (tab := tX10_copies) (orc := o_X10_copies N) (ret := am_rv) (g := r) (by decide) (by decide) hy.1 hy.2 tok_X10_copies am_os0 am_rv_inv (Nat.le_of_ble_eq_true rfl) (fun At cl wk => by
    have A2 : ∀ n : Nat, ∀ a0 : Nat, ∀ a1 : Nat, ∀ i2 : Int32, ∀ h, l_X10_copies_2 N n a0 a1 i2 h = some r → At 2 [(0, .ref a0), (1, .ref a1), (2, .int i2)] [] h := by
      intro n
      induction n with
      | zero => intro a0 a1 i2 h hr; cases hr
      | succ n ih =>
        intro a0 a1 i2 h hr
        exact cl (am_C1 2 (fun ρ st h => am_lda ρ 0 (fun a0 => am_lda ρ 1 (fun a1 => am_ldi ρ 2 (fun i2 => am_st0 st (l_X10_copies_2 N n a0 a1 i2 h))))) am_C0) (am_c1 (fun ρ st h hc => by
        obtain ⟨a0, m_a0, hc⟩ := am_lda_some hc
        obtain ⟨a1, m_a1, hc⟩ := am_lda_some hc
        obtain ⟨i2, m_i2, hc⟩ := am_ldi_some hc
        obtain ⟨rfl, hc⟩ := am_st0_some hc
        exact wk 2 ρ [(0, .ref a0), (1, .ref a1), (2, .int i2)] _ h (am_m1 m_a0 (am_m1 m_a1 (am_m1 m_i2 am_m0))) (ih a0 a1 i2 h hc)) am_c0) 400 2 _ _ h hr
    exact cl (am_C1 2 (fun ρ st h => am_lda ρ 0 (fun a0 => am_lda ρ 1 (fun a1 => am_ldi ρ 2 (fun i2 => am_st0 st (l_X10_copies_2 N N a0 a1 i2 h))))) am_C0) (am_c1 (fun ρ st h hc => by
        obtain ⟨a0, m_a0, hc⟩ := am_lda_some hc
        obtain ⟨a1, m_a1, hc⟩ := am_lda_some hc
        obtain ⟨i2, m_i2, hc⟩ := am_ldi_some hc
        obtain ⟨rfl, hc⟩ := am_st0_some hc
        exact wk 2 ρ [(0, .ref a0), (1, .ref a1), (2, .int i2)] _ h (am_m1 m_a0 (am_m1 m_a1 (am_m1 m_i2 am_m0))) (A2 N a0 a1 i2 h hc)) am_c0) 400 0 _ _ h hf)
theorem s_X10_copies {l : Launch} {al : Nat → Nat} {dC : Nat → ClassId} {dI : Nat → Nat → Nat} {aC : Nat → ClassId} {aV : Nat → Nat} (hy : am_Hy l al) (N : Nat) : am_CS l al dC dI aC aV 127 (c_X10_copies N) := by
  intro γ as h kk g hc0
  obtain ⟨a0, w0, e_0, hc1⟩ := am_sa_some hc0
  obtain ⟨a1, w1, e_1, hc2⟩ := am_sa_some hc1
  obtain ⟨e_2, hc⟩ := am_st0_some hc2
  subst e_2
  subst e_1
  subst e_0
  obtain ⟨q, e1, e2⟩ := am_bi_some hc
  exact ⟨_, _, m_X10_copies hy N a0 a1 h _ e1, e2⟩

def f_X10_setS (N : Nat) (i1 : Int32) (i2 : Int32) (i3 : Int32) (h : am_Hp) : Option (Unit × am_Hp) :=
  bif am_in (((55 : Int32) + ((1504 : Int32) * i1)) + i2) 6071 then (let h1 := am_pi h 197 ((((55 : Int32) + ((1504 : Int32) * i1)) + i2).toNatClampNeg) i3
  some ((), h1)) else none
def c_X10_setS (N : Nat) : am_Cl := fun _ as h kk => am_sa as (fun z w0 => bif Nat.beq z 193 then am_s1 w0 (fun i1 w1 => am_s1 w1 (fun i2 w2 => am_s1 w2 (fun i3 w3 => am_st0 w3 (am_bi (f_X10_setS N i1 i2 i3 h) (fun v h => kk (am_ov v) h))))) else none)
def o_X10_setS (N : Nat) : am_Orc := am_o0
set_option maxRecDepth 100000 in
theorem tok_X10_setS : am_tok 130 tX10_setS := by
  unfold am_tok
  decide +kernel
set_option maxHeartbeats 4000000 in
set_option maxRecDepth 100000 in
theorem m_X10_setS {l : Launch} {al : Nat → Nat} {dC : Nat → ClassId} {dI : Nat → Nat → Nat} {aC : Nat → ClassId} {aV : Nat → Nat} (hy : am_Hy l al) (N : Nat) (i1 : Int32) (i2 : Int32) (i3 : Int32) (h : am_Hp) (r : (Unit × am_Hp)) (hf : f_X10_setS N i1 i2 i3 h = some r) : am_Met l al dC dI aC aV 130 [.ref 193, .int i1, .int i2, .int i3] h (am_ov r.1) r.2 :=
  am_met (tab := tX10_setS) (orc := o_X10_setS N) (ret := am_rv) (g := r) (by decide) (by decide) hy.1 hy.2 tok_X10_setS am_os0 am_rv_inv (Nat.le_of_ble_eq_true rfl) (fun At cl wk => by
    skip
    exact cl am_C0 am_c0 400 0 _ _ h hf)
theorem s_X10_setS {l : Launch} {al : Nat → Nat} {dC : Nat → ClassId} {dI : Nat → Nat → Nat} {aC : Nat → ClassId} {aV : Nat → Nat} (hy : am_Hy l al) (N : Nat) : am_CS l al dC dI aC aV 130 (c_X10_setS N) := by
  intro γ as h kk g hc0
  obtain ⟨z0, w0, e_0, hcz0⟩ := am_sa_some hc0
  obtain ⟨hz0, hc1⟩ := am_bif hcz0
  cases Nat.eq_of_beq_eq_true hz0
  obtain ⟨i1, w1, e_1, hc2⟩ := am_s1_some hc1
  obtain ⟨i2, w2, e_2, hc3⟩ := am_s1_some hc2
  obtain ⟨i3, w3, e_3, hc4⟩ := am_s1_some hc3
  obtain ⟨e_4, hc⟩ := am_st0_some hc4
  subst e_4
  subst e_3
  subst e_2
  subst e_1
  subst e_0
  obtain ⟨q, e1, e2⟩ := am_bi_some hc
  exact ⟨_, _, m_X10_setS hy N i1 i2 i3 h _ e1, e2⟩

def l_X10_newConsoles_53 (N : Nat) : Nat → Int32 → am_Hp → Option (Unit × am_Hp)
  | 0, _, _ => none
  | n + 1, i1, h =>
    (if (4 : Int32) ≤ i1 then
      some ((), h)
    else
      am_bi (f_X10_setS N i1 (1 : Int32) (-1 : Int32) h) (fun _ h1 =>
      am_bi (f_X10_setS N i1 (2 : Int32) (-1 : Int32) h1) (fun _ h2 =>
      l_X10_newConsoles_53 N n (i1 + (1 : Int32)) h2)))
def l_X10_newConsoles_23 (N : Nat) : Nat → Int32 → am_Hp → Option (Unit × am_Hp)
  | 0, _, _ => none
  | n + 1, i1, h =>
    (if (6071 : Int32) ≤ i1 then
      bif am_in (0 : Int32) 6071 then (let h1 := am_pi h 197 0 (10 : Int32)
      l_X10_newConsoles_53 N N (0 : Int32) h1) else none
    else
      bif am_in i1 6071 then (let h2 := am_pi h 197 i1.toNatClampNeg (0 : Int32)
      l_X10_newConsoles_23 N n (i1 + (1 : Int32)) h2) else none)
def l_X10_newConsoles_2 (N : Nat) : Nat → Int32 → am_Hp → Option (Unit × am_Hp)
  | 0, _, _ => none
  | n + 1, i1, h =>
    (if (20 : Int32) ≤ i1 then
      l_X10_newConsoles_23 N N (0 : Int32) h
    else
      bif am_in i1 20 then (let h1 := am_pi h 195 i1.toNatClampNeg (0 : Int32)
      l_X10_newConsoles_2 N n (i1 + (1 : Int32)) h1) else none)
def f_X10_newConsoles (N : Nat)  (h : am_Hp) : Option (Unit × am_Hp) :=
  l_X10_newConsoles_2 N N (0 : Int32) h
def c_X10_newConsoles (N : Nat) : am_Cl := fun _ as h kk => am_sa as (fun z w0 => bif Nat.beq z 193 then am_st0 w0 (am_bi (f_X10_newConsoles N  h) (fun v h => kk (am_ov v) h)) else none)
def o_X10_newConsoles (N : Nat) : am_Orc := (am_oc 130 (c_X10_setS N) am_o0)
set_option maxRecDepth 100000 in
theorem tok_X10_newConsoles : am_tok 128 tX10_newConsoles := by
  unfold am_tok
  decide +kernel
set_option maxHeartbeats 4000000 in
set_option maxRecDepth 100000 in
theorem m_X10_newConsoles {l : Launch} {al : Nat → Nat} {dC : Nat → ClassId} {dI : Nat → Nat → Nat} {aC : Nat → ClassId} {aV : Nat → Nat} (hy : am_Hy l al) (N : Nat)  (h : am_Hp) (r : (Unit × am_Hp)) (hf : f_X10_newConsoles N  h = some r) : am_Met l al dC dI aC aV 128 [.ref 193] h (am_ov r.1) r.2 :=
  am_met (tab := tX10_newConsoles) (orc := o_X10_newConsoles N) (ret := am_rv) (g := r) (by decide) (by decide) hy.1 hy.2 tok_X10_newConsoles (am_os1 (s_X10_setS hy N) am_os0) am_rv_inv (Nat.le_of_ble_eq_true rfl) (fun At cl wk => by
    have A53 : ∀ n : Nat, ∀ i1 : Int32, ∀ h, l_X10_newConsoles_53 N n i1 h = some r → At 53 [(0, .ref 193), (1, .int i1)] [] h := by
      intro n
      induction n with
      | zero => intro i1 h hr; cases hr
      | succ n ih =>
        intro i1 h hr
        exact cl (am_C1 53 (fun ρ st h => am_lda ρ 0 (fun z => bif Nat.beq z 193 then am_ldi ρ 1 (fun i1 => am_st0 st (l_X10_newConsoles_53 N n i1 h)) else none)) am_C0) (am_c1 (fun ρ st h hc => by
        obtain ⟨z, m_a0, hc⟩ := am_lda_some hc
        obtain ⟨hz, hc⟩ := am_bif hc
        cases Nat.eq_of_beq_eq_true hz
        obtain ⟨i1, m_i1, hc⟩ := am_ldi_some hc
        obtain ⟨rfl, hc⟩ := am_st0_some hc
        exact wk 53 ρ [(0, .ref 193), (1, .int i1)] _ h (am_m1 m_a0 (am_m1 m_i1 am_m0)) (ih i1 h hc)) am_c0) 400 53 _ _ h hr
    have A23 : ∀ n : Nat, ∀ i1 : Int32, ∀ h, l_X10_newConsoles_23 N n i1 h = some r → At 23 [(0, .ref 193), (1, .int i1)] [] h := by
      intro n
      induction n with
      | zero => intro i1 h hr; cases hr
      | succ n ih =>
        intro i1 h hr
        exact cl (am_C1 23 (fun ρ st h => am_lda ρ 0 (fun z => bif Nat.beq z 193 then am_ldi ρ 1 (fun i1 => am_st0 st (l_X10_newConsoles_23 N n i1 h)) else none)) (am_C1 53 (fun ρ st h => am_lda ρ 0 (fun z => bif Nat.beq z 193 then am_ldi ρ 1 (fun i1 => am_st0 st (l_X10_newConsoles_53 N N i1 h)) else none)) am_C0)) (am_c1 (fun ρ st h hc => by
        obtain ⟨z, m_a0, hc⟩ := am_lda_some hc
        obtain ⟨hz, hc⟩ := am_bif hc
        cases Nat.eq_of_beq_eq_true hz
        obtain ⟨i1, m_i1, hc⟩ := am_ldi_some hc
        obtain ⟨rfl, hc⟩ := am_st0_some hc
        exact wk 23 ρ [(0, .ref 193), (1, .int i1)] _ h (am_m1 m_a0 (am_m1 m_i1 am_m0)) (ih i1 h hc)) (am_c1 (fun ρ st h hc => by
        obtain ⟨z, m_a0, hc⟩ := am_lda_some hc
        obtain ⟨hz, hc⟩ := am_bif hc
        cases Nat.eq_of_beq_eq_true hz
        obtain ⟨i1, m_i1, hc⟩ := am_ldi_some hc
        obtain ⟨rfl, hc⟩ := am_st0_some hc
        exact wk 53 ρ [(0, .ref 193), (1, .int i1)] _ h (am_m1 m_a0 (am_m1 m_i1 am_m0)) (A53 N i1 h hc)) am_c0)) 400 23 _ _ h hr
    have A2 : ∀ n : Nat, ∀ i1 : Int32, ∀ h, l_X10_newConsoles_2 N n i1 h = some r → At 2 [(0, .ref 193), (1, .int i1)] [] h := by
      intro n
      induction n with
      | zero => intro i1 h hr; cases hr
      | succ n ih =>
        intro i1 h hr
        exact cl (am_C1 2 (fun ρ st h => am_lda ρ 0 (fun z => bif Nat.beq z 193 then am_ldi ρ 1 (fun i1 => am_st0 st (l_X10_newConsoles_2 N n i1 h)) else none)) (am_C1 23 (fun ρ st h => am_lda ρ 0 (fun z => bif Nat.beq z 193 then am_ldi ρ 1 (fun i1 => am_st0 st (l_X10_newConsoles_23 N N i1 h)) else none)) am_C0)) (am_c1 (fun ρ st h hc => by
        obtain ⟨z, m_a0, hc⟩ := am_lda_some hc
        obtain ⟨hz, hc⟩ := am_bif hc
        cases Nat.eq_of_beq_eq_true hz
        obtain ⟨i1, m_i1, hc⟩ := am_ldi_some hc
        obtain ⟨rfl, hc⟩ := am_st0_some hc
        exact wk 2 ρ [(0, .ref 193), (1, .int i1)] _ h (am_m1 m_a0 (am_m1 m_i1 am_m0)) (ih i1 h hc)) (am_c1 (fun ρ st h hc => by
        obtain ⟨z, m_a0, hc⟩ := am_lda_some hc
        obtain ⟨hz, hc⟩ := am_bif hc
        cases Nat.eq_of_beq_eq_true hz
        obtain ⟨i1, m_i1, hc⟩ := am_ldi_some hc
        obtain ⟨rfl, hc⟩ := am_st0_some hc
        exact wk 23 ρ [(0, .ref 193), (1, .int i1)] _ h (am_m1 m_a0 (am_m1 m_i1 am_m0)) (A23 N i1 h hc)) am_c0)) 400 2 _ _ h hr
    exact cl (am_C1 2 (fun ρ st h => am_lda ρ 0 (fun z => bif Nat.beq z 193 then am_ldi ρ 1 (fun i1 => am_st0 st (l_X10_newConsoles_2 N N i1 h)) else none)) am_C0) (am_c1 (fun ρ st h hc => by
        obtain ⟨z, m_a0, hc⟩ := am_lda_some hc
        obtain ⟨hz, hc⟩ := am_bif hc
        cases Nat.eq_of_beq_eq_true hz
        obtain ⟨i1, m_i1, hc⟩ := am_ldi_some hc
        obtain ⟨rfl, hc⟩ := am_st0_some hc
        exact wk 2 ρ [(0, .ref 193), (1, .int i1)] _ h (am_m1 m_a0 (am_m1 m_i1 am_m0)) (A2 N i1 h hc)) am_c0) 400 0 _ _ h hf)
theorem s_X10_newConsoles {l : Launch} {al : Nat → Nat} {dC : Nat → ClassId} {dI : Nat → Nat → Nat} {aC : Nat → ClassId} {aV : Nat → Nat} (hy : am_Hy l al) (N : Nat) : am_CS l al dC dI aC aV 128 (c_X10_newConsoles N) := by
  intro γ as h kk g hc0
  obtain ⟨z0, w0, e_0, hcz0⟩ := am_sa_some hc0
  obtain ⟨hz0, hc1⟩ := am_bif hcz0
  cases Nat.eq_of_beq_eq_true hz0
  obtain ⟨e_1, hc⟩ := am_st0_some hc1
  subst e_1
  subst e_0
  obtain ⟨q, e1, e2⟩ := am_bi_some hc
  exact ⟨_, _, m_X10_newConsoles hy N  h _ e1, e2⟩

def f_X10_ofS (N : Nat) (i1 : Int32) (i2 : Int32) (h : am_Hp) : Option (Int32 × am_Hp) :=
  bif am_in (((55 : Int32) + ((1504 : Int32) * i1)) + i2) 6071 then some (h 197 ((((55 : Int32) + ((1504 : Int32) * i1)) + i2).toNatClampNeg), h) else none
def c_X10_ofS (N : Nat) : am_Cl := fun _ as h kk => am_sa as (fun z w0 => bif Nat.beq z 193 then am_s1 w0 (fun i1 w1 => am_s1 w1 (fun i2 w2 => am_st0 w2 (am_bi (f_X10_ofS N i1 i2 h) (fun v h => kk (am_oi v) h)))) else none)
def o_X10_ofS (N : Nat) : am_Orc := am_o0
set_option maxRecDepth 100000 in
theorem tok_X10_ofS : am_tok 129 tX10_ofS := by
  unfold am_tok
  decide +kernel
set_option maxHeartbeats 4000000 in
set_option maxRecDepth 100000 in
theorem m_X10_ofS {l : Launch} {al : Nat → Nat} {dC : Nat → ClassId} {dI : Nat → Nat → Nat} {aC : Nat → ClassId} {aV : Nat → Nat} (hy : am_Hy l al) (N : Nat) (i1 : Int32) (i2 : Int32) (h : am_Hp) (r : (Int32 × am_Hp)) (hf : f_X10_ofS N i1 i2 h = some r) : am_Met l al dC dI aC aV 129 [.ref 193, .int i1, .int i2] h (am_oi r.1) r.2 :=
  am_met (tab := tX10_ofS) (orc := o_X10_ofS N) (ret := am_ri) (g := r) (by decide) (by decide) hy.1 hy.2 tok_X10_ofS am_os0 am_ri_inv (Nat.le_of_ble_eq_true rfl) (fun At cl wk => by
    skip
    exact cl am_C0 am_c0 400 0 _ _ h hf)
theorem s_X10_ofS {l : Launch} {al : Nat → Nat} {dC : Nat → ClassId} {dI : Nat → Nat → Nat} {aC : Nat → ClassId} {aV : Nat → Nat} (hy : am_Hy l al) (N : Nat) : am_CS l al dC dI aC aV 129 (c_X10_ofS N) := by
  intro γ as h kk g hc0
  obtain ⟨z0, w0, e_0, hcz0⟩ := am_sa_some hc0
  obtain ⟨hz0, hc1⟩ := am_bif hcz0
  cases Nat.eq_of_beq_eq_true hz0
  obtain ⟨i1, w1, e_1, hc2⟩ := am_s1_some hc1
  obtain ⟨i2, w2, e_2, hc3⟩ := am_s1_some hc2
  obtain ⟨e_3, hc⟩ := am_st0_some hc3
  subst e_3
  subst e_2
  subst e_1
  subst e_0
  obtain ⟨q, e1, e2⟩ := am_bi_some hc
  exact ⟨_, _, m_X10_ofS hy N i1 i2 h _ e1, e2⟩

def f_X10_ofU (N : Nat) (i1 : Int32) (i2 : Int32) (h : am_Hp) : Option (Int32 × am_Hp) :=
  bif am_in (((7 : Int32) + ((8 : Int32) * i1)) + i2) 6071 then some (h 197 ((((7 : Int32) + ((8 : Int32) * i1)) + i2).toNatClampNeg), h) else none
def c_X10_ofU (N : Nat) : am_Cl := fun _ as h kk => am_sa as (fun z w0 => bif Nat.beq z 193 then am_s1 w0 (fun i1 w1 => am_s1 w1 (fun i2 w2 => am_st0 w2 (am_bi (f_X10_ofU N i1 i2 h) (fun v h => kk (am_oi v) h)))) else none)
def o_X10_ofU (N : Nat) : am_Orc := am_o0
set_option maxRecDepth 100000 in
theorem tok_X10_ofU : am_tok 131 tX10_ofU := by
  unfold am_tok
  decide +kernel
set_option maxHeartbeats 4000000 in
set_option maxRecDepth 100000 in
theorem m_X10_ofU {l : Launch} {al : Nat → Nat} {dC : Nat → ClassId} {dI : Nat → Nat → Nat} {aC : Nat → ClassId} {aV : Nat → Nat} (hy : am_Hy l al) (N : Nat) (i1 : Int32) (i2 : Int32) (h : am_Hp) (r : (Int32 × am_Hp)) (hf : f_X10_ofU N i1 i2 h = some r) : am_Met l al dC dI aC aV 131 [.ref 193, .int i1, .int i2] h (am_oi r.1) r.2 :=
  am_met (tab := tX10_ofU) (orc := o_X10_ofU N) (ret := am_ri) (g := r) (by decide) (by decide) hy.1 hy.2 tok_X10_ofU am_os0 am_ri_inv (Nat.le_of_ble_eq_true rfl) (fun At cl wk => by
    skip
    exact cl am_C0 am_c0 400 0 _ _ h hf)
theorem s_X10_ofU {l : Launch} {al : Nat → Nat} {dC : Nat → ClassId} {dI : Nat → Nat → Nat} {aC : Nat → ClassId} {aV : Nat → Nat} (hy : am_Hy l al) (N : Nat) : am_CS l al dC dI aC aV 131 (c_X10_ofU N) := by
  intro γ as h kk g hc0
  obtain ⟨z0, w0, e_0, hcz0⟩ := am_sa_some hc0
  obtain ⟨hz0, hc1⟩ := am_bif hcz0
  cases Nat.eq_of_beq_eq_true hz0
  obtain ⟨i1, w1, e_1, hc2⟩ := am_s1_some hc1
  obtain ⟨i2, w2, e_2, hc3⟩ := am_s1_some hc2
  obtain ⟨e_3, hc⟩ := am_st0_some hc3
  subst e_3
  subst e_2
  subst e_1
  subst e_0
  obtain ⟨q, e1, e2⟩ := am_bi_some hc
  exact ⟨_, _, m_X10_ofU hy N i1 i2 h _ e1, e2⟩
