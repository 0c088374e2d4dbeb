def j_L_changes_51 (N : Nat) (i1 : Int32) (i2 : Int32) (i3 : Int32) (t0 : Int32) (h : am_Hp) : Option (Option Unit × am_Hp) :=
    am_bi (f_L_in N i1 (20 : Int32) h) (fun x2 h1 =>
    (if x2.toInt = 0 then
      am_bt (f_X9_attach N i2 i3 h1) (fun h117 => some (none, h117)) (fun x118 h117 => some (some (), h117))
    else if x2.toInt = 1 then
      am_bt (f_X9_attach N i2 i3 h1) (fun h115 => some (none, h115)) (fun x116 h115 => some (some (), h115))
    else if x2.toInt = 2 then
      am_bt (f_X9_request N i2 h1) (fun h113 => some (none, h113)) (fun x114 h113 => some (some (), h113))
    else if x2.toInt = 3 then
      am_bt (f_X9_request N i2 h1) (fun h111 => some (none, h111)) (fun x112 h111 => some (some (), h111))
    else if x2.toInt = 4 then
      am_bt (f_X9_session N i3 (3 : Int32) h1) (fun h99 => some (none, h99)) (fun x100 h99 => (if 0 ≤ x100 then
        am_bt (f_X9_session N i3 (3 : Int32) h99) (fun h101 => some (none, h101)) (fun x102 h101 => if (1024 : Int32) = 0 then none else am_bi (f_L_symbols N (i1 / (1024 : Int32)) h101) (fun x104 h103 =>
        am_bt (f_X9_type N x102 x104 h103) (fun h105 => some (none, h105)) (fun x106 h105 => some (some (), h105))))
      else
        if (1024 : Int32) = 0 then none else am_bi (f_L_symbols N (i1 / (1024 : Int32)) h99) (fun x108 h107 =>
        am_bt (f_X9_type N i2 x108 h107) (fun h109 => some (none, h109)) (fun x110 h109 => some (some (), h109)))))
    else if x2.toInt = 5 then
      am_bt (f_X9_session N i3 (3 : Int32) h1) (fun h87 => some (none, h87)) (fun x88 h87 => (if 0 ≤ x88 then
        am_bt (f_X9_session N i3 (3 : Int32) h87) (fun h89 => some (none, h89)) (fun x90 h89 => if (1024 : Int32) = 0 then none else am_bi (f_L_symbols N (i1 / (1024 : Int32)) h89) (fun x92 h91 =>
        am_bt (f_X9_type N x90 x92 h91) (fun h93 => some (none, h93)) (fun x94 h93 => some (some (), h93))))
      else
        if (1024 : Int32) = 0 then none else am_bi (f_L_symbols N (i1 / (1024 : Int32)) h87) (fun x96 h95 =>
        am_bt (f_X9_type N i2 x96 h95) (fun h97 => some (none, h97)) (fun x98 h97 => some (some (), h97)))))
    else if x2.toInt = 6 then
      am_bt (f_X9_session N i3 (3 : Int32) h1) (fun h75 => some (none, h75)) (fun x76 h75 => (if 0 ≤ x76 then
        am_bt (f_X9_session N i3 (3 : Int32) h75) (fun h77 => some (none, h77)) (fun x78 h77 => if (1024 : Int32) = 0 then none else am_bi (f_L_symbols N (i1 / (1024 : Int32)) h77) (fun x80 h79 =>
        am_bt (f_X9_type N x78 x80 h79) (fun h81 => some (none, h81)) (fun x82 h81 => some (some (), h81))))
      else
        if (1024 : Int32) = 0 then none else am_bi (f_L_symbols N (i1 / (1024 : Int32)) h75) (fun x84 h83 =>
        am_bt (f_X9_type N i2 x84 h83) (fun h85 => some (none, h85)) (fun x86 h85 => some (some (), h85)))))
    else if x2.toInt = 7 then
      am_bt (f_X9_session N i3 (3 : Int32) h1) (fun h63 => some (none, h63)) (fun x64 h63 => (if 0 ≤ x64 then
        am_bt (f_X9_session N i3 (3 : Int32) h63) (fun h65 => some (none, h65)) (fun x66 h65 => if (1024 : Int32) = 0 then none else am_bi (f_L_symbols N (i1 / (1024 : Int32)) h65) (fun x68 h67 =>
        am_bt (f_X9_type N x66 x68 h67) (fun h69 => some (none, h69)) (fun x70 h69 => some (some (), h69))))
      else
        if (1024 : Int32) = 0 then none else am_bi (f_L_symbols N (i1 / (1024 : Int32)) h63) (fun x72 h71 =>
        am_bt (f_X9_type N i2 x72 h71) (fun h73 => some (none, h73)) (fun x74 h73 => some (some (), h73)))))
    else if x2.toInt = 8 then
      am_bt (f_X9_session N i3 (3 : Int32) h1) (fun h51 => some (none, h51)) (fun x52 h51 => (if 0 ≤ x52 then
        am_bt (f_X9_session N i3 (3 : Int32) h51) (fun h53 => some (none, h53)) (fun x54 h53 => if (1024 : Int32) = 0 then none else am_bi (f_L_symbols N (i1 / (1024 : Int32)) h53) (fun x56 h55 =>
        am_bt (f_X9_type N x54 x56 h55) (fun h57 => some (none, h57)) (fun x58 h57 => some (some (), h57))))
      else
        if (1024 : Int32) = 0 then none else am_bi (f_L_symbols N (i1 / (1024 : Int32)) h51) (fun x60 h59 =>
        am_bt (f_X9_type N i2 x60 h59) (fun h61 => some (none, h61)) (fun x62 h61 => some (some (), h61)))))
    else if x2.toInt = 9 then
      if (256 : Int32) = 0 then none else am_bi (f_L_in N (i1 / (256 : Int32)) (2 : Int32) h1) (fun x46 h45 =>
      (if x46 = 0 then
        am_bt (f_X9_answer N i2 (1 : Int32) h45) (fun h49 => some (none, h49)) (fun x50 h49 => some (some (), h49))
      else
        am_bt (f_X9_answer N i2 (0 : Int32) h45) (fun h47 => some (none, h47)) (fun x48 h47 => some (some (), h47))))
    else if x2.toInt = 10 then
      am_bt (f_X9_yield N i2 h1) (fun h43 => some (none, h43)) (fun x44 h43 => some (some (), h43))
    else if x2.toInt = 11 then
      if (256 : Int32) = 0 then none else am_bi (f_L_in N (i1 / (256 : Int32)) (t0 + (1 : Int32)) h1) (fun x40 h39 =>
      am_bt (f_X9_goTo N i2 x40 h39) (fun h41 => some (none, h41)) (fun x42 h41 => some (some (), h41)))
    else if x2.toInt = 12 then
      am_bt (f_X9_goLive N i2 h1) (fun h37 => some (none, h37)) (fun x38 h37 => some (some (), h37))
    else if x2.toInt = 13 then
      if (256 : Int32) = 0 then none else am_bi (f_L_in N (i1 / (256 : Int32)) (t0 + (1 : Int32)) h1) (fun x32 h31 =>
      if (4096 : Int32) = 0 then none else am_bi (f_L_in N (i1 / (4096 : Int32)) (300 : Int32) h31) (fun x34 h33 =>
      am_bt (f_X9_replay N i2 x32 ((10 : Int32) + x34) h33) (fun h35 => some (none, h35)) (fun x36 h35 => some (some (), h35))))
    else if x2.toInt = 14 then
      if (256 : Int32) = 0 then none else am_bi (f_L_in N (i1 / (256 : Int32)) (6 : Int32) h1) (fun x28 h27 =>
      am_bt (f_X9_lookBack N i2 x28 h27) (fun h29 => some (none, h29)) (fun x30 h29 => some (some (), h29)))
    else if x2.toInt = 15 then
      if (256 : Int32) = 0 then none else am_bi (f_L_in N (i1 / (256 : Int32)) (9 : Int32) h1) (fun x22 h21 =>
      if (4096 : Int32) = 0 then none else am_bi (f_L_in N (i1 / (4096 : Int32)) (5 : Int32) h21) (fun x24 h23 =>
      am_bt (f_X9_window N i2 ((2 : Int32) + x22) ((1 : Int32) + x24) h23) (fun h25 => some (none, h25)) (fun x26 h25 => some (some (), h25))))
    else if x2.toInt = 16 then
      if (256 : Int32) = 0 then none else am_bi (f_L_in N (i1 / (256 : Int32)) (3 : Int32) h1) (fun x18 h17 =>
      (if x18 = 0 then
        am_bt (f_X9_detach N i2 h17) (fun h19 => some (none, h19)) (fun x20 h19 => some (some (), h19))
      else
        some (some (), h17)))
    else if x2.toInt = 17 then
      if (32 : Int32) = 0 then none else am_bi (f_L_in N (i1 / (32 : Int32)) (2 : Int32) h1) (fun x8 h7 =>
      (if x8 = 0 then
        if (256 : Int32) = 0 then none else am_bi (f_L_in N (i1 / (256 : Int32)) (12 : Int32) h7) (fun x14 h13 =>
        am_bt (f_X9_setSetting N (0 : Int32) ((1 : Int32) + x14) h13) (fun h15 => some (none, h15)) (fun x16 h15 => some (some (), h15)))
      else
        if (256 : Int32) = 0 then none else am_bi (f_L_in N (i1 / (256 : Int32)) (2 : Int32) h7) (fun x10 h9 =>
        am_bt (f_X9_setSetting N (1 : Int32) x10 h9) (fun h11 => some (none, h11)) (fun x12 h11 => some (some (), h11)))))
    else if (256 : Int32) = 0 then none else am_bi (f_L_in N (i1 / (256 : Int32)) (6 : Int32) h1) (fun x4 h3 =>
      am_bt (f_X9_pass N ((1 : Int32) + x4) h3) (fun h5 => some (none, h5)) (fun x6 h5 => some (some (), h5)))))
def f_L_changes (N : Nat) (i1 : Int32) (h : am_Hp) : Option (Option Unit × am_Hp) :=
  if (32 : Int32) = 0 then none else am_bt (f_X9_count N (1 : Int32) h) (fun h1 => some (none, h1)) (fun x2 h1 => am_bi (f_L_in N (i1 / (32 : Int32)) x2 h1) (fun x4 h3 =>
  if (256 : Int32) = 0 then none else am_bt (f_X9_count N (0 : Int32) h3) (fun h5 => some (none, h5)) (fun x6 h5 => am_bi (f_L_in N (i1 / (256 : Int32)) x6 h5) (fun x8 h7 =>
  am_bt (f_X9_user N x4 (3 : Int32) h7) (fun h9 => some (none, h9)) (fun x10 h9 => (if 0 ≤ x10 then
    am_bt (f_X9_user N x4 (3 : Int32) h9) (fun h11 => some (none, h11)) (fun x12 h11 => am_bt (f_X9_session N x12 (2 : Int32) h11) (fun h13 => some (none, h13)) (fun x14 h13 => j_L_changes_51 N i1 x4 x8 x14 h13))
  else
    j_L_changes_51 N i1 x4 x8 (0 : Int32) h9))))))
def c_L_changes (N : Nat) : am_Cl := fun _ as h kk => am_sa as (fun z w0 => bif Nat.beq z 0 then am_s1 w0 (fun i1 w1 => am_st0 w1 (am_bt (f_L_changes N i1 h) (fun h => kk none h) (fun v h => kk (am_ov v) h))) else none)
def o_L_changes (N : Nat) : am_Orc := (am_oc 59 (c_X9_count N) (am_oc 106 (c_L_in N) (am_oc 65 (c_X9_user N) (am_oc 60 (c_X9_session N) (am_oc 70 (c_X9_attach N) (am_oc 78 (c_X9_request N) (am_oc 107 (c_L_symbols N) (am_oc 77 (c_X9_type N) (am_oc 79 (c_X9_answer N) (am_oc 80 (c_X9_yield N) (am_oc 72 (c_X9_goTo N) (am_oc 73 (c_X9_goLive N) (am_oc 74 (c_X9_replay N) (am_oc 75 (c_X9_lookBack N) (am_oc 76 (c_X9_window N) (am_oc 71 (c_X9_detach N) (am_oc 82 (c_X9_setSetting N) (am_oc 81 (c_X9_pass N) am_o0))))))))))))))))))
set_option maxRecDepth 100000 in
theorem tok_L_changes : am_tok 108 tL_changes := by
  unfold am_tok
  decide +kernel
set_option maxHeartbeats 4000000 in
set_option maxRecDepth 100000 in
theorem m_L_changes {l : Launch} {al : Nat → Nat} {dC : Nat → ClassId} {dI : Nat → Nat → Nat} {aC : Nat → ClassId} {aV : Nat → Nat} (hy : am_Hy l al) (N : Nat) (i1 : Int32) (h : am_Hp) (r : (Option Unit × am_Hp)) (hf : f_L_changes N i1 h = some r) : am_Met l al dC dI aC aV 108 [.ref 0, .int i1] h (am_ot am_ov r.1) r.2 :=
  am_met (tab := tL_changes) (orc := o_L_changes N) (ret := am_tv) (g := r) (by decide) (by decide) hy.1 hy.2 tok_L_changes (am_os1 (s_X9_count hy N) (am_os1 (s_L_in hy N) (am_os1 (s_X9_user hy N) (am_os1 (s_X9_session hy N) (am_os1 (s_X9_attach hy N) (am_os1 (s_X9_request hy N) (am_os1 (s_L_symbols hy N) (am_os1 (s_X9_type hy N) (am_os1 (s_X9_answer hy N) (am_os1 (s_X9_yield hy N) (am_os1 (s_X9_goTo hy N) (am_os1 (s_X9_goLive hy N) (am_os1 (s_X9_replay hy N) (am_os1 (s_X9_lookBack hy N) (am_os1 (s_X9_window hy N) (am_os1 (s_X9_detach hy N) (am_os1 (s_X9_setSetting hy N) (am_os1 (s_X9_pass hy N) am_os0)))))))))))))))))) am_tv_inv (Nat.le_of_ble_eq_true rfl) (fun At cl wk => by
    have A51 : ∀ i1 : Int32, ∀ i2 : Int32, ∀ i3 : Int32, ∀ t0 : Int32, ∀ h, j_L_changes_51 N i1 i2 i3 t0 h = some r → At 51 [(0, .ref 0), (1, .int i1), (2, .int i2), (3, .int i3)] [.int t0] h := by
      intro i1 i2 i3 t0 h hr
      exact cl am_C0 am_c0 400 51 _ _ h hr
    exact cl (am_C1 51 (fun ρ st h => am_lda ρ 0 (fun z => bif Nat.beq z 0 then am_ldi ρ 1 (fun i1 => am_ldi ρ 2 (fun i2 => am_ldi ρ 3 (fun i3 => am_s1 st (fun t0 r0 => am_st0 r0 (j_L_changes_51 N i1 i2 i3 t0 h))))) else none)) am_C0) (am_c1 (fun ρ st h hc => by
        obtain ⟨z, m_a0, hc⟩ := am_lda_some hc
        obtain ⟨hz, hc⟩ := am_bif hc
        cases Nat.eq_of_beq_eq_true hz
        obtain ⟨i1, m_i1, hc⟩ := am_ldi_some hc
        obtain ⟨i2, m_i2, hc⟩ := am_ldi_some hc
        obtain ⟨i3, m_i3, hc⟩ := am_ldi_some hc
        have hs0 := hc
        obtain ⟨t0, rr0, eq0, hs1⟩ := am_s1_some hs0
        obtain ⟨eq1, hc⟩ := am_st0_some hs1
        subst eq1
        subst eq0
        exact wk 51 ρ [(0, .ref 0), (1, .int i1), (2, .int i2), (3, .int i3)] _ h (am_m1 m_a0 (am_m1 m_i1 (am_m1 m_i2 (am_m1 m_i3 am_m0)))) (A51 i1 i2 i3 t0 h hc)) am_c0) 400 0 _ _ h hf)
theorem s_L_changes {l : Launch} {al : Nat → Nat} {dC : Nat → ClassId} {dI : Nat → Nat → Nat} {aC : Nat → ClassId} {aV : Nat → Nat} (hy : am_Hy l al) (N : Nat) : am_CS l al dC dI aC aV 108 (c_L_changes N) := by
  intro γ as h kk g hc0
  obtain ⟨z0, w0, e_0, hcz0⟩ := am_sa_some hc0
  obtain ⟨hz0, hc1⟩ := am_bif hcz0
  cases Nat.eq_of_beq_eq_true hz0
  obtain ⟨i1, w1, e_1, hc2⟩ := am_s1_some hc1
  obtain ⟨e_2, hc⟩ := am_st0_some hc2
  subst e_2
  subst e_1
  subst e_0
  rcases am_bt_some hc with ⟨h1, e1, e2⟩ | ⟨v, h1, e1, e2⟩
  · exact ⟨_, _, m_L_changes hy N i1 h _ e1, e2⟩
  · exact ⟨_, _, m_L_changes hy N i1 h _ e1, e2⟩
