def el_T_strSize_16 (X : tm_X) (N : Nat) : Nat → Int32 → Int32 → Int32 → Int32 → dm_S → Option (Int32 × dm_S)
  | 0, _, _, _, _, _ => none
  | n + 1, i0, i1, i2, i3, S =>
    (if ((Int8.ofInt (10)).toInt32) ≤ i3 then
      bif tm_ri 29 (((Int8.ofInt (10)).toInt32) + i1) then some (((Int8.ofInt (10)).toInt32) + i1, S) else none
    else
      (if i0 ≤ i2 then
        el_T_strSize_16 X N n i0 i1 (((Int8.ofInt (10)).toInt32) * i2) (i3 + (1 : Int32)) S
      else
        bif tm_ri 29 (i3 + i1) then some (i3 + i1, S) else none))
def e_T_strSize (X : tm_X) (N : Nat) (i0 : Int32) (S : dm_S) : Option (Int32 × dm_S) :=
  (if i0 < 0 then
    el_T_strSize_16 X N N i0 (1 : Int32) ((Int8.ofInt (-10)).toInt32) (1 : Int32) S
  else
    el_T_strSize_16 X N N (-i0) (0 : Int32) ((Int8.ofInt (-10)).toInt32) (1 : Int32) S)
def ec_T_strSize (X : tm_X) (N : Nat) : dm_Cl := fun _ as S kk => am_s1 as (fun i0 w0 => am_st0 w0 (dm_bi (e_T_strSize X N i0 S) (fun v S => kk (some (.int v)) S)))
def dtT_strSize : List (Nat × Instr × Nat) := [(0, .iconst 1, 1), (1, .istore_n 1, 1), (2, .iload_n 0, 1), (3, .ifCond .lt 8, 3), (6, .iconst 0, 1), (7, .istore_n 1, 1), (8, .iload_n 0, 1), (9, .ineg, 1), (10, .istore_n 0, 1), (11, .bipush (-10), 2), (13, .istore_n 2, 1), (14, .iconst 1, 1), (15, .istore_n 3, 1), (16, .iload_n 3, 1), (17, .bipush 10, 2), (19, .if_icmp .ge 23, 3), (22, .iload_n 0, 1), (23, .iload_n 2, 1), (24, .if_icmp .le 7, 3), (27, .iload_n 3, 1), (28, .iload_n 1, 1), (29, .iadd, 1), (30, .ireturn, 1), (31, .bipush 10, 2), (33, .iload_n 2, 1), (34, .imul, 1), (35, .istore_n 2, 1), (36, .iinc 3 1, 3), (39, .goto (-23), 3), (42, .bipush 10, 2), (44, .iload_n 1, 1), (45, .iadd, 1), (46, .ireturn, 1)]
def eoC_T_strSize (X : tm_X) (N : Nat) : am_Orc := am_o0
def eoD_T_strSize (X : tm_X) (N : Nat) : dm_Orc := dm_o0
set_option maxRecDepth 100000 in
theorem dtok_T_strSize : tm_tok 29 dtT_strSize := by
  unfold tm_tok
  decide +kernel
set_option maxHeartbeats 4000000 in
set_option maxRecDepth 100000 in
theorem em_T_strSize {l : Launch} {al : Nat → Nat} {dC : Nat → ClassId} {dI : Nat → Nat → Nat} {aC : Nat → ClassId} {aV : Nat → Nat} {x0 x1 : Nat} (hy : am_Hy l al) (hA : dm_Al al x0 x1) (X : tm_X) (N : Nat) (i0 : Int32) (S : dm_S) (r : (Int32 × dm_S)) (hf : e_T_strSize X N i0 S = some r) : tm_Met l al dC dI aC aV x0 x1 X 29 [.int i0] S (some (.int r.1)) r.2 :=
  tm_met (tab := dtT_strSize) (oC := eoC_T_strSize X N) (oD := eoD_T_strSize X N) (ret := dm_ri) (g := r) (by decide) hA dtok_T_strSize am_os0 tm_os0 dm_ri_inv (Nat.le_of_ble_eq_true rfl) (fun At cl wk => by
    have A16 : ∀ n : Nat, ∀ i0 : Int32, ∀ i1 : Int32, ∀ i2 : Int32, ∀ i3 : Int32, ∀ h, el_T_strSize_16 X N n i0 i1 i2 i3 h = some r → At 16 [(0, .int i0), (1, .int i1), (2, .int i2), (3, .int i3)] [] h := by
      intro n
      induction n with
      | zero => intro i0 i1 i2 i3 h hr; cases hr
      | succ n ih =>
        intro i0 i1 i2 i3 h hr
        exact cl (dm_C1 16 (fun ρ st S => am_ldi ρ 0 (fun i0 => am_ldi ρ 1 (fun i1 => am_ldi ρ 2 (fun i2 => am_ldi ρ 3 (fun i3 => am_st0 st (el_T_strSize_16 X N n i0 i1 i2 i3 S)))))) dm_C0) (dm_u1 (fun ρ st S hc => by
        obtain ⟨i0, m_i0, hc⟩ := am_ldi_some hc
        obtain ⟨i1, m_i1, hc⟩ := am_ldi_some hc
        obtain ⟨i2, m_i2, hc⟩ := am_ldi_some hc
        obtain ⟨i3, m_i3, hc⟩ := am_ldi_some hc
        obtain ⟨rfl, hc⟩ := am_st0_some hc
        exact wk 16 ρ [(0, .int i0), (1, .int i1), (2, .int i2), (3, .int i3)] _ S (am_m1 m_i0 (am_m1 m_i1 (am_m1 m_i2 (am_m1 m_i3 am_m0)))) (ih i0 i1 i2 i3 S hc)) dm_u0) 400 16 _ _ h hr
    exact cl (dm_C1 16 (fun ρ st S => am_ldi ρ 0 (fun i0 => am_ldi ρ 1 (fun i1 => am_ldi ρ 2 (fun i2 => am_ldi ρ 3 (fun i3 => am_st0 st (el_T_strSize_16 X N N i0 i1 i2 i3 S)))))) dm_C0) (dm_u1 (fun ρ st S hc => by
        obtain ⟨i0, m_i0, hc⟩ := am_ldi_some hc
        obtain ⟨i1, m_i1, hc⟩ := am_ldi_some hc
        obtain ⟨i2, m_i2, hc⟩ := am_ldi_some hc
        obtain ⟨i3, m_i3, hc⟩ := am_ldi_some hc
        obtain ⟨rfl, hc⟩ := am_st0_some hc
        exact wk 16 ρ [(0, .int i0), (1, .int i1), (2, .int i2), (3, .int i3)] _ S (am_m1 m_i0 (am_m1 m_i1 (am_m1 m_i2 (am_m1 m_i3 am_m0)))) (A16 N i0 i1 i2 i3 S hc)) dm_u0) 400 0 _ _ S hf)
theorem es_T_strSize {l : Launch} {al : Nat → Nat} {dC : Nat → ClassId} {dI : Nat → Nat → Nat} {aC : Nat → ClassId} {aV : Nat → Nat} {x0 x1 : Nat} (hy : am_Hy l al) (hA : dm_Al al x0 x1) (X : tm_X) (N : Nat) : tm_CS l al dC dI aC aV x0 x1 X 29 (ec_T_strSize X N) := by
  intro γ as S kk g hc0
  obtain ⟨i0, w0, e_0, hc1⟩ := am_s1_some hc0
  obtain ⟨e_1, hc⟩ := am_st0_some hc1
  subst e_1
  subst e_0
  obtain ⟨q, e1, e2⟩ := dm_bi_some hc
  exact ⟨_, _, em_T_strSize hy hA X N i0 S _ e1, e2⟩

def ej_T_getChars_56 (X : tm_X) (N : Nat) (K22 : Int32 → Nat → Int32 → Int32 → dm_S → Option (Int32 × dm_S)) (i0 : Int32) (a2 : Nat) (i4 : Int32) (i5 : Int32) (i6 : Int32) (S : dm_S) : Option (Int32 × dm_S) :=
    (bif Nat.beq 941 940 || Nat.beq 941 941 then (bif am_in i4 100 then bif dm_ok S 4 a2 && am_in (i5 + (Int32.ofInt (-1))) (dm_len S a2) then (let S1 := dm_wr S a2 (i5 + (Int32.ofInt (-1))).toNatClampNeg (tm_dg (941 - 940) i4.toNatClampNeg)
    K22 i0 a2 (i5 + (Int32.ofInt (-1))) i6 S1) else none else none) else bif dm_ok S 4 941 && am_in i4 (dm_len S 941) then bif dm_ok S 4 a2 && am_in (i5 + (Int32.ofInt (-1))) (dm_len S a2) then (let S2 := dm_wr S a2 (i5 + (Int32.ofInt (-1))).toNatClampNeg (tm_b (dm_g S 941 i4.toNatClampNeg))
    K22 i0 a2 (i5 + (Int32.ofInt (-1))) i6 S2) else none else none)
def ej_T_getChars_43 (X : tm_X) (N : Nat) (K22 : Int32 → Nat → Int32 → Int32 → dm_S → Option (Int32 × dm_S)) (i0 : Int32) (a2 : Nat) (i4 : Int32) (i5 : Int32) (i6 : Int32) (S : dm_S) : Option (Int32 × dm_S) :=
    (bif Nat.beq 940 940 || Nat.beq 940 941 then (bif am_in i4 100 then bif dm_ok S 4 a2 && am_in (i5 + (Int32.ofInt (-1))) (dm_len S a2) then (let S1 := dm_wr S a2 (i5 + (Int32.ofInt (-1))).toNatClampNeg (tm_dg (940 - 940) i4.toNatClampNeg)
    ej_T_getChars_56 X N K22 i0 a2 i4 (i5 + (Int32.ofInt (-1))) i6 S1) else none else none) else bif dm_ok S 4 940 && am_in i4 (dm_len S 940) then bif dm_ok S 4 a2 && am_in (i5 + (Int32.ofInt (-1))) (dm_len S a2) then (let S2 := dm_wr S a2 (i5 + (Int32.ofInt (-1))).toNatClampNeg (tm_b (dm_g S 940 i4.toNatClampNeg))
    ej_T_getChars_56 X N K22 i0 a2 i4 (i5 + (Int32.ofInt (-1))) i6 S2) else none else none)
def ej_T_getChars_104 (X : tm_X) (N : Nat) (a2 : Nat) (i5 : Int32) (i6 : Int32) (S : dm_S) : Option (Int32 × dm_S) :=
    (if i6 = 0 then
      bif tm_ri 30 i5 then some (i5, S) else none
    else
      bif dm_ok S 4 a2 && am_in (i5 + (Int32.ofInt (-1))) (dm_len S a2) then (let S1 := dm_wr S a2 (i5 + (Int32.ofInt (-1))).toNatClampNeg ((Int8.ofInt (45)).toInt32)
      bif tm_ri 30 (i5 + (Int32.ofInt (-1))) then some (i5 + (Int32.ofInt (-1)), S1) else none) else none)
def ej_T_getChars_85 (X : tm_X) (N : Nat) (i0 : Int32) (a2 : Nat) (i5 : Int32) (i6 : Int32) (S : dm_S) : Option (Int32 × dm_S) :=
    (if ((Int8.ofInt (-9)).toInt32) ≤ i0 then
      ej_T_getChars_104 X N a2 i5 i6 S
    else
      (bif Nat.beq 941 940 || Nat.beq 941 941 then (bif am_in (-i0) 100 then bif dm_ok S 4 a2 && am_in (i5 + (Int32.ofInt (-1))) (dm_len S a2) then (let S1 := dm_wr S a2 (i5 + (Int32.ofInt (-1))).toNatClampNeg (tm_dg (941 - 940) (-i0).toNatClampNeg)
      ej_T_getChars_104 X N a2 (i5 + (Int32.ofInt (-1))) i6 S1) else none else none) else bif dm_ok S 4 941 && am_in (-i0) (dm_len S 941) then bif dm_ok S 4 a2 && am_in (i5 + (Int32.ofInt (-1))) (dm_len S a2) then (let S2 := dm_wr S a2 (i5 + (Int32.ofInt (-1))).toNatClampNeg (tm_b (dm_g S 941 (-i0).toNatClampNeg))
      ej_T_getChars_104 X N a2 (i5 + (Int32.ofInt (-1))) i6 S2) else none else none))
def ej_T_getChars_72 (X : tm_X) (N : Nat) (i0 : Int32) (a2 : Nat) (i5 : Int32) (i6 : Int32) (S : dm_S) : Option (Int32 × dm_S) :=
    (bif Nat.beq 940 940 || Nat.beq 940 941 then (bif am_in (-i0) 100 then bif dm_ok S 4 a2 && am_in (i5 + (Int32.ofInt (-1))) (dm_len S a2) then (let S1 := dm_wr S a2 (i5 + (Int32.ofInt (-1))).toNatClampNeg (tm_dg (940 - 940) (-i0).toNatClampNeg)
    ej_T_getChars_85 X N i0 a2 (i5 + (Int32.ofInt (-1))) i6 S1) else none else none) else bif dm_ok S 4 940 && am_in (-i0) (dm_len S 940) then bif dm_ok S 4 a2 && am_in (i5 + (Int32.ofInt (-1))) (dm_len S a2) then (let S2 := dm_wr S a2 (i5 + (Int32.ofInt (-1))).toNatClampNeg (tm_b (dm_g S 940 (-i0).toNatClampNeg))
    ej_T_getChars_85 X N i0 a2 (i5 + (Int32.ofInt (-1))) i6 S2) else none else none)
def el_T_getChars_22 (X : tm_X) (N : Nat) : Nat → Int32 → Nat → Int32 → Int32 → dm_S → Option (Int32 × dm_S)
  | 0, _, _, _, _, _ => none
  | n + 1, i0, a2, i5, i6, S =>
    (if ((Int8.ofInt (-100)).toInt32) < i0 then
      ej_T_getChars_72 X N i0 a2 i5 i6 S
    else
      if ((Int8.ofInt (100)).toInt32) = 0 then none else ej_T_getChars_43 X N (el_T_getChars_22 X N n) (i0 / ((Int8.ofInt (100)).toInt32)) a2 (((i0 / ((Int8.ofInt (100)).toInt32)) * ((Int8.ofInt (100)).toInt32)) - i0) i5 i6 S)
def e_T_getChars (X : tm_X) (N : Nat) (i0 : Int32) (i1 : Int32) (a2 : Nat) (S : dm_S) : Option (Int32 × dm_S) :=
  (if 0 ≤ i0 then
    (if (0 : Int32) = 0 then
      el_T_getChars_22 X N N (-i0) a2 i1 (0 : Int32) S
    else
      el_T_getChars_22 X N N i0 a2 i1 (0 : Int32) S)
  else
    (if (1 : Int32) = 0 then
      el_T_getChars_22 X N N (-i0) a2 i1 (1 : Int32) S
    else
      el_T_getChars_22 X N N i0 a2 i1 (1 : Int32) S))
def ec_T_getChars (X : tm_X) (N : Nat) : dm_Cl := fun _ as S kk => am_s1 as (fun i0 w0 => am_s1 w0 (fun i1 w1 => am_sa w1 (fun a2 w2 => am_st0 w2 (dm_bi (e_T_getChars X N i0 i1 a2 S) (fun v S => kk (some (.int v)) S)))))
def dtT_getChars : List (Nat × Instr × Nat) := [(0, .iload_n 1, 1), (1, .istore 5, 2), (3, .iload_n 0, 1), (4, .ifCond .ge 7, 3), (7, .iconst 1, 1), (8, .goto 4, 3), (11, .iconst 0, 1), (12, .istore 6, 2), (14, .iload 6, 2), (16, .ifCond .ne 6, 3), (19, .iload_n 0, 1), (20, .ineg, 1), (21, .istore_n 0, 1), (22, .iload_n 0, 1), (23, .bipush (-100), 2), (25, .if_icmp .gt 47, 3), (28, .iload_n 0, 1), (29, .bipush 100, 2), (31, .idiv, 1), (32, .istore_n 3, 1), (33, .iload_n 3, 1), (34, .bipush 100, 2), (36, .imul, 1), (37, .iload_n 0, 1), (38, .isub, 1), (39, .istore 4, 2), (41, .iload_n 3, 1), (42, .istore_n 0, 1), (43, .aload_n 2, 1), (44, .iinc 5 (-1), 3), (47, .iload 5, 2), (49, .getstatic 83, 3), (52, .iload 4, 2), (54, .baload, 1), (55, .bastore, 1), (56, .aload_n 2, 1), (57, .iinc 5 (-1), 3), (60, .iload 5, 2), (62, .getstatic 87, 3), (65, .iload 4, 2), (67, .baload, 1), (68, .bastore, 1), (69, .goto (-47), 3), (72, .aload_n 2, 1), (73, .iinc 5 (-1), 3), (76, .iload 5, 2), (78, .getstatic 83, 3), (81, .iload_n 0, 1), (82, .ineg, 1), (83, .baload, 1), (84, .bastore, 1), (85, .iload_n 0, 1), (86, .bipush (-9), 2), (88, .if_icmp .ge 16, 3), (91, .aload_n 2, 1), (92, .iinc 5 (-1), 3), (95, .iload 5, 2), (97, .getstatic 87, 3), (100, .iload_n 0, 1), (101, .ineg, 1), (102, .baload, 1), (103, .bastore, 1), (104, .iload 6, 2), (106, .ifCond .eq 12, 3), (109, .aload_n 2, 1), (110, .iinc 5 (-1), 3), (113, .iload 5, 2), (115, .bipush 45, 2), (117, .bastore, 1), (118, .iload 5, 2), (120, .ireturn, 1)]
def eoC_T_getChars (X : tm_X) (N : Nat) : am_Orc := am_o0
def eoD_T_getChars (X : tm_X) (N : Nat) : dm_Orc := dm_o0
set_option maxRecDepth 100000 in
theorem dtok_T_getChars : tm_tok 30 dtT_getChars := by
  unfold tm_tok
  decide +kernel
set_option maxHeartbeats 4000000 in
set_option maxRecDepth 100000 in
theorem em_T_getChars {l : Launch} {al : Nat → Nat} {dC : Nat → ClassId} {dI : Nat → Nat → Nat} {aC : Nat → ClassId} {aV : Nat → Nat} {x0 x1 : Nat} (hy : am_Hy l al) (hA : dm_Al al x0 x1) (X : tm_X) (N : Nat) (i0 : Int32) (i1 : Int32) (a2 : Nat) (S : dm_S) (r : (Int32 × dm_S)) (hf : e_T_getChars X N i0 i1 a2 S = some r) : tm_Met l al dC dI aC aV x0 x1 X 30 [.int i0, .int i1, .ref a2] S (some (.int r.1)) r.2 :=
  tm_met (tab := dtT_getChars) (oC := eoC_T_getChars X N) (oD := eoD_T_getChars X N) (ret := dm_ri) (g := r) (by decide) hA dtok_T_getChars am_os0 tm_os0 dm_ri_inv (Nat.le_of_ble_eq_true rfl) (fun At cl wk => by
    have A56 : ∀ (K22 : Int32 → Nat → Int32 → Int32 → dm_S → Option (Int32 × dm_S)), (∀ i0 : Int32, ∀ a2 : Nat, ∀ i5 : Int32, ∀ i6 : Int32, ∀ h, K22 i0 a2 i5 i6 h = some r → At 22 [(0, .int i0), (2, .ref a2), (5, .int i5), (6, .int i6)] [] h) → ∀ i0 : Int32, ∀ a2 : Nat, ∀ i4 : Int32, ∀ i5 : Int32, ∀ i6 : Int32, ∀ h, ej_T_getChars_56 X N K22 i0 a2 i4 i5 i6 h = some r → At 56 [(0, .int i0), (2, .ref a2), (4, .int i4), (5, .int i5), (6, .int i6)] [] h := by
      intro K22 hK22 i0 a2 i4 i5 i6 h hr
      exact cl (dm_C1 22 (fun ρ st S => am_ldi ρ 0 (fun i0 => am_lda ρ 2 (fun a2 => am_ldi ρ 5 (fun i5 => am_ldi ρ 6 (fun i6 => am_st0 st (K22 i0 a2 i5 i6 S)))))) dm_C0) (dm_u1 (fun ρ st S hc => by
        obtain ⟨i0, m_i0, hc⟩ := am_ldi_some hc
        obtain ⟨a2, m_a2, hc⟩ := am_lda_some hc
        obtain ⟨i5, m_i5, hc⟩ := am_ldi_some hc
        obtain ⟨i6, m_i6, hc⟩ := am_ldi_some hc
        obtain ⟨rfl, hc⟩ := am_st0_some hc
        exact wk 22 ρ [(0, .int i0), (2, .ref a2), (5, .int i5), (6, .int i6)] _ S (am_m1 m_i0 (am_m1 m_a2 (am_m1 m_i5 (am_m1 m_i6 am_m0)))) (hK22 i0 a2 i5 i6 S hc)) dm_u0) 400 56 _ _ h hr
    have A43 : ∀ (K22 : Int32 → Nat → Int32 → Int32 → dm_S → Option (Int32 × dm_S)), (∀ i0 : Int32, ∀ a2 : Nat, ∀ i5 : Int32, ∀ i6 : Int32, ∀ h, K22 i0 a2 i5 i6 h = some r → At 22 [(0, .int i0), (2, .ref a2), (5, .int i5), (6, .int i6)] [] h) → ∀ i0 : Int32, ∀ a2 : Nat, ∀ i4 : Int32, ∀ i5 : Int32, ∀ i6 : Int32, ∀ h, ej_T_getChars_43 X N K22 i0 a2 i4 i5 i6 h = some r → At 43 [(0, .int i0), (2, .ref a2), (4, .int i4), (5, .int i5), (6, .int i6)] [] h := by
      intro K22 hK22 i0 a2 i4 i5 i6 h hr
      exact cl (dm_C1 56 (fun ρ st S => am_ldi ρ 0 (fun i0 => am_lda ρ 2 (fun a2 => am_ldi ρ 4 (fun i4 => am_ldi ρ 5 (fun i5 => am_ldi ρ 6 (fun i6 => am_st0 st (ej_T_getChars_56 X N K22 i0 a2 i4 i5 i6 S))))))) dm_C0) (dm_u1 (fun ρ st S hc => by
        obtain ⟨i0, m_i0, hc⟩ := am_ldi_some hc
        obtain ⟨a2, m_a2, hc⟩ := am_lda_some hc
        obtain ⟨i4, m_i4, hc⟩ := am_ldi_some hc
        obtain ⟨i5, m_i5, hc⟩ := am_ldi_some hc
        obtain ⟨i6, m_i6, hc⟩ := am_ldi_some hc
        obtain ⟨rfl, hc⟩ := am_st0_some hc
        exact wk 56 ρ [(0, .int i0), (2, .ref a2), (4, .int i4), (5, .int i5), (6, .int i6)] _ S (am_m1 m_i0 (am_m1 m_a2 (am_m1 m_i4 (am_m1 m_i5 (am_m1 m_i6 am_m0))))) (A56 K22 hK22 i0 a2 i4 i5 i6 S hc)) dm_u0) 400 43 _ _ h hr
    have A104 : ∀ a2 : Nat, ∀ i5 : Int32, ∀ i6 : Int32, ∀ h, ej_T_getChars_104 X N a2 i5 i6 h = some r → At 104 [(2, .ref a2), (5, .int i5), (6, .int i6)] [] h := by
      intro a2 i5 i6 h hr
      exact cl dm_C0 dm_u0 400 104 _ _ h hr
    have A85 : ∀ i0 : Int32, ∀ a2 : Nat, ∀ i5 : Int32, ∀ i6 : Int32, ∀ h, ej_T_getChars_85 X N i0 a2 i5 i6 h = some r → At 85 [(0, .int i0), (2, .ref a2), (5, .int i5), (6, .int i6)] [] h := by
      intro i0 a2 i5 i6 h hr
      exact cl (dm_C1 104 (fun ρ st S => am_lda ρ 2 (fun a2 => am_ldi ρ 5 (fun i5 => am_ldi ρ 6 (fun i6 => am_st0 st (ej_T_getChars_104 X N a2 i5 i6 S))))) dm_C0) (dm_u1 (fun ρ st S hc => by
        obtain ⟨a2, m_a2, hc⟩ := am_lda_some hc
        obtain ⟨i5, m_i5, hc⟩ := am_ldi_some hc
        obtain ⟨i6, m_i6, hc⟩ := am_ldi_some hc
        obtain ⟨rfl, hc⟩ := am_st0_some hc
        exact wk 104 ρ [(2, .ref a2), (5, .int i5), (6, .int i6)] _ S (am_m1 m_a2 (am_m1 m_i5 (am_m1 m_i6 am_m0))) (A104 a2 i5 i6 S hc)) dm_u0) 400 85 _ _ h hr
    have A72 : ∀ i0 : Int32, ∀ a2 : Nat, ∀ i5 : Int32, ∀ i6 : Int32, ∀ h, ej_T_getChars_72 X N i0 a2 i5 i6 h = some r → At 72 [(0, .int i0), (2, .ref a2), (5, .int i5), (6, .int i6)] [] h := by
      intro i0 a2 i5 i6 h hr
      exact cl (dm_C1 85 (fun ρ st S => am_ldi ρ 0 (fun i0 => am_lda ρ 2 (fun a2 => am_ldi ρ 5 (fun i5 => am_ldi ρ 6 (fun i6 => am_st0 st (ej_T_getChars_85 X N i0 a2 i5 i6 S)))))) dm_C0) (dm_u1 (fun ρ st S hc => by
        obtain ⟨i0, m_i0, hc⟩ := am_ldi_some hc
        obtain ⟨a2, m_a2, hc⟩ := am_lda_some hc
        obtain ⟨i5, m_i5, hc⟩ := am_ldi_some hc
        obtain ⟨i6, m_i6, hc⟩ := am_ldi_some hc
        obtain ⟨rfl, hc⟩ := am_st0_some hc
        exact wk 85 ρ [(0, .int i0), (2, .ref a2), (5, .int i5), (6, .int i6)] _ S (am_m1 m_i0 (am_m1 m_a2 (am_m1 m_i5 (am_m1 m_i6 am_m0)))) (A85 i0 a2 i5 i6 S hc)) dm_u0) 400 72 _ _ h hr
    have A22 : ∀ n : Nat, ∀ i0 : Int32, ∀ a2 : Nat, ∀ i5 : Int32, ∀ i6 : Int32, ∀ h, el_T_getChars_22 X N n i0 a2 i5 i6 h = some r → At 22 [(0, .int i0), (2, .ref a2), (5, .int i5), (6, .int i6)] [] h := by
      intro n
      induction n with
      | zero => intro i0 a2 i5 i6 h hr; cases hr
      | succ n ih =>
        intro i0 a2 i5 i6 h hr
        exact cl (dm_C1 43 (fun ρ st S => am_ldi ρ 0 (fun i0 => am_lda ρ 2 (fun a2 => am_ldi ρ 4 (fun i4 => am_ldi ρ 5 (fun i5 => am_ldi ρ 6 (fun i6 => am_st0 st (ej_T_getChars_43 X N (el_T_getChars_22 X N n) i0 a2 i4 i5 i6 S))))))) (dm_C1 72 (fun ρ st S => am_ldi ρ 0 (fun i0 => am_lda ρ 2 (fun a2 => am_ldi ρ 5 (fun i5 => am_ldi ρ 6 (fun i6 => am_st0 st (ej_T_getChars_72 X N i0 a2 i5 i6 S)))))) dm_C0)) (dm_u1 (fun ρ st S hc => by
        obtain ⟨i0, m_i0, hc⟩ := am_ldi_some hc
        obtain ⟨a2, m_a2, hc⟩ := am_lda_some hc
        obtain ⟨i4, m_i4, hc⟩ := am_ldi_some hc
        obtain ⟨i5, m_i5, hc⟩ := am_ldi_some hc
        obtain ⟨i6, m_i6, hc⟩ := am_ldi_some hc
        obtain ⟨rfl, hc⟩ := am_st0_some hc
        exact wk 43 ρ [(0, .int i0), (2, .ref a2), (4, .int i4), (5, .int i5), (6, .int i6)] _ S (am_m1 m_i0 (am_m1 m_a2 (am_m1 m_i4 (am_m1 m_i5 (am_m1 m_i6 am_m0))))) (A43 (el_T_getChars_22 X N n) ih i0 a2 i4 i5 i6 S hc)) (dm_u1 (fun ρ st S hc => by
        obtain ⟨i0, m_i0, hc⟩ := am_ldi_some hc
        obtain ⟨a2, m_a2, hc⟩ := am_lda_some hc
        obtain ⟨i5, m_i5, hc⟩ := am_ldi_some hc
        obtain ⟨i6, m_i6, hc⟩ := am_ldi_some hc
        obtain ⟨rfl, hc⟩ := am_st0_some hc
        exact wk 72 ρ [(0, .int i0), (2, .ref a2), (5, .int i5), (6, .int i6)] _ S (am_m1 m_i0 (am_m1 m_a2 (am_m1 m_i5 (am_m1 m_i6 am_m0)))) (A72 i0 a2 i5 i6 S hc)) dm_u0)) 400 22 _ _ h hr
    exact cl (dm_C1 22 (fun ρ st S => am_ldi ρ 0 (fun i0 => am_lda ρ 2 (fun a2 => am_ldi ρ 5 (fun i5 => am_ldi ρ 6 (fun i6 => am_st0 st (el_T_getChars_22 X N N i0 a2 i5 i6 S)))))) dm_C0) (dm_u1 (fun ρ st S hc => by
        obtain ⟨i0, m_i0, hc⟩ := am_ldi_some hc
        obtain ⟨a2, m_a2, hc⟩ := am_lda_some hc
        obtain ⟨i5, m_i5, hc⟩ := am_ldi_some hc
        obtain ⟨i6, m_i6, hc⟩ := am_ldi_some hc
        obtain ⟨rfl, hc⟩ := am_st0_some hc
        exact wk 22 ρ [(0, .int i0), (2, .ref a2), (5, .int i5), (6, .int i6)] _ S (am_m1 m_i0 (am_m1 m_a2 (am_m1 m_i5 (am_m1 m_i6 am_m0)))) (A22 N i0 a2 i5 i6 S hc)) dm_u0) 400 0 _ _ S hf)
theorem es_T_getChars {l : Launch} {al : Nat → Nat} {dC : Nat → ClassId} {dI : Nat → Nat → Nat} {aC : Nat → ClassId} {aV : Nat → Nat} {x0 x1 : Nat} (hy : am_Hy l al) (hA : dm_Al al x0 x1) (X : tm_X) (N : Nat) : tm_CS l al dC dI aC aV x0 x1 X 30 (ec_T_getChars X N) := by
  intro γ as S kk g hc0
  obtain ⟨i0, w0, e_0, hc1⟩ := am_s1_some hc0
  obtain ⟨i1, w1, e_1, hc2⟩ := am_s1_some hc1
  obtain ⟨a2, w2, e_2, hc3⟩ := am_sa_some hc2
  obtain ⟨e_3, hc⟩ := am_st0_some hc3
  subst e_3
  subst e_2
  subst e_1
  subst e_0
  obtain ⟨q, e1, e2⟩ := dm_bi_some hc
  exact ⟨_, _, em_T_getChars hy hA X N i0 i1 a2 S _ e1, e2⟩

def e_T_ASBappI (X : tm_X) (N : Nat) (a0 : Nat) (i1 : Int32) (S : dm_S) : Option (Nat × dm_S) :=
  bif tm_cs a0 then (none) else bif dm_ok S 6 a0 then dm_bi (e_T_strSize X N i1 S) (fun x2 S1 =>
  bif dm_ok S1 6 a0 then dm_bi (e_T_ensure X N a0 ((dm_g S a0 3) + x2) S1) (fun _ S3 =>
  bif dm_ok S3 6 a0 then dm_bi (e_T_isLat X N a0 S3) (fun x5 S4 =>
  (if x5 = 0 then
    bif tm_cs a0 then (none) else bif dm_ok S4 6 a0 then (if dm_g S4 a0 0 < 0 then none else
    none) else none
  else
    bif tm_cs a0 then (none) else bif dm_ok S4 6 a0 then (if dm_g S4 a0 0 < 0 then none else
    dm_bi (e_T_getChars X N i1 ((dm_g S a0 3) + x2) ((dm_g S4 a0 0).toNatClampNeg) S4) (fun x7 S6 =>
    bif dm_ok S6 6 a0 && true then (let S8 := dm_wr S6 a0 3 ((dm_g S a0 3) + x2)
    some (a0, S8)) else none)) else none)) else none) else none) else none
def ec_T_ASBappI (X : tm_X) (N : Nat) : dm_Cl := fun _ as S kk => am_sa as (fun a0 w0 => am_s1 w0 (fun i1 w1 => am_st0 w1 (dm_bi (e_T_ASBappI X N a0 i1 S) (fun v S => kk (some (.ref v)) S))))
def dtT_ASBappI : List (Nat × Instr × Nat) := [(0, .aload_n 0, 1), (1, .getfield 79, 3), (4, .istore_n 2, 1), (5, .iload_n 2, 1), (6, .iload_n 1, 1), (7, .invokestatic 245, 3), (10, .iadd, 1), (11, .istore_n 3, 1), (12, .aload_n 0, 1), (13, .iload_n 3, 1), (14, .invokevirtual 100, 3), (17, .aload_n 0, 1), (18, .invokevirtual 83, 3), (21, .ifCond .eq 16, 3), (24, .iload_n 1, 1), (25, .iload_n 3, 1), (26, .aload_n 0, 1), (27, .getfield 15, 3), (30, .invokestatic 248, 3), (33, .pop, 1), (34, .goto 14, 3), (37, .iload_n 1, 1), (38, .iload_n 2, 1), (39, .iload_n 3, 1), (40, .aload_n 0, 1), (41, .getfield 15, 3), (44, .invokestatic 251, 3), (48, .aload_n 0, 1), (49, .iload_n 3, 1), (50, .putfield 79, 3), (53, .aload_n 0, 1), (54, .areturn, 1)]
def eoC_T_ASBappI (X : tm_X) (N : Nat) : am_Orc := am_o0
def eoD_T_ASBappI (X : tm_X) (N : Nat) : dm_Orc := (dm_oc 29 (ec_T_strSize X N) (dm_oc 18 (ec_T_ensure X N) (dm_oc 31 (ec_T_isLat X N) (dm_oc 30 (ec_T_getChars X N) dm_o0))))
set_option maxRecDepth 100000 in
theorem dtok_T_ASBappI : tm_tok 16 dtT_ASBappI := by
  unfold tm_tok
  decide +kernel
set_option maxHeartbeats 4000000 in
set_option maxRecDepth 100000 in
theorem em_T_ASBappI {l : Launch} {al : Nat → Nat} {dC : Nat → ClassId} {dI : Nat → Nat → Nat} {aC : Nat → ClassId} {aV : Nat → Nat} {x0 x1 : Nat} (hy : am_Hy l al) (hA : dm_Al al x0 x1) (X : tm_X) (N : Nat) (a0 : Nat) (i1 : Int32) (S : dm_S) (r : (Nat × dm_S)) (hf : e_T_ASBappI X N a0 i1 S = some r) : tm_Met l al dC dI aC aV x0 x1 X 16 [.ref a0, .int i1] S (some (.ref r.1)) r.2 :=
  tm_met (tab := dtT_ASBappI) (oC := eoC_T_ASBappI X N) (oD := eoD_T_ASBappI X N) (ret := dm_rr) (g := r) (by decide) hA dtok_T_ASBappI am_os0 (tm_os1 (es_T_strSize hy hA X N) (tm_os1 (es_T_ensure hy hA X N) (tm_os1 (es_T_isLat hy hA X N) (tm_os1 (es_T_getChars hy hA X N) tm_os0)))) dm_rr_inv (Nat.le_of_ble_eq_true rfl) (fun At cl wk => by
    skip
    exact cl dm_C0 dm_u0 400 0 _ _ S hf)
theorem es_T_ASBappI {l : Launch} {al : Nat → Nat} {dC : Nat → ClassId} {dI : Nat → Nat → Nat} {aC : Nat → ClassId} {aV : Nat → Nat} {x0 x1 : Nat} (hy : am_Hy l al) (hA : dm_Al al x0 x1) (X : tm_X) (N : Nat) : tm_CS l al dC dI aC aV x0 x1 X 16 (ec_T_ASBappI X N) := by
  intro γ as S kk g hc0
  obtain ⟨a0, w0, e_0, hc1⟩ := am_sa_some hc0
  obtain ⟨i1, w1, e_1, hc2⟩ := am_s1_some hc1
  obtain ⟨e_2, hc⟩ := am_st0_some hc2
  subst e_2
  subst e_1
  subst e_0
  obtain ⟨q, e1, e2⟩ := dm_bi_some hc
  exact ⟨_, _, em_T_ASBappI hy hA X N a0 i1 S _ e1, e2⟩

def e_T_SBappI (X : tm_X) (N : Nat) (a0 : Nat) (i1 : Int32) (S : dm_S) : Option (Nat × dm_S) :=
  bif dm_ok S 6 a0 then dm_bi (e_T_ASBappI X N a0 i1 S) (fun b2 S1 =>
  some (a0, S1)) else none
def ec_T_SBappI (X : tm_X) (N : Nat) : dm_Cl := fun _ as S kk => am_sa as (fun a0 w0 => am_s1 w0 (fun i1 w1 => am_st0 w1 (dm_bi (e_T_SBappI X N a0 i1 S) (fun v S => kk (some (.ref v)) S))))
def dtT_SBappI : List (Nat × Instr × Nat) := [(0, .aload_n 0, 1), (1, .iload_n 1, 1), (2, .invokespecial 53, 3), (5, .pop, 1), (6, .aload_n 0, 1), (7, .areturn, 1)]
def eoC_T_SBappI (X : tm_X) (N : Nat) : am_Orc := am_o0
def eoD_T_SBappI (X : tm_X) (N : Nat) : dm_Orc := (dm_oc 16 (ec_T_ASBappI X N) dm_o0)
set_option maxRecDepth 100000 in
theorem dtok_T_SBappI : tm_tok 13 dtT_SBappI := by
  unfold tm_tok
  decide +kernel
set_option maxHeartbeats 4000000 in
set_option maxRecDepth 100000 in
theorem em_T_SBappI {l : Launch} {al : Nat → Nat} {dC : Nat → ClassId} {dI : Nat → Nat → Nat} {aC : Nat → ClassId} {aV : Nat → Nat} {x0 x1 : Nat} (hy : am_Hy l al) (hA : dm_Al al x0 x1) (X : tm_X) (N : Nat) (a0 : Nat) (i1 : Int32) (S : dm_S) (r : (Nat × dm_S)) (hf : e_T_SBappI X N a0 i1 S = some r) : tm_Met l al dC dI aC aV x0 x1 X 13 [.ref a0, .int i1] S (some (.ref r.1)) r.2 :=
  tm_met (tab := dtT_SBappI) (oC := eoC_T_SBappI X N) (oD := eoD_T_SBappI X N) (ret := dm_rr) (g := r) (by decide) hA dtok_T_SBappI am_os0 (tm_os1 (es_T_ASBappI hy hA X N) tm_os0) dm_rr_inv (Nat.le_of_ble_eq_true rfl) (fun At cl wk => by
    skip
    exact cl dm_C0 dm_u0 400 0 _ _ S hf)
theorem es_T_SBappI {l : Launch} {al : Nat → Nat} {dC : Nat → ClassId} {dI : Nat → Nat → Nat} {aC : Nat → ClassId} {aV : Nat → Nat} {x0 x1 : Nat} (hy : am_Hy l al) (hA : dm_Al al x0 x1) (X : tm_X) (N : Nat) : tm_CS l al dC dI aC aV x0 x1 X 13 (ec_T_SBappI X N) := by
  intro γ as S kk g hc0
  obtain ⟨a0, w0, e_0, hc1⟩ := am_sa_some hc0
  obtain ⟨i1, w1, e_1, hc2⟩ := am_s1_some hc1
  obtain ⟨e_2, hc⟩ := am_st0_some hc2
  subst e_2
  subst e_1
  subst e_0
  obtain ⟨q, e1, e2⟩ := dm_bi_some hc
  exact ⟨_, _, em_T_SBappI hy hA X N a0 i1 S _ e1, e2⟩
