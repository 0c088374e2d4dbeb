def el_X10_row_9 (N : Nat) : Nat → Nat → Nat → Int32 → dm_S → Option (Nat × dm_S)
  | 0, _, _, _, _ => none
  | n + 1, a0, a1, i2, S =>
    bif dm_ok S 1 a0 then (if (dm_g S a0 3) ≤ i2 then
      some (a1, S)
    else
      bif dm_ok S 2 a1 && am_in i2 (dm_len S a1) then (let S1 := dm_wr S a1 i2.toNatClampNeg (27 : Int32)
      el_X10_row_9 N n a0 a1 (i2 + (1 : Int32)) S1) else none) else none
def e_X10_row (N : Nat) (a0 : Nat) (S : dm_S) : Option (Nat × dm_S) :=
  bif dm_ok S 1 a0 then if (dm_g S a0 3) < 0 then none else bif Nat.ble (dm_g S a0 3).toNatClampNeg 100000 then (let S1 := dm_nw S (2, 0, (dm_g S a0 3).toNatClampNeg) (fun _ => 0) (dm_g S a0 3).toNatClampNeg
  el_X10_row_9 N N a0 (dm_n S) (0 : Int32) S1) else none else none
def ec_X10_row (N : Nat) : dm_Cl := fun _ as S kk => am_sa as (fun a0 w0 => am_st0 w0 (dm_bi (e_X10_row N a0 S) (fun v S => kk (some (.ref v)) S)))
def dtX10_row : List (Nat × Instr × Nat) := [(0, .aload_n 0, 1), (1, .getfield 15, 3), (4, .newarray .int, 2), (6, .astore_n 1, 1), (7, .iconst 0, 1), (8, .istore_n 2, 1), (9, .iload_n 2, 1), (10, .aload_n 0, 1), (11, .getfield 15, 3), (14, .if_icmp .ge 14, 3), (17, .aload_n 1, 1), (18, .iload_n 2, 1), (19, .bipush 27, 2), (21, .iastore, 1), (22, .iinc 2 1, 3), (25, .goto (-16), 3), (28, .aload_n 1, 1), (29, .areturn, 1)]
def eoC_X10_row (N : Nat) : am_Orc := am_o0
def eoD_X10_row (N : Nat) : dm_Orc := dm_o0
set_option maxRecDepth 100000 in
theorem dtok_X10_row : dm_tok 2 dtX10_row := by
  unfold dm_tok
  decide +kernel
set_option maxHeartbeats 4000000 in
set_option maxRecDepth 100000 in
theorem em_X10_row {l : Launch} {al : Nat → Nat} {dC : Nat → ClassId} {dI : Nat → Nat → Nat} {aC : Nat → ClassId} {aV : Nat → Nat} {x0 x1 : Nat} (hy : am_Hy l al) (hA : dm_Al al x0 x1) (N : Nat) (a0 : Nat) (S : dm_S) (r : (Nat × dm_S)) (hf : e_X10_row N a0 S = some r) : dm_Met l al dC dI aC aV x0 x1 2 [.ref a0] S (some (.ref r.1)) r.2 :=
  dm_met (tab := dtX10_row) (oC := eoC_X10_row N) (oD := eoD_X10_row N) (ret := dm_rr) (g := r) (by decide) hA dtok_X10_row am_os0 dm_os0 dm_rr_inv (Nat.le_of_ble_eq_true rfl) (fun At cl wk => by
    have A9 : ∀ n : Nat, ∀ a0 : Nat, ∀ a1 : Nat, ∀ i2 : Int32, ∀ h, el_X10_row_9 N n a0 a1 i2 h = some r → At 9 [(0, .ref a0), (1, .ref a1), (2, .int i2)] [] h := by
      intro n
      induction n with
      | zero => intro a0 a1 i2 h hr; cases hr
      | succ n ih =>
        intro a0 a1 i2 h hr
        exact cl (dm_C1 9 (fun ρ st S => am_lda ρ 0 (fun a0 => am_lda ρ 1 (fun a1 => am_ldi ρ 2 (fun i2 => am_st0 st (el_X10_row_9 N n a0 a1 i2 S))))) dm_C0) (dm_u1 (fun ρ st S hc => by
        obtain ⟨a0, m_a0, hc⟩ := am_lda_some hc
        obtain ⟨a1, m_a1, hc⟩ := am_lda_some hc
        obtain ⟨i2, m_i2, hc⟩ := am_ldi_some hc
        obtain ⟨rfl, hc⟩ := am_st0_some hc
        exact wk 9 ρ [(0, .ref a0), (1, .ref a1), (2, .int i2)] _ S (am_m1 m_a0 (am_m1 m_a1 (am_m1 m_i2 am_m0))) (ih a0 a1 i2 S hc)) dm_u0) 400 9 _ _ h hr
    exact cl (dm_C1 9 (fun ρ st S => am_lda ρ 0 (fun a0 => am_lda ρ 1 (fun a1 => am_ldi ρ 2 (fun i2 => am_st0 st (el_X10_row_9 N N a0 a1 i2 S))))) dm_C0) (dm_u1 (fun ρ st S hc => by
        obtain ⟨a0, m_a0, hc⟩ := am_lda_some hc
        obtain ⟨a1, m_a1, hc⟩ := am_lda_some hc
        obtain ⟨i2, m_i2, hc⟩ := am_ldi_some hc
        obtain ⟨rfl, hc⟩ := am_st0_some hc
        exact wk 9 ρ [(0, .ref a0), (1, .ref a1), (2, .int i2)] _ S (am_m1 m_a0 (am_m1 m_a1 (am_m1 m_i2 am_m0))) (A9 N a0 a1 i2 S hc)) dm_u0) 400 0 _ _ S hf)
theorem es_X10_row {l : Launch} {al : Nat → Nat} {dC : Nat → ClassId} {dI : Nat → Nat → Nat} {aC : Nat → ClassId} {aV : Nat → Nat} {x0 x1 : Nat} (hy : am_Hy l al) (hA : dm_Al al x0 x1) (N : Nat) : dm_CS l al dC dI aC aV x0 x1 2 (ec_X10_row N) := by
  intro γ as S kk g hc0
  obtain ⟨a0, w0, e_0, hc1⟩ := am_sa_some hc0
  obtain ⟨e_1, hc⟩ := am_st0_some hc1
  subst e_1
  subst e_0
  obtain ⟨q, e1, e2⟩ := dm_bi_some hc
  exact ⟨_, _, em_X10_row hy hA N a0 S _ e1, e2⟩

def el_X10_blank_39 (N : Nat) (K24 : Nat → Int32 → Int32 → dm_S → Option (Unit × dm_S)) : Nat → Nat → Int32 → Int32 → Nat → Int32 → dm_S → Option (Unit × dm_S)
  | 0, _, _, _, _, _, _ => none
  | n + 1, a2, i3, i4, a5, i6, S =>
    bif dm_ok S 2 a5 || dm_ok S 3 a5 then (if (Int32.ofNat (dm_len S a5)) ≤ i6 then
      K24 a2 i3 (i4 + (1 : Int32)) S
    else
      bif dm_ok S 2 a5 && am_in i6 (dm_len S a5) then (let S1 := dm_wr S a5 i6.toNatClampNeg (27 : Int32)
      el_X10_blank_39 N K24 n a2 i3 i4 a5 (i6 + (1 : Int32)) S1) else none) else none
def el_X10_blank_24 (N : Nat) : Nat → Nat → Int32 → Int32 → dm_S → Option (Unit × dm_S)
  | 0, _, _, _, _ => none
  | n + 1, a2, i3, i4, S =>
    (if i3 ≤ i4 then
      some ((), S)
    else
      bif dm_ok S 3 a2 && am_in i4 (dm_len S a2) then (if dm_g S a2 i4.toNatClampNeg < 0 then none else
      el_X10_blank_39 N (el_X10_blank_24 N n) N a2 i3 i4 ((dm_g S a2 i4.toNatClampNeg).toNatClampNeg) (0 : Int32) S) else none)
def e_X10_blank (N : Nat) (a0 : Nat) (i1 : Int32) (S : dm_S) : Option (Unit × dm_S) :=
  bif dm_ok S 1 a0 then if i1 < 0 then none else if (dm_g S a0 3) < 0 then none else bif Nat.ble i1.toNatClampNeg 1000 && Nat.ble (dm_g S a0 3).toNatClampNeg 1000 && Nat.blt (dm_n S + 2000) dm_bg then (let S1 := dm_mu S i1.toNatClampNeg (dm_g S a0 3).toNatClampNeg
  bif dm_ok S1 1 a0 && Nat.blt (dm_n S) dm_bg then (let S2 := dm_wr S1 a0 0 (am_z ((dm_n S : Nat) : Int))
  bif dm_ok S2 1 a0 then (if dm_g S2 a0 0 < 0 then none else
  bif dm_ok S2 2 ((dm_g S2 a0 0).toNatClampNeg) || dm_ok S2 3 ((dm_g S2 a0 0).toNatClampNeg) then el_X10_blank_24 N N ((dm_g S2 a0 0).toNatClampNeg) (Int32.ofNat (dm_len S2 ((dm_g S2 a0 0).toNatClampNeg))) (0 : Int32) S2 else none) else none) else none) else none else none
def ec_X10_blank (N : Nat) : dm_Cl := fun _ as S kk => am_sa as (fun a0 w0 => am_s1 w0 (fun i1 w1 => am_st0 w1 (dm_bi (e_X10_blank N a0 i1 S) (fun v S => kk none S))))
def dtX10_blank : List (Nat × Instr × Nat) := [(0, .aload_n 0, 1), (1, .iload_n 1, 1), (2, .aload_n 0, 1), (3, .getfield 15, 3), (6, .multianewarray 19 2, 4), (10, .putfield 20, 3), (13, .aload_n 0, 1), (14, .getfield 20, 3), (17, .astore_n 2, 1), (18, .aload_n 2, 1), (19, .arraylength, 1), (20, .istore_n 3, 1), (21, .iconst 0, 1), (22, .istore 4, 2), (24, .iload 4, 2), (26, .iload_n 3, 1), (27, .if_icmp .ge 39, 3), (30, .aload_n 2, 1), (31, .iload 4, 2), (33, .aaload, 1), (34, .astore 5, 2), (36, .iconst 0, 1), (37, .istore 6, 2), (39, .iload 6, 2), (41, .aload 5, 2), (43, .arraylength, 1), (44, .if_icmp .ge 16, 3), (47, .aload 5, 2), (49, .iload 6, 2), (51, .bipush 27, 2), (53, .iastore, 1), (54, .iinc 6 1, 3), (57, .goto (-18), 3), (60, .iinc 4 1, 3), (63, .goto (-39), 3), (66, .return_, 1)]
def eoC_X10_blank (N : Nat) : am_Orc := am_o0
def eoD_X10_blank (N : Nat) : dm_Orc := dm_o0
set_option maxRecDepth 100000 in
theorem dtok_X10_blank : dm_tok 0 dtX10_blank := by
  unfold dm_tok
  decide +kernel
set_option maxHeartbeats 4000000 in
set_option maxRecDepth 100000 in
theorem em_X10_blank {l : Launch} {al : Nat → Nat} {dC : Nat → ClassId} {dI : Nat → Nat → Nat} {aC : Nat → ClassId} {aV : Nat → Nat} {x0 x1 : Nat} (hy : am_Hy l al) (hA : dm_Al al x0 x1) (N : Nat) (a0 : Nat) (i1 : Int32) (S : dm_S) (r : (Unit × dm_S)) (hf : e_X10_blank N a0 i1 S = some r) : dm_Met l al dC dI aC aV x0 x1 0 [.ref a0, .int i1] S (none) r.2 :=
  dm_met (tab := dtX10_blank) (oC := eoC_X10_blank N) (oD := eoD_X10_blank N) (ret := dm_rv') (g := r) (by decide) hA dtok_X10_blank am_os0 dm_os0 dm_rv'_inv (Nat.le_of_ble_eq_true rfl) (fun At cl wk => by
    have A39 : ∀ (K24 : Nat → Int32 → Int32 → dm_S → Option (Unit × dm_S)), (∀ a2 : Nat, ∀ i3 : Int32, ∀ i4 : Int32, ∀ h, K24 a2 i3 i4 h = some r → At 24 [(2, .ref a2), (3, .int i3), (4, .int i4)] [] h) → ∀ n : Nat, ∀ a2 : Nat, ∀ i3 : Int32, ∀ i4 : Int32, ∀ a5 : Nat, ∀ i6 : Int32, ∀ h, el_X10_blank_39 N K24 n a2 i3 i4 a5 i6 h = some r → At 39 [(2, .ref a2), (3, .int i3), (4, .int i4), (5, .ref a5), (6, .int i6)] [] h := by
      intro K24 hK24 n
      induction n with
      | zero => intro a2 i3 i4 a5 i6 h hr; cases hr
      | succ n ih =>
        intro a2 i3 i4 a5 i6 h hr
        exact cl (dm_C1 24 (fun ρ st S => am_lda ρ 2 (fun a2 => am_ldi ρ 3 (fun i3 => am_ldi ρ 4 (fun i4 => am_st0 st (K24 a2 i3 i4 S))))) (dm_C1 39 (fun ρ st S => am_lda ρ 2 (fun a2 => am_ldi ρ 3 (fun i3 => am_ldi ρ 4 (fun i4 => am_lda ρ 5 (fun a5 => am_ldi ρ 6 (fun i6 => am_st0 st (el_X10_blank_39 N K24 n a2 i3 i4 a5 i6 S))))))) dm_C0)) (dm_u1 (fun ρ st S hc => by
        obtain ⟨a2, m_a2, hc⟩ := am_lda_some hc
        obtain ⟨i3, m_i3, hc⟩ := am_ldi_some hc
        obtain ⟨i4, m_i4, hc⟩ := am_ldi_some hc
        obtain ⟨rfl, hc⟩ := am_st0_some hc
        exact wk 24 ρ [(2, .ref a2), (3, .int i3), (4, .int i4)] _ S (am_m1 m_a2 (am_m1 m_i3 (am_m1 m_i4 am_m0))) (hK24 a2 i3 i4 S hc)) (dm_u1 (fun ρ st S hc => by
        obtain ⟨a2, m_a2, hc⟩ := am_lda_some hc
        obtain ⟨i3, m_i3, hc⟩ := am_ldi_some hc
        obtain ⟨i4, m_i4, hc⟩ := am_ldi_some hc
        obtain ⟨a5, m_a5, hc⟩ := am_lda_some hc
        obtain ⟨i6, m_i6, hc⟩ := am_ldi_some hc
        obtain ⟨rfl, hc⟩ := am_st0_some hc
        exact wk 39 ρ [(2, .ref a2), (3, .int i3), (4, .int i4), (5, .ref a5), (6, .int i6)] _ S (am_m1 m_a2 (am_m1 m_i3 (am_m1 m_i4 (am_m1 m_a5 (am_m1 m_i6 am_m0))))) (ih a2 i3 i4 a5 i6 S hc)) dm_u0)) 400 39 _ _ h hr
    have A24 : ∀ n : Nat, ∀ a2 : Nat, ∀ i3 : Int32, ∀ i4 : Int32, ∀ h, el_X10_blank_24 N n a2 i3 i4 h = some r → At 24 [(2, .ref a2), (3, .int i3), (4, .int i4)] [] h := by
      intro n
      induction n with
      | zero => intro a2 i3 i4 h hr; cases hr
      | succ n ih =>
        intro a2 i3 i4 h hr
        exact cl (dm_C1 39 (fun ρ st S => am_lda ρ 2 (fun a2 => am_ldi ρ 3 (fun i3 => am_ldi ρ 4 (fun i4 => am_lda ρ 5 (fun a5 => am_ldi ρ 6 (fun i6 => am_st0 st (el_X10_blank_39 N (el_X10_blank_24 N n) N a2 i3 i4 a5 i6 S))))))) dm_C0) (dm_u1 (fun ρ st S hc => by
        obtain ⟨a2, m_a2, hc⟩ := am_lda_some hc
        obtain ⟨i3, m_i3, hc⟩ := am_ldi_some hc
        obtain ⟨i4, m_i4, hc⟩ := am_ldi_some hc
        obtain ⟨a5, m_a5, hc⟩ := am_lda_some hc
        obtain ⟨i6, m_i6, hc⟩ := am_ldi_some hc
        obtain ⟨rfl, hc⟩ := am_st0_some hc
        exact wk 39 ρ [(2, .ref a2), (3, .int i3), (4, .int i4), (5, .ref a5), (6, .int i6)] _ S (am_m1 m_a2 (am_m1 m_i3 (am_m1 m_i4 (am_m1 m_a5 (am_m1 m_i6 am_m0))))) (A39 (el_X10_blank_24 N n) ih N a2 i3 i4 a5 i6 S hc)) dm_u0) 400 24 _ _ h hr
    exact cl (dm_C1 24 (fun ρ st S => am_lda ρ 2 (fun a2 => am_ldi ρ 3 (fun i3 => am_ldi ρ 4 (fun i4 => am_st0 st (el_X10_blank_24 N N a2 i3 i4 S))))) dm_C0) (dm_u1 (fun ρ st S hc => by
        obtain ⟨a2, m_a2, hc⟩ := am_lda_some hc
        obtain ⟨i3, m_i3, hc⟩ := am_ldi_some hc
        obtain ⟨i4, m_i4, hc⟩ := am_ldi_some hc
        obtain ⟨rfl, hc⟩ := am_st0_some hc
        exact wk 24 ρ [(2, .ref a2), (3, .int i3), (4, .int i4)] _ S (am_m1 m_a2 (am_m1 m_i3 (am_m1 m_i4 am_m0))) (A24 N a2 i3 i4 S hc)) dm_u0) 400 0 _ _ S hf)
theorem es_X10_blank {l : Launch} {al : Nat → Nat} {dC : Nat → ClassId} {dI : Nat → Nat → Nat} {aC : Nat → ClassId} {aV : Nat → Nat} {x0 x1 : Nat} (hy : am_Hy l al) (hA : dm_Al al x0 x1) (N : Nat) : dm_CS l al dC dI aC aV x0 x1 0 (ec_X10_blank N) := by
  intro γ as S kk g hc0
  obtain ⟨a0, w0, e_0, hc1⟩ := am_sa_some hc0
  obtain ⟨i1, w1, e_1, hc2⟩ := am_s1_some hc1
  obtain ⟨e_2, hc⟩ := am_st0_some hc2
  subst e_2
  subst e_1
  subst e_0
  obtain ⟨q, e1, e2⟩ := dm_bi_some hc
  exact ⟨_, _, em_X10_blank hy hA N a0 i1 S _ e1, e2⟩

def el_X10_up_70 (N : Nat) : Nat → Nat → Int32 → dm_S → Option (Unit × dm_S)
  | 0, _, _, _ => none
  | n + 1, a0, i1, S =>
    bif dm_ok S 1 a0 then (if dm_g S a0 0 < 0 then none else
    bif dm_ok S 2 ((dm_g S a0 0).toNatClampNeg) || dm_ok S 3 ((dm_g S a0 0).toNatClampNeg) then (if (Int32.ofNat (dm_len S ((dm_g S a0 0).toNatClampNeg))) ≤ i1 then
      bif dm_ok S 1 a0 then (if dm_g S a0 0 < 0 then none else
      bif dm_ok S 1 a0 then (if dm_g S a0 0 < 0 then none else
      bif dm_ok S 2 ((dm_g S a0 0).toNatClampNeg) || dm_ok S 3 ((dm_g S a0 0).toNatClampNeg) then bif dm_ok S 1 a0 then dm_bi (e_X10_row N a0 S) (fun b2 S1 =>
      bif dm_ok S1 3 ((dm_g S a0 0).toNatClampNeg) && am_in ((Int32.ofNat (dm_len S ((dm_g S a0 0).toNatClampNeg))) - (1 : Int32)) (dm_len S1 ((dm_g S a0 0).toNatClampNeg)) && dm_ok S1 2 b2 && Nat.blt b2 dm_bg then (let S3 := dm_wr S1 ((dm_g S a0 0).toNatClampNeg) ((Int32.ofNat (dm_len S ((dm_g S a0 0).toNatClampNeg))) - (1 : Int32)).toNatClampNeg (am_z ((b2 : Nat) : Int))
      some ((), S3)) else none) else none else none) else none) else none
    else
      bif dm_ok S 1 a0 then (if dm_g S a0 0 < 0 then none else
      bif dm_ok S 1 a0 then (if dm_g S a0 0 < 0 then none else
      bif dm_ok S 3 ((dm_g S a0 0).toNatClampNeg) && am_in i1 (dm_len S ((dm_g S a0 0).toNatClampNeg)) then (if dm_g S ((dm_g S a0 0).toNatClampNeg) i1.toNatClampNeg < 0 then none else
      bif dm_ok S 3 ((dm_g S a0 0).toNatClampNeg) && am_in (i1 - (1 : Int32)) (dm_len S ((dm_g S a0 0).toNatClampNeg)) && dm_ok S 2 ((dm_g S ((dm_g S a0 0).toNatClampNeg) i1.toNatClampNeg).toNatClampNeg) && Nat.blt ((dm_g S ((dm_g S a0 0).toNatClampNeg) i1.toNatClampNeg).toNatClampNeg) dm_bg then (let S4 := dm_wr S ((dm_g S a0 0).toNatClampNeg) (i1 - (1 : Int32)).toNatClampNeg (am_z (((dm_g S ((dm_g S a0 0).toNatClampNeg) i1.toNatClampNeg).toNatClampNeg : Nat) : Int))
      el_X10_up_70 N n a0 (i1 + (1 : Int32)) S4) else none) else none) else none) else none) else none) else none
def el_X10_up_11 (N : Nat) : Nat → Nat → Int32 → dm_S → Option (Unit × dm_S)
  | 0, _, _, _ => none
  | n + 1, a0, i1, S =>
    (if (40 : Int32) ≤ i1 then
      bif dm_ok S 1 a0 then (let S1 := dm_wr S a0 5 (39 : Int32)
      bif dm_ok S1 1 a0 then (if dm_g S1 a0 4 < 0 then none else
      bif dm_ok S1 1 a0 then bif dm_ok S1 1 a0 then (if dm_g S1 a0 0 < 0 then none else
      bif dm_ok S1 3 ((dm_g S1 a0 0).toNatClampNeg) && am_in (0 : Int32) (dm_len S1 ((dm_g S1 a0 0).toNatClampNeg)) then (if dm_g S1 ((dm_g S1 a0 0).toNatClampNeg) 0 < 0 then none else
      bif dm_ok S1 3 ((dm_g S1 a0 4).toNatClampNeg) && am_in (dm_g S1 a0 5) (dm_len S1 ((dm_g S1 a0 4).toNatClampNeg)) && dm_ok S1 2 ((dm_g S1 ((dm_g S1 a0 0).toNatClampNeg) 0).toNatClampNeg) && Nat.blt ((dm_g S1 ((dm_g S1 a0 0).toNatClampNeg) 0).toNatClampNeg) dm_bg then (let S2 := dm_wr S1 ((dm_g S1 a0 4).toNatClampNeg) (dm_g S1 a0 5).toNatClampNeg (am_z (((dm_g S1 ((dm_g S1 a0 0).toNatClampNeg) 0).toNatClampNeg : Nat) : Int))
      bif dm_ok S2 1 a0 then bif dm_ok S2 1 a0 then (let S3 := dm_wr S2 a0 5 ((dm_g S2 a0 5) + (1 : Int32))
      el_X10_up_70 N N a0 (1 : Int32) S3) else none else none) else none) else none) else none else none) else none) else none
    else
      bif dm_ok S 1 a0 then (if dm_g S a0 4 < 0 then none else
      bif dm_ok S 1 a0 then (if dm_g S a0 4 < 0 then none else
      bif dm_ok S 3 ((dm_g S a0 4).toNatClampNeg) && am_in i1 (dm_len S ((dm_g S a0 4).toNatClampNeg)) then (if dm_g S ((dm_g S a0 4).toNatClampNeg) i1.toNatClampNeg < 0 then none else
      bif dm_ok S 3 ((dm_g S a0 4).toNatClampNeg) && am_in (i1 - (1 : Int32)) (dm_len S ((dm_g S a0 4).toNatClampNeg)) && dm_ok S 2 ((dm_g S ((dm_g S a0 4).toNatClampNeg) i1.toNatClampNeg).toNatClampNeg) && Nat.blt ((dm_g S ((dm_g S a0 4).toNatClampNeg) i1.toNatClampNeg).toNatClampNeg) dm_bg then (let S4 := dm_wr S ((dm_g S a0 4).toNatClampNeg) (i1 - (1 : Int32)).toNatClampNeg (am_z (((dm_g S ((dm_g S a0 4).toNatClampNeg) i1.toNatClampNeg).toNatClampNeg : Nat) : Int))
      el_X10_up_11 N n a0 (i1 + (1 : Int32)) S4) else none) else none) else none) else none)
def e_X10_up (N : Nat) (a0 : Nat) (S : dm_S) : Option (Unit × dm_S) :=
  bif dm_ok S 1 a0 then (if (dm_g S a0 5) = (40 : Int32) then
    el_X10_up_11 N N a0 (1 : Int32) S
  else
    bif dm_ok S 1 a0 then (if dm_g S a0 4 < 0 then none else
    bif dm_ok S 1 a0 then bif dm_ok S 1 a0 then (if dm_g S a0 0 < 0 then none else
    bif dm_ok S 3 ((dm_g S a0 0).toNatClampNeg) && am_in (0 : Int32) (dm_len S ((dm_g S a0 0).toNatClampNeg)) then (if dm_g S ((dm_g S a0 0).toNatClampNeg) 0 < 0 then none else
    bif dm_ok S 3 ((dm_g S a0 4).toNatClampNeg) && am_in (dm_g S a0 5) (dm_len S ((dm_g S a0 4).toNatClampNeg)) && dm_ok S 2 ((dm_g S ((dm_g S a0 0).toNatClampNeg) 0).toNatClampNeg) && Nat.blt ((dm_g S ((dm_g S a0 0).toNatClampNeg) 0).toNatClampNeg) dm_bg then (let S1 := dm_wr S ((dm_g S a0 4).toNatClampNeg) (dm_g S a0 5).toNatClampNeg (am_z (((dm_g S ((dm_g S a0 0).toNatClampNeg) 0).toNatClampNeg : Nat) : Int))
    bif dm_ok S1 1 a0 then bif dm_ok S1 1 a0 then (let S2 := dm_wr S1 a0 5 ((dm_g S1 a0 5) + (1 : Int32))
    el_X10_up_70 N N a0 (1 : Int32) S2) else none else none) else none) else none) else none else none) else none) else none
def ec_X10_up (N : Nat) : dm_Cl := fun _ as S kk => am_sa as (fun a0 w0 => am_st0 w0 (dm_bi (e_X10_up N a0 S) (fun v S => kk none S)))
def dtX10_up : List (Nat × Instr × Nat) := [(0, .aload_n 0, 1), (1, .getfield 23, 3), (4, .bipush 40, 2), (6, .if_icmp .ne 37, 3), (9, .iconst 1, 1), (10, .istore_n 1, 1), (11, .iload_n 1, 1), (12, .bipush 40, 2), (14, .if_icmp .ge 23, 3), (17, .aload_n 0, 1), (18, .getfield 9, 3), (21, .iload_n 1, 1), (22, .iconst 1, 1), (23, .isub, 1), (24, .aload_n 0, 1), (25, .getfield 9, 3), (28, .iload_n 1, 1), (29, .aaload, 1), (30, .aastore, 1), (31, .iinc 1 1, 3), (34, .goto (-23), 3), (37, .aload_n 0, 1), (38, .bipush 39, 2), (40, .putfield 23, 3), (43, .aload_n 0, 1), (44, .getfield 9, 3), (47, .aload_n 0, 1), (48, .getfield 23, 3), (51, .aload_n 0, 1), (52, .getfield 20, 3), (55, .iconst 0, 1), (56, .aaload, 1), (57, .aastore, 1), (58, .aload_n 0, 1), (59, .dup, 1), (60, .getfield 23, 3), (63, .iconst 1, 1), (64, .iadd, 1), (65, .putfield 23, 3), (68, .iconst 1, 1), (69, .istore_n 1, 1), (70, .iload_n 1, 1), (71, .aload_n 0, 1), (72, .getfield 20, 3), (75, .arraylength, 1), (76, .if_icmp .ge 23, 3), (79, .aload_n 0, 1), (80, .getfield 20, 3), (83, .iload_n 1, 1), (84, .iconst 1, 1), (85, .isub, 1), (86, .aload_n 0, 1), (87, .getfield 20, 3), (90, .iload_n 1, 1), (91, .aaload, 1), (92, .aastore, 1), (93, .iinc 1 1, 3), (96, .goto (-26), 3), (99, .aload_n 0, 1), (100, .getfield 20, 3), (103, .aload_n 0, 1), (104, .getfield 20, 3), (107, .arraylength, 1), (108, .iconst 1, 1), (109, .isub, 1), (110, .aload_n 0, 1), (111, .invokevirtual 26, 3), (114, .aastore, 1), (115, .return_, 1)]
def eoC_X10_up (N : Nat) : am_Orc := am_o0
def eoD_X10_up (N : Nat) : dm_Orc := (dm_oc 2 (ec_X10_row N) dm_o0)
set_option maxRecDepth 100000 in
theorem dtok_X10_up : dm_tok 1 dtX10_up := by
  unfold dm_tok
  decide +kernel
set_option maxHeartbeats 4000000 in
set_option maxRecDepth 100000 in
theorem em_X10_up {l : Launch} {al : Nat → Nat} {dC : Nat → ClassId} {dI : Nat → Nat → Nat} {aC : Nat → ClassId} {aV : Nat → Nat} {x0 x1 : Nat} (hy : am_Hy l al) (hA : dm_Al al x0 x1) (N : Nat) (a0 : Nat) (S : dm_S) (r : (Unit × dm_S)) (hf : e_X10_up N a0 S = some r) : dm_Met l al dC dI aC aV x0 x1 1 [.ref a0] S (none) r.2 :=
  dm_met (tab := dtX10_up) (oC := eoC_X10_up N) (oD := eoD_X10_up N) (ret := dm_rv') (g := r) (by decide) hA dtok_X10_up am_os0 (dm_os1 (es_X10_row hy hA N) dm_os0) dm_rv'_inv (Nat.le_of_ble_eq_true rfl) (fun At cl wk => by
    have A70 : ∀ n : Nat, ∀ a0 : Nat, ∀ i1 : Int32, ∀ h, el_X10_up_70 N n a0 i1 h = some r → At 70 [(0, .ref a0), (1, .int i1)] [] h := by
      intro n
      induction n with
      | zero => intro a0 i1 h hr; cases hr
      | succ n ih =>
        intro a0 i1 h hr
        exact cl (dm_C1 70 (fun ρ st S => am_lda ρ 0 (fun a0 => am_ldi ρ 1 (fun i1 => am_st0 st (el_X10_up_70 N n a0 i1 S)))) dm_C0) (dm_u1 (fun ρ st S hc => by
        obtain ⟨a0, m_a0, hc⟩ := am_lda_some hc
        obtain ⟨i1, m_i1, hc⟩ := am_ldi_some hc
        obtain ⟨rfl, hc⟩ := am_st0_some hc
        exact wk 70 ρ [(0, .ref a0), (1, .int i1)] _ S (am_m1 m_a0 (am_m1 m_i1 am_m0)) (ih a0 i1 S hc)) dm_u0) 400 70 _ _ h hr
    have A11 : ∀ n : Nat, ∀ a0 : Nat, ∀ i1 : Int32, ∀ h, el_X10_up_11 N n a0 i1 h = some r → At 11 [(0, .ref a0), (1, .int i1)] [] h := by
      intro n
      induction n with
      | zero => intro a0 i1 h hr; cases hr
      | succ n ih =>
        intro a0 i1 h hr
        exact cl (dm_C1 11 (fun ρ st S => am_lda ρ 0 (fun a0 => am_ldi ρ 1 (fun i1 => am_st0 st (el_X10_up_11 N n a0 i1 S)))) (dm_C1 70 (fun ρ st S => am_lda ρ 0 (fun a0 => am_ldi ρ 1 (fun i1 => am_st0 st (el_X10_up_70 N N a0 i1 S)))) dm_C0)) (dm_u1 (fun ρ st S hc => by
        obtain ⟨a0, m_a0, hc⟩ := am_lda_some hc
        obtain ⟨i1, m_i1, hc⟩ := am_ldi_some hc
        obtain ⟨rfl, hc⟩ := am_st0_some hc
        exact wk 11 ρ [(0, .ref a0), (1, .int i1)] _ S (am_m1 m_a0 (am_m1 m_i1 am_m0)) (ih a0 i1 S hc)) (dm_u1 (fun ρ st S hc => by
        obtain ⟨a0, m_a0, hc⟩ := am_lda_some hc
        obtain ⟨i1, m_i1, hc⟩ := am_ldi_some hc
        obtain ⟨rfl, hc⟩ := am_st0_some hc
        exact wk 70 ρ [(0, .ref a0), (1, .int i1)] _ S (am_m1 m_a0 (am_m1 m_i1 am_m0)) (A70 N a0 i1 S hc)) dm_u0)) 400 11 _ _ h hr
    exact cl (dm_C1 11 (fun ρ st S => am_lda ρ 0 (fun a0 => am_ldi ρ 1 (fun i1 => am_st0 st (el_X10_up_11 N N a0 i1 S)))) (dm_C1 70 (fun ρ st S => am_lda ρ 0 (fun a0 => am_ldi ρ 1 (fun i1 => am_st0 st (el_X10_up_70 N N a0 i1 S)))) dm_C0)) (dm_u1 (fun ρ st S hc => by
        obtain ⟨a0, m_a0, hc⟩ := am_lda_some hc
        obtain ⟨i1, m_i1, hc⟩ := am_ldi_some hc
        obtain ⟨rfl, hc⟩ := am_st0_some hc
        exact wk 11 ρ [(0, .ref a0), (1, .int i1)] _ S (am_m1 m_a0 (am_m1 m_i1 am_m0)) (A11 N a0 i1 S hc)) (dm_u1 (fun ρ st S hc => by
        obtain ⟨a0, m_a0, hc⟩ := am_lda_some hc
        obtain ⟨i1, m_i1, hc⟩ := am_ldi_some hc
        obtain ⟨rfl, hc⟩ := am_st0_some hc
        exact wk 70 ρ [(0, .ref a0), (1, .int i1)] _ S (am_m1 m_a0 (am_m1 m_i1 am_m0)) (A70 N a0 i1 S hc)) dm_u0)) 400 0 _ _ S hf)
theorem es_X10_up {l : Launch} {al : Nat → Nat} {dC : Nat → ClassId} {dI : Nat → Nat → Nat} {aC : Nat → ClassId} {aV : Nat → Nat} {x0 x1 : Nat} (hy : am_Hy l al) (hA : dm_Al al x0 x1) (N : Nat) : dm_CS l al dC dI aC aV x0 x1 1 (ec_X10_up N) := by
  intro γ as S kk g hc0
  obtain ⟨a0, w0, e_0, hc1⟩ := am_sa_some hc0
  obtain ⟨e_1, hc⟩ := am_st0_some hc1
  subst e_1
  subst e_0
  obtain ⟨q, e1, e2⟩ := dm_bi_some hc
  exact ⟨_, _, em_X10_up hy hA N a0 S _ e1, e2⟩
