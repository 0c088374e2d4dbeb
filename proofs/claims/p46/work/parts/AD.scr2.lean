def e_X10_down (N : Nat) (a0 : Nat) (S : dm_S) : Option (Unit × dm_S) :=
  bif dm_ok S 1 a0 then (let S1 := dm_wr S a0 2 (0 : Int32)
  bif dm_ok S1 1 a0 then bif dm_ok S1 1 a0 then (if dm_g S1 a0 0 < 0 then none else
  bif dm_ok S1 2 ((dm_g S1 a0 0).toNatClampNeg) || dm_ok S1 3 ((dm_g S1 a0 0).toNatClampNeg) then (if ((Int32.ofNat (dm_len S1 ((dm_g S1 a0 0).toNatClampNeg))) - (1 : Int32)) ≤ (dm_g S1 a0 1) then
    bif dm_ok S1 1 a0 then dm_bi (e_X10_up N a0 S1) (fun _ S2 =>
    some ((), S2)) else none
  else
    bif dm_ok S1 1 a0 then bif dm_ok S1 1 a0 then (let S3 := dm_wr S1 a0 1 ((dm_g S1 a0 1) + (1 : Int32))
    some ((), S3)) else none else none) else none) else none else none) else none
def ec_X10_down (N : Nat) : dm_Cl := fun _ as S kk => am_sa as (fun a0 w0 => am_st0 w0 (dm_bi (e_X10_down N a0 S) (fun v S => kk none S)))
def dtX10_down : List (Nat × Instr × Nat) := [(0, .aload_n 0, 1), (1, .iconst 0, 1), (2, .putfield 30, 3), (5, .aload_n 0, 1), (6, .getfield 33, 3), (9, .aload_n 0, 1), (10, .getfield 20, 3), (13, .arraylength, 1), (14, .iconst 1, 1), (15, .isub, 1), (16, .if_icmp .ge 16, 3), (19, .aload_n 0, 1), (20, .dup, 1), (21, .getfield 33, 3), (24, .iconst 1, 1), (25, .iadd, 1), (26, .putfield 33, 3), (29, .goto 7, 3), (32, .aload_n 0, 1), (33, .invokevirtual 36, 3), (36, .return_, 1)]
def eoC_X10_down (N : Nat) : am_Orc := am_o0
def eoD_X10_down (N : Nat) : dm_Orc := (dm_oc 1 (ec_X10_up N) dm_o0)
set_option maxRecDepth 100000 in
theorem dtok_X10_down : dm_tok 3 dtX10_down := by
  unfold dm_tok
  decide +kernel
set_option maxHeartbeats 4000000 in
set_option maxRecDepth 100000 in
theorem em_X10_down {l : Launch} {al : Nat → Nat} {dC : Nat → ClassId} {dI : Nat → Nat → Nat} {aC : Nat → ClassId} {aV : Nat → Nat} {x0 x1 : Nat} (hy : am_Hy l al) (hA : dm_Al al x0 x1) (N : Nat) (a0 : Nat) (S : dm_S) (r : (Unit × dm_S)) (hf : e_X10_down N a0 S = some r) : dm_Met l al dC dI aC aV x0 x1 3 [.ref a0] S (none) r.2 :=
  dm_met (tab := dtX10_down) (oC := eoC_X10_down N) (oD := eoD_X10_down N) (ret := dm_rv') (g := r) (by decide) hA dtok_X10_down am_os0 (dm_os1 (es_X10_up hy hA N) dm_os0) dm_rv'_inv (Nat.le_of_ble_eq_true rfl) (fun At cl wk => by
    skip
    exact cl dm_C0 dm_u0 400 0 _ _ S hf)
theorem es_X10_down {l : Launch} {al : Nat → Nat} {dC : Nat → ClassId} {dI : Nat → Nat → Nat} {aC : Nat → ClassId} {aV : Nat → Nat} {x0 x1 : Nat} (hy : am_Hy l al) (hA : dm_Al al x0 x1) (N : Nat) : dm_CS l al dC dI aC aV x0 x1 3 (ec_X10_down N) := by
  intro γ as S kk g hc0
  obtain ⟨a0, w0, e_0, hc1⟩ := am_sa_some hc0
  obtain ⟨e_1, hc⟩ := am_st0_some hc1
  subst e_1
  subst e_0
  obtain ⟨q, e1, e2⟩ := dm_bi_some hc
  exact ⟨_, _, em_X10_down hy hA N a0 S _ e1, e2⟩

def e_X10_typed (N : Nat) (a0 : Nat) (i1 : Int32) (S : dm_S) : Option (Unit × dm_S) :=
  (if i1 = (28 : Int32) then
    bif dm_ok S 1 a0 then dm_bi (e_X10_down N a0 S) (fun _ S10 =>
    some ((), S10)) else none
  else
    (if i1 = (29 : Int32) then
      bif dm_ok S 1 a0 then (let S9 := dm_wr S a0 2 (0 : Int32)
      some ((), S9)) else none
    else
      (if i1 = (30 : Int32) then
        bif dm_ok S 1 a0 then (if (dm_g S a0 2) ≤ 0 then
          bif dm_ok S 1 a0 then (let S7 := dm_wr S a0 2 (0 : Int32)
          some ((), S7)) else none
        else
          bif dm_ok S 1 a0 then bif dm_ok S 1 a0 then (let S8 := dm_wr S a0 2 ((dm_g S a0 2) - (1 : Int32))
          some ((), S8)) else none else none) else none
      else
        (if i1 = (31 : Int32) then
          bif dm_ok S 1 a0 then (if dm_g S a0 0 < 0 then none else
          bif dm_ok S 2 ((dm_g S a0 0).toNatClampNeg) || dm_ok S 3 ((dm_g S a0 0).toNatClampNeg) then bif dm_ok S 1 a0 then dm_bi (e_X10_blank N a0 (Int32.ofNat (dm_len S ((dm_g S a0 0).toNatClampNeg))) S) (fun _ S4 =>
          bif dm_ok S4 1 a0 then (let S5 := dm_wr S4 a0 2 (0 : Int32)
          bif dm_ok S5 1 a0 then (let S6 := dm_wr S5 a0 1 (0 : Int32)
          some ((), S6)) else none) else none) else none else none) else none
        else
          bif dm_ok S 1 a0 then (if dm_g S a0 0 < 0 then none else
          bif dm_ok S 1 a0 then bif dm_ok S 3 ((dm_g S a0 0).toNatClampNeg) && am_in (dm_g S a0 1) (dm_len S ((dm_g S a0 0).toNatClampNeg)) then (if dm_g S ((dm_g S a0 0).toNatClampNeg) (dm_g S a0 1).toNatClampNeg < 0 then none else
          bif dm_ok S 1 a0 then bif dm_ok S 2 ((dm_g S ((dm_g S a0 0).toNatClampNeg) (dm_g S a0 1).toNatClampNeg).toNatClampNeg) && am_in (dm_g S a0 2) (dm_len S ((dm_g S ((dm_g S a0 0).toNatClampNeg) (dm_g S a0 1).toNatClampNeg).toNatClampNeg)) then (let S1 := dm_wr S ((dm_g S ((dm_g S a0 0).toNatClampNeg) (dm_g S a0 1).toNatClampNeg).toNatClampNeg) (dm_g S a0 2).toNatClampNeg i1
          bif dm_ok S1 1 a0 then bif dm_ok S1 1 a0 then (let S2 := dm_wr S1 a0 2 ((dm_g S1 a0 2) + (1 : Int32))
          bif dm_ok S2 1 a0 then bif dm_ok S2 1 a0 then (if (dm_g S2 a0 2) = (dm_g S2 a0 3) then
            bif dm_ok S2 1 a0 then dm_bi (e_X10_down N a0 S2) (fun _ S3 =>
            some ((), S3)) else none
          else
            some ((), S2)) else none else none) else none else none) else none else none) else none else none) else none))))
def ec_X10_typed (N : Nat) : dm_Cl := fun _ as S kk => am_sa as (fun a0 w0 => am_s1 w0 (fun i1 w1 => am_st0 w1 (dm_bi (e_X10_typed N a0 i1 S) (fun v S => kk none S))))
def dtX10_typed : List (Nat × Instr × Nat) := [(0, .iload_n 1, 1), (1, .bipush 28, 2), (3, .if_icmp .ne 10, 3), (6, .aload_n 0, 1), (7, .invokevirtual 39, 3), (10, .goto 115, 3), (13, .iload_n 1, 1), (14, .bipush 29, 2), (16, .if_icmp .ne 11, 3), (19, .aload_n 0, 1), (20, .iconst 0, 1), (21, .putfield 30, 3), (24, .goto 101, 3), (27, .iload_n 1, 1), (28, .bipush 30, 2), (30, .if_icmp .ne 27, 3), (33, .aload_n 0, 1), (34, .aload_n 0, 1), (35, .getfield 30, 3), (38, .ifCond .le 12, 3), (41, .aload_n 0, 1), (42, .getfield 30, 3), (45, .iconst 1, 1), (46, .isub, 1), (47, .goto 4, 3), (50, .iconst 0, 1), (51, .putfield 30, 3), (54, .goto 71, 3), (57, .iload_n 1, 1), (58, .bipush 31, 2), (60, .if_icmp .ne 25, 3), (63, .aload_n 0, 1), (64, .aload_n 0, 1), (65, .getfield 20, 3), (68, .arraylength, 1), (69, .invokevirtual 42, 3), (72, .aload_n 0, 1), (73, .iconst 0, 1), (74, .putfield 30, 3), (77, .aload_n 0, 1), (78, .iconst 0, 1), (79, .putfield 33, 3), (82, .goto 43, 3), (85, .aload_n 0, 1), (86, .getfield 20, 3), (89, .aload_n 0, 1), (90, .getfield 33, 3), (93, .aaload, 1), (94, .aload_n 0, 1), (95, .getfield 30, 3), (98, .iload_n 1, 1), (99, .iastore, 1), (100, .aload_n 0, 1), (101, .dup, 1), (102, .getfield 30, 3), (105, .iconst 1, 1), (106, .iadd, 1), (107, .putfield 30, 3), (110, .aload_n 0, 1), (111, .getfield 30, 3), (114, .aload_n 0, 1), (115, .getfield 15, 3), (118, .if_icmp .ne 7, 3), (121, .aload_n 0, 1), (122, .invokevirtual 39, 3), (125, .return_, 1)]
def eoC_X10_typed (N : Nat) : am_Orc := am_o0
def eoD_X10_typed (N : Nat) : dm_Orc := (dm_oc 3 (ec_X10_down N) (dm_oc 0 (ec_X10_blank N) dm_o0))
set_option maxRecDepth 100000 in
theorem dtok_X10_typed : dm_tok 4 dtX10_typed := by
  unfold dm_tok
  decide +kernel
set_option maxHeartbeats 4000000 in
set_option maxRecDepth 100000 in
theorem em_X10_typed {l : Launch} {al : Nat → Nat} {dC : Nat → ClassId} {dI : Nat → Nat → Nat} {aC : Nat → ClassId} {aV : Nat → Nat} {x0 x1 : Nat} (hy : am_Hy l al) (hA : dm_Al al x0 x1) (N : Nat) (a0 : Nat) (i1 : Int32) (S : dm_S) (r : (Unit × dm_S)) (hf : e_X10_typed N a0 i1 S = some r) : dm_Met l al dC dI aC aV x0 x1 4 [.ref a0, .int i1] S (none) r.2 :=
  dm_met (tab := dtX10_typed) (oC := eoC_X10_typed N) (oD := eoD_X10_typed N) (ret := dm_rv') (g := r) (by decide) hA dtok_X10_typed am_os0 (dm_os1 (es_X10_down hy hA N) (dm_os1 (es_X10_blank hy hA N) dm_os0)) dm_rv'_inv (Nat.le_of_ble_eq_true rfl) (fun At cl wk => by
    skip
    exact cl dm_C0 dm_u0 400 0 _ _ S hf)
theorem es_X10_typed {l : Launch} {al : Nat → Nat} {dC : Nat → ClassId} {dI : Nat → Nat → Nat} {aC : Nat → ClassId} {aV : Nat → Nat} {x0 x1 : Nat} (hy : am_Hy l al) (hA : dm_Al al x0 x1) (N : Nat) : dm_CS l al dC dI aC aV x0 x1 4 (ec_X10_typed N) := by
  intro γ as S kk g hc0
  obtain ⟨a0, w0, e_0, hc1⟩ := am_sa_some hc0
  obtain ⟨i1, w1, e_1, hc2⟩ := am_s1_some hc1
  obtain ⟨e_2, hc⟩ := am_st0_some hc2
  subst e_2
  subst e_1
  subst e_0
  obtain ⟨q, e1, e2⟩ := dm_bi_some hc
  exact ⟨_, _, em_X10_typed hy hA N a0 i1 S _ e1, e2⟩

def el_X10_sized_25 (N : Nat) (K7 : Nat → Int32 → Int32 → Int32 → dm_S → Option (Unit × dm_S)) : Nat → Nat → Int32 → Int32 → Int32 → Nat → Int32 → dm_S → Option (Unit × dm_S)
  | 0, _, _, _, _, _, _, _ => none
  | n + 1, a0, i1, i2, i3, a4, i5, S =>
    (if i1 ≤ i5 then
      bif dm_ok S 1 a0 then (if dm_g S a0 0 < 0 then none else
      bif dm_ok S 3 ((dm_g S a0 0).toNatClampNeg) && am_in i3 (dm_len S ((dm_g S a0 0).toNatClampNeg)) && dm_ok S 2 a4 && Nat.blt a4 dm_bg then (let S1 := dm_wr S ((dm_g S a0 0).toNatClampNeg) i3.toNatClampNeg (am_z ((a4 : Nat) : Int))
      K7 a0 i1 i2 (i3 + (1 : Int32)) S1) else none) else none
    else
      bif dm_ok S 1 a0 then (if dm_g S a0 0 < 0 then none else
      bif dm_ok S 3 ((dm_g S a0 0).toNatClampNeg) && am_in i3 (dm_len S ((dm_g S a0 0).toNatClampNeg)) then (if dm_g S ((dm_g S a0 0).toNatClampNeg) i3.toNatClampNeg < 0 then none else
      bif dm_ok S 2 ((dm_g S ((dm_g S a0 0).toNatClampNeg) i3.toNatClampNeg).toNatClampNeg) || dm_ok S 3 ((dm_g S ((dm_g S a0 0).toNatClampNeg) i3.toNatClampNeg).toNatClampNeg) then (if (Int32.ofNat (dm_len S ((dm_g S ((dm_g S a0 0).toNatClampNeg) i3.toNatClampNeg).toNatClampNeg))) ≤ i5 then
        bif dm_ok S 1 a0 then (if dm_g S a0 0 < 0 then none else
        bif dm_ok S 3 ((dm_g S a0 0).toNatClampNeg) && am_in i3 (dm_len S ((dm_g S a0 0).toNatClampNeg)) && dm_ok S 2 a4 && Nat.blt a4 dm_bg then (let S2 := dm_wr S ((dm_g S a0 0).toNatClampNeg) i3.toNatClampNeg (am_z ((a4 : Nat) : Int))
        K7 a0 i1 i2 (i3 + (1 : Int32)) S2) else none) else none
      else
        bif dm_ok S 1 a0 then (if dm_g S a0 0 < 0 then none else
        bif dm_ok S 3 ((dm_g S a0 0).toNatClampNeg) && am_in i3 (dm_len S ((dm_g S a0 0).toNatClampNeg)) then (if dm_g S ((dm_g S a0 0).toNatClampNeg) i3.toNatClampNeg < 0 then none else
        bif dm_ok S 2 ((dm_g S ((dm_g S a0 0).toNatClampNeg) i3.toNatClampNeg).toNatClampNeg) && am_in i5 (dm_len S ((dm_g S ((dm_g S a0 0).toNatClampNeg) i3.toNatClampNeg).toNatClampNeg)) then bif dm_ok S 2 a4 && am_in i5 (dm_len S a4) then (let S3 := dm_wr S a4 i5.toNatClampNeg (dm_g S ((dm_g S ((dm_g S a0 0).toNatClampNeg) i3.toNatClampNeg).toNatClampNeg) i5.toNatClampNeg)
        el_X10_sized_25 N K7 n a0 i1 i2 i3 a4 (i5 + (1 : Int32)) S3) else none else none) else none) else none) else none) else none) else none)
def el_X10_sized_137 (N : Nat) : Nat → Nat → Int32 → Nat → Int32 → dm_S → Option (Unit × dm_S)
  | 0, _, _, _, _, _ => none
  | n + 1, a0, i2, a3, i4, S =>
    (if i2 ≤ i4 then
      some ((), S)
    else
      bif dm_ok S 2 a3 || dm_ok S 3 a3 then (if (Int32.ofNat (dm_len S a3)) ≤ i4 then
        some ((), S)
      else
        bif dm_ok S 1 a0 then (if dm_g S a0 0 < 0 then none else
        bif dm_ok S 3 a3 && am_in i4 (dm_len S a3) then (if dm_g S a3 i4.toNatClampNeg < 0 then none else
        bif dm_ok S 3 ((dm_g S a0 0).toNatClampNeg) && am_in i4 (dm_len S ((dm_g S a0 0).toNatClampNeg)) && dm_ok S 2 ((dm_g S a3 i4.toNatClampNeg).toNatClampNeg) && Nat.blt ((dm_g S a3 i4.toNatClampNeg).toNatClampNeg) dm_bg then (let S1 := dm_wr S ((dm_g S a0 0).toNatClampNeg) i4.toNatClampNeg (am_z (((dm_g S a3 i4.toNatClampNeg).toNatClampNeg : Nat) : Int))
        el_X10_sized_137 N n a0 i2 a3 (i4 + (1 : Int32)) S1) else none) else none) else none) else none)
def el_X10_sized_99 (N : Nat) : Nat → Nat → Int32 → dm_S → Option (Unit × dm_S)
  | 0, _, _, _ => none
  | n + 1, a0, i2, S =>
    bif dm_ok S 1 a0 then (if (dm_g S a0 1) < i2 then
      bif dm_ok S 1 a0 then (if dm_g S a0 0 < 0 then none else
      bif dm_ok S 1 a0 then dm_bi (e_X10_blank N a0 i2 S) (fun _ S1 =>
      el_X10_sized_137 N N a0 i2 ((dm_g S a0 0).toNatClampNeg) (0 : Int32) S1) else none) else none
    else
      bif dm_ok S 1 a0 then dm_bi (e_X10_up N a0 S) (fun _ S2 =>
      bif dm_ok S2 1 a0 then bif dm_ok S2 1 a0 then (let S3 := dm_wr S2 a0 1 ((dm_g S2 a0 1) - (1 : Int32))
      el_X10_sized_99 N n a0 i2 S3) else none else none) else none) else none
def el_X10_sized_7 (N : Nat) : Nat → Nat → Int32 → Int32 → Int32 → dm_S → Option (Unit × dm_S)
  | 0, _, _, _, _, _ => none
  | n + 1, a0, i1, i2, i3, S =>
    bif dm_ok S 1 a0 then (if dm_g S a0 0 < 0 then none else
    bif dm_ok S 2 ((dm_g S a0 0).toNatClampNeg) || dm_ok S 3 ((dm_g S a0 0).toNatClampNeg) then (if (Int32.ofNat (dm_len S ((dm_g S a0 0).toNatClampNeg))) ≤ i3 then
      bif dm_ok S 1 a0 then (if (dm_g S a0 2) < i1 then
        bif dm_ok S 1 a0 then bif dm_ok S 1 a0 then (let S1 := dm_wr S a0 2 (dm_g S a0 2)
        el_X10_sized_99 N N a0 i2 S1) else none else none
      else
        bif dm_ok S 1 a0 then (let S2 := dm_wr S a0 2 (i1 - (1 : Int32))
        el_X10_sized_99 N N a0 i2 S2) else none) else none
    else
      bif dm_ok S 1 a0 then dm_bi (e_X10_row N a0 S) (fun b4 S3 =>
      el_X10_sized_25 N (el_X10_sized_7 N n) N a0 i1 i2 i3 b4 (0 : Int32) S3) else none) else none) else none
def e_X10_sized (N : Nat) (a0 : Nat) (i1 : Int32) (i2 : Int32) (S : dm_S) : Option (Unit × dm_S) :=
  bif dm_ok S 1 a0 then (let S1 := dm_wr S a0 3 i1
  el_X10_sized_7 N N a0 i1 i2 (0 : Int32) S1) else none
def ec_X10_sized (N : Nat) : dm_Cl := fun _ as S kk => am_sa as (fun a0 w0 => am_s1 w0 (fun i1 w1 => am_s1 w1 (fun i2 w2 => am_st0 w2 (dm_bi (e_X10_sized N a0 i1 i2 S) (fun v S => kk none S)))))
def dtX10_sized : List (Nat × Instr × Nat) := [(0, .aload_n 0, 1), (1, .iload_n 1, 1), (2, .putfield 15, 3), (5, .iconst 0, 1), (6, .istore_n 3, 1), (7, .iload_n 3, 1), (8, .aload_n 0, 1), (9, .getfield 20, 3), (12, .arraylength, 1), (13, .if_icmp .ge 64, 3), (16, .aload_n 0, 1), (17, .invokevirtual 26, 3), (20, .astore 4, 2), (22, .iconst 0, 1), (23, .istore 5, 2), (25, .iload 5, 2), (27, .iload_n 1, 1), (28, .if_icmp .ge 35, 3), (31, .iload 5, 2), (33, .aload_n 0, 1), (34, .getfield 20, 3), (37, .iload_n 3, 1), (38, .aaload, 1), (39, .arraylength, 1), (40, .if_icmp .ge 23, 3), (43, .aload 4, 2), (45, .iload 5, 2), (47, .aload_n 0, 1), (48, .getfield 20, 3), (51, .iload_n 3, 1), (52, .aaload, 1), (53, .iload 5, 2), (55, .iaload, 1), (56, .iastore, 1), (57, .iinc 5 1, 3), (60, .goto (-35), 3), (63, .aload_n 0, 1), (64, .getfield 20, 3), (67, .iload_n 3, 1), (68, .aload 4, 2), (70, .aastore, 1), (71, .iinc 3 1, 3), (74, .goto (-67), 3), (77, .aload_n 0, 1), (78, .aload_n 0, 1), (79, .getfield 30, 3), (82, .iload_n 1, 1), (83, .if_icmp .lt 9, 3), (86, .iload_n 1, 1), (87, .iconst 1, 1), (88, .isub, 1), (89, .goto 7, 3), (92, .aload_n 0, 1), (93, .getfield 30, 3), (96, .putfield 30, 3), (99, .aload_n 0, 1), (100, .getfield 33, 3), (103, .iload_n 2, 1), (104, .if_icmp .lt 20, 3), (107, .aload_n 0, 1), (108, .invokevirtual 36, 3), (111, .aload_n 0, 1), (112, .dup, 1), (113, .getfield 33, 3), (116, .iconst 1, 1), (117, .isub, 1), (118, .putfield 33, 3), (121, .goto (-22), 3), (124, .aload_n 0, 1), (125, .getfield 20, 3), (128, .astore_n 3, 1), (129, .aload_n 0, 1), (130, .iload_n 2, 1), (131, .invokevirtual 42, 3), (134, .iconst 0, 1), (135, .istore 4, 2), (137, .iload 4, 2), (139, .iload_n 2, 1), (140, .if_icmp .ge 27, 3), (143, .iload 4, 2), (145, .aload_n 3, 1), (146, .arraylength, 1), (147, .if_icmp .ge 20, 3), (150, .aload_n 0, 1), (151, .getfield 20, 3), (154, .iload 4, 2), (156, .aload_n 3, 1), (157, .iload 4, 2), (159, .aaload, 1), (160, .aastore, 1), (161, .iinc 4 1, 3), (164, .goto (-27), 3), (167, .return_, 1)]
def eoC_X10_sized (N : Nat) : am_Orc := am_o0
def eoD_X10_sized (N : Nat) : dm_Orc := (dm_oc 2 (ec_X10_row N) (dm_oc 1 (ec_X10_up N) (dm_oc 0 (ec_X10_blank N) dm_o0)))
set_option maxRecDepth 100000 in
theorem dtok_X10_sized : dm_tok 5 dtX10_sized := by
  unfold dm_tok
  decide +kernel
set_option maxHeartbeats 4000000 in
set_option maxRecDepth 100000 in
theorem em_X10_sized {l : Launch} {al : Nat → Nat} {dC : Nat → ClassId} {dI : Nat → Nat → Nat} {aC : Nat → ClassId} {aV : Nat → Nat} {x0 x1 : Nat} (hy : am_Hy l al) (hA : dm_Al al x0 x1) (N : Nat) (a0 : Nat) (i1 : Int32) (i2 : Int32) (S : dm_S) (r : (Unit × dm_S)) (hf : e_X10_sized N a0 i1 i2 S = some r) : dm_Met l al dC dI aC aV x0 x1 5 [.ref a0, .int i1, .int i2] S (none) r.2 :=
  dm_met (tab := dtX10_sized) (oC := eoC_X10_sized N) (oD := eoD_X10_sized N) (ret := dm_rv') (g := r) (by decide) hA dtok_X10_sized am_os0 (dm_os1 (es_X10_row hy hA N) (dm_os1 (es_X10_up hy hA N) (dm_os1 (es_X10_blank hy hA N) dm_os0))) dm_rv'_inv (Nat.le_of_ble_eq_true rfl) (fun At cl wk => by
    have A25 : ∀ (K7 : Nat → Int32 → Int32 → Int32 → dm_S → Option (Unit × dm_S)), (∀ a0 : Nat, ∀ i1 : Int32, ∀ i2 : Int32, ∀ i3 : Int32, ∀ h, K7 a0 i1 i2 i3 h = some r → At 7 [(0, .ref a0), (1, .int i1), (2, .int i2), (3, .int i3)] [] h) → ∀ n : Nat, ∀ a0 : Nat, ∀ i1 : Int32, ∀ i2 : Int32, ∀ i3 : Int32, ∀ a4 : Nat, ∀ i5 : Int32, ∀ h, el_X10_sized_25 N K7 n a0 i1 i2 i3 a4 i5 h = some r → At 25 [(0, .ref a0), (1, .int i1), (2, .int i2), (3, .int i3), (4, .ref a4), (5, .int i5)] [] h := by
      intro K7 hK7 n
      induction n with
      | zero => intro a0 i1 i2 i3 a4 i5 h hr; cases hr
      | succ n ih =>
        intro a0 i1 i2 i3 a4 i5 h hr
        exact cl (dm_C1 7 (fun ρ st S => am_lda ρ 0 (fun a0 => am_ldi ρ 1 (fun i1 => am_ldi ρ 2 (fun i2 => am_ldi ρ 3 (fun i3 => am_st0 st (K7 a0 i1 i2 i3 S)))))) (dm_C1 25 (fun ρ st S => am_lda ρ 0 (fun a0 => am_ldi ρ 1 (fun i1 => am_ldi ρ 2 (fun i2 => am_ldi ρ 3 (fun i3 => am_lda ρ 4 (fun a4 => am_ldi ρ 5 (fun i5 => am_st0 st (el_X10_sized_25 N K7 n a0 i1 i2 i3 a4 i5 S)))))))) dm_C0)) (dm_u1 (fun ρ st S hc => by
        obtain ⟨a0, m_a0, hc⟩ := am_lda_some hc
        obtain ⟨i1, m_i1, hc⟩ := am_ldi_some hc
        obtain ⟨i2, m_i2, hc⟩ := am_ldi_some hc
        obtain ⟨i3, m_i3, hc⟩ := am_ldi_some hc
        obtain ⟨rfl, hc⟩ := am_st0_some hc
        exact wk 7 ρ [(0, .ref a0), (1, .int i1), (2, .int i2), (3, .int i3)] _ S (am_m1 m_a0 (am_m1 m_i1 (am_m1 m_i2 (am_m1 m_i3 am_m0)))) (hK7 a0 i1 i2 i3 S hc)) (dm_u1 (fun ρ st S hc => by
        obtain ⟨a0, m_a0, hc⟩ := am_lda_some hc
        obtain ⟨i1, m_i1, hc⟩ := am_ldi_some hc
        obtain ⟨i2, m_i2, hc⟩ := am_ldi_some hc
        obtain ⟨i3, m_i3, hc⟩ := am_ldi_some hc
        obtain ⟨a4, m_a4, hc⟩ := am_lda_some hc
        obtain ⟨i5, m_i5, hc⟩ := am_ldi_some hc
        obtain ⟨rfl, hc⟩ := am_st0_some hc
        exact wk 25 ρ [(0, .ref a0), (1, .int i1), (2, .int i2), (3, .int i3), (4, .ref a4), (5, .int i5)] _ S (am_m1 m_a0 (am_m1 m_i1 (am_m1 m_i2 (am_m1 m_i3 (am_m1 m_a4 (am_m1 m_i5 am_m0)))))) (ih a0 i1 i2 i3 a4 i5 S hc)) dm_u0)) 400 25 _ _ h hr
    have A137 : ∀ n : Nat, ∀ a0 : Nat, ∀ i2 : Int32, ∀ a3 : Nat, ∀ i4 : Int32, ∀ h, el_X10_sized_137 N n a0 i2 a3 i4 h = some r → At 137 [(0, .ref a0), (2, .int i2), (3, .ref a3), (4, .int i4)] [] h := by
      intro n
      induction n with
      | zero => intro a0 i2 a3 i4 h hr; cases hr
      | succ n ih =>
        intro a0 i2 a3 i4 h hr
        exact cl (dm_C1 137 (fun ρ st S => am_lda ρ 0 (fun a0 => am_ldi ρ 2 (fun i2 => am_lda ρ 3 (fun a3 => am_ldi ρ 4 (fun i4 => am_st0 st (el_X10_sized_137 N n a0 i2 a3 i4 S)))))) dm_C0) (dm_u1 (fun ρ st S hc => by
        obtain ⟨a0, m_a0, hc⟩ := am_lda_some hc
        obtain ⟨i2, m_i2, hc⟩ := am_ldi_some hc
        obtain ⟨a3, m_a3, hc⟩ := am_lda_some hc
        obtain ⟨i4, m_i4, hc⟩ := am_ldi_some hc
        obtain ⟨rfl, hc⟩ := am_st0_some hc
        exact wk 137 ρ [(0, .ref a0), (2, .int i2), (3, .ref a3), (4, .int i4)] _ S (am_m1 m_a0 (am_m1 m_i2 (am_m1 m_a3 (am_m1 m_i4 am_m0)))) (ih a0 i2 a3 i4 S hc)) dm_u0) 400 137 _ _ h hr
    have A99 : ∀ n : Nat, ∀ a0 : Nat, ∀ i2 : Int32, ∀ h, el_X10_sized_99 N n a0 i2 h = some r → At 99 [(0, .ref a0), (2, .int i2)] [] h := by
      intro n
      induction n with
      | zero => intro a0 i2 h hr; cases hr
      | succ n ih =>
        intro a0 i2 h hr
        exact cl (dm_C1 99 (fun ρ st S => am_lda ρ 0 (fun a0 => am_ldi ρ 2 (fun i2 => am_st0 st (el_X10_sized_99 N n a0 i2 S)))) (dm_C1 137 (fun ρ st S => am_lda ρ 0 (fun a0 => am_ldi ρ 2 (fun i2 => am_lda ρ 3 (fun a3 => am_ldi ρ 4 (fun i4 => am_st0 st (el_X10_sized_137 N N a0 i2 a3 i4 S)))))) dm_C0)) (dm_u1 (fun ρ st S hc => by
        obtain ⟨a0, m_a0, hc⟩ := am_lda_some hc
        obtain ⟨i2, m_i2, hc⟩ := am_ldi_some hc
        obtain ⟨rfl, hc⟩ := am_st0_some hc
        exact wk 99 ρ [(0, .ref a0), (2, .int i2)] _ S (am_m1 m_a0 (am_m1 m_i2 am_m0)) (ih a0 i2 S hc)) (dm_u1 (fun ρ st S hc => by
        obtain ⟨a0, m_a0, hc⟩ := am_lda_some hc
        obtain ⟨i2, m_i2, hc⟩ := am_ldi_some hc
        obtain ⟨a3, m_a3, hc⟩ := am_lda_some hc
        obtain ⟨i4, m_i4, hc⟩ := am_ldi_some hc
        obtain ⟨rfl, hc⟩ := am_st0_some hc
        exact wk 137 ρ [(0, .ref a0), (2, .int i2), (3, .ref a3), (4, .int i4)] _ S (am_m1 m_a0 (am_m1 m_i2 (am_m1 m_a3 (am_m1 m_i4 am_m0)))) (A137 N a0 i2 a3 i4 S hc)) dm_u0)) 400 99 _ _ h hr
    have A7 : ∀ n : Nat, ∀ a0 : Nat, ∀ i1 : Int32, ∀ i2 : Int32, ∀ i3 : Int32, ∀ h, el_X10_sized_7 N n a0 i1 i2 i3 h = some r → At 7 [(0, .ref a0), (1, .int i1), (2, .int i2), (3, .int i3)] [] h := by
      intro n
      induction n with
      | zero => intro a0 i1 i2 i3 h hr; cases hr
      | succ n ih =>
        intro a0 i1 i2 i3 h hr
        exact cl (dm_C1 25 (fun ρ st S => am_lda ρ 0 (fun a0 => am_ldi ρ 1 (fun i1 => am_ldi ρ 2 (fun i2 => am_ldi ρ 3 (fun i3 => am_lda ρ 4 (fun a4 => am_ldi ρ 5 (fun i5 => am_st0 st (el_X10_sized_25 N (el_X10_sized_7 N n) N a0 i1 i2 i3 a4 i5 S)))))))) (dm_C1 99 (fun ρ st S => am_lda ρ 0 (fun a0 => am_ldi ρ 2 (fun i2 => am_st0 st (el_X10_sized_99 N N a0 i2 S)))) dm_C0)) (dm_u1 (fun ρ st S hc => by
        obtain ⟨a0, m_a0, hc⟩ := am_lda_some hc
        obtain ⟨i1, m_i1, hc⟩ := am_ldi_some hc
        obtain ⟨i2, m_i2, hc⟩ := am_ldi_some hc
        obtain ⟨i3, m_i3, hc⟩ := am_ldi_some hc
        obtain ⟨a4, m_a4, hc⟩ := am_lda_some hc
        obtain ⟨i5, m_i5, hc⟩ := am_ldi_some hc
        obtain ⟨rfl, hc⟩ := am_st0_some hc
        exact wk 25 ρ [(0, .ref a0), (1, .int i1), (2, .int i2), (3, .int i3), (4, .ref a4), (5, .int i5)] _ S (am_m1 m_a0 (am_m1 m_i1 (am_m1 m_i2 (am_m1 m_i3 (am_m1 m_a4 (am_m1 m_i5 am_m0)))))) (A25 (el_X10_sized_7 N n) ih N a0 i1 i2 i3 a4 i5 S hc)) (dm_u1 (fun ρ st S hc => by
        obtain ⟨a0, m_a0, hc⟩ := am_lda_some hc
        obtain ⟨i2, m_i2, hc⟩ := am_ldi_some hc
        obtain ⟨rfl, hc⟩ := am_st0_some hc
        exact wk 99 ρ [(0, .ref a0), (2, .int i2)] _ S (am_m1 m_a0 (am_m1 m_i2 am_m0)) (A99 N a0 i2 S hc)) dm_u0)) 400 7 _ _ h hr
    exact cl (dm_C1 7 (fun ρ st S => am_lda ρ 0 (fun a0 => am_ldi ρ 1 (fun i1 => am_ldi ρ 2 (fun i2 => am_ldi ρ 3 (fun i3 => am_st0 st (el_X10_sized_7 N N a0 i1 i2 i3 S)))))) dm_C0) (dm_u1 (fun ρ st S hc => by
        obtain ⟨a0, m_a0, hc⟩ := am_lda_some hc
        obtain ⟨i1, m_i1, hc⟩ := am_ldi_some hc
        obtain ⟨i2, m_i2, hc⟩ := am_ldi_some hc
        obtain ⟨i3, m_i3, hc⟩ := am_ldi_some hc
        obtain ⟨rfl, hc⟩ := am_st0_some hc
        exact wk 7 ρ [(0, .ref a0), (1, .int i1), (2, .int i2), (3, .int i3)] _ S (am_m1 m_a0 (am_m1 m_i1 (am_m1 m_i2 (am_m1 m_i3 am_m0)))) (A7 N a0 i1 i2 i3 S hc)) dm_u0) 400 0 _ _ S hf)
theorem es_X10_sized {l : Launch} {al : Nat → Nat} {dC : Nat → ClassId} {dI : Nat → Nat → Nat} {aC : Nat → ClassId} {aV : Nat → Nat} {x0 x1 : Nat} (hy : am_Hy l al) (hA : dm_Al al x0 x1) (N : Nat) : dm_CS l al dC dI aC aV x0 x1 5 (ec_X10_sized N) := by
  intro γ as S kk g hc0
  obtain ⟨a0, w0, e_0, hc1⟩ := am_sa_some hc0
  obtain ⟨i1, w1, e_1, hc2⟩ := am_s1_some hc1
  obtain ⟨i2, w2, e_2, hc3⟩ := am_s1_some hc2
  obtain ⟨e_3, hc⟩ := am_st0_some hc3
  subst e_3
  subst e_2
  subst e_1
  subst e_0
  obtain ⟨q, e1, e2⟩ := dm_bi_some hc
  exact ⟨_, _, em_X10_sized hy hA N a0 i1 i2 S _ e1, e2⟩
