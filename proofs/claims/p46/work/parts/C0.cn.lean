/-! ===== constructors: an interpreter over cells that come one behind the other, and that it tells the truth ===== -/
section CN
def cn_p0 : List (Nat × Instr × Nat) := [(0, .aload_n 0, 1), (1, .invokespecial 3, 3), (4, .aload_n 0, 1), (5, .iconst 0, 1), (6, .putfield 9, 3), (9, .aload_n 0, 1), (10, .iconst (-1), 1), (11, .putfield 15, 3), (14, .aload_n 0, 1), (15, .iconst (-1), 1), (16, .putfield 18, 3), (19, .aload_n 0, 1), (20, .iconst 0, 1), (21, .putfield 21, 3), (24, .return_, 1)]
def cn_p1 : List (Nat × Instr × Nat) := [(0, .aload_n 0, 1), (1, .invokespecial 3, 3), (4, .aload_n 0, 1), (5, .new 9, 3), (8, .dup, 1), (9, .iconst 4, 1), (10, .invokespecial 11, 3), (13, .putfield 14, 3), (16, .aload_n 0, 1), (17, .new 9, 3), (20, .dup, 1), (21, .bipush 6, 2), (23, .invokespecial 11, 3), (26, .putfield 20, 3), (29, .aload_n 0, 1), (30, .iconst 2, 1), (31, .newarray .int, 2), (33, .putfield 23, 3), (36, .aload_n 0, 1), (37, .iconst 2, 1), (38, .newarray .boolean, 2), (40, .putfield 27, 3), (43, .return_, 1)]
def cn_p2 : List (Nat × Instr × Nat) := [(0, .aload_n 0, 1), (1, .invokespecial 3, 3), (4, .aload_n 0, 1), (5, .bipush 8, 2), (7, .anewarray 9, 3), (10, .putfield 11, 3), (13, .aload_n 0, 1), (14, .iconst 0, 1), (15, .putfield 17, 3), (18, .aload_n 0, 1), (19, .iconst 0, 1), (20, .putfield 21, 3), (23, .iconst 0, 1), (24, .istore_n 1, 1), (25, .iload_n 1, 1), (26, .bipush 8, 2), (28, .if_icmp .ge 22, 3), (31, .aload_n 0, 1), (32, .getfield 11, 3), (35, .iload_n 1, 1), (36, .new 9, 3), (39, .dup, 1), (40, .invokespecial 24, 3), (43, .aastore, 1), (44, .iinc 1 1, 3), (47, .goto (-22), 3), (50, .return_, 1)]
def cn_p3 : List (Nat × Instr × Nat) := [(0, .aload_n 0, 1), (1, .invokespecial 3, 3), (4, .aload_n 0, 1), (5, .iconst 5, 1), (6, .sipush 300, 3), (9, .multianewarray 11 2, 4), (13, .putfield 13, 3), (16, .return_, 1)]
def cn_p4 : List (Nat × Instr × Nat) := [(0, .aload_n 0, 1), (1, .invokespecial 3, 3), (4, .aload_n 0, 1), (5, .sipush 736, 3), (8, .newarray .int, 2), (10, .putfield 11, 3), (13, .aload_n 0, 1), (14, .iconst 0, 1), (15, .putfield 15, 3), (18, .aload_n 0, 1), (19, .iconst 0, 1), (20, .putfield 19, 3), (23, .aload_n 0, 1), (24, .iconst 0, 1), (25, .putfield 22, 3), (28, .aload_n 0, 1), (29, .iconst 0, 1), (30, .putfield 25, 3), (33, .aload_n 0, 1), (34, .iconst 0, 1), (35, .putfield 28, 3), (38, .aload_n 0, 1), (39, .iconst 0, 1), (40, .putfield 31, 3), (43, .return_, 1)]
def cn_p5 : List (Nat × Instr × Nat) := [(0, .aload_n 0, 1), (1, .invokespecial 3, 3), (4, .aload_n 0, 1), (5, .iconst 0, 1), (6, .putfield 9, 3), (9, .aload_n 0, 1), (10, .iconst 0, 1), (11, .putfield 15, 3), (14, .aload_n 0, 1), (15, .iconst 0, 1), (16, .putfield 18, 3), (19, .aload_n 0, 1), (20, .iconst 0, 1), (21, .putfield 21, 3), (24, .aload_n 0, 1), (25, .iconst 0, 1), (26, .putfield 24, 3), (29, .aload_n 0, 1), (30, .iconst 0, 1), (31, .putfield 27, 3), (34, .aload_n 0, 1), (35, .iconst 0, 1), (36, .putfield 30, 3), (39, .aload_n 0, 1), (40, .iconst 0, 1), (41, .putfield 33, 3), (44, .return_, 1)]
def cn_p6 : List (Nat × Instr × Nat) := [(0, .aload_n 0, 1), (1, .invokespecial 3, 3), (4, .aload_n 0, 1), (5, .iconst 0, 1), (6, .putfield 9, 3), (9, .aload_n 0, 1), (10, .iconst 2, 1), (11, .newarray .int, 2), (13, .putfield 15, 3), (16, .aload_n 0, 1), (17, .iconst 4, 1), (18, .newarray .int, 2), (20, .putfield 19, 3), (23, .aload_n 0, 1), (24, .iconst 4, 1), (25, .anewarray 22, 3), (28, .putfield 24, 3), (31, .aload_n 0, 1), (32, .bipush 6, 2), (34, .anewarray 28, 3), (37, .putfield 30, 3), (40, .iconst 0, 1), (41, .istore_n 1, 1), (42, .iload_n 1, 1), (43, .iconst 2, 1), (44, .if_icmp .ge 20, 3), (47, .aload_n 0, 1), (48, .getfield 15, 3), (51, .iload_n 1, 1), (52, .getstatic 34, 3), (55, .iload_n 1, 1), (56, .iaload, 1), (57, .iastore, 1), (58, .iinc 1 1, 3), (61, .goto (-19), 3), (64, .iconst 0, 1), (65, .istore_n 1, 1), (66, .iload_n 1, 1), (67, .iconst 4, 1), (68, .if_icmp .ge 22, 3), (71, .aload_n 0, 1), (72, .getfield 24, 3), (75, .iload_n 1, 1), (76, .new 22, 3), (79, .dup, 1), (80, .invokespecial 37, 3), (83, .aastore, 1), (84, .iinc 1 1, 3), (87, .goto (-21), 3), (90, .iconst 0, 1), (91, .istore_n 1, 1), (92, .iload_n 1, 1), (93, .bipush 6, 2), (95, .if_icmp .ge 22, 3), (98, .aload_n 0, 1), (99, .getfield 30, 3), (102, .iload_n 1, 1), (103, .new 28, 3), (106, .dup, 1), (107, .invokespecial 38, 3), (110, .aastore, 1), (111, .iinc 1 1, 3), (114, .goto (-22), 3), (117, .return_, 1)]
def cn_p7 : List (Nat × Instr × Nat) := [(0, .aload_n 0, 1), (1, .invokespecial 3, 3), (4, .aload_n 0, 1), (5, .sipush 600, 3), (8, .newarray .int, 2), (10, .putfield 9, 3), (13, .aload_n 0, 1), (14, .iconst 0, 1), (15, .putfield 15, 3), (18, .aload_n 0, 1), (19, .iconst 0, 1), (20, .putfield 19, 3), (23, .aload_n 0, 1), (24, .iconst 0, 1), (25, .putfield 22, 3), (28, .aload_n 0, 1), (29, .iconst 0, 1), (30, .putfield 25, 3), (33, .aload_n 0, 1), (34, .iconst 0, 1), (35, .putfield 28, 3), (38, .return_, 1)]
def cn_p8 : List (Nat × Instr × Nat) := [(0, .aload_n 0, 1), (1, .invokespecial 3, 3), (4, .aload_n 0, 1), (5, .bipush 6, 2), (7, .newarray .int, 2), (9, .putfield 9, 3), (12, .aload_n 0, 1), (13, .bipush 6, 2), (15, .newarray .int, 2), (17, .putfield 15, 3), (20, .aload_n 0, 1), (21, .bipush 6, 2), (23, .newarray .int, 2), (25, .putfield 18, 3), (28, .aload_n 0, 1), (29, .iconst 0, 1), (30, .putfield 21, 3), (33, .aload_n 0, 1), (34, .iload_n 1, 1), (35, .putfield 25, 3), (38, .return_, 1)]
def cn_p9 : List (Nat × Instr × Nat) := [(0, .aload_n 0, 1), (1, .invokespecial 3, 3), (4, .aload_n 0, 1), (5, .new 9, 3), (8, .dup, 1), (9, .invokespecial 11, 3), (12, .putfield 12, 3), (15, .aload_n 0, 1), (16, .new 16, 3), (19, .dup, 1), (20, .invokespecial 18, 3), (23, .putfield 19, 3), (26, .aload_n 0, 1), (27, .iconst (-1), 1), (28, .putfield 23, 3), (31, .aload_n 0, 1), (32, .bipush 102, 2), (34, .newarray .int, 2), (36, .putfield 27, 3), (39, .aload_n 0, 1), (40, .iconst 0, 1), (41, .putfield 31, 3), (44, .aload_n 0, 1), (45, .new 34, 3), (48, .dup, 1), (49, .iconst 4, 1), (50, .invokespecial 36, 3), (53, .putfield 39, 3), (56, .aload_n 0, 1), (57, .new 34, 3), (60, .dup, 1), (61, .bipush 6, 2), (63, .invokespecial 36, 3), (66, .putfield 43, 3), (69, .aload_n 0, 1), (70, .iconst 4, 1), (71, .anewarray 46, 3), (74, .putfield 48, 3), (77, .aload_n 0, 1), (78, .new 52, 3), (81, .dup, 1), (82, .invokespecial 54, 3), (85, .putfield 55, 3), (88, .aload_n 0, 1), (89, .new 59, 3), (92, .dup, 1), (93, .invokespecial 61, 3), (96, .putfield 62, 3), (99, .aload_n 0, 1), (100, .new 66, 3), (103, .dup, 1), (104, .invokespecial 68, 3), (107, .putfield 69, 3), (110, .aload_n 0, 1), (111, .new 66, 3), (114, .dup, 1), (115, .invokespecial 68, 3), (118, .putfield 73, 3), (121, .iconst 0, 1), (122, .istore_n 1, 1), (123, .iload_n 1, 1), (124, .aload_n 0, 1), (125, .getfield 48, 3), (128, .arraylength, 1), (129, .if_icmp .ge 22, 3), (132, .aload_n 0, 1), (133, .getfield 48, 3), (136, .iload_n 1, 1), (137, .new 46, 3), (140, .dup, 1), (141, .invokespecial 76, 3), (144, .aastore, 1), (145, .iinc 1 1, 3), (148, .goto (-25), 3), (151, .return_, 1)]
def cn_pL : List (List (Nat × Instr × Nat)) := [cn_p0, cn_p1, cn_p2, cn_p3, cn_p4, cn_p5, cn_p6, cn_p7, cn_p8, cn_p9]
def cn_tb : List (Nat × Nat × Nat × Nat × Nat) := [(0, 3, 0, 0, 0), (0, 9, 3, 0, 0), (0, 15, 3, 0, 1), (0, 18, 3, 0, 2), (0, 21, 3, 0, 3), (1, 3, 0, 0, 0), (1, 9, 4, 8, 0), (1, 11, 2, 8, 1), (1, 14, 3, 1, 0), (1, 20, 3, 1, 1), (1, 23, 3, 1, 2), (1, 27, 3, 1, 3), (2, 3, 0, 0, 0), (2, 9, 5, 5, 0), (2, 11, 3, 2, 0), (2, 17, 3, 2, 1), (2, 21, 3, 2, 2), (2, 9, 4, 6, 0), (2, 24, 2, 6, 0), (3, 3, 0, 0, 0), (3, 11, 6, 0, 0), (3, 13, 3, 3, 0), (4, 3, 0, 0, 0), (4, 11, 3, 4, 0), (4, 15, 3, 4, 1), (4, 19, 3, 4, 2), (4, 22, 3, 4, 3), (4, 25, 3, 4, 4), (4, 28, 3, 4, 5), (4, 31, 3, 4, 6), (5, 3, 0, 0, 0), (5, 9, 3, 5, 0), (5, 15, 3, 5, 1), (5, 18, 3, 5, 2), (5, 21, 3, 5, 3), (5, 24, 3, 5, 4), (5, 27, 3, 5, 5), (5, 30, 3, 5, 6), (5, 33, 3, 5, 7), (6, 3, 0, 0, 0), (6, 9, 3, 6, 0), (6, 15, 3, 6, 1), (6, 19, 3, 6, 2), (6, 22, 5, 3, 0), (6, 24, 3, 6, 3), (6, 28, 5, 4, 0), (6, 30, 3, 6, 4), (6, 22, 4, 0, 0), (6, 37, 1, 0, 0), (6, 28, 4, 5, 0), (6, 38, 1, 5, 0), (7, 3, 0, 0, 0), (7, 9, 3, 7, 0), (7, 15, 3, 7, 1), (7, 19, 3, 7, 2), (7, 22, 3, 7, 3), (7, 25, 3, 7, 4), (7, 28, 3, 7, 5), (8, 3, 0, 0, 0), (8, 9, 3, 8, 1), (8, 15, 3, 8, 2), (8, 18, 3, 8, 3), (8, 21, 3, 8, 4), (8, 25, 3, 8, 0), (9, 3, 0, 0, 0), (9, 9, 4, 7, 0), (9, 11, 1, 7, 0), (9, 12, 3, 9, 0), (9, 16, 4, 1, 0), (9, 18, 1, 1, 0), (9, 19, 3, 9, 1), (9, 23, 3, 9, 2), (9, 27, 3, 9, 3), (9, 31, 3, 9, 4), (9, 34, 4, 8, 0), (9, 36, 2, 8, 1), (9, 39, 3, 9, 5), (9, 43, 3, 9, 6), (9, 46, 5, 2, 0), (9, 48, 3, 9, 7), (9, 52, 4, 6, 0), (9, 54, 2, 6, 0), (9, 55, 3, 9, 8), (9, 59, 4, 2, 0), (9, 61, 2, 2, 0), (9, 62, 3, 9, 9), (9, 66, 4, 4, 0), (9, 68, 1, 4, 0), (9, 69, 3, 9, 10), (9, 73, 3, 9, 11), (9, 46, 4, 3, 0), (9, 76, 1, 3, 0)]
/-- a cell: its kind (1 an object, 2 whole numbers, 3 references), its class or its type, its length, what it holds -/
abbrev cn_E : Type := Nat × Nat × Nat × List Value
abbrev cn_St : Type := Nat × am_Lc × List Value × List cn_E × Nat
def cn_ccL : List ByteArray := [cX0_init, cX1_init, cX2_init, cX3_init, cX4_init, cX5_init, cX6_init, cX7_init, cX8_init, cX9_init]
def cn_cc (o : Nat) : ByteArray := cn_ccL.getD o ⟨#[]⟩
def cn_ml (o : Nat) : Nat := [1, 1, 2, 1, 1, 1, 2, 1, 2, 2, 1].getD o 0
def cn_fr (o : Nat) : Nat := [1, 2, 3, 1, 1, 1, 2, 1, 1, 4, 6].getD o 0
def cn_lo (o : Nat) : Nat := [12, 40, 61, 12, 12, 12, 40, 12, 12, 82, 200].getD o 0
def cn_mc (o : Nat) : Nat := [0, 10, 121, 6, 1, 0, 14, 1, 3, 192, 11].getD o 0
def cn_mz (o : Nat) : Nat := [0, 50, 688, 1505, 736, 0, 80, 600, 18, 9098, 62433].getD o 0
def cn_p (o : Nat) : List (Nat × Instr × Nat) := cn_pL.getD o []
def cn_y (o : Nat) : MethodName := ⟨am_R o, "<init>", bif Nat.beq o 8 then "(I)V" else "()V"⟩
def cn_tk (o ix kd : Nat) : Option (Nat × Nat) := (cn_tb.find? (fun q => Nat.beq q.1 o && Nat.beq q.2.1 ix && Nat.beq q.2.2.1 kd)).map (fun q => q.2.2.2)
def cn_fv (ci : Nat) : List Value := (List.range (am_N ci)).map (fun j => bif am_fi ci j then .int 0 else .null)
def cn_new (ci : Nat) : cn_E := (1, ci, am_N ci, cn_fv ci)
def cn_iv : Value → Int32
  | .int x => x
  | _ => 0
def cn_rv : Value → Option Nat
  | .ref k => some k
  | _ => none
def cn_al (a : Nat) (al0 : Nat → Nat) (k : Nat) : Nat := bif Nat.blt k 900 then a + k else al0 (k - 900)
def cn_e (al : Nat → Nat) (aC : Nat → ClassId) (e : cn_E) : va_E :=
  bif Nat.beq e.1 1 then .inr (e.2.1, e.2.2.2.map (am_rl al))
  else bif Nat.beq e.1 2 then .inl (aC e.2.1, e.2.2.1, .inl (fun j => cn_iv (e.2.2.2.getD j (.int 0))))
  else .inl (aC e.2.1, e.2.2.1, .inr (.inr (.inr (.inr (fun j => (cn_rv (e.2.2.2.getD j .null)).map al)))))
def cn_ws (a : Nat) (al : Nat → Nat) (aC : Nat → ClassId) (L : List cn_E) : va_W := (List.range L.length).map (fun k => (a + k, cn_e al aC (L.getD k (0, 0, 0, []))))
/-- a callee's cells, told from where the caller counts -/
def cn_sv (k : Nat) : Value → Value
  | .ref j => .ref (j + k)
  | v => v
def cn_sh (k : Nat) (e : cn_E) : cn_E := (e.1, e.2.1, e.2.2.1, e.2.2.2.map (cn_sv k))
def cn_wv (n : Nat) : Value → Bool
  | .ref j => Nat.blt j n
  | _ => true
def cn_wf (n : Nat) (C : List cn_E) : Bool := C.all (fun e => e.2.2.2.all (cn_wv n))
def cn_to (t : Nat) : Nat := [99, 99, 3, 0, 5, 6, 99].getD t 99
def cn_pad (n : Nat) (v : Value) : List Value := bif Nat.ble n 8 then List.replicate n v else []
def cn_okv (ci j : Nat) (v : Value) : Bool := match v with
  | .int _ => am_fi ci j
  | .ref _ => !am_fi ci j
  | _ => false
def cn_ob (e : cn_E) : Bool := Nat.beq e.1 1
def cn_newA (o t n pc ln : Nat) (kd : Nat) (ρ : am_Lc) (r : List Value) (L : List cn_E) (z : Nat) : Option cn_St :=
  bif Nat.ble (L.length) (cn_mc o) && Nat.ble (z + n) (cn_mz o) && Nat.ble n 100000 && Nat.blt L.length 800 then some (pc + ln, ρ, .ref L.length :: r, L ++ [(kd, t, n, cn_pad n (bif Nat.beq kd 2 then .int 0 else .null))], z + n) else none
/-- one instruction of a constructor -/
def cn_step (o : Nat) (orc : Nat → List Value → Option (List cn_E)) (pc : Nat) (ins : Instr) (ρ : am_Lc) (st : List Value) (L : List cn_E) (z : Nat) : Option cn_St := match ins with
  | .iload_n i => am_ldi ρ i (fun x => some (pc + 1, ρ, .int x :: st, L, z))
  | .aload_n i => am_lda ρ i (fun x => some (pc + 1, ρ, .ref x :: st, L, z))
  | .istore_n i => am_s1 st (fun x r => bif Nat.blt i (cn_ml o) then some (pc + 1, am_stl ρ i (.int x), r, L, z) else none)
  | .iinc i n => am_ldi ρ i (fun x => bif Nat.blt i (cn_ml o) then some (pc + 3, am_stl ρ i (.int (x + Int32.ofInt n)), st, L, z) else none)
  | .iconst n => some (pc + 1, ρ, .int (Int32.ofInt n) :: st, L, z)
  | .bipush n => some (pc + 2, ρ, .int (Int8.ofInt n).toInt32 :: st, L, z)
  | .sipush n => some (pc + 3, ρ, .int (Int16.ofInt n).toInt32 :: st, L, z)
  | .ldc ix => match am_lk (am_ckL.getD o []) ix with
    | some (.inl v, _) => some (pc + 2, ρ, .int v :: st, L, z)
    | _ => none
  | .dup => am_sa st (fun x r => some (pc + 1, ρ, .ref x :: .ref x :: r, L, z))
  | .goto off => am_to pc off (fun t => some (t, ρ, st, L, z))
  | .if_icmp cd off => am_s2 st (fun x y r => am_to pc off (fun t => bif decide (cd = .ge) then (if y ≤ x then some (t, ρ, r, L, z) else some (pc + 3, ρ, r, L, z)) else none))
  | .getstatic ix => match am_lk (am_skL.getD o []) ix with
    | some q => some (pc + 3, ρ, .ref (900 + q.1) :: st, L, z)
    | none => none
  | .iaload => am_sia st (fun k x r => bif Nat.ble 900 k && am_isF (k - 900) && am_in x (am_len (k - 900)) then some (pc + 1, ρ, .int (am_sx (k - 900) x.toNatClampNeg) :: r, L, z) else none)
  | .getfield ix => match cn_tk o ix 3 with
    | none => none
    | some (ci, j) => am_sa st (fun k r => (L[k]?).bind (fun e => (e.2.2.2[j]?).bind (fun v => bif cn_ob e && Nat.beq e.2.1 ci && Nat.blt k 900 && Nat.blt j (am_N ci) then some (pc + 3, ρ, v :: r, L, z) else none)))
  | .arraylength => am_sa st (fun k r => (L[k]?).bind (fun e => bif Nat.beq e.1 3 && Nat.blt k 900 && Nat.blt e.2.1 7 then some (pc + 1, ρ, .int (Int32.ofNat e.2.2.1) :: r, L, z) else none))
  | .putfield ix => match cn_tk o ix 3 with
    | none => none
    | some (ci, j) => match st with
      | v :: .ref k :: r => (L[k]?).bind (fun e => bif cn_ob e && Nat.beq e.2.1 ci && Nat.blt k 900 && Nat.blt j e.2.2.2.length && Nat.blt j (am_N ci) && cn_okv ci j v && Nat.beq ci o then some (pc + 3, ρ, r, L.set k (1, ci, e.2.2.1, e.2.2.2.set j v), z) else none)
      | _ => none
  | .iastore => am_siia st (fun k i x r => (L[k]?).bind (fun e => bif Nat.beq e.1 2 && Nat.beq e.2.1 0 && Nat.blt k 900 && am_in i e.2.2.1 && Nat.beq e.2.2.2.length e.2.2.1 then some (pc + 1, ρ, r, L.set k (2, 0, e.2.2.1, e.2.2.2.set i.toNatClampNeg (.int x)), z) else none))
  | .aastore => match st with
    | .ref v :: .int i :: .ref k :: r => (L[k]?).bind (fun e => (L[v]?).bind (fun f => bif Nat.beq e.1 3 && Nat.blt k 900 && Nat.blt v 900 && am_in i e.2.2.1 && Nat.beq e.2.2.2.length e.2.2.1 && cn_ob f && Nat.beq (cn_to e.2.1) f.2.1 && Nat.blt e.2.1 7 then some (pc + 1, ρ, r, L.set k (3, e.2.1, e.2.2.1, e.2.2.2.set i.toNatClampNeg (.ref v)), z) else none))
    | _ => none
  | .new ix => match cn_tk o ix 4 with
    | none => none
    | some (ci, _) => bif Nat.ble L.length (cn_mc o) && Nat.ble (z + am_N ci) (cn_mz o) && Nat.blt L.length 800 then some (pc + 3, ρ, .ref L.length :: st, L ++ [cn_new ci], z + am_N ci) else none
  | .newarray at_ => am_s1 st (fun n r => bif decide (0 ≤ n) then (bif decide (at_ = .int) then cn_newA o 0 n.toNatClampNeg pc 2 2 ρ r L z else bif decide (at_ = .boolean) then cn_newA o 1 n.toNatClampNeg pc 2 2 ρ r L z else none) else none)
  | .anewarray ix => match cn_tk o ix 5 with
    | none => none
    | some (t, _) => am_s1 st (fun n r => bif decide (0 ≤ n) then cn_newA o t n.toNatClampNeg pc 3 3 ρ r L z else none)
  | .multianewarray ix d => match cn_tk o ix 6 with
    | none => none
    | some _ => match st with
      | .int m :: .int n :: r => bif Nat.beq d 2 && decide (n = 5) && decide (m = 300) && Nat.ble (L.length + 5) (cn_mc o) && Nat.ble (z + 1505) (cn_mz o) && Nat.blt L.length 800 then
          some (pc + 4, ρ, .ref L.length :: r, L ++ ((3, 6, 5, (List.range 5).map (fun i => .ref (L.length + 1 + i))) :: List.replicate 5 (2, 0, 300, [])), z + 1505) else none
      | _ => none
  | .invokespecial ix => match cn_tk o ix 0 with
    | some _ => am_sa st (fun _ r => bif r.isEmpty then some (pc + 3, ρ, r, L, z) else none)
    | none => match (match cn_tk o ix 1 with
        | some q => some q
        | none => cn_tk o ix 2) with
      | none => none
      | some (ci, y) => match st.drop y with
        | .ref k :: r => (orc ci (st.take y).reverse).bind (fun C => bif Nat.beq (k + 1) L.length && decide (L[k]? = some (cn_new ci)) && Nat.ble y st.length && Nat.ble y 1 && Nat.ble r.length 4 && Nat.ble (cn_fr ci + 1) (cn_fr o) && Nat.ble (8 + (cn_ml ci + 11) + cn_lo ci) (cn_lo o) && Nat.ble (k + cn_mc ci) (cn_mc o) && Nat.ble (z + cn_mz ci) (cn_mz o) && Nat.beq C.length (cn_mc ci + 1) && cn_wf (900 - k) C && Nat.blt (k + C.length) 900 && (st.take y).all (fun v => match v with
            | .int _ => true
            | _ => false) && Nat.ble 1 L.length then some (pc + 3, ρ, r, L.dropLast ++ C.map (cn_sh k), z + cn_mz ci) else none)
        | _ => none
  | _ => none
def cn_run (o : Nat) (orc : Nat → List Value → Option (List cn_E)) (stop : Nat) : Nat → cn_St → Option cn_St
  | 0, _ => none
  | f + 1, s => bif Nat.beq s.1 stop then some s else match am_at (cn_p o) s.1 with
    | none => none
    | some q => match cn_step o orc s.1 q.1 s.2.1 s.2.2.1 s.2.2.2.1 s.2.2.2.2 with
      | none => none
      | some t => cn_run o orc stop f t
/-- where a constructor returns -/
def cn_end (o : Nat) : Nat := [24, 43, 50, 16, 43, 44, 117, 38, 38, 151, 105].getD o 0
def cn_ev (o : Nat) (orc : Nat → List Value → Option (List cn_E)) (as : List Value) : Option (List cn_E) := match cn_run o orc (cn_end o) 400 (0, lv_args 0 (.ref 0 :: as), [], [cn_new o], 0) with
  | some s => bif s.2.2.1.isEmpty && Nat.beq s.2.2.2.1.length (cn_mc o + 1) && Nat.beq s.2.2.2.2 (cn_mz o) then some s.2.2.2.1 else none
  | none => none
def cn_int (v : Value) : Bool := match v with
  | .int _ => true
  | _ => false
def cn_orc : Nat → Nat → List Value → Option (List cn_E)
  | 0, _, _ => none
  | n + 1, o, as => bif Nat.blt o 10 && as.all cn_int && Nat.ble (lg_sl (.ref 0 :: as)).length (cn_ml o) then cn_ev o (cn_orc n) as else none
set_option maxRecDepth 1000000 in
theorem cn_try : (cn_orc 4 9 []).map (fun L => (L.length, (List.range 193).all (fun k => match L[k]? with
    | some e => (bif Nat.beq (am_kd k).1 1 then Nat.beq e.1 1 && Nat.beq e.2.1 (am_kd k).2.1 && Nat.beq e.2.2.2.length (am_nF e.2.1) && (List.range (am_nF e.2.1)).all (fun j => bif am_fi e.2.1 j then true else decide (cn_rv (e.2.2.2.getD j .null) = am_G k j)) else true)
    | none => false))) = some (193, true) := by decide +kernel
end CN
