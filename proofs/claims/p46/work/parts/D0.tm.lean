/-! ===== an interpreter for the law's texts: builders, strings and bytes beside the class's heap ===== -/
section TM0
def tm_yL : List MethodName := [⟨"SharedConsoleLaw", "in", "(II)I"⟩, ⟨"SharedConsoleLaw", "cell", "([II)I"⟩, ⟨"SharedConsoleLaw", "sessions", "([I)I"⟩, ⟨"SharedConsoleLaw", "users", "([I)I"⟩, ⟨"SharedConsoleLaw", "size", "([IZII)I"⟩, ⟨"SharedConsoleLaw", "setting", "([II)I"⟩, ⟨"SharedConsoleLaw", "name", "(ZI)Ljava/lang/String;"⟩, ⟨"SharedConsoleLaw", "text", "([I)Ljava/lang/String;"⟩, ⟨"SharedConsoleLaw", "statements", "(Ljava/lang/String;)I"⟩, ⟨"SharedConsoleLaw", "put", "(LSharedConsole;Ljava/lang/String;)V"⟩, ⟨"java/lang/StringBuilder", "<init>", "()V"⟩, ⟨"java/lang/AbstractStringBuilder", "<init>", "(I)V"⟩, ⟨"java/lang/StringBuilder", "append", "(Ljava/lang/String;)Ljava/lang/StringBuilder;"⟩, ⟨"java/lang/StringBuilder", "append", "(I)Ljava/lang/StringBuilder;"⟩, ⟨"java/lang/StringBuilder", "append", "(C)Ljava/lang/StringBuilder;"⟩, ⟨"java/lang/AbstractStringBuilder", "append", "(Ljava/lang/String;)Ljava/lang/AbstractStringBuilder;"⟩, ⟨"java/lang/AbstractStringBuilder", "append", "(I)Ljava/lang/AbstractStringBuilder;"⟩, ⟨"java/lang/AbstractStringBuilder", "append", "(C)Ljava/lang/AbstractStringBuilder;"⟩, ⟨"java/lang/AbstractStringBuilder", "ensureCapacityInternal", "(I)V"⟩, ⟨"java/lang/AbstractStringBuilder", "newCapacity", "(I)I"⟩, ⟨"jdk/internal/util/ArraysSupport", "newLength", "(III)I"⟩, ⟨"java/lang/Math", "max", "(II)I"⟩, ⟨"java/lang/Math", "min", "(II)I"⟩, ⟨"java/util/Arrays", "copyOf", "([BI)[B"⟩, ⟨"java/lang/AbstractStringBuilder", "putStringAt", "(ILjava/lang/String;)V"⟩, ⟨"java/lang/AbstractStringBuilder", "inflateIfNeededFor", "(Ljava/lang/String;)V"⟩, ⟨"java/lang/String", "getBytes", "([BIB)V"⟩, ⟨"java/lang/String", "length", "()I"⟩, ⟨"java/lang/String", "coder", "()B"⟩, ⟨"java/lang/Integer", "stringSize", "(I)I"⟩, ⟨"java/lang/Integer", "getChars", "(II[B)I"⟩, ⟨"java/lang/AbstractStringBuilder", "isLatin1", "()Z"⟩, ⟨"java/lang/StringLatin1", "canEncode", "(C)Z"⟩, ⟨"java/lang/StringBuilder", "toString", "()Ljava/lang/String;"⟩, ⟨"java/lang/String", "<init>", "(Ljava/lang/StringBuilder;)V"⟩, ⟨"java/lang/String", "<init>", "(Ljava/lang/AbstractStringBuilder;Ljava/lang/Void;)V"⟩, ⟨"java/lang/AbstractStringBuilder", "getValue", "()[B"⟩, ⟨"java/lang/AbstractStringBuilder", "length", "()I"⟩, ⟨"java/lang/StringBuilder", "length", "()I"⟩, ⟨"java/util/Arrays", "copyOfRange", "([BII)[B"⟩, ⟨"java/util/Arrays", "copyOfRangeByte", "([BII)[B"⟩, ⟨"java/util/Arrays", "checkLength", "(II)V"⟩, ⟨"java/lang/String", "charAt", "(I)C"⟩, ⟨"java/lang/String", "isLatin1", "()Z"⟩, ⟨"java/lang/StringLatin1", "charAt", "([BI)C"⟩, ⟨"java/lang/String", "checkIndex", "(II)V"⟩, ⟨"jdk/internal/util/Preconditions", "checkIndex", "(IILjava/util/function/BiFunction;)I"⟩]
def tm_y (m : Nat) : MethodName := tm_yL.getD m ⟨"", "", ""⟩
def tm_ccL : List ByteArray := [method_3_code, method_2_code, method_6_code, method_7_code, method_8_code, method_9_code, method_10_code, method_11_code, method_5_code, method_4_code, prog_22_method_1_code, prog_14_method_2_code, prog_22_method_7_code, prog_22_method_15_code, prog_22_method_14_code, prog_14_method_22_code, prog_14_method_32_code, prog_14_method_31_code, prog_14_method_9_code, prog_14_method_10_code, prog_28_method_27_code, prog_19_method_65_code, prog_19_method_69_code, prog_27_method_121_code, prog_14_method_73_code, prog_14_method_71_code, prog_21_method_147_code, prog_21_method_54_code, prog_21_method_152_code, prog_18_method_13_code, prog_18_method_12_code, prog_14_method_68_code, prog_23_method_3_code, prog_22_method_42_code, prog_21_method_53_code, prog_21_method_150_code, prog_14_method_64_code, prog_14_method_6_code, prog_22_method_93_code, prog_27_method_132_code, prog_27_method_133_code, prog_27_method_131_code, prog_21_method_56_code, prog_21_method_154_code, prog_23_method_2_code, prog_21_method_155_code, prog_29_method_11_code]
def tm_cc (m : Nat) : ByteArray := tm_ccL.getD m ⟨#[]⟩
def tm_mlL : List Nat := [2, 2, 1, 1, 5, 2, 2, 3, 3, 6, 1, 2, 2, 2, 2, 3, 4, 2, 3, 6, 4, 2, 2, 3, 3, 2, 4, 1, 1, 4, 7, 1, 1, 1, 2, 5, 1, 1, 1, 3, 5, 2, 2, 1, 2, 2, 3]
def tm_ml (m : Nat) : Nat := tm_mlL.getD m 0
def tm_reL : List (Option FieldType) := [some .int, some .int, some .int, some .int, some .int, some .int, some (.object "java/lang/String"), some (.object "java/lang/String"), some .int, none, none, none, some (.object "java/lang/StringBuilder"), some (.object "java/lang/StringBuilder"), some (.object "java/lang/StringBuilder"), some (.object "java/lang/AbstractStringBuilder"), some (.object "java/lang/AbstractStringBuilder"), some (.object "java/lang/AbstractStringBuilder"), none, some .int, some .int, some .int, some .int, some (.array .byte), none, none, none, some .int, some .byte, some .int, some .int, some .boolean, some .boolean, some (.object "java/lang/String"), none, none, some (.array .byte), some .int, some .int, some (.array .byte), some (.array .byte), none, some .char, some .boolean, some .char, none, some .int]
def tm_re (m : Nat) : Option FieldType := tm_reL.getD m none
def tm_own (m : Nat) : String := (tm_y m).cls
def tm_naL : List Nat := [2, 2, 1, 1, 4, 2, 2, 1, 1, 2, 1, 2, 2, 2, 2, 2, 2, 2, 2, 2, 3, 2, 2, 2, 3, 2, 4, 1, 1, 1, 3, 1, 1, 1, 2, 3, 1, 1, 1, 3, 3, 2, 2, 1, 2, 2, 3]
def tm_na (m : Nat) : Nat := tm_naL.getD m 0
def tm_frL : List Nat := [0, 0, 1, 1, 1, 1, 6, 7, 4, 6, 2, 1, 5, 5, 5, 4, 4, 4, 3, 2, 1, 0, 0, 1, 2, 1, 1, 1, 0, 0, 0, 0, 0, 5, 4, 3, 0, 0, 1, 2, 1, 0, 3, 0, 2, 1, 0]
def tm_fr (m : Nat) : Nat := tm_frL.getD m 0
def tm_loL : List Nat := [0, 0, 21, 21, 21, 21, 151, 172, 85, 151, 41, 20, 113, 114, 112, 91, 91, 91, 69, 44, 21, 0, 0, 40, 63, 20, 40, 20, 0, 0, 0, 0, 0, 131, 110, 86, 0, 0, 20, 64, 40, 0, 64, 0, 43, 22, 0]
def tm_lo (m : Nat) : Nat := tm_loL.getD m 0
def tm_lkL : List (List (Nat × Nat × Nat)) := [[], [], [(37, 3, 1), (43, 3, 0)], [(37, 3, 1), (43, 3, 0)], [(37, 3, 1), (43, 3, 0)], [(37, 3, 1), (43, 3, 0)], [(16, 4, 10), (17, 2, 12), (51, 2, 14), (23, 2, 33)], [(16, 4, 10), (17, 2, 12), (56, 3, 5), (59, 2, 13), (23, 2, 33), (64, 3, 2), (70, 3, 6), (74, 3, 4), (78, 3, 3)], [(8, 1, 27), (27, 1, 42)], [(8, 1, 27), (16, 4, 10), (17, 2, 12), (23, 2, 33), (27, 1, 42), (31, 0, 57)], [(1, 4, 11)], [(3, 6, 0)], [(29, 5, 15)], [(53, 5, 16)], [(50, 5, 17)], [(32, 1, 27), (100, 9, 18), (208, 9, 24)], [(245, 3, 29), (100, 9, 18), (83, 2, 31), (248, 3, 30)], [(100, 9, 18), (83, 2, 31), (191, 3, 32)], [(104, 9, 19), (108, 3, 23)], [(114, 3, 20)], [(194, 3, 21)], [], [], [(310, 8, 0), (304, 3, 22), (150, 7, 0)], [(397, 9, 25), (399, 1, 26)], [(40, 1, 28)], [(335, 1, 28), (212, 7, 0)], [(335, 1, 28)], [], [], [], [], [], [(137, 4, 34)], [(489, 4, 35)], [(1, 6, 0), (552, 2, 36), (549, 2, 38), (1047, 2, 31), (54, 3, 39)], [], [], [(343, 5, 37)], [(339, 3, 40), (310, 8, 0)], [(343, 3, 41), (304, 3, 22), (150, 7, 0)], [], [(492, 1, 43), (495, 3, 44)], [], [(9, 3, 45)], [(1059, 3, 46)], []]
/-- the links: 0 the class, 1 a string's, 2 a builder's, 3 static, 4 a constructor, 5 the superclass's, 6 Object's constructor, 7 arraycopy, 8 clone, 9 a builder's private one -/
def tm_lk (m ix : Nat) : Option (Nat × Nat) := am_lk (tm_lkL.getD m []) ix
def tm_fkL : List (List (Nat × Nat × Nat)) := [[], [], [], [], [], [], [], [], [], [], [], [(15, 12, 0), (22, 12, 1)], [], [], [], [(79, 12, 3)], [(79, 12, 3), (15, 12, 0)], [(79, 12, 3), (15, 12, 0)], [(15, 12, 0), (22, 12, 1)], [(15, 12, 0), (22, 12, 1)], [], [], [], [], [(15, 12, 0), (22, 12, 1)], [(22, 12, 1)], [(9, 11, 0)], [(9, 11, 0)], [(15, 11, 1)], [], [], [(22, 12, 1)], [], [], [], [(15, 11, 1), (9, 11, 0)], [(15, 12, 0)], [(79, 12, 3)], [], [], [], [], [(9, 11, 0)], [(15, 11, 1)], [], [], []]
def tm_fk (m ix : Nat) : Option (Nat × Nat) := am_lk (tm_fkL.getD m []) ix
def tm_skL : List (List (Nat × Nat)) := [[], [], [], [], [], [], [], [], [], [], [], [(18, 1)], [], [], [], [], [], [], [], [], [], [], [], [], [], [(18, 1)], [], [], [(38, 1)], [], [(83, 940), (87, 941)], [(18, 1)], [], [], [], [(38, 1)], [], [], [], [], [], [], [], [(38, 1)], [], [(1053, 945)], []]
def tm_sk (m ix : Nat) : Option Nat := am_lk (tm_skL.getD m []) ix
def tm_nkL : List (List (Nat × Nat)) := [[], [], [], [], [], [], [(14, 12)], [(14, 12)], [], [(14, 12)], [], [], [], [], [], [], [], [], [], [], [], [], [], [], [], [], [], [], [], [], [], [], [], [(18, 11)], [], [], [], [], [], [], [], [], [], [], [], [], []]
def tm_nk (m ix : Nat) : Option Nat := am_lk (tm_nkL.getD m []) ix
def tm_ckL : List (List (Nat × (Int32 ⊕ Nat))) := [[(7, .inl 2147483647)], [], [], [], [], [], [(47, .inr 901), (49, .inr 902)], [(54, .inr 903), (62, .inr 904), (68, .inr 905), (21, .inr 900), (81, .inr 906), (83, .inr 907)], [], [(21, .inr 900)], [], [], [], [], [], [], [], [], [], [(39, .inl 2147483647)], [(200, .inl 2147483639)], [], [], [], [], [], [], [], [], [], [], [], [], [], [], [], [], [], [], [], [], [], [], [], [], [], []]
def tm_ck (m ix : Nat) : Option (Int32 ⊕ Nat) := am_lk (tm_ckL.getD m []) ix
def tm_stL : List String := [" ", "u", "s", "set wait ", ";", "session ", "user ", "set shrink "]
def tm_slL : List Nat := [1, 1, 1, 9, 1, 8, 5, 11]
def tm_sl (i : Nat) : Nat := tm_slL.getD i 0
def tm_sbL : List (List Int32) := [[32], [117], [115], [115, 101, 116, 32, 119, 97, 105, 116, 32], [59], [115, 101, 115, 115, 105, 111, 110, 32], [117, 115, 101, 114, 32], [115, 101, 116, 32, 115, 104, 114, 105, 110, 107, 32]]
def tm_sb (i j : Nat) : Int32 := (tm_sbL.getD i []).getD j 0
/-- the digits of Integer: 0 the ones, 1 the tens -/
def tm_dg (i j : Nat) : Int32 := Int32.ofNat (48 + (if i = 0 then j % 10 else j / 10))
/-- the law's numbers: how many, and which -/
abbrev tm_X : Type := Nat × (Nat → Int32)
def tm_b (x : Int32) : Int32 := x.toInt8.toInt32
def tm_cp (S : dm_S) (a : Nat) (f : Nat → Int32) (sp dp n : Nat) : dm_S := (S.1, S.2.1, fun b j => if b = a ∧ dp ≤ j ∧ j < dp + n then f (sp + (j - dp)) else dm_g S b j, S.2.2.2)
variable {γ : Type}
def tm_nl (st : List Value) (k : List Value → Option γ) : Option γ := match st with
  | .null :: r => k r
  | _ => none
def tm_x1 (st : List Value) (k : Value → Value → List Value → Option γ) : Option γ := match st with
  | v :: u :: r => bif Nat.beq v.category 1 && Nat.beq u.category 1 then k v u r else none
  | _ => none
def tm_ac (st : List Value) (k : Int32 → Int32 → Nat → Int32 → Nat → List Value → Option γ) : Option γ := match st with
  | .int n :: .int dp :: .ref a :: .int sp :: .ref b :: r => k n dp a sp b r
  | _ => none
def tm_cs (a : Nat) : Bool := Nat.ble 900 a && Nat.blt a 908
def tm_cb (a : Nat) : Bool := Nat.ble 920 a && Nat.blt a 928
def tm_r1 (S : dm_S) (as : List Value) : Bool := match as with
  | .ref a :: _ => tm_cs a || dm_ok S 5 a
  | _ => false
def tm_r2 (S : dm_S) (as : List Value) : Bool := match as with
  | .ref a :: _ => dm_ok S 6 a
  | _ => false
def tm_r4 (S : dm_S) (m : Nat) (as : List Value) : Bool := match as with
  | .ref a :: _ => bif decide (tm_own m = "java/lang/String") then dm_ok S 5 a else dm_ok S 6 a
  | _ => false
/-- the calls -/
def tm_inv (me sv pc ix : Nat) (ρ : am_Lc) (st : List Value) (S : dm_S) (oC : am_Orc) (oD : dm_Orc) (k : Nat → am_Lc → List Value → dm_S → Option γ) : Option γ := match tm_lk me ix with
  | none => none
  | some (kd, mid) => bif Nat.beq kd 0 then (bif Nat.beq sv 0 && dm_ct st (am_na mid) && Nat.ble (am_fr mid + 1) (tm_fr me) && Nat.ble (8 + (am_ml mid + 11) + am_lo mid) (tm_lo me) && !(Nat.beq (am_ow mid) 12) && !(Nat.blt mid 2) && am_rcv 0 mid (st.take (am_na mid)).reverse && (st.take (am_na mid)).all dm_lo1
      then oC γ mid (st.take (am_na mid)).reverse (dm_h S) (fun o h' => match o with
        | none => none
        | some v => bif dm_rv v then k (pc + 3) ρ (v.toList ++ st.drop (am_na mid)) (dm_sh S h') else none) else none)
    else bif Nat.beq kd 6 then (bif Nat.beq sv 2 && Nat.ble 1 (tm_fr me) && Nat.ble 20 (tm_lo me) then am_sa st (fun a r => bif r.isEmpty && (dm_ok S 5 a || dm_ok S 6 a) then k (pc + 3) ρ r S else none) else none)
    else bif Nat.beq kd 7 then (bif Nat.beq sv 1 && Nat.ble 1 (tm_fr me) && Nat.ble 40 (tm_lo me) then tm_ac st (fun n dp a sp b r => if n < 0 then none else if dp < 0 then none else if sp < 0 then none else
        bif r.isEmpty && dm_ok S 4 a && Nat.ble (dp.toNatClampNeg + n.toNatClampNeg) (dm_len S a) then
          (bif tm_cb b then (bif Nat.ble (sp.toNatClampNeg + n.toNatClampNeg) (tm_sl (b - 920)) then k (pc + 3) ρ r (tm_cp S a (tm_sb (b - 920)) sp.toNatClampNeg dp.toNatClampNeg n.toNatClampNeg) else none)
          else bif dm_ok S 4 b && Nat.ble (sp.toNatClampNeg + n.toNatClampNeg) (dm_len S b) then k (pc + 3) ρ r (tm_cp S a (dm_g S b) sp.toNatClampNeg dp.toNatClampNeg n.toNatClampNeg) else none) else none) else none)
    else bif Nat.beq kd 8 then (bif Nat.beq sv 0 && Nat.ble 1 (tm_fr me) && Nat.ble 40 (tm_lo me) then am_sa st (fun a r => bif r.isEmpty && dm_ok S 4 a && Nat.blt (dm_n S + 2000) dm_bg then k (pc + 3) ρ (.ref (dm_n S) :: r) (dm_nw S (4, 7, dm_len S a) (dm_g S a) (dm_len S a)) else none) else none)
    else (bif Nat.beq sv (bif Nat.beq kd 3 then 1 else bif Nat.beq kd 4 || Nat.beq kd 5 then 2 else 0) && dm_ct st (tm_na mid) && Nat.ble (tm_fr mid + 1) (tm_fr me) && Nat.ble (8 + (tm_ml mid + 11) + tm_lo mid) (tm_lo me) &&
        (bif Nat.beq kd 3 then true else bif Nat.beq kd 1 then tm_r1 S (st.take (tm_na mid)).reverse else bif Nat.beq kd 4 then tm_r4 S mid (st.take (tm_na mid)).reverse else tm_r2 S (st.take (tm_na mid)).reverse)
      then oD γ mid (st.take (tm_na mid)).reverse S (fun v S' => k (pc + 3) ρ (v.toList ++ st.drop (tm_na mid)) S') else none)
/-- what a method may give back -/
def tm_ri (me : Nat) (x : Int32) : Bool := match tm_re me with
  | some .int => true
  | some t => decide (narrow t (.int x) = .int x)
  | none => false
def tm_rr (me : Nat) : Bool := match tm_re me with
  | some (.object _) => true
  | some (.array _) => true
  | _ => false
/-- one instruction -/
def tm_op (X : tm_X) (me pc : Nat) (ins : Instr) (len : Nat) (ρ : am_Lc) (st : List Value) (S : dm_S) (oC : am_Orc) (oD : dm_Orc) (ret : Option Value → dm_S → Option γ) (k : Nat → am_Lc → List Value → dm_S → Option γ) : Option γ := match ins with
  | .iload_n i => am_ldi ρ i (fun x => k (pc + len) ρ (.int x :: st) S)
  | .iload i => am_ldi ρ i (fun x => k (pc + len) ρ (.int x :: st) S)
  | .aload_n i => am_lda ρ i (fun x => k (pc + len) ρ (.ref x :: st) S)
  | .aload i => am_lda ρ i (fun x => k (pc + len) ρ (.ref x :: st) S)
  | .istore_n i => am_s1 st (fun x r => bif Nat.blt i (tm_ml me) then k (pc + len) (am_stl ρ i (.int x)) r S else none)
  | .istore i => am_s1 st (fun x r => bif Nat.blt i (tm_ml me) then k (pc + len) (am_stl ρ i (.int x)) r S else none)
  | .astore_n i => am_sa st (fun x r => bif Nat.blt i (tm_ml me) then k (pc + len) (am_stl ρ i (.ref x)) r S else none)
  | .astore i => am_sa st (fun x r => bif Nat.blt i (tm_ml me) then k (pc + len) (am_stl ρ i (.ref x)) r S else none)
  | .iinc i n => am_ldi ρ i (fun x => bif Nat.blt i (tm_ml me) then k (pc + len) (am_stl ρ i (.int (x + Int32.ofInt n))) st S else none)
  | .iconst n => k (pc + len) ρ (.int (Int32.ofInt n) :: st) S
  | .bipush n => k (pc + len) ρ (.int (Int8.ofInt n).toInt32 :: st) S
  | .sipush n => k (pc + len) ρ (.int (Int16.ofInt n).toInt32 :: st) S
  | .ldc ix => match tm_ck me ix with
    | some (.inl v) => k (pc + len) ρ (.int v :: st) S
    | some (.inr r) => k (pc + len) ρ (.ref r :: st) S
    | none => none
  | .aconst_null => k (pc + len) ρ (.null :: st) S
  | .iadd => am_s2 st (fun x y r => k (pc + len) ρ (.int (x + y) :: r) S)
  | .isub => am_s2 st (fun x y r => k (pc + len) ρ (.int (x - y) :: r) S)
  | .imul => am_s2 st (fun x y r => k (pc + len) ρ (.int (x * y) :: r) S)
  | .iand => am_s2 st (fun x y r => k (pc + len) ρ (.int (x &&& y) :: r) S)
  | .ior => am_s2 st (fun x y r => k (pc + len) ρ (.int (x ||| y) :: r) S)
  | .ishl => am_s2 st (fun x y r => k (pc + len) ρ (.int (x <<< (y &&& 31)) :: r) S)
  | .ishr => am_s2 st (fun x y r => k (pc + len) ρ (.int (x >>> (y &&& 31)) :: r) S)
  | .idiv => am_s2 st (fun x y r => if y = 0 then none else k (pc + len) ρ (.int (x / y) :: r) S)
  | .irem => am_s2 st (fun x y r => if y = 0 then none else k (pc + len) ρ (.int (x - x / y * y) :: r) S)
  | .ineg => am_s1 st (fun x r => k (pc + len) ρ (.int (-x) :: r) S)
  | .i2b => am_s1 st (fun x r => k (pc + len) ρ (.int (tm_b x) :: r) S)
  | .i2c => am_s1 st (fun x r => k (pc + len) ρ (.int (x.toUInt32 % 65536).toInt32 :: r) S)
  | .dup => am_d1 st (fun v r => k (pc + len) ρ (v :: v :: r) S)
  | .dup2 => am_d2 st (fun v w r => k (pc + len) ρ (v :: w :: v :: w :: r) S)
  | .dup_x1 => tm_x1 st (fun v u r => k (pc + len) ρ (v :: u :: v :: r) S)
  | .pop => am_d1 st (fun _ r => k (pc + len) ρ r S)
  | .goto off => am_to pc off (fun t => k t ρ st S)
  | .if_icmp cd off => am_s2 st (fun x y r => am_to pc off (fun t => am_cmp cd x y (k t ρ r S) (k (pc + len) ρ r S)))
  | .ifCond cd off => am_s1 st (fun x r => am_to pc off (fun t => am_cmp cd x 0 (k t ρ r S) (k (pc + len) ρ r S)))
  | .ifnonnull off => am_sa st (fun _ r => am_to pc off (fun t => k t ρ r S))
  | .getstatic ix => match tm_sk me ix with
    | none => none
    | some j => bif Nat.beq j 1 then k (pc + len) ρ (.int 1 :: st) S else k (pc + len) ρ (.ref j :: st) S
  | .getfield ix => match tm_fk me ix with
    | none => none
    | some (ci, j) => am_sa st (fun a r => bif tm_cs a then (bif Nat.beq ci 11 then (bif Nat.beq j 0 then k (pc + len) ρ (.ref (a + 20) :: r) S else bif Nat.beq j 1 then k (pc + len) ρ (.int 0 :: r) S else none) else none)
        else bif dm_ok S (ci - 6) a then (bif Nat.beq j 0 then (if dm_g S a j < 0 then none else k (pc + len) ρ (.ref (dm_g S a j).toNatClampNeg :: r) S) else k (pc + len) ρ (.int (dm_g S a j) :: r) S) else none)
  | .putfield ix => match tm_fk me ix with
    | none => none
    | some (ci, j) => bif Nat.beq ci 12 || Nat.beq me 35 then (bif Nat.beq j 0 then dm_saa st (fun a x r => bif dm_ok S (ci - 6) a && dm_ok S 4 x && Nat.blt x dm_bg then k (pc + len) ρ r (dm_wr S a j (am_z (x : Int))) else none)
        else am_s1 st (fun x r => am_sa r (fun a r => bif dm_ok S (ci - 6) a && (bif Nat.beq j 1 then decide (x = 0) else true) then k (pc + len) ρ r (dm_wr S a j x) else none))) else none
  | .iaload => am_sia st (fun a x r => bif Nat.beq a 950 then (bif am_in x X.1 then k (pc + len) ρ (.int (X.2 x.toNatClampNeg) :: r) S else none) else bif dm_ok S 2 a && am_in x (dm_len S a) then k (pc + len) ρ (.int (dm_g S a x.toNatClampNeg) :: r) S else none)
  | .iastore => am_siia st (fun a i x r => bif dm_ok S 2 a && am_in i (dm_len S a) then k (pc + len) ρ r (dm_wr S a i.toNatClampNeg x) else none)
  | .baload => am_sia st (fun a x r => bif Nat.beq a 940 || Nat.beq a 941 then (bif am_in x 100 then k (pc + len) ρ (.int (tm_dg (a - 940) x.toNatClampNeg) :: r) S else none) else bif dm_ok S 4 a && am_in x (dm_len S a) then k (pc + len) ρ (.int (tm_b (dm_g S a x.toNatClampNeg)) :: r) S else none)
  | .bastore => am_siia st (fun a i x r => bif dm_ok S 4 a && am_in i (dm_len S a) then k (pc + len) ρ r (dm_wr S a i.toNatClampNeg x) else none)
  | .arraylength => am_sa st (fun a r => bif tm_cb a then k (pc + len) ρ (.int (Int32.ofNat (tm_sl (a - 920))) :: r) S else bif Nat.beq a 950 then k (pc + len) ρ (.int (Int32.ofNat X.1) :: r) S else bif dm_ok S 2 a || dm_ok S 4 a then k (pc + len) ρ (.int (Int32.ofNat (dm_len S a)) :: r) S else none)
  | .newarray t => match t with
    | .int => am_s1 st (fun x r => if x < 0 then none else bif Nat.ble x.toNatClampNeg 100000 then k (pc + len) ρ (.ref (dm_n S) :: r) (dm_nw S (2, 0, x.toNatClampNeg) (fun _ => 0) x.toNatClampNeg) else none)
    | .byte => am_s1 st (fun x r => if x < 0 then none else bif Nat.ble x.toNatClampNeg 100000 then k (pc + len) ρ (.ref (dm_n S) :: r) (dm_nw S (4, 7, x.toNatClampNeg) (fun _ => 0) x.toNatClampNeg) else none)
    | _ => none
  | .new ix => match tm_nk me ix with
    | none => none
    | some ci => bif Nat.blt (dm_n S + 2000) dm_bg then k (pc + len) ρ (.ref (dm_n S) :: st) (dm_nw S (ci - 6, ci, 4) (fun j => if j = 0 then am_z (-1) else 0) 4) else none
  | .checkcast ix => am_sa st (fun a r => bif Nat.beq ix 311 && dm_ok S 4 a && (Nat.beq me 23 || Nat.beq me 39) then k (pc + len) ρ (.ref a :: r) S else none)
  | .invokevirtual ix => tm_inv me 0 pc ix ρ st S oC oD k
  | .invokestatic ix => tm_inv me 1 pc ix ρ st S oC oD k
  | .invokespecial ix => tm_inv me 2 pc ix ρ st S oC oD k
  | .ireturn => am_s1 st (fun x r => bif r.isEmpty && tm_ri me x then ret (some (.int x)) S else none)
  | .areturn => am_sa st (fun x r => bif r.isEmpty && tm_rr me then ret (some (.ref x)) S else none)
  | .return_ => bif st.isEmpty && decide (tm_re me = none) then ret none S else none
  | _ => none
abbrev tm_Cut (γ : Type) : Type := Nat → Option (am_Lc → List Value → dm_S → Option γ)
def tm_sem (X : tm_X) (me : Nat) (tab : List (Nat × Instr × Nat)) (cut : tm_Cut γ) (oC : am_Orc) (oD : dm_Orc) (ret : Option Value → dm_S → Option γ) : Nat → Nat → am_Lc → List Value → dm_S → Option γ
  | 0, _, _, _, _ => none
  | f + 1, pc, ρ, st, S => match am_at tab pc with
    | none => none
    | some q => tm_op X me pc q.1 q.2 ρ st S oC oD ret (fun pc' ρ' st' S' => match cut pc' with
      | some c => c ρ' st' S'
      | none => tm_sem X me tab cut oC oD ret f pc' ρ' st' S')
end TM0
