/-! ===== an interpreter of my own over a plain heap of ints, and that it tells the truth of the machine ===== -/
section AMDEF
abbrev am_Hp : Type := Nat → Nat → Int32
abbrev am_Out : Type := Option (Option Value)
abbrev am_Lc : Type := List (Nat × Value)
abbrev am_Orc : Type 1 := (γ : Type) → Nat → List Value → am_Hp → (am_Out → am_Hp → Option γ) → Option γ
def am_pi (h : am_Hp) (a k : Nat) (v : Int32) : am_Hp := fun x y => if x = a ∧ y = k then v else h x y
def am_in (x : Int32) (n : Nat) : Bool := decide (¬ (x < 0 ∨ n ≤ x.toNatClampNeg))
def am_isO (a ci : Nat) : Bool := Nat.beq (am_kd a).1 1 && Nat.beq (am_kd a).2.1 ci
def am_isI (a : Nat) : Bool := Nat.beq (am_kd a).1 2
def am_isA (a : Nat) : Bool := Nat.beq (am_kd a).1 3
def am_isF (a : Nat) : Bool := Nat.beq (am_kd a).1 4
def am_isB (a : Nat) : Bool := Nat.beq (am_kd a).1 5
def am_len (a : Nat) : Nat := (am_kd a).2.2
def am_ld (ρ : am_Lc) (i : Nat) : Option Value := (ρ.find? (fun q => Nat.beq q.1 i)).map (fun q => q.2)
def am_stl (ρ : am_Lc) (i : Nat) (v : Value) : am_Lc := (i, v) :: ρ.filter (fun q => !(q.1 == i) && !(q.1 + 1 == i && q.2.category == 2))
variable {γ : Type}
def am_ldi (ρ : am_Lc) (i : Nat) (k : Int32 → Option γ) : Option γ := match am_ld ρ i with
  | some (.int x) => k x
  | _ => none
def am_lda (ρ : am_Lc) (i : Nat) (k : Nat → Option γ) : Option γ := match am_ld ρ i with
  | some (.ref x) => k x
  | _ => none
def am_ldf (ρ : am_Lc) (i : Nat) (k : UInt32 → Option γ) : Option γ := match am_ld ρ i with
  | some (.float x) => k x
  | _ => none
def am_s1 (st : List Value) (k : Int32 → List Value → Option γ) : Option γ := match st with
  | .int x :: r => k x r
  | _ => none
def am_s2 (st : List Value) (k : Int32 → Int32 → List Value → Option γ) : Option γ := match st with
  | .int y :: .int x :: r => k x y r
  | _ => none
def am_sa (st : List Value) (k : Nat → List Value → Option γ) : Option γ := match st with
  | .ref x :: r => k x r
  | _ => none
def am_sia (st : List Value) (k : Nat → Int32 → List Value → Option γ) : Option γ := match st with
  | .int x :: .ref a :: r => k a x r
  | _ => none
def am_siia (st : List Value) (k : Nat → Int32 → Int32 → List Value → Option γ) : Option γ := match st with
  | .int x :: .int i :: .ref a :: r => k a i x r
  | _ => none
def am_sf (st : List Value) (k : UInt32 → List Value → Option γ) : Option γ := match st with
  | .float x :: r => k x r
  | _ => none
def am_sff (st : List Value) (k : UInt32 → UInt32 → List Value → Option γ) : Option γ := match st with
  | .float y :: .float x :: r => k x y r
  | _ => none
def am_d1 (st : List Value) (k : Value → List Value → Option γ) : Option γ := match st with
  | .int x :: r => k (.int x) r
  | .ref x :: r => k (.ref x) r
  | _ => none
def am_d2 (st : List Value) (k : Value → Value → List Value → Option γ) : Option γ := match st with
  | .int x :: .ref y :: r => k (.int x) (.ref y) r
  | .int x :: .int y :: r => k (.int x) (.int y) r
  | _ => none
def am_to (pc : Nat) (off : Int) (k : Nat → Option γ) : Option γ := match (pc : Int) + off with
  | .ofNat t => k t
  | .negSucc _ => none
def am_cmp (cd : ClassFile.Cond) (x y : Int32) (a b : Option γ) : Option γ := match cd with
  | .eq => if x = y then a else b
  | .ne => if x = y then b else a
  | .lt => if x < y then a else b
  | .ge => if y ≤ x then a else b
  | .gt => if y < x then a else b
  | .le => if x ≤ y then a else b
def am_sw (pc : Nat) (x : Int32) (d : Option γ) (k : Nat → Option γ) : Int → List Int → Option γ
  | _, [] => d
  | lo, o :: os => if x.toInt = lo then am_to pc o k else am_sw pc x d k (lo + 1) os
def am_rmOk (me mid : Nat) : Bool := Nat.ble (am_fr mid + 1) (am_fr me) && Nat.ble (8 + (am_ml mid + 11) + am_lo mid) (am_lo me)
def am_rcv (kd mid : Nat) (as : List Value) : Bool := bif Nat.beq kd 1 then true else match as with
  | .ref a :: _ => bif Nat.beq (am_ow mid) 12 then Nat.beq (am_kd a).1 6 else am_isO a (am_ow mid)
  | _ => false
/-- what a call's outcome does to the caller -/
def am_back (pc : Nat) (ρ : am_Lc) (rest : List Value) (ret : am_Out → am_Hp → Option γ) (k : Nat → am_Lc → List Value → am_Hp → Option γ) : am_Out → am_Hp → Option γ := fun o h' => match o with
  | none => ret none h'
  | some none => k (pc + 3) ρ rest h'
  | some (some v) => k (pc + 3) ρ (v :: rest) h'
def am_inv (me kd : Nat) (pc : Nat) (ix : Nat) (ρ : am_Lc) (st : List Value) (h : am_Hp) (orc : am_Orc) (ret : am_Out → am_Hp → Option γ) (k : Nat → am_Lc → List Value → am_Hp → Option γ) : Option γ :=
  match am_mk me ix with
  | none => none
  | some (kd', mid) => bif Nat.blt mid 2 then (bif Nat.beq kd' 1 && Nat.beq kd 1 && Nat.ble st.length 6 && Nat.ble 1 (am_fr me) && Nat.ble 21 (am_lo me) then am_s2 st (fun x y r => k (pc + 3) ρ (.int (bif Nat.beq mid 0 then (if x < y then y else x) else (if y < x then y else x)) :: r) h) else none) else bif Nat.beq (kd' % 2) kd && Nat.ble (am_na mid) st.length && Nat.ble ((st.drop (am_na mid)).map (fun v => v.category)).sum 8 && am_rmOk me mid && am_rcv kd mid (st.take (am_na mid)).reverse
      then orc γ mid (st.take (am_na mid)).reverse h (am_back pc ρ (st.drop (am_na mid)) ret k) else none
/-- one instruction -/
def am_op (me : Nat) (pc : Nat) (ins : Instr) (len : Nat) (ρ : am_Lc) (st : List Value) (h : am_Hp) (orc : am_Orc) (ret : am_Out → am_Hp → Option γ) (k : Nat → am_Lc → List Value → am_Hp → Option γ) : Option γ := match ins with
  | .iload_n i => am_ldi ρ i (fun x => k (pc + len) ρ (.int x :: st) h)
  | .iload i => am_ldi ρ i (fun x => k (pc + len) ρ (.int x :: st) h)
  | .aload_n i => am_lda ρ i (fun x => k (pc + len) ρ (.ref x :: st) h)
  | .aload i => am_lda ρ i (fun x => k (pc + len) ρ (.ref x :: st) h)
  | .istore_n i => am_s1 st (fun x r => bif Nat.blt i (am_ml me) then k (pc + len) (am_stl ρ i (.int x)) r h else none)
  | .istore i => am_s1 st (fun x r => bif Nat.blt i (am_ml me) then k (pc + len) (am_stl ρ i (.int x)) r h else none)
  | .astore_n i => am_sa st (fun x r => bif Nat.blt i (am_ml me) then k (pc + len) (am_stl ρ i (.ref x)) r h else none)
  | .astore i => am_sa st (fun x r => bif Nat.blt i (am_ml me) then k (pc + len) (am_stl ρ i (.ref x)) r h else none)
  | .iinc i n => am_ldi ρ i (fun x => bif Nat.blt i (am_ml me) then k (pc + len) (am_stl ρ i (.int (x + Int32.ofInt n))) st h else none)
  | .iconst n => k (pc + len) ρ (.int (Int32.ofInt n) :: st) h
  | .bipush n => k (pc + len) ρ (.int (Int8.ofInt n).toInt32 :: st) h
  | .sipush n => k (pc + len) ρ (.int (Int16.ofInt n).toInt32 :: st) h
  | .ldc ix => match am_cst me ix with
    | some (.inl v) => k (pc + len) ρ (.int v :: st) h
    | some (.inr i) => k (pc + len) ρ (.ref i :: st) h
    | none => none
  | .iadd => am_s2 st (fun x y r => k (pc + len) ρ (.int (x + y) :: r) h)
  | .isub => am_s2 st (fun x y r => k (pc + len) ρ (.int (x - y) :: r) h)
  | .imul => am_s2 st (fun x y r => k (pc + len) ρ (.int (x * y) :: r) h)
  | .idiv => am_s2 st (fun x y r => if y = 0 then none else k (pc + len) ρ (.int (x / y) :: r) h)
  | .irem => am_s2 st (fun x y r => if y = 0 then none else k (pc + len) ρ (.int (x - x / y * y) :: r) h)
  | .ishl => am_s2 st (fun x y r => k (pc + len) ρ (.int (x <<< (y &&& 31)) :: r) h)
  | .ishr => am_s2 st (fun x y r => k (pc + len) ρ (.int (x >>> (y &&& 31)) :: r) h)
  | .iand => am_s2 st (fun x y r => k (pc + len) ρ (.int (x &&& y) :: r) h)
  | .ior => am_s2 st (fun x y r => k (pc + len) ρ (.int (x ||| y) :: r) h)
  | .ixor => am_s2 st (fun x y r => k (pc + len) ρ (.int (x ^^^ y) :: r) h)
  | .dup => am_d1 st (fun v r => k (pc + len) ρ (v :: v :: r) h)
  | .dup2 => am_d2 st (fun v w r => k (pc + len) ρ (v :: w :: v :: w :: r) h)
  | .pop => am_d1 st (fun _ r => k (pc + len) ρ r h)
  | .i2f => am_s1 st (fun x r => k (pc + len) ρ (.float (FP.i2f x) :: r) h)
  | .fdiv => am_sff st (fun x y r => if FP.fdiv x y &&& 0x7fffffff ≤ 0x7f800000 then k (pc + len) ρ (.float (FP.fdiv x y) :: r) h else none)
  | .fconst n => bif Nat.beq n 0 then k (pc + len) ρ (.float 0 :: st) h else none
  | .goto off => am_to pc off (fun t => k t ρ st h)
  | .if_icmp cd off => am_s2 st (fun x y r => am_to pc off (fun t => am_cmp cd x y (k t ρ r h) (k (pc + len) ρ r h)))
  | .ifCond cd off => am_s1 st (fun x r => am_to pc off (fun t => am_cmp cd x 0 (k t ρ r h) (k (pc + len) ρ r h)))
  | .tableswitch d lo hi offs => am_s1 st (fun x r => bif decide (hi + 1 = lo + (offs.toList.length : Int)) then am_sw pc x (am_to pc d (fun t => k t ρ r h)) (fun t => k t ρ r h) lo offs.toList else none)
  | .getfield ix => match am_fk me ix with
    | none => none
    | some (ci, j) => am_sa st (fun a r => bif am_isO a ci then (bif am_fi ci j then k (pc + len) ρ (.int (h a j) :: r) h else (am_G a j).bind (fun b => k (pc + len) ρ (.ref b :: r) h)) else none)
  | .putfield ix => match am_fk me ix with
    | none => none
    | some (ci, j) => am_s1 st (fun x r => am_sa r (fun a r => bif am_fw ci j && am_isO a ci then k (pc + len) ρ r (am_pi h a j x) else none))
  | .getstatic ix => match am_sk me ix with
    | none => none
    | some i => k (pc + len) ρ (.ref i :: st) h
  | .iaload => am_sia st (fun a x r => bif am_in x (am_len a) then (bif am_isI a then k (pc + len) ρ (.int (h a x.toNatClampNeg) :: r) h else bif am_isF a then k (pc + len) ρ (.int (am_sx a x.toNatClampNeg) :: r) h else none) else none)
  | .baload => am_sia st (fun a x r => bif am_isB a && am_in x (am_len a) then k (pc + len) ρ (.int (h a x.toNatClampNeg) :: r) h else none)
  | .aaload => am_sia st (fun a x r => bif am_isA a && am_in x (am_len a) then (am_G a x.toNatClampNeg).bind (fun b => k (pc + len) ρ (.ref b :: r) h) else none)
  | .iastore => am_siia st (fun a i x r => bif am_isI a && am_in i (am_len a) then k (pc + len) ρ r (am_pi h a i.toNatClampNeg x) else none)
  | .bastore => am_siia st (fun a i x r => bif am_isB a && am_in i (am_len a) then k (pc + len) ρ r (am_pi h a i.toNatClampNeg (x &&& 1)) else none)
  | .arraylength => am_sa st (fun a r => bif am_isI a || am_isA a || am_isF a then k (pc + len) ρ (.int (Int32.ofNat (am_len a)) :: r) h else none)
  | .invokevirtual ix => am_inv me 0 pc ix ρ st h orc ret k
  | .invokestatic ix => am_inv me 1 pc ix ρ st h orc ret k
  | .new ix => bif am_thr me pc ix && Nat.ble 6 (am_fr me) && Nat.ble 100 (am_lo me) && st.isEmpty then ret none h else none
  | .ireturn => am_s1 st (fun x r => bif r.isEmpty then (bif Nat.beq (am_rk me) 1 then ret (some (some (.int x))) h else bif Nat.beq (am_rk me) 2 then (if x &&& 1 = x then ret (some (some (.int x))) h else none) else none) else none)
  | .areturn => am_sa st (fun x r => bif r.isEmpty && Nat.beq (am_rk me) 4 then ret (some (some (.ref x))) h else none)
  | .freturn => am_sf st (fun x r => bif r.isEmpty && Nat.beq (am_rk me) 3 then ret (some (some (.float x))) h else none)
  | .return_ => bif st.isEmpty && Nat.beq (am_rk me) 5 then ret (some none) h else none
  | _ => none
def am_at (tab : List (Nat × Instr × Nat)) (pc : Nat) : Option (Instr × Nat) := (tab.find? (fun q => Nat.beq q.1 pc)).map (fun q => q.2)
abbrev am_Cut (γ : Type) : Type := Nat → Option (am_Lc → List Value → am_Hp → Option γ)
def am_sem (me : Nat) (tab : List (Nat × Instr × Nat)) (cut : am_Cut γ) (orc : am_Orc) (ret : am_Out → am_Hp → Option γ) : Nat → Nat → am_Lc → List Value → am_Hp → Option γ
  | 0, _, _, _, _ => none
  | f + 1, pc, ρ, st, h => match am_at tab pc with
    | none => none
    | some q => am_op me pc q.1 q.2 ρ st h orc ret (fun pc' ρ' st' h' => match cut pc' with
      | some c => c ρ' st' h'
      | none => am_sem me tab cut orc ret f pc' ρ' st' h')
end AMDEF
