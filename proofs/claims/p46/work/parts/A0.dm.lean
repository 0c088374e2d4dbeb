/-! ===== an interpreter for the law's own screens: beside the class's heap one that grows ===== -/
section DM0
abbrev dm_K : Type := Nat → Nat × Nat × Nat
/-- the class's heap; of the law's own objects (numbers from 1000 on) the kinds and what they hold; the next number; the slots made so far -/
abbrev dm_S : Type := am_Hp × dm_K × am_Hp × Nat × Nat
def dm_h (S : dm_S) : am_Hp := S.1
def dm_k (S : dm_S) : dm_K := S.2.1
def dm_g (S : dm_S) : am_Hp := S.2.2.1
def dm_n (S : dm_S) : Nat := S.2.2.2.1
def dm_zz (S : dm_S) : Nat := S.2.2.2.2
def dm_sh (S : dm_S) (h : am_Hp) : dm_S := (h, S.2)
def dm_wr (S : dm_S) (a k : Nat) (v : Int32) : dm_S := (S.1, S.2.1, am_pi S.2.2.1 a k v, S.2.2.2)
def dm_nw (S : dm_S) (kd : Nat × Nat × Nat) (f : Nat → Int32) (z : Nat) : dm_S := (S.1, (fun a => if a = dm_n S then kd else dm_k S a), (fun a j => if a = dm_n S then f j else dm_g S a j), dm_n S + 1, dm_zz S + z)
/-- an array of arrays: the outer one, then the inner ones -/
def dm_mu (S : dm_S) (hh w : Nat) : dm_S := (S.1, (fun a => if a = dm_n S then (3, 6, hh) else if dm_n S < a ∧ a ≤ dm_n S + hh then (2, 0, w) else dm_k S a),
  (fun a j => if a = dm_n S then (if j < hh then am_z ((dm_n S + 1 + j : Nat) : Int) else am_z (-1)) else if dm_n S < a ∧ a ≤ dm_n S + hh then 0 else dm_g S a j), dm_n S + 1 + hh, dm_zz S + hh + hh * w)
/-- a new screen, with its array of lines -/
def dm_sc (S : dm_S) : dm_S := dm_nw (dm_nw S (1, 10, 6) (fun j => if j = 0 then am_z (-1) else if j = 4 then am_z ((dm_n S + 1 : Nat) : Int) else 0) 6) (3, 6, 40) (fun _ => am_z (-1)) 40
def dm_ok (S : dm_S) (kd a : Nat) : Bool := Nat.beq (dm_k S a).1 kd && Nat.ble 1000 a && Nat.blt a (dm_n S)
def dm_len (S : dm_S) (a : Nat) : Nat := (dm_k S a).2.2
def dm_bg : Nat := 2147483648
abbrev dm_Orc : Type 1 := (γ : Type) → Nat → List Value → dm_S → (Option Value → dm_S → Option γ) → Option γ
-- ---- tables
def dm_yL : List MethodName := [yX10_blank, yX10_up, yX10_row, yX10_down, yX10_typed, yX10_sized, yL_screen, yL_isDrawn, yL_isSeen, yL_isUnlike]
def dm_y (m : Nat) : MethodName := dm_yL.getD m ⟨"", "", ""⟩
def dm_ccL : List ByteArray := [cX10_blank, cX10_up, cX10_row, cX10_down, cX10_typed, cX10_sized, cL_screen, cL_isDrawn, cL_isSeen, cL_isUnlike]
def dm_cc (m : Nat) : ByteArray := dm_ccL.getD m ⟨#[]⟩
def dm_mlL : List Nat := [7, 2, 3, 1, 2, 6, 5, 7, 12, 9]
def dm_ml (m : Nat) : Nat := dm_mlL.getD m 0
def dm_reL : List (Option FieldType) := [none, none, some (.array .int), none, none, none, some (.object "SharedConsoleLaw$Screen"), some .boolean, some .boolean, some .boolean]
def dm_re (m : Nat) : Option FieldType := dm_reL.getD m none
def dm_own (m : Nat) : String := bif Nat.blt m 6 then RX10 else RL
def dm_naL : List Nat := [2, 1, 1, 1, 2, 3, 3, 3, 2, 4]
def dm_na (m : Nat) : Nat := dm_naL.getD m 0
def dm_frL : List Nat := [0, 1, 0, 2, 3, 2, 8, 11, 11, 11]
def dm_fr (m : Nat) : Nat := dm_frL.getD m 0
def dm_loL : List Nat := [0, 22, 0, 43, 64, 43, 200, 260, 260, 260]
def dm_lo (m : Nat) : Nat := dm_loL.getD m 0
/-- the links: 0 the class's own methods, 1 a screen's own, 2 a screen's, from the law, 3 the law's own, 4 Math.max -/
def dm_mk (m ix : Nat) : Option (Nat × Nat) := bif Nat.blt m 6 then am_lk [(36, (1, 1)), (26, (1, 2)), (39, (1, 3)), (42, (1, 0))] ix
  else match am_lk [(162, (2, 0)), (169, (2, 4)), (172, (2, 5)), (176, (3, 6)), (218, (4, 0))] ix with
    | some q => some q
    | none => (am_mk 108 ix).bind (fun q => bif Nat.beq q.1 0 then some (0, q.2) else none)
def dm_fk (m ix : Nat) : Option Nat := bif Nat.blt m 6 then am_lk [(20, 0), (33, 1), (30, 2), (15, 3), (23, 5), (9, 4)] ix else am_lk [(182, 0), (186, 1), (189, 2), (158, 3), (192, 5), (202, 4)] ix
def dm_rj (j : Nat) : Bool := Nat.beq j 0 || Nat.beq j 4
variable {γ : Type}
def dm_saia (st : List Value) (k : Nat → Int32 → Nat → List Value → Option γ) : Option γ := match st with
  | .ref x :: .int i :: .ref a :: r => k a i x r
  | _ => none
def dm_saa (st : List Value) (k : Nat → Nat → List Value → Option γ) : Option γ := match st with
  | .ref x :: .ref a :: r => k a x r
  | _ => none
def dm_lo1 (v : Value) : Bool := match v with
  | .ref a => Nat.blt a 1000
  | _ => true
def dm_rv (v : Option Value) : Bool := match v with
  | some (.ref _) => false
  | _ => true
def dm_rcv (S : dm_S) (as : List Value) : Bool := match as with
  | .ref a :: _ => dm_ok S 1 a
  | _ => false
def dm_ct (st : List Value) (n : Nat) : Bool := Nat.ble n st.length && Nat.ble ((st.drop n).map (fun v => v.category)).sum 8
/-- the calls -/
def dm_inv (me sv pc ix : Nat) (ρ : am_Lc) (st : List Value) (S : dm_S) (oC : am_Orc) (oD : dm_Orc) (k : Nat → am_Lc → List Value → dm_S → Option γ) : Option γ := match dm_mk me ix with
  | none => none
  | some (kd, mid) => bif Nat.beq kd 4 then (bif Nat.beq sv 1 && Nat.ble st.length 6 && Nat.ble 1 (dm_fr me) && Nat.ble 21 (dm_lo me) then am_s2 st (fun x y r => k (pc + 3) ρ (.int (if x < y then y else x) :: r) S) else none)
    else bif Nat.beq kd 0 then (bif Nat.beq sv 0 && dm_ct st (am_na mid) && Nat.ble (am_fr mid + 1) (dm_fr me) && Nat.ble (8 + (am_ml mid + 11) + am_lo mid) (dm_lo me) && !(Nat.beq (am_ow mid) 12) && !(Nat.blt mid 2) && am_rcv 0 mid (st.take (am_na mid)).reverse && (st.take (am_na mid)).all dm_lo1
      then oC γ mid (st.take (am_na mid)).reverse (dm_h S) (fun o h' => match o with
        | none => none
        | some v => bif dm_rv v then k (pc + 3) ρ (v.toList ++ st.drop (am_na mid)) (dm_sh S h') else none) else none)
    else (bif Nat.beq sv (bif Nat.beq kd 3 then 1 else 0) && dm_ct st (dm_na mid) && Nat.ble (dm_fr mid + 1) (dm_fr me) && Nat.ble (8 + (dm_ml mid + 11) + dm_lo mid) (dm_lo me) && (Nat.beq kd 3 || dm_rcv S (st.take (dm_na mid)).reverse)
      then oD γ mid (st.take (dm_na mid)).reverse S (fun v S' => k (pc + 3) ρ (v.toList ++ st.drop (dm_na mid)) S') else none)
/-- one instruction -/
def dm_op (me pc : Nat) (ins : Instr) (len : Nat) (ρ : am_Lc) (st : List Value) (S : dm_S) (oC : am_Orc) (oD : dm_Orc) (ret : Option Value → dm_S → Option γ) (k : Nat → am_Lc → List Value → dm_S → Option γ) : Option γ := match ins with
  | .iload_n i => am_ldi ρ i (fun x => k (pc + len) ρ (.int x :: st) S)
  | .iload i => am_ldi ρ i (fun x => k (pc + len) ρ (.int x :: st) S)
  | .aload_n i => am_lda ρ i (fun x => k (pc + len) ρ (.ref x :: st) S)
  | .aload i => am_lda ρ i (fun x => k (pc + len) ρ (.ref x :: st) S)
  | .istore_n i => am_s1 st (fun x r => bif Nat.blt i (dm_ml me) then k (pc + len) (am_stl ρ i (.int x)) r S else none)
  | .istore i => am_s1 st (fun x r => bif Nat.blt i (dm_ml me) then k (pc + len) (am_stl ρ i (.int x)) r S else none)
  | .astore_n i => am_sa st (fun x r => bif Nat.blt i (dm_ml me) then k (pc + len) (am_stl ρ i (.ref x)) r S else none)
  | .astore i => am_sa st (fun x r => bif Nat.blt i (dm_ml me) then k (pc + len) (am_stl ρ i (.ref x)) r S else none)
  | .iinc i n => am_ldi ρ i (fun x => bif Nat.blt i (dm_ml me) then k (pc + len) (am_stl ρ i (.int (x + Int32.ofInt n))) st S else none)
  | .iconst n => k (pc + len) ρ (.int (Int32.ofInt n) :: st) S
  | .bipush n => k (pc + len) ρ (.int (Int8.ofInt n).toInt32 :: st) S
  | .iadd => am_s2 st (fun x y r => k (pc + len) ρ (.int (x + y) :: r) S)
  | .isub => am_s2 st (fun x y r => k (pc + len) ρ (.int (x - y) :: r) S)
  | .imul => am_s2 st (fun x y r => k (pc + len) ρ (.int (x * y) :: r) S)
  | .dup => am_d1 st (fun v r => k (pc + len) ρ (v :: v :: r) S)
  | .pop => am_d1 st (fun _ r => k (pc + len) ρ r S)
  | .i2f => am_s1 st (fun x r => k (pc + len) ρ (.float (FP.i2f x) :: r) S)
  | .fdiv => am_sff st (fun x y r => if FP.fdiv x y &&& 0x7fffffff ≤ 0x7f800000 then k (pc + len) ρ (.float (FP.fdiv x y) :: r) S else none)
  | .fcmp o => am_sff st (fun x y r => k (pc + len) ρ (.int (Op.cmpValue (FP.fcmp x y) o) :: r) S)
  | .goto off => am_to pc off (fun t => k t ρ st S)
  | .if_icmp cd off => am_s2 st (fun x y r => am_to pc off (fun t => am_cmp cd x y (k t ρ r S) (k (pc + len) ρ r S)))
  | .ifCond cd off => am_s1 st (fun x r => am_to pc off (fun t => am_cmp cd x 0 (k t ρ r S) (k (pc + len) ρ r S)))
  | .getfield ix => match dm_fk me ix with
    | none => none
    | some j => am_sa st (fun a r => bif dm_ok S 1 a then (bif dm_rj j then (if dm_g S a j < 0 then none else k (pc + len) ρ (.ref (dm_g S a j).toNatClampNeg :: r) S) else k (pc + len) ρ (.int (dm_g S a j) :: r) S) else none)
  | .putfield ix => match dm_fk me ix with
    | none => none
    | some j => bif Nat.beq j 4 then none else bif dm_rj j then dm_saa st (fun a x r => bif dm_ok S 1 a && Nat.blt x dm_bg then k (pc + len) ρ r (dm_wr S a j (am_z (x : Int))) else none)
        else am_s1 st (fun x r => am_sa r (fun a r => bif dm_ok S 1 a then k (pc + len) ρ r (dm_wr S a j x) else none))
  | .iaload => am_sia st (fun a x r => bif dm_ok S 2 a && am_in x (dm_len S a) then k (pc + len) ρ (.int (dm_g S a x.toNatClampNeg) :: r) S else none)
  | .iastore => am_siia st (fun a i x r => bif dm_ok S 2 a && am_in i (dm_len S a) then k (pc + len) ρ r (dm_wr S a i.toNatClampNeg x) else none)
  | .aaload => am_sia st (fun a x r => bif dm_ok S 3 a && am_in x (dm_len S a) then (if dm_g S a x.toNatClampNeg < 0 then none else k (pc + len) ρ (.ref (dm_g S a x.toNatClampNeg).toNatClampNeg :: r) S) else none)
  | .aastore => dm_saia st (fun a i x r => bif dm_ok S 3 a && am_in i (dm_len S a) && dm_ok S 2 x && Nat.blt x dm_bg then k (pc + len) ρ r (dm_wr S a i.toNatClampNeg (am_z (x : Int))) else none)
  | .arraylength => am_sa st (fun a r => bif dm_ok S 2 a || dm_ok S 3 a then k (pc + len) ρ (.int (Int32.ofNat (dm_len S a)) :: r) S else none)
  | .newarray t => match t with
    | .int => am_s1 st (fun x r => if x < 0 then none else bif Nat.ble x.toNatClampNeg 100000 then k (pc + len) ρ (.ref (dm_n S) :: r) (dm_nw S (2, 0, x.toNatClampNeg) (fun _ => 0) x.toNatClampNeg) else none)
    | _ => none
  | .multianewarray ix d => bif Nat.beq d 2 && Nat.blt me 6 && Nat.beq ix 19 then am_s2 st (fun x y r => if x < 0 then none else if y < 0 then none else bif Nat.ble x.toNatClampNeg 1000 && Nat.ble y.toNatClampNeg 1000 && Nat.blt (dm_n S + 2000) dm_bg then k (pc + len) ρ (.ref (dm_n S) :: r) (dm_mu S x.toNatClampNeg y.toNatClampNeg) else none) else none
  | .new ix => bif Nat.beq me 6 && Nat.beq pc 0 && Nat.beq ix 155 && st.isEmpty && Nat.blt (dm_n S + 2000) dm_bg then k 7 ρ (.ref (dm_n S) :: st) (dm_sc S) else none
  | .invokevirtual ix => dm_inv me 0 pc ix ρ st S oC oD k
  | .invokestatic ix => dm_inv me 1 pc ix ρ st S oC oD k
  | .ireturn => am_s1 st (fun x r => bif r.isEmpty && Nat.ble 7 me && Nat.ble me 9 then (if x &&& 1 = x then ret (some (.int x)) S else none) else none)
  | .areturn => am_sa st (fun x r => bif r.isEmpty && (Nat.beq me 2 || Nat.beq me 6) then ret (some (.ref x)) S else none)
  | .return_ => bif st.isEmpty && (Nat.blt me 2 || (Nat.blt 2 me && Nat.blt me 6)) then ret none S else none
  | _ => none
abbrev dm_Cut (γ : Type) : Type := Nat → Option (am_Lc → List Value → dm_S → Option γ)
def dm_sem (me : Nat) (tab : List (Nat × Instr × Nat)) (cut : dm_Cut γ) (oC : am_Orc) (oD : dm_Orc) (ret : Option Value → dm_S → Option γ) : Nat → Nat → am_Lc → List Value → dm_S → Option γ
  | 0, _, _, _, _ => none
  | f + 1, pc, ρ, st, S => match am_at tab pc with
    | none => none
    | some q => dm_op me pc q.1 q.2 ρ st S oC oD ret (fun pc' ρ' st' S' => match cut pc' with
      | some c => c ρ' st' S'
      | none => dm_sem me tab cut oC oD ret f pc' ρ' st' S')
end DM0
