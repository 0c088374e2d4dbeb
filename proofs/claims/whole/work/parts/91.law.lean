section LAWA
variable {p : Program} {l : Launch} {e : Env} {R : Room} {s : State} {m : MethodId} {args : Array Value} {below : List Frame} {meth : Method} {c : Code} {Q : State → Prop}
variable {al : Nat → Nat} {dC : Nat → ClassId} {dI : Nat → Nat → Nat} {aC : Nat → ClassId} {aV : Nat → Nat} {x0 b L : Nat} {xs : Nat → Int32}
variable {H : Heap} {locs : List Loc} {cells slots : Nat} {ls : Array Slot}
/-- the words of the script, pushed: which of the six, and whether it's asked to be a truth -/
def la_ok (cc : ByteArray) : Nat → List (Nat × Bool) → Bool
  | _, [] => true
  | pc, (k, t) :: r => decide (decode cc pc = .ok (.aload_n 0, 1)) && decide (decode cc (pc + 1) = .ok (.iload 5, 2)) && decide (decode cc (pc + 3) = .ok (.iconst k, 1)) && decide (decode cc (pc + 4) = .ok (.iadd, 1)) && decide (decode cc (pc + 5) = .ok (.iaload, 1)) && Nat.blt k 6 &&
      (bif t then decide (decode cc (pc + 6) = .ok (.ifCond .eq 7, 3)) && decide (decode cc (pc + 9) = .ok (.iconst 1, 1)) && decide (decode cc (pc + 10) = .ok (.goto 4, 3)) && decide (decode cc (pc + 13) = .ok (.iconst 0, 1)) && la_ok cc (pc + 14) r else la_ok cc (pc + 6) r)
def la_end : Nat → List (Nat × Bool) → Nat
  | pc, [] => pc
  | pc, (_, t) :: r => la_end (bif t then pc + 14 else pc + 6) r
def la_v (xs : Nat → Int32) (n : Nat) (q : Nat × Bool) : Int32 := bif q.2 then (if xs (6 * n + q.1) = 0 then 0 else 1) else xs (6 * n + q.1)
def la_vs (xs : Nat → Int32) (n : Nat) (qs : List (Nat × Bool)) : List Value := qs.map (fun q => .int (la_v xs n q))
theorem la_ix {n k L : Nat} (hk : k < 6) (hn : 6 * n + 6 ≤ L) (hL : L ≤ 3072) : (Int32.ofNat (6 * n) + Int32.ofInt k).toNatClampNeg = 6 * n + k ∧ vp_in (Int32.ofNat (6 * n) + Int32.ofInt k) L := by
  have e1 : Int32.ofNat (6 * n) + Int32.ofInt k = Int32.ofNat (6 * n + k) := by
    have e2 : Int32.ofInt (k : Int) = Int32.ofNat k := rfl
    rw [e2, ← Int32.ofNat_add]
  have e3 : (Int32.ofNat (6 * n + k)).toInt = ((6 * n + k : Nat) : Int) := Int32.toInt_ofNat_of_lt (by omega)
  have e4 : (Int32.ofNat (6 * n + k)).toNatClampNeg = 6 * n + k := by
    show (Int32.ofNat (6 * n + k)).toInt.toNat = _
    rw [e3]
    rfl
  rw [e1]
  refine ⟨e4, fun z => ?_⟩
  rcases z with z | z
  · rw [Int32.lt_iff_toInt_lt, e3] at z
    have : (0 : Int32).toInt = 0 := by decide
    omega
  · rw [e4] at z
    omega
theorem la_push {cc : ByteArray} {n : Nat} (hx : p.tables.exec = Jvm.exec) (hb : c.code = cc) (hX : va_X b L xs s s.heap) (hbl : b < x0) (hx0 : x0 ≤ s.heap.size) (hS : va_S (fun q => x0 ≤ q) s.heap H locs) (hn : 6 * n + 6 ≤ L) (hL : L ≤ 3072) (h0 : ls[0]? = some (.val (.ref b))) (h5 : ls[5]? = some (.val (.int (Int32.ofNat (6 * n))))) :
    ∀ (qs : List (Nat × Bool)) (pc : Nat) (st : List Value), la_ok cc pc qs = true → W p l e R s m args below meth c H locs cells slots Q (F0 m (la_end pc qs) ls ((la_vs xs n qs).reverse ++ st)) → W p l e R s m args below meth c H locs cells slots Q (F0 m pc ls st)
  | [], _, _, _, k => k
  | (j, t) :: r, pc, st, hok, k => by
    have hok : (decide (decode cc pc = .ok (.aload_n 0, 1)) && decide (decode cc (pc + 1) = .ok (.iload 5, 2)) && decide (decode cc (pc + 3) = .ok (.iconst j, 1)) && decide (decode cc (pc + 4) = .ok (.iadd, 1)) && decide (decode cc (pc + 5) = .ok (.iaload, 1)) && Nat.blt j 6 &&
      (bif t then decide (decode cc (pc + 6) = .ok (.ifCond .eq 7, 3)) && decide (decode cc (pc + 9) = .ok (.iconst 1, 1)) && decide (decode cc (pc + 10) = .ok (.goto 4, 3)) && decide (decode cc (pc + 13) = .ok (.iconst 0, 1)) && la_ok cc (pc + 14) r else la_ok cc (pc + 6) r)) = true := hok
    simp only [Bool.and_eq_true, decide_eq_true_eq] at hok
    obtain ⟨⟨⟨⟨⟨⟨d0, d1⟩, d3⟩, d4⟩, d5⟩, hj⟩, hr⟩ := hok
    obtain ⟨i1, i2⟩ := la_ix (Nat.blt_eq.mp hj) hn hL
    refine lv_aload_n hx hb (i := 0) d0 rfl h0 ?_
    refine lv_iload hx hb d1 h5 ?_
    refine lv_iconst hx hb (v := Int32.ofInt j) d3 rfl ?_
    refine lv_iadd hx hb d4 ?_
    refine va_sld hx hb hX (by omega) (by show ¬ (x0 ≤ b); omega) hS i2 d5 ?_
    rw [i1]
    cases t with
    | false =>
      have hr : la_ok cc (pc + 6) r = true := hr
      refine la_push hx hb hX hbl hx0 hS hn hL h0 h5 r (pc + 6) (.int (xs (6 * n + j)) :: st) hr ?_
      have e9 : (la_vs xs n ((j, false) :: r)).reverse ++ st = (la_vs xs n r).reverse ++ (.int (xs (6 * n + j)) :: st) := by
        show (Value.int (la_v xs n (j, false)) :: la_vs xs n r).reverse ++ st = _
        rw [List.reverse_cons, List.append_assoc]
        rfl
      rw [← e9]
      exact k
    | true =>
      have hr : (decide (decode cc (pc + 6) = .ok (.ifCond .eq 7, 3)) && decide (decode cc (pc + 9) = .ok (.iconst 1, 1)) && decide (decode cc (pc + 10) = .ok (.goto 4, 3)) && decide (decode cc (pc + 13) = .ok (.iconst 0, 1)) && la_ok cc (pc + 14) r) = true := by
        simpa using hr
      simp only [Bool.and_eq_true, decide_eq_true_eq] at hr
      obtain ⟨⟨⟨⟨d6, d9⟩, d10⟩, d13⟩, hr⟩ := hr
      have e9 : (la_vs xs n ((j, true) :: r)).reverse ++ st = (la_vs xs n r).reverse ++ (.int (if xs (6 * n + j) = 0 then 0 else 1) :: st) := by
        show (Value.int (la_v xs n (j, true)) :: la_vs xs n r).reverse ++ st = _
        rw [List.reverse_cons, List.append_assoc]
        rfl
      have k : W p l e R s m args below meth c H locs cells slots Q (F0 m (la_end (pc + 14) r) ls ((la_vs xs n ((j, true) :: r)).reverse ++ st)) := k
      rw [e9] at k
      refine lv_if_eq hx hb (tgt := pc + 13) d6 (by push_cast; omega) (fun z => ?_) (fun z => ?_)
      · refine lv_iconst hx hb (v := 0) d13 rfl ?_
        rw [if_pos z] at k
        exact la_push hx hb hX hbl hx0 hS hn hL h0 h5 r (pc + 14) (.int 0 :: st) hr k
      · refine lv_iconst hx hb (v := 1) d9 rfl ?_
        refine lv_goto hx hb (tgt := pc + 14) d10 (by push_cast; omega) ?_
        rw [if_neg z] at k
        exact la_push hx hb hX hbl hx0 hS hn hL h0 h5 r (pc + 14) (.int 1 :: st) hr k
end LAWA
