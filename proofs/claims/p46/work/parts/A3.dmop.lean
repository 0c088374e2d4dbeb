section DM3
variable {p : Program} {l : Launch} {e : Env} {R : Room} {s : State} {m : MethodId} {args : Array Value} {below : List Frame} {meth : Method} {c : Code}
variable {γ : Type} {g : γ}
def dm_il (ins : Instr) (len : Nat) : Bool := match ins with
  | .iload _ => Nat.beq len 2
  | .aload _ => Nat.beq len 2
  | .istore _ => Nat.beq len 2
  | .astore _ => Nat.beq len 2
  | .bipush _ => Nat.beq len 2
  | .newarray _ => Nat.beq len 2
  | .iinc _ _ => Nat.beq len 3
  | .goto _ => Nat.beq len 3
  | .if_icmp _ _ => Nat.beq len 3
  | .ifCond _ _ => Nat.beq len 3
  | .getfield _ => Nat.beq len 3
  | .putfield _ => Nat.beq len 3
  | .invokevirtual _ => Nat.beq len 3
  | .invokestatic _ => Nat.beq len 3
  | .new _ => Nat.beq len 3
  | .multianewarray _ _ => Nat.beq len 4
  | _ => Nat.beq len 1
theorem dm_saia_some {st : List Value} {k : Nat → Int32 → Nat → List Value → Option γ} (h : dm_saia st k = some g) : ∃ a i x r, st = .ref x :: .int i :: .ref a :: r ∧ k a i x r = some g := by
  unfold dm_saia at h
  split at h
  · exact ⟨_, _, _, _, rfl, h⟩
  · cases h
theorem dm_saa_some {st : List Value} {k : Nat → Nat → List Value → Option γ} (h : dm_saa st k = some g) : ∃ a x r, st = .ref x :: .ref a :: r ∧ k a x r = some g := by
  unfold dm_saa at h
  split at h
  · exact ⟨_, _, _, rfl, h⟩
  · cases h
theorem dm_if0 {P : Prop} [Decidable P] {b : Option γ} (h : (if P then none else b) = some g) : ¬ P ∧ b = some g := by
  by_cases q : P
  · rw [if_pos q] at h; cases h
  · rw [if_neg q] at h; exact ⟨q, h⟩
theorem dm_self (vm : Vm) (c : ClassId) : vm.assignable c c = true := by
  show (c == c || _) = true
  rw [beq_self_eq_true]
  rfl
set_option maxHeartbeats 8000000 in
theorem dm_op_sound {al : Nat → Nat} {dC : Nat → ClassId} {dI : Nat → Nat → Nat} {aC : Nat → ClassId} {aV : Nat → Nat} {x0 x1 me N0 Z0 : Nat} {vO : Option Value} {SO : dm_S} {pc len : Nat} {ins : Instr} {ρ : am_Lc} {st : List Value} {S : dm_S} {oC : am_Orc} {oD : dm_Orc} {ret : Option Value → dm_S → Option γ} {k : Nat → am_Lc → List Value → dm_S → Option γ}
    (C : dm_Cx p R s m args meth c al dC dI aC aV x0 x1 me N0 Z0 SO) (hd : decode (dm_cc me) pc = .ok (ins, len)) (hlen : dm_il ins len = true) (hret : ∀ v S', ret v S' = some g → v = vO ∧ S' = SO)
    (hk : ∀ pc' ρ' st' S', k pc' ρ' st' S' = some g → dm_At p l e R s m args below meth c al dC dI aC x0 x1 me N0 Z0 vO SO pc' ρ' st' S')
    (hcall : ∀ sv ix, (ins = .invokevirtual ix ∧ sv = 0 ∨ ins = .invokestatic ix ∧ sv = 1) → dm_inv me sv pc ix ρ st S oC oD k = some g → dm_At p l e R s m args below meth c al dC dI aC x0 x1 me N0 Z0 vO SO pc ρ st S)
    (hnew : ∀ ix, ins = .new ix → pc = 0 → me = 6 → ix = 155 → st = [] → dm_n S + 2000 < dm_bg → dm_At p l e R s m args below meth c al dC dI aC x0 x1 me N0 Z0 vO SO 7 ρ (.ref (dm_n S) :: st) (dm_sc S) → dm_At p l e R s m args below meth c al dC dI aC x0 x1 me N0 Z0 vO SO pc ρ st S)
    (hmul : ∀ x y r, ins = .multianewarray 19 2 → me < 6 → st = .int y :: .int x :: r → ¬ x < 0 → ¬ y < 0 → x.toNatClampNeg ≤ 1000 → y.toNatClampNeg ≤ 1000 → dm_n S + 2000 < dm_bg → dm_At p l e R s m args below meth c al dC dI aC x0 x1 me N0 Z0 vO SO (pc + 4) ρ (.ref (dm_n S) :: r) (dm_mu S x.toNatClampNeg y.toNatClampNeg) → dm_At p l e R s m args below meth c al dC dI aC x0 x1 me N0 Z0 vO SO pc ρ st S)
    (hr : dm_op me pc ins len ρ st S oC oD ret k = some g) : dm_At p l e R s m args below meth c al dC dI aC x0 x1 me N0 Z0 vO SO pc ρ st S := by
  have C' := C
  obtain ⟨hx, hb, hml, hown, hts, hlocks, hrt, hK, hF, hNB, hR, hA, hsz, hN0⟩ := C
  have hD : ∀ S', va_D (fun q => x0 ≤ q) (dm_W al aC x1 S') := fun S' => dm_VD hA
  have hAs : ∀ q, s.heap.size ≤ q → x0 ≤ q := fun q h => by
    have := hA.2
    omega
  have hcl : vwCl[10]? = some (am_R 10, am_T 10, am_N 10) := (am_cl_spec (by decide)).2
  have hN6 : am_N 10 = 6 := by decide
  have huw := am_uw_spec (ci := 10) (by decide)
  obtain ⟨ty0, hty, hnm⟩ := am_tyn (ci := 10) (by decide)
  have hT0 : (am_tys aC)[0]? = some (aC 0, FieldType.int) := rfl
  have hT6 : (am_tys aC)[6]? = some (aC 6, FieldType.array .int) := rfl
  intro hN hZ
  cases ins
  case iload_n i =>
    cases Nat.eq_of_beq_eq_true hlen
    obtain ⟨x, hm, h1⟩ := am_ldi_some hr
    have q := hk _ _ _ _ h1 hN hZ
    exact ⟨q.1, q.2.1, fun H locs ls hl hP hS => lv_iload_n hx hb hd rfl (hl.2.2 _ (am_rls_mem hm)) (q.2.2 H locs ls hl hP hS)⟩
  case iload i =>
    cases Nat.eq_of_beq_eq_true hlen
    obtain ⟨x, hm, h1⟩ := am_ldi_some hr
    have q := hk _ _ _ _ h1 hN hZ
    exact ⟨q.1, q.2.1, fun H locs ls hl hP hS => lv_iload hx hb hd (hl.2.2 _ (am_rls_mem hm)) (q.2.2 H locs ls hl hP hS)⟩
  case aload_n i =>
    cases Nat.eq_of_beq_eq_true hlen
    obtain ⟨x, hm, h1⟩ := am_lda_some hr
    have q := hk _ _ _ _ h1 hN hZ
    exact ⟨q.1, q.2.1, fun H locs ls hl hP hS => lv_aload_n hx hb hd rfl (hl.2.2 _ (am_rls_mem hm)) (q.2.2 H locs ls hl hP hS)⟩
  case aload i =>
    cases Nat.eq_of_beq_eq_true hlen
    obtain ⟨x, hm, h1⟩ := am_lda_some hr
    have q := hk _ _ _ _ h1 hN hZ
    exact ⟨q.1, q.2.1, fun H locs ls hl hP hS => lv_aload hx hb hd (hl.2.2 _ (am_rls_mem hm)) (q.2.2 H locs ls hl hP hS)⟩
  case istore_n i =>
    cases Nat.eq_of_beq_eq_true hlen
    obtain ⟨x, r, rfl, h1⟩ := am_s1_some hr
    obtain ⟨h2, h3⟩ := am_bif h1
    have q := hk _ _ _ _ h3 hN hZ
    exact ⟨q.1, q.2.1, fun H locs ls hl hP hS => lv_istore_n hx hb hd rfl hl (Nat.blt_eq.mp h2) am_rls_sti (fun ls hl => (q.2.2 H locs ls hl hP hS))⟩
  case istore i =>
    cases Nat.eq_of_beq_eq_true hlen
    obtain ⟨x, r, rfl, h1⟩ := am_s1_some hr
    obtain ⟨h2, h3⟩ := am_bif h1
    have q := hk _ _ _ _ h3 hN hZ
    exact ⟨q.1, q.2.1, fun H locs ls hl hP hS => lv_istore hx hb hd hl (Nat.blt_eq.mp h2) am_rls_sti (fun ls hl => (q.2.2 H locs ls hl hP hS))⟩
  case astore_n i =>
    cases Nat.eq_of_beq_eq_true hlen
    obtain ⟨x, r, rfl, h1⟩ := am_sa_some hr
    obtain ⟨h2, h3⟩ := am_bif h1
    have q := hk _ _ _ _ h3 hN hZ
    exact ⟨q.1, q.2.1, fun H locs ls hl hP hS => lv_astore_n hx hb hd rfl hl (Nat.blt_eq.mp h2) am_rls_sta (fun ls hl => (q.2.2 H locs ls hl hP hS))⟩
  case astore i =>
    cases Nat.eq_of_beq_eq_true hlen
    obtain ⟨x, r, rfl, h1⟩ := am_sa_some hr
    obtain ⟨h2, h3⟩ := am_bif h1
    have q := hk _ _ _ _ h3 hN hZ
    exact ⟨q.1, q.2.1, fun H locs ls hl hP hS => lv_astore hx hb hd hl (Nat.blt_eq.mp h2) am_rls_sta (fun ls hl => (q.2.2 H locs ls hl hP hS))⟩
  case iinc i n =>
    cases Nat.eq_of_beq_eq_true hlen
    obtain ⟨x, hm, h1⟩ := am_ldi_some hr
    obtain ⟨h2, h3⟩ := am_bif h1
    have q := hk _ _ _ _ h3 hN hZ
    obtain ⟨kk, hkk⟩ := List.getElem?_of_mem (am_rls_mem (al := dm_al al x1) hm)
    exact ⟨q.1, q.2.1, fun H locs ls hl hP hS => lv_iinc hx hb hd hl hkk rfl (Nat.blt_eq.mp h2) am_rls_sti (fun ls hl => (q.2.2 H locs ls hl hP hS))⟩
  case iconst n =>
    cases Nat.eq_of_beq_eq_true hlen
    skip
    have q := hk _ _ _ _ hr hN hZ
    exact ⟨q.1, q.2.1, fun H locs ls hl hP hS => lv_iconst hx hb hd rfl (q.2.2 H locs ls hl hP hS)⟩
  case bipush n =>
    cases Nat.eq_of_beq_eq_true hlen
    skip
    have q := hk _ _ _ _ hr hN hZ
    exact ⟨q.1, q.2.1, fun H locs ls hl hP hS => lv_bipush hx hb hd rfl (q.2.2 H locs ls hl hP hS)⟩
  case iadd =>
    cases Nat.eq_of_beq_eq_true hlen
    obtain ⟨x, y, r, rfl, h1⟩ := am_s2_some hr
    have q := hk _ _ _ _ h1 hN hZ
    exact ⟨q.1, q.2.1, fun H locs ls hl hP hS => lv_iadd hx hb hd (q.2.2 H locs ls hl hP hS)⟩
  case isub =>
    cases Nat.eq_of_beq_eq_true hlen
    obtain ⟨x, y, r, rfl, h1⟩ := am_s2_some hr
    have q := hk _ _ _ _ h1 hN hZ
    exact ⟨q.1, q.2.1, fun H locs ls hl hP hS => lv_isub hx hb hd (q.2.2 H locs ls hl hP hS)⟩
  case imul =>
    cases Nat.eq_of_beq_eq_true hlen
    obtain ⟨x, y, r, rfl, h1⟩ := am_s2_some hr
    have q := hk _ _ _ _ h1 hN hZ
    exact ⟨q.1, q.2.1, fun H locs ls hl hP hS => lv_imul hx hb hd (q.2.2 H locs ls hl hP hS)⟩
  case dup =>
    cases Nat.eq_of_beq_eq_true hlen
    have hr : am_d1 st (fun v r => k (pc + 1) ρ (v :: v :: r) S) = some g := hr
    obtain ⟨v, r, rfl, hv, h1⟩ := am_d1_some hr
    have q := hk _ _ _ _ h1 hN hZ
    exact ⟨q.1, q.2.1, fun H locs ls hl hP hS => lv_dup hx hb hd (by rw [am_rl_cat]; exact hv) (q.2.2 H locs ls hl hP hS)⟩
  case pop =>
    cases Nat.eq_of_beq_eq_true hlen
    have hr : am_d1 st (fun _ r => k (pc + 1) ρ r S) = some g := hr
    obtain ⟨v, r, rfl, hv, h1⟩ := am_d1_some hr
    have q := hk _ _ _ _ h1 hN hZ
    exact ⟨q.1, q.2.1, fun H locs ls hl hP hS => lv_pop hx hb hd (by rw [am_rl_cat]; exact hv) (q.2.2 H locs ls hl hP hS)⟩
  case i2f =>
    cases Nat.eq_of_beq_eq_true hlen
    obtain ⟨x, r, rfl, h1⟩ := am_s1_some hr
    have q := hk _ _ _ _ h1 hN hZ
    exact ⟨q.1, q.2.1, fun H locs ls hl hP hS => lv_i2f hx hb hd (q.2.2 H locs ls hl hP hS)⟩
  case fdiv =>
    cases Nat.eq_of_beq_eq_true hlen
    obtain ⟨x, y, r, rfl, h1⟩ := am_sff_some hr
    by_cases hy : FP.fdiv x y &&& 0x7fffffff ≤ 0x7f800000
    · rw [if_pos hy] at h1
      have q := hk _ _ _ _ h1 hN hZ
      exact ⟨q.1, q.2.1, fun H locs ls hl hP hS => lv_fdiv hx hb hd hy (q.2.2 H locs ls hl hP hS)⟩
    · rw [if_neg hy] at h1; cases h1
  case fcmp o =>
    cases Nat.eq_of_beq_eq_true hlen
    obtain ⟨x, y, r, rfl, h1⟩ := am_sff_some hr
    have q := hk _ _ _ _ h1 hN hZ
    exact ⟨q.1, q.2.1, fun H locs ls hl hP hS => lv_fcmp hx hb hd (q.2.2 H locs ls hl hP hS)⟩
  case goto off =>
    cases Nat.eq_of_beq_eq_true hlen
    obtain ⟨t, ht, h1⟩ := am_to_some hr
    have q := hk _ _ _ _ h1 hN hZ
    exact ⟨q.1, q.2.1, fun H locs ls hl hP hS => lv_goto hx hb hd ht (q.2.2 H locs ls hl hP hS)⟩
  case if_icmp cd off =>
    cases Nat.eq_of_beq_eq_true hlen
    obtain ⟨x, y, r, rfl, h1⟩ := am_s2_some hr
    obtain ⟨t, ht, h2⟩ := am_to_some h1
    cases cd with
    | eq =>
      by_cases zz : x = y
      · have h3 := (if_pos zz).symm.trans h2
        have q := hk _ _ _ _ h3 hN hZ
        exact ⟨q.1, q.2.1, fun H locs ls hl hP hS => lv_icmp_eq hx hb hd ht (fun _ => (q.2.2 H locs ls hl hP hS)) (fun z => absurd zz z)⟩
      · have h3 := (if_neg zz).symm.trans h2
        have q := hk _ _ _ _ h3 hN hZ
        exact ⟨q.1, q.2.1, fun H locs ls hl hP hS => lv_icmp_eq hx hb hd ht (fun z => absurd z zz) (fun _ => (q.2.2 H locs ls hl hP hS))⟩
    | ne =>
      by_cases zz : x = y
      · have h3 := (if_pos zz).symm.trans h2
        have q := hk _ _ _ _ h3 hN hZ
        exact ⟨q.1, q.2.1, fun H locs ls hl hP hS => lv_icmp_ne hx hb hd ht (fun z => absurd zz z) (fun _ => (q.2.2 H locs ls hl hP hS))⟩
      · have h3 := (if_neg zz).symm.trans h2
        have q := hk _ _ _ _ h3 hN hZ
        exact ⟨q.1, q.2.1, fun H locs ls hl hP hS => lv_icmp_ne hx hb hd ht (fun _ => (q.2.2 H locs ls hl hP hS)) (fun z => absurd z zz)⟩
    | lt =>
      by_cases zz : x < y
      · have h3 := (if_pos zz).symm.trans h2
        have q := hk _ _ _ _ h3 hN hZ
        exact ⟨q.1, q.2.1, fun H locs ls hl hP hS => lv_icmp_lt hx hb hd ht (fun _ => (q.2.2 H locs ls hl hP hS)) (fun z => absurd zz z)⟩
      · have h3 := (if_neg zz).symm.trans h2
        have q := hk _ _ _ _ h3 hN hZ
        exact ⟨q.1, q.2.1, fun H locs ls hl hP hS => lv_icmp_lt hx hb hd ht (fun z => absurd z zz) (fun _ => (q.2.2 H locs ls hl hP hS))⟩
    | ge =>
      by_cases zz : y ≤ x
      · have h3 := (if_pos zz).symm.trans h2
        have q := hk _ _ _ _ h3 hN hZ
        exact ⟨q.1, q.2.1, fun H locs ls hl hP hS => lv_icmp_ge hx hb hd ht (fun _ => (q.2.2 H locs ls hl hP hS)) (fun z => absurd zz z)⟩
      · have h3 := (if_neg zz).symm.trans h2
        have q := hk _ _ _ _ h3 hN hZ
        exact ⟨q.1, q.2.1, fun H locs ls hl hP hS => lv_icmp_ge hx hb hd ht (fun z => absurd z zz) (fun _ => (q.2.2 H locs ls hl hP hS))⟩
    | gt =>
      by_cases zz : y < x
      · have h3 := (if_pos zz).symm.trans h2
        have q := hk _ _ _ _ h3 hN hZ
        exact ⟨q.1, q.2.1, fun H locs ls hl hP hS => lv_icmp_gt hx hb hd ht (fun _ => (q.2.2 H locs ls hl hP hS)) (fun z => absurd zz z)⟩
      · have h3 := (if_neg zz).symm.trans h2
        have q := hk _ _ _ _ h3 hN hZ
        exact ⟨q.1, q.2.1, fun H locs ls hl hP hS => lv_icmp_gt hx hb hd ht (fun z => absurd z zz) (fun _ => (q.2.2 H locs ls hl hP hS))⟩
    | le =>
      by_cases zz : x ≤ y
      · have h3 := (if_pos zz).symm.trans h2
        have q := hk _ _ _ _ h3 hN hZ
        exact ⟨q.1, q.2.1, fun H locs ls hl hP hS => lv_icmp_le hx hb hd ht (fun _ => (q.2.2 H locs ls hl hP hS)) (fun z => absurd zz z)⟩
      · have h3 := (if_neg zz).symm.trans h2
        have q := hk _ _ _ _ h3 hN hZ
        exact ⟨q.1, q.2.1, fun H locs ls hl hP hS => lv_icmp_le hx hb hd ht (fun z => absurd z zz) (fun _ => (q.2.2 H locs ls hl hP hS))⟩
  case ifCond cd off =>
    cases Nat.eq_of_beq_eq_true hlen
    obtain ⟨x, r, rfl, h1⟩ := am_s1_some hr
    obtain ⟨t, ht, h2⟩ := am_to_some h1
    cases cd with
    | eq =>
      by_cases zz : x = 0
      · have h3 := (if_pos zz).symm.trans h2
        have q := hk _ _ _ _ h3 hN hZ
        exact ⟨q.1, q.2.1, fun H locs ls hl hP hS => lv_if_eq hx hb hd ht (fun _ => (q.2.2 H locs ls hl hP hS)) (fun z => absurd zz z)⟩
      · have h3 := (if_neg zz).symm.trans h2
        have q := hk _ _ _ _ h3 hN hZ
        exact ⟨q.1, q.2.1, fun H locs ls hl hP hS => lv_if_eq hx hb hd ht (fun z => absurd z zz) (fun _ => (q.2.2 H locs ls hl hP hS))⟩
    | ne =>
      by_cases zz : x = 0
      · have h3 := (if_pos zz).symm.trans h2
        have q := hk _ _ _ _ h3 hN hZ
        exact ⟨q.1, q.2.1, fun H locs ls hl hP hS => lv_if_ne hx hb hd ht (fun z => absurd zz z) (fun _ => (q.2.2 H locs ls hl hP hS))⟩
      · have h3 := (if_neg zz).symm.trans h2
        have q := hk _ _ _ _ h3 hN hZ
        exact ⟨q.1, q.2.1, fun H locs ls hl hP hS => lv_if_ne hx hb hd ht (fun _ => (q.2.2 H locs ls hl hP hS)) (fun z => absurd z zz)⟩
    | lt =>
      by_cases zz : x < 0
      · have h3 := (if_pos zz).symm.trans h2
        have q := hk _ _ _ _ h3 hN hZ
        exact ⟨q.1, q.2.1, fun H locs ls hl hP hS => lv_if_lt hx hb hd ht (fun _ => (q.2.2 H locs ls hl hP hS)) (fun z => absurd zz z)⟩
      · have h3 := (if_neg zz).symm.trans h2
        have q := hk _ _ _ _ h3 hN hZ
        exact ⟨q.1, q.2.1, fun H locs ls hl hP hS => lv_if_lt hx hb hd ht (fun z => absurd z zz) (fun _ => (q.2.2 H locs ls hl hP hS))⟩
    | ge =>
      by_cases zz : 0 ≤ x
      · have h3 := (if_pos zz).symm.trans h2
        have q := hk _ _ _ _ h3 hN hZ
        exact ⟨q.1, q.2.1, fun H locs ls hl hP hS => lv_if_ge hx hb hd ht (fun _ => (q.2.2 H locs ls hl hP hS)) (fun z => absurd zz z)⟩
      · have h3 := (if_neg zz).symm.trans h2
        have q := hk _ _ _ _ h3 hN hZ
        exact ⟨q.1, q.2.1, fun H locs ls hl hP hS => lv_if_ge hx hb hd ht (fun z => absurd z zz) (fun _ => (q.2.2 H locs ls hl hP hS))⟩
    | gt =>
      by_cases zz : 0 < x
      · have h3 := (if_pos zz).symm.trans h2
        have q := hk _ _ _ _ h3 hN hZ
        exact ⟨q.1, q.2.1, fun H locs ls hl hP hS => lv_if_gt hx hb hd ht (fun _ => (q.2.2 H locs ls hl hP hS)) (fun z => absurd zz z)⟩
      · have h3 := (if_neg zz).symm.trans h2
        have q := hk _ _ _ _ h3 hN hZ
        exact ⟨q.1, q.2.1, fun H locs ls hl hP hS => lv_if_gt hx hb hd ht (fun z => absurd z zz) (fun _ => (q.2.2 H locs ls hl hP hS))⟩
    | le =>
      by_cases zz : x ≤ 0
      · have h3 := (if_pos zz).symm.trans h2
        have q := hk _ _ _ _ h3 hN hZ
        exact ⟨q.1, q.2.1, fun H locs ls hl hP hS => lv_if_le hx hb hd ht (fun _ => (q.2.2 H locs ls hl hP hS)) (fun z => absurd zz z)⟩
      · have h3 := (if_neg zz).symm.trans h2
        have q := hk _ _ _ _ h3 hN hZ
        exact ⟨q.1, q.2.1, fun H locs ls hl hP hS => lv_if_le hx hb hd ht (fun z => absurd z zz) (fun _ => (q.2.2 H locs ls hl hP hS))⟩
  case getfield ix =>
    cases Nat.eq_of_beq_eq_true hlen
    have hr : (match dm_fk me ix with
      | none => none
      | some j => am_sa st (fun a r => bif dm_ok S 1 a then (bif dm_rj j then (if dm_g S a j < 0 then none else k (pc + 3) ρ (.ref (dm_g S a j).toNatClampNeg :: r) S) else k (pc + 3) ρ (.int (dm_g S a j) :: r) S) else none)) = some g := hr
    cases hz : dm_fk me ix with
    | none => rw [hz] at hr; cases hr
    | some j =>
      rw [hz] at hr
      obtain ⟨a, r, rfl, h1⟩ := am_sa_some hr
      obtain ⟨h2, h3⟩ := am_bif h1
      obtain ⟨k1, k2, k3⟩ := dm_ok_s h2
      obtain ⟨f1, f2⟩ := dm_fk_spec hz
      have he := dm_get (al := al) (aC := aC) (x1 := x1) k2 k3
      rw [dm_c1 k1] at he
      have key : ∀ v : Value, dm_fv al x1 S a j = am_rl (dm_al al x1) v → k (pc + 3) ρ (v :: r) S = some g → (dm_n S ≤ dm_n SO ∧ dm_zz S ≤ dm_zz SO ∧ ∀ (H : Heap) (locs : List Loc) (ls : Array Slot), lv_has ls (dm_ml me) (am_rls (dm_al al x1) ρ) → va_P (dC, dI) vwCl (dm_W al aC x1 S) H → va_S (fun q => x0 ≤ q) s.heap H locs →
          W p l e R s m args below meth c H locs (dm_n S - N0) (dm_zz S - Z0) (MQ below (dm_Q al dC dI aC x0 x1 vO SO) args s (dm_n SO - N0) (dm_zz SO - Z0) (fun q => x0 ≤ q)) (F0 m pc ls ((Value.ref a :: r).map (am_rl (dm_al al x1))))) := by
        intro v hv hkv
        have q := hk _ _ _ _ hkv hN hZ
        refine ⟨q.1, q.2.1, fun H locs ls hl hP hS => ?_⟩
        have hv2 := dm_fv_get (al := al) (x1 := x1) (S := S) (a := a) f1
        rw [hv] at hv2
        rcases f2 with ⟨w1, w2⟩ | ⟨w1, w2⟩
        · rw [dm_own_a w1] at hown
          exact va_get (D := (dC, dI)) (T := am_T 10) (N := am_N 10) hx hb hts huw hown hK hP _ he hcl j (by rw [hN6]; exact f1) (hts _ w2) (fun _ h9 => h9) hv2 hd (q.2.2 H locs ls hl hP hS)
        · rw [dm_own_b w1] at hown
          exact va_getN (D := (dC, dI)) (T := am_T 10) (N := am_N 10) hx hb hts huw hown hK hP _ he hcl j (by rw [hN6]; exact f1) (va_Nw.use rfl (hNB _ w2)) (fun _ h9 => h9) hv2 hd (q.2.2 H locs ls hl hP hS)
      cases hj : dm_rj j with
      | true =>
        rw [hj] at h3
        obtain ⟨h4, h5⟩ := dm_if0 h3
        refine key (.ref (dm_g S a j).toNatClampNeg) ?_ h5
        unfold dm_fv
        rw [hj]
        show va_rf (dm_rf al x1 (dm_g S a j)) = _
        unfold dm_rf
        rw [if_neg h4]
        rfl
      | false =>
        rw [hj] at h3
        refine key (.int (dm_g S a j)) ?_ h3
        unfold dm_fv
        rw [hj]
        rfl
  case putfield ix =>
    cases Nat.eq_of_beq_eq_true hlen
    have hr : (match dm_fk me ix with
      | none => none
      | some j => bif Nat.beq j 4 then none else bif dm_rj j then dm_saa st (fun a x r => bif dm_ok S 1 a && Nat.blt x dm_bg then k (pc + 3) ρ r (dm_wr S a j (am_z (x : Int))) else none)
        else am_s1 st (fun x r => am_sa r (fun a r => bif dm_ok S 1 a then k (pc + 3) ρ r (dm_wr S a j x) else none))) = some g := hr
    cases hz : dm_fk me ix with
    | none => rw [hz] at hr; cases hr
    | some j =>
      rw [hz] at hr
      have hr : (bif Nat.beq j 4 then none else bif dm_rj j then dm_saa st (fun a x r => bif dm_ok S 1 a && Nat.blt x dm_bg then k (pc + 3) ρ r (dm_wr S a j (am_z (x : Int))) else none)
        else am_s1 st (fun x r => am_sa r (fun a r => bif dm_ok S 1 a then k (pc + 3) ρ r (dm_wr S a j x) else none))) = some g := hr
      have hj4 : j ≠ 4 := by
        rintro rfl
        cases hr
      have h40 : Nat.beq j 4 = false := by
        cases h9 : Nat.beq j 4 with
        | true => exact absurd (Nat.eq_of_beq_eq_true h9) hj4
        | false => rfl
      rw [h40] at hr
      obtain ⟨f1, f2⟩ := dm_fk_spec hz
      obtain ⟨y1, y2⟩ := dm_ty10 j f1 hj4
      have key : ∀ (a : Nat) (x : Value) (r : List Value) (v : Int32), dm_ok S 1 a = true → dm_fv al x1 (dm_wr S a j v) a j = am_rl (dm_al al x1) x → narrow (if dm_rj j then .array (.array .int) else .int) (am_rl (dm_al al x1) x) = am_rl (dm_al al x1) x → fits (if dm_rj j then .array (.array .int) else .int) (am_rl (dm_al al x1) x) = true →
          k (pc + 3) ρ r (dm_wr S a j v) = some g → (dm_n S ≤ dm_n SO ∧ dm_zz S ≤ dm_zz SO ∧ ∀ (H : Heap) (locs : List Loc) (ls : Array Slot), lv_has ls (dm_ml me) (am_rls (dm_al al x1) ρ) → va_P (dC, dI) vwCl (dm_W al aC x1 S) H → va_S (fun q => x0 ≤ q) s.heap H locs →
          W p l e R s m args below meth c H locs (dm_n S - N0) (dm_zz S - Z0) (MQ below (dm_Q al dC dI aC x0 x1 vO SO) args s (dm_n SO - N0) (dm_zz SO - Z0) (fun q => x0 ≤ q)) (F0 m pc ls ((x :: Value.ref a :: r).map (am_rl (dm_al al x1))))) := by
        intro a x r v h2 hv hna hfi hkv
        obtain ⟨k1, k2, k3⟩ := dm_ok_s h2
        have he := dm_get (al := al) (aC := aC) (x1 := x1) k2 k3
        rw [dm_c1 k1] at he
        have q := hk _ _ _ _ hkv hN hZ
        refine ⟨q.1, q.2.1, fun H locs ls hl hP hS => ?_⟩
        have fin : ∀ (H1 : Heap) (locs1 : List Loc), va_P (dC, dI) vwCl ((dm_W al aC x1 S).set (193 + (a - 1000)) (dm_al al x1 a, .inr (10, ((List.range 6).map (dm_fv al x1 S a)).set j (am_rl (dm_al al x1) x)))) H1 → va_S (fun q => x0 ≤ q) s.heap H1 locs1 →
            W p l e R s m args below meth c H1 locs1 (dm_n S - N0) (dm_zz S - Z0) (MQ below (dm_Q al dC dI aC x0 x1 vO SO) args s (dm_n SO - N0) (dm_zz SO - Z0) (fun q => x0 ≤ q)) (F0 m (pc + 3) ls (r.map (am_rl (dm_al al x1)))) := by
          intro H1 locs1 hP1 hS1
          rw [dm_set_o f1 hv, dm_set k2 k3 (dm_c1 (S := dm_wr S a j v) k1)] at hP1
          exact q.2.2 H1 locs1 ls hl hP1 hS1
        rcases f2 with ⟨w1, w2⟩ | ⟨w1, w2⟩
        · rw [dm_own_a w1] at hown
          exact va_put (D := (dC, dI)) (T := am_T 10) (N := am_N 10) hx hb hts huw ty0 hty hnm hown hK hP (hD _) hS _ he hcl j (by rw [hN6]; exact f1) (hts _ w2) (fun _ h9 => h9) y1 y2 hna hfi (by simpa using f1) hd (fun H1 locs1 q1 _ q3 => fin H1 locs1 q1 q3)
        · rw [dm_own_b w1] at hown
          exact va_putN (D := (dC, dI)) (T := am_T 10) (N := am_N 10) hx hb hts huw ty0 hty hnm hown hK hP (hD _) hS _ he hcl j (by rw [hN6]; exact f1) (va_Nw.use rfl (hNB _ w2)) (fun _ h9 => h9) y1 y2 hna hfi (by simpa using f1) hd (fun H1 locs1 q1 _ q3 => fin H1 locs1 q1 q3)
      cases hj : dm_rj j with
      | true =>
        rw [hj] at hr
        obtain ⟨a, x, r, rfl, h1⟩ := dm_saa_some hr
        obtain ⟨h2, h3⟩ := am_bif h1
        rw [Bool.and_eq_true] at h2
        refine key a (.ref x) r (am_z (x : Int)) h2.1 ?_ (by rw [hj]; rfl) (by rw [hj]; rfl) h3
        unfold dm_fv
        rw [hj, dm_wr_g, if_pos rfl, dm_rf_z (Nat.blt_eq.mp h2.2)]
        rfl
      | false =>
        rw [hj] at hr
        obtain ⟨x, r0, rfl, h00⟩ := am_s1_some hr
        obtain ⟨a, r, rfl, h1⟩ := am_sa_some h00
        obtain ⟨h2, h3⟩ := am_bif h1
        refine key a (.int x) r x h2 ?_ (by rw [hj]; rfl) (by rw [hj]; rfl) h3
        unfold dm_fv
        rw [hj, dm_wr_g, if_pos rfl]
        rfl
  case iaload =>
    cases Nat.eq_of_beq_eq_true hlen
    have hr : am_sia st (fun a x r => bif dm_ok S 2 a && am_in x (dm_len S a) then k (pc + 1) ρ (.int (dm_g S a x.toNatClampNeg) :: r) S else none) = some g := hr
    obtain ⟨a, x, r, rfl, h1⟩ := am_sia_some hr
    obtain ⟨h2, h3⟩ := am_bif h1
    rw [Bool.and_eq_true] at h2
    obtain ⟨k1, k2, k3⟩ := dm_ok_s h2.1
    have he := dm_get (al := al) (aC := aC) (x1 := x1) k2 k3
    rw [dm_c2 k1] at he
    have q := hk _ _ _ _ h3 hN hZ
    exact ⟨q.1, q.2.1, fun H locs ls hl hP hS => va_iald hx hb hK hP _ 0 he hT0 (am_in_spec h2.2) hd (q.2.2 H locs ls hl hP hS)⟩
  case iastore =>
    cases Nat.eq_of_beq_eq_true hlen
    have hr : am_siia st (fun a i x r => bif dm_ok S 2 a && am_in i (dm_len S a) then k (pc + 1) ρ r (dm_wr S a i.toNatClampNeg x) else none) = some g := hr
    obtain ⟨a, i, x, r, rfl, h1⟩ := am_siia_some hr
    obtain ⟨h2, h3⟩ := am_bif h1
    rw [Bool.and_eq_true] at h2
    obtain ⟨k1, k2, k3⟩ := dm_ok_s h2.1
    have he := dm_get (al := al) (aC := aC) (x1 := x1) k2 k3
    rw [dm_c2 k1] at he
    have q := hk _ _ _ _ h3 hN hZ
    refine ⟨q.1, q.2.1, fun H locs ls hl hP hS => va_iast hx hb hK hP (hD _) hS _ 0 he hT0 (am_in_spec h2.2) hd (fun H1 locs1 hP1 _ hS1 => ?_)⟩
    have e1 : upd (dm_g S a) i.toNatClampNeg x = dm_g (dm_wr S a i.toNatClampNeg x) a := by
      funext j
      rw [dm_wr_g]
      rfl
    rw [e1, ← show dm_len (dm_wr S a i.toNatClampNeg x) a = dm_len S a from rfl, ← dm_c2 (al := al) (x1 := x1) (S := dm_wr S a i.toNatClampNeg x) (a := a) k1, dm_set k2 k3 rfl] at hP1
    exact q.2.2 H1 locs1 ls hl hP1 hS1
  case aaload =>
    cases Nat.eq_of_beq_eq_true hlen
    have hr : am_sia st (fun a x r => bif dm_ok S 3 a && am_in x (dm_len S a) then (if dm_g S a x.toNatClampNeg < 0 then none else k (pc + 1) ρ (.ref (dm_g S a x.toNatClampNeg).toNatClampNeg :: r) S) else none) = some g := hr
    obtain ⟨a, x, r, rfl, h1⟩ := am_sia_some hr
    obtain ⟨h2, h3⟩ := am_bif h1
    rw [Bool.and_eq_true] at h2
    obtain ⟨h4, h5⟩ := dm_if0 h3
    obtain ⟨k1, k2, k3⟩ := dm_ok_s h2.1
    have he := dm_get (al := al) (aC := aC) (x1 := x1) k2 k3
    rw [dm_c3 k1] at he
    have hin := am_in_spec h2.2
    have hlt : x.toNatClampNeg < dm_len S a := Nat.not_le.mp fun q => hin (Or.inr q)
    have q := hk _ _ _ _ h5 hN hZ
    refine ⟨q.1, q.2.1, fun H locs ls hl hP hS => ?_⟩
    have e1 : dm_rf al x1 (dm_g S a x.toNatClampNeg) = some (dm_al al x1 (dm_g S a x.toNatClampNeg).toNatClampNeg) := by
      unfold dm_rf
      rw [if_neg h4]
    exact W.aald (v := .ref (dm_al al x1 (dm_g S a x.toNatClampNeg).toNatClampNeg)) (ty := .array .int) hx hb (hP _ _ he) ((hK.2 _ _ hT6).1 (dm_len S a) (fun j => va_rf (dm_rf al x1 (dm_g S a j)))) rfl (fun q => by cases q) (by show ¬ (x < 0 ∨ (arrV _ _ _).slots.size ≤ _); rw [arrV_size]; exact hin) (by show (arrV _ _ _).slots[_]? = _; rw [arrV_read _ _ hlt]; show some (va_rf (dm_rf al x1 (dm_g S a x.toNatClampNeg))) = _; rw [e1]; rfl) rfl rfl hd (q.2.2 H locs ls hl hP hS)
  case aastore =>
    cases Nat.eq_of_beq_eq_true hlen
    have hr : dm_saia st (fun a i x r => bif dm_ok S 3 a && am_in i (dm_len S a) && dm_ok S 2 x && Nat.blt x dm_bg then k (pc + 1) ρ r (dm_wr S a i.toNatClampNeg (am_z (x : Int))) else none) = some g := hr
    obtain ⟨a, i, x, r, rfl, h1⟩ := dm_saia_some hr
    obtain ⟨h2, h3⟩ := am_bif h1
    simp only [Bool.and_eq_true] at h2
    obtain ⟨⟨⟨b1, b2⟩, b3⟩, b4⟩ := h2
    obtain ⟨k1, k2, k3⟩ := dm_ok_s b1
    obtain ⟨j1, j2, j3⟩ := dm_ok_s b3
    have he := dm_get (al := al) (aC := aC) (x1 := x1) k2 k3
    rw [dm_c3 k1] at he
    have hv := dm_get (al := al) (aC := aC) (x1 := x1) j2 j3
    rw [dm_c2 j1] at hv
    have hin := am_in_spec b2
    have hlt : i.toNatClampNeg < dm_len S a := Nat.not_le.mp fun q => hin (Or.inr q)
    have h0 : ¬ i < 0 := fun q => hin (Or.inl q)
    have q := hk _ _ _ _ h3 hN hZ
    refine ⟨q.1, q.2.1, fun H locs ls hl hP hS => ?_⟩
    have hover : (Cond.arrayOver (.array .int)).before args s = true := show va_Nw (.arrayOver (.array .int)) s from hNB (.arrayOver (.array .int)) (by simp [dm_NB])
    obtain ⟨comp, cA, kA, hcomp, hidx, hkA, hkindA, hnameA⟩ := arrayOverA_spec hover
    have hcA : cA = aC 6 := by
      have h9 : va_RA s (aC 6) (.array .int) := (hK.2 6 _ hT6).2
      have h9 : s.vm.findClass ("[" ++ (FieldType.array FieldType.int).toString) = some (aC 6) := h9
      exact Option.some.inj (hnameA.symm.trans h9)
    have hcI : comp = aC 0 := by
      have h9 := va_nm_int (hK.2 0 _ hT0).2
      exact Option.some.inj (hcomp.symm.trans h9)
    subst hcA
    subst hcI
    obtain ⟨kI, hkI, -⟩ := Vm.findClass_spec hcomp
    have hself : s.vm.assignable (aC 0) (aC 0) = true := dm_self _ _
    refine W.aast (t := .array .int) hx hb (hP _ _ he) (fun q h => by cases h) (fun h => by cases h) hkA hkindA rfl hkI ⟨h0, by show _ < (arrV _ _ _).slots.size; rw [arrV_size]; exact hlt⟩ (hP _ _ hv) (fun q h => by cases h) hkI hself rfl rfl hd fun H1 e1 z1 oq => ?_
    have hS1 := hS.put (k := i.toNatClampNeg) z1 oq ((hD S).2 _ _ he)
    have hP1 := hP.set (hD S) he (e := .inl (aC 6, dm_len S a, .inr (.inr (.inr (.inr (va_up (fun j => dm_rf al x1 (dm_g S a j)) i.toNatClampNeg (some (dm_al al x1 x)))))))) (by
      show H1[_]? = some (vp_cell _ _)
      rw [e1]
      show some ((arrV (aC 6) (dm_len S a) (fun j => va_rf (dm_rf al x1 (dm_g S a j)))).setSlot i.toNatClampNeg (.ref (dm_al al x1 x))) = some (vp_cell (aC 6) (dm_len S a, .inr (.inr (.inr (.inr (va_up (fun j => dm_rf al x1 (dm_g S a j)) i.toNatClampNeg (some (dm_al al x1 x))))))))
      rw [vp_cell_q, arrV_store]
      refine congrArg some (congrArg (arrV (aC 6) (dm_len S a)) ?_)
      funext q9
      by_cases hq : q9 = i.toNatClampNeg
      · subst hq
        simp [updV, va_up, va_rf]
      · simp [updV, va_up, hq]) oq
    have e2 : va_up (fun j => dm_rf al x1 (dm_g S a j)) i.toNatClampNeg (some (dm_al al x1 x)) = fun j => dm_rf al x1 (dm_g (dm_wr S a i.toNatClampNeg (am_z (x : Int))) a j) := by
      funext j
      rw [dm_wr_g]
      show (if j = i.toNatClampNeg then some (dm_al al x1 x) else dm_rf al x1 (dm_g S a j)) = _
      by_cases hj : j = i.toNatClampNeg
      · rw [if_pos hj, if_pos hj, dm_rf_z (Nat.blt_eq.mp b4)]
      · rw [if_neg hj, if_neg hj]
    rw [e2, ← show dm_len (dm_wr S a i.toNatClampNeg (am_z (x : Int))) a = dm_len S a from rfl, ← dm_c3 (al := al) (x1 := x1) (S := dm_wr S a i.toNatClampNeg (am_z (x : Int))) (a := a) k1, dm_set k2 k3 rfl] at hP1
    exact q.2.2 H1 _ ls hl hP1 hS1
  case arraylength =>
    cases Nat.eq_of_beq_eq_true hlen
    have hr : am_sa st (fun a r => bif dm_ok S 2 a || dm_ok S 3 a then k (pc + 1) ρ (.int (Int32.ofNat (dm_len S a)) :: r) S else none) = some g := hr
    obtain ⟨a, r, rfl, h1⟩ := am_sa_some hr
    obtain ⟨h2, h3⟩ := am_bif h1
    have q := hk _ _ _ _ h3 hN hZ
    refine ⟨q.1, q.2.1, fun H locs ls hl hP hS => ?_⟩
    rw [Bool.or_eq_true] at h2
    rcases h2 with h2 | h2
    · obtain ⟨k1, k2, k3⟩ := dm_ok_s h2
      have he := dm_get (al := al) (aC := aC) (x1 := x1) k2 k3
      rw [dm_c2 k1] at he
      exact va_alen hx hb hK hP _ 0 he hT0 rfl hd (q.2.2 H locs ls hl hP hS)
    · obtain ⟨k1, k2, k3⟩ := dm_ok_s h2
      have he := dm_get (al := al) (aC := aC) (x1 := x1) k2 k3
      rw [dm_c3 k1] at he
      exact va_alen hx hb hK hP _ 6 he hT6 rfl hd (q.2.2 H locs ls hl hP hS)
  case newarray t =>
    cases Nat.eq_of_beq_eq_true hlen
    cases t
    case int =>
      have hr : am_s1 st (fun x r => if x < 0 then none else bif Nat.ble x.toNatClampNeg 100000 then k (pc + 2) ρ (.ref (dm_n S) :: r) (dm_nw S (2, 0, x.toNatClampNeg) (fun _ => 0) x.toNatClampNeg) else none) = some g := hr
      obtain ⟨x, r, rfl, h1⟩ := am_s1_some hr
      obtain ⟨h2, h3⟩ := dm_if0 h1
      obtain ⟨h4, h5⟩ := am_bif h3
      have h4 := Nat.le_of_ble_eq_true h4
      have en : dm_n (dm_nw S (2, 0, x.toNatClampNeg) (fun _ => 0) x.toNatClampNeg) = dm_n S + 1 := rfl
      have ez : dm_zz (dm_nw S (2, 0, x.toNatClampNeg) (fun _ => 0) x.toNatClampNeg) = dm_zz S + x.toNatClampNeg := rfl
      have q := hk _ _ _ _ h5 (by rw [en]; omega) (by rw [ez]; omega)
      rw [en, ez] at q
      refine ⟨by omega, by omega, fun H locs ls hl hP hS => ?_⟩
      refine dm_szW hP hS hsz hN0 hN rfl (fun hHz => ?_)
      have harr : (Cond.arrayClass FieldType.int).before args s = true := hts _ (dm_inT_spec (by decide +kernel))
      refine va_newaK (atype := .int) (N := x.toNatClampNeg) hx hb harr rfl hd rfl h2 rfl (by show x.toNatClampNeg * 4 ≤ _; omega) (by rw [hR]; show dm_n S - N0 + 1 ≤ dm_n SO - N0; omega) (by rw [hR]; show dm_zz S - Z0 + x.toNatClampNeg ≤ dm_zz SO - Z0; omega) hHz (fun H1 cA e1 z1 o1 hAr hNm => ?_)
      have hcA : cA = aC 0 := by
        have h9 := va_nm_int (hK.2 0 _ hT0).2
        exact Option.some.inj (hNm.symm.trans h9)
      subst hcA
      have hP1 : va_P (dC, dI) vwCl (dm_W al aC x1 S ++ [(x1 + (dm_n S - 1000), .inl (aC 0, x.toNatClampNeg, .inl (fun _ => 0)))]) H1 := by
        refine va_P.app (hP.kept (fun kk q9 hkk => o1 _ (by rw [← hHz]; exact (hP kk q9 hkk).lt))) (fun kk q9 hkk => ?_)
        have hz9 : kk < 1 := (List.getElem?_eq_some_iff.mp hkk).1
        rw [show kk = 0 by omega] at hkk
        rw [← Option.some.inj hkk]
        show H1[_]? = some (vp_cell _ _)
        rw [vp_cell_i]
        exact e1
      have ek : (dm_k (dm_nw S (2, 0, x.toNatClampNeg) (fun _ => 0) x.toNatClampNeg) (dm_n S)) = (2, 0, x.toNatClampNeg) := if_pos rfl
      have eg : (dm_g (dm_nw S (2, 0, x.toNatClampNeg) (fun _ => 0) x.toNatClampNeg) (dm_n S)) = fun _ => 0 := by
        funext j
        exact if_pos rfl
      rw [dm_push (kd := (2, 0, x.toNatClampNeg)) (f := fun _ => 0) (z := x.toNatClampNeg) (by omega) (by rw [dm_c2 (by rw [ek])]; unfold dm_len; rw [ek, eg])] at hP1
      have hS1 : va_S (fun q => x0 ≤ q) s.heap H1 locs := ⟨Nat.le_trans hS.1 (by omega), fun q9 h8 h9 => by
        rw [o1 q9 (by have := hS.1; omega)]
        exact hS.2.1 q9 h8 h9, hS.2.2⟩
      have q3 := q.2.2 H1 locs ls hl hP1 hS1
      have e7 : dm_n S + 1 - N0 = dm_n S - N0 + 1 := by omega
      have e8 : dm_zz S + x.toNatClampNeg - Z0 = dm_zz S - Z0 + x.toNatClampNeg := by omega
      rw [e7, e8] at q3
      have e9 : am_rl (dm_al al x1) (.ref (dm_n S)) = .ref (x1 + (dm_n S - 1000)) := by
        show Value.ref (dm_al al x1 (dm_n S)) = _
        rw [dm_al_hi (by omega)]
      have q3 : W p l e R s m args below meth c H1 locs (dm_n S - N0 + 1) (dm_zz S - Z0 + x.toNatClampNeg) (MQ below (dm_Q al dC dI aC x0 x1 vO SO) args s (dm_n SO - N0) (dm_zz SO - Z0) (fun q => x0 ≤ q)) (F0 m (pc + 2) ls (am_rl (dm_al al x1) (.ref (dm_n S)) :: r.map (am_rl (dm_al al x1)))) := q3
      rw [e9] at q3
      exact q3
    all_goals exact absurd (show (none : Option γ) = some g from hr) (by simp)
  case multianewarray ix d =>
    cases Nat.eq_of_beq_eq_true hlen
    have hr : (bif Nat.beq d 2 && Nat.blt me 6 && Nat.beq ix 19 then am_s2 st (fun x y r => if x < 0 then none else if y < 0 then none else bif Nat.ble x.toNatClampNeg 1000 && Nat.ble y.toNatClampNeg 1000 && Nat.blt (dm_n S + 2000) dm_bg then k (pc + 4) ρ (.ref (dm_n S) :: r) (dm_mu S x.toNatClampNeg y.toNatClampNeg) else none) else none) = some g := hr
    obtain ⟨h0, h1⟩ := am_bif hr
    simp only [Bool.and_eq_true] at h0
    obtain ⟨x, y, r, rfl, h2⟩ := am_s2_some h1
    obtain ⟨h3, h4⟩ := dm_if0 h2
    obtain ⟨h5, h6⟩ := dm_if0 h4
    obtain ⟨h7, h8⟩ := am_bif h6
    rw [Bool.and_eq_true, Bool.and_eq_true] at h7
    have e1 : d = 2 := Nat.eq_of_beq_eq_true h0.1.1
    have e2 : ix = 19 := Nat.eq_of_beq_eq_true h0.2
    subst e1
    subst e2
    exact hmul x y r rfl (Nat.blt_eq.mp h0.1.2) rfl h3 h5 (Nat.le_of_ble_eq_true h7.1.1) (Nat.le_of_ble_eq_true h7.1.2) (Nat.blt_eq.mp h7.2) (hk _ _ _ _ h8) hN hZ
  case new ix =>
    cases Nat.eq_of_beq_eq_true hlen
    have hr : (bif Nat.beq me 6 && Nat.beq pc 0 && Nat.beq ix 155 && st.isEmpty && Nat.blt (dm_n S + 2000) dm_bg then k 7 ρ (.ref (dm_n S) :: st) (dm_sc S) else none) = some g := hr
    obtain ⟨h0, h1⟩ := am_bif hr
    simp only [Bool.and_eq_true] at h0
    obtain ⟨⟨⟨⟨b1, b2⟩, b3⟩, b4⟩, b5⟩ := h0
    exact hnew ix rfl (Nat.eq_of_beq_eq_true b2) (Nat.eq_of_beq_eq_true b1) (Nat.eq_of_beq_eq_true b3) (List.isEmpty_iff.mp b4) (Nat.blt_eq.mp b5) (hk _ _ _ _ h1) hN hZ
  case invokevirtual ix =>
    cases Nat.eq_of_beq_eq_true hlen
    exact hcall 0 ix (Or.inl ⟨rfl, rfl⟩) hr hN hZ
  case invokestatic ix =>
    cases Nat.eq_of_beq_eq_true hlen
    exact hcall 1 ix (Or.inr ⟨rfl, rfl⟩) hr hN hZ
  case ireturn =>
    cases Nat.eq_of_beq_eq_true hlen
    have hr : am_s1 st (fun x r => bif r.isEmpty && Nat.ble 7 me && Nat.ble me 9 then (if x &&& 1 = x then ret (some (.int x)) S else none) else none) = some g := hr
    obtain ⟨x, r, rfl, h1⟩ := am_s1_some hr
    obtain ⟨h2, h3⟩ := am_bif h1
    simp only [Bool.and_eq_true] at h2
    cases List.isEmpty_iff.mp h2.1.1
    have b1 := Nat.le_of_ble_eq_true h2.1.2
    have b2 := Nat.le_of_ble_eq_true h2.2
    by_cases hz : x &&& 1 = x
    · rw [if_pos hz] at h3
      obtain ⟨e1, e2⟩ := hret _ _ h3
      subst e1; subst e2
      refine ⟨Nat.le_refl _, Nat.le_refl _, fun H locs ls hl hP hS => ?_⟩
      have hre : dm_re me = some .boolean := by
        have : me = 7 ∨ me = 8 ∨ me = 9 := by omega
        rcases this with rfl | rfl | rfl <;> rfl
      refine dm_szW hP hS hsz hN0 hN rfl (fun hHz => ?_)
      exact W.zret (ty := .boolean) hx hb (by rw [hrt]; exact hre) (by show Value.int (x &&& 1) = _; rw [hz]) (fun t ht hW => ⟨rfl, by rw [ht]; exact hHz, by rw [ht]; exact hP, hS.F ht⟩) hS.2.2 hd
    · rw [if_neg hz] at h3; cases h3
  case areturn =>
    cases Nat.eq_of_beq_eq_true hlen
    have hr : am_sa st (fun x r => bif r.isEmpty && (Nat.beq me 2 || Nat.beq me 6) then ret (some (.ref x)) S else none) = some g := hr
    obtain ⟨x, r, rfl, h1⟩ := am_sa_some hr
    obtain ⟨h2, h3⟩ := am_bif h1
    rw [Bool.and_eq_true, Bool.or_eq_true] at h2
    cases List.isEmpty_iff.mp h2.1
    obtain ⟨e1, e2⟩ := hret _ _ h3
    subst e1; subst e2
    refine ⟨Nat.le_refl _, Nat.le_refl _, fun H locs ls hl hP hS => ?_⟩
    refine dm_szW hP hS hsz hN0 hN rfl (fun hHz => ?_)
    rcases h2.2 with z | z
    · have z := Nat.eq_of_beq_eq_true z
      subst z
      exact W.aret hx hb (by rw [hrt]; rfl) (Or.inr ⟨_, rfl⟩) (Or.inr ⟨_, rfl⟩) (fun t ht hW => ⟨rfl, by rw [ht]; exact hHz, by rw [ht]; exact hP, hS.F ht⟩) hS.2.2 hd
    · have z := Nat.eq_of_beq_eq_true z
      subst z
      exact W.aret hx hb (by rw [hrt]; rfl) (Or.inl ⟨_, rfl⟩) (Or.inr ⟨_, rfl⟩) (fun t ht hW => ⟨rfl, by rw [ht]; exact hHz, by rw [ht]; exact hP, hS.F ht⟩) hS.2.2 hd
  case return_ =>
    cases Nat.eq_of_beq_eq_true hlen
    have hr : (bif st.isEmpty && (Nat.blt me 2 || (Nat.blt 2 me && Nat.blt me 6)) then ret none S else none) = some g := hr
    obtain ⟨h2, h3⟩ := am_bif hr
    simp only [Bool.and_eq_true, Bool.or_eq_true] at h2
    cases List.isEmpty_iff.mp h2.1
    obtain ⟨e1, e2⟩ := hret _ _ h3
    subst e1; subst e2
    refine ⟨Nat.le_refl _, Nat.le_refl _, fun H locs ls hl hP hS => ?_⟩
    refine dm_szW hP hS hsz hN0 hN rfl (fun hHz => ?_)
    have hre : dm_re me = none := by
      have : me = 0 ∨ me = 1 ∨ me = 3 ∨ me = 4 ∨ me = 5 := by
        rcases h2.2 with z | z
        · have := Nat.blt_eq.mp z; omega
        · have := Nat.blt_eq.mp z.1; have := Nat.blt_eq.mp z.2; omega
      rcases this with rfl | rfl | rfl | rfl | rfl <;> rfl
    exact W.vret hx hb (by rw [hrt]; exact hre) (fun t ht hW => ⟨rfl, by rw [ht]; exact hHz, by rw [ht]; exact hP, hS.F ht⟩) hS.2.2 hd
  all_goals exact absurd (show (none : Option γ) = some g from hr) (by simp)
end DM3
