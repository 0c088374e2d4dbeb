section TM3
variable {p : Program} {l : Launch} {e : Env} {R : Room} {s : State} {m : MethodId} {args : Array Value} {below : List Frame} {meth : Method} {c : Code}
variable {γ : Type} {g : γ}
def tm_il (ins : Instr) (len : Nat) : Bool := match ins with
  | .iload _ => Nat.beq len 2
  | .aload _ => Nat.beq len 2
  | .istore _ => Nat.beq len 2
  | .astore _ => Nat.beq len 2
  | .bipush _ => Nat.beq len 2
  | .sipush _ => Nat.beq len 3
  | .ldc _ => Nat.beq len 2
  | .newarray _ => Nat.beq len 2
  | .iinc _ _ => Nat.beq len 3
  | .goto _ => Nat.beq len 3
  | .if_icmp _ _ => Nat.beq len 3
  | .ifCond _ _ => Nat.beq len 3
  | .ifnonnull _ => Nat.beq len 3
  | .getfield _ => Nat.beq len 3
  | .putfield _ => Nat.beq len 3
  | .getstatic _ => Nat.beq len 3
  | .checkcast _ => Nat.beq len 3
  | .invokevirtual _ => Nat.beq len 3
  | .invokestatic _ => Nat.beq len 3
  | .invokespecial _ => Nat.beq len 3
  | .new _ => Nat.beq len 3
  | _ => Nat.beq len 1
theorem tm_x1_some {st : List Value} {k : Value → Value → List Value → Option γ} (h : tm_x1 st k = some g) : ∃ v u r, st = v :: u :: r ∧ v.category = 1 ∧ u.category = 1 ∧ k v u r = some g := by
  unfold tm_x1 at h
  split at h
  · obtain ⟨h1, h2⟩ := am_bif h
    rw [Bool.and_eq_true] at h1
    exact ⟨_, _, _, rfl, Nat.eq_of_beq_eq_true h1.1, Nat.eq_of_beq_eq_true h1.2, h2⟩
  · cases h
theorem tm_ifR {b : Bool} {x y : Option γ} (h : (bif b then x else y) = some g) : (b = true ∧ x = some g) ∨ (b = false ∧ y = some g) := by
  cases b with
  | true => exact Or.inl ⟨rfl, h⟩
  | false => exact Or.inr ⟨rfl, h⟩
theorem tm_cs_s {a : Nat} (h : tm_cs a = true) : ∃ i, i < 8 ∧ a = 900 + i := by
  unfold tm_cs at h
  rw [Bool.and_eq_true] at h
  have h1 := Nat.le_of_ble_eq_true h.1
  have h2 := Nat.blt_eq.mp h.2
  exact ⟨a - 900, by omega, by omega⟩
theorem tm_cb_s {a : Nat} (h : tm_cb a = true) : ∃ i, i < 8 ∧ a = 920 + i := by
  unfold tm_cb at h
  rw [Bool.and_eq_true] at h
  have h1 := Nat.le_of_ble_eq_true h.1
  have h2 := Nat.blt_eq.mp h.2
  exact ⟨a - 920, by omega, by omega⟩
set_option maxRecDepth 1000000 in
theorem tm_fj_ok : (List.range 47).all (fun me => (tm_fkL.getD me []).all (fun q => (!(Nat.beq q.2.1 11) || Nat.beq q.2.2 0 || Nat.beq q.2.2 1) && (Nat.beq q.2.2 0 || Nat.beq q.2.2 1 || Nat.beq q.2.2 3))) = true := by decide +kernel
theorem tm_fk_j {me ix ci j : Nat} (hm : me < 47) (h : tm_fk me ix = some (ci, j)) : ci = 11 → j = 0 ∨ j = 1 := by
  have h1 := List.all_eq_true.mp (List.all_eq_true.mp tm_fj_ok me (List.mem_range.mpr hm)) _ (am_lk_mem _ _ _ h)
  rw [Bool.and_eq_true, Bool.or_eq_true, Bool.or_eq_true] at h1
  rintro rfl
  rcases h1.1 with (z | z) | z
  · exact absurd (show false = true from z) (by decide)
  · exact Or.inl (Nat.eq_of_beq_eq_true z)
  · exact Or.inr (Nat.eq_of_beq_eq_true z)
theorem tm_fk_j3 {me ix ci j : Nat} (hm : me < 47) (h : tm_fk me ix = some (ci, j)) : j = 0 ∨ j = 1 ∨ j = 3 := by
  have h1 := List.all_eq_true.mp (List.all_eq_true.mp tm_fj_ok me (List.mem_range.mpr hm)) _ (am_lk_mem _ _ _ h)
  rw [Bool.and_eq_true, Bool.or_eq_true, Bool.or_eq_true] at h1
  obtain ⟨-, h1⟩ := h1
  rw [Bool.or_eq_true, Bool.or_eq_true] at h1
  rcases h1 with (z | z) | z
  · exact Or.inl (Nat.eq_of_beq_eq_true z)
  · exact Or.inr (Or.inl (Nat.eq_of_beq_eq_true z))
  · exact Or.inr (Or.inr (Nat.eq_of_beq_eq_true z))
theorem tm_nofin : ∀ j, j < 4 → (tm_T 12 j).2.2.2 = false := by decide
set_option maxRecDepth 100000 in
theorem tm_nw : (dm_inT (.arrayClass .int) && dm_inT (.arrayClass .byte) && dm_inT (.classLink "java/util/Arrays" 311 "[B")) = true := by decide +kernel
/-- a new object of the text's -/
theorem tm_newW {al : Nat → Nat} {dC : Nat → ClassId} {dI : Nat → Nat → Nat} {aC : Nat → ClassId} {x0 x1 me N0 Z0 : Nat} {vO : Option Value} {SO S : dm_S} {H H1 : Heap} {locs : List Loc} {ls : Array Slot} {st : List Value} {pc : Nat} {kd : Nat × Nat × Nat} {f : Nat → Int32} {z : Nat} {E : va_E} {ρ : am_Lc}
    (hn : 1000 ≤ dm_n S) (hN : N0 ≤ dm_n S) (hZ : Z0 ≤ dm_zz S) (hP : va_P (dC, dI) vwCl (tm_W al aC x1 S) H) (hS : va_S (fun q => x0 ≤ q) s.heap H locs) (hHz : H.size = x1 + (dm_n S - 1000)) (hE : tm_cell al aC x1 (dm_nw S kd f z) (dm_n S) = E) (z1 : H1.size = x1 + (dm_n S - 1000) + 1) (o1 : ∀ q, q < x1 + (dm_n S - 1000) → H1[q]? = H[q]?) (e1 : va_P (dC, dI) vwCl [(x1 + (dm_n S - 1000), E)] H1)
    (q : ∀ (H : Heap) (locs : List Loc) (ls : Array Slot), lv_has ls (tm_ml me) (am_rls (dm_al al x1) ρ) → va_P (dC, dI) vwCl (tm_W al aC x1 (dm_nw S kd f z)) H → va_S (fun q => x0 ≤ q) s.heap H locs →
      W p l e R s m args below meth c H locs (dm_n S + 1 - N0) (dm_zz S + z - Z0) (MQ below (tm_Q al dC dI aC x0 x1 vO SO) args s (dm_n SO - N0) (dm_zz SO - Z0) (fun q => x0 ≤ q)) (F0 m pc ls ((Value.ref (dm_n S) :: st).map (am_rl (dm_al al x1)))))
    (hl : lv_has ls (tm_ml me) (am_rls (dm_al al x1) ρ)) :
    W p l e R s m args below meth c H1 locs (dm_n S - N0 + 1) (dm_zz S - Z0 + z) (MQ below (tm_Q al dC dI aC x0 x1 vO SO) args s (dm_n SO - N0) (dm_zz SO - Z0) (fun q => x0 ≤ q)) (F0 m pc ls (.ref (x1 + (dm_n S - 1000)) :: st.map (am_rl (dm_al al x1)))) := by
  have hP1 : va_P (dC, dI) vwCl (tm_W al aC x1 S ++ [(x1 + (dm_n S - 1000), E)]) H1 := va_P.app (hP.kept (fun kk q9 hkk => o1 _ (by rw [← hHz]; exact (hP kk q9 hkk).lt))) e1
  rw [tm_push hn hE] at hP1
  have hS1 : va_S (fun q => x0 ≤ q) s.heap H1 locs := ⟨Nat.le_trans hS.1 (by omega), fun q9 h8 h9 => by
    rw [o1 q9 (by have := hS.1; omega)]
    exact hS.2.1 q9 h8 h9, hS.2.2⟩
  have q3 := q H1 locs ls hl hP1 hS1
  have e7 : dm_n S + 1 - N0 = dm_n S - N0 + 1 := by omega
  have e8 : dm_zz S + z - Z0 = dm_zz S - Z0 + z := by omega
  rw [e7, e8] at q3
  have e9 : am_rl (dm_al al x1) (.ref (dm_n S)) = .ref (x1 + (dm_n S - 1000)) := by
    show Value.ref (dm_al al x1 (dm_n S)) = _
    rw [dm_al_hi hn]
  have q3 : W p l e R s m args below meth c H1 locs (dm_n S - N0 + 1) (dm_zz S - Z0 + z) (MQ below (tm_Q al dC dI aC x0 x1 vO SO) args s (dm_n SO - N0) (dm_zz SO - Z0) (fun q => x0 ≤ q)) (F0 m pc ls (am_rl (dm_al al x1) (.ref (dm_n S)) :: st.map (am_rl (dm_al al x1)))) := q3
  rw [e9] at q3
  exact q3

set_option maxHeartbeats 8000000 in
theorem tm_op_sound {al : Nat → Nat} {dC : Nat → ClassId} {dI : Nat → Nat → Nat} {aC : Nat → ClassId} {aV : Nat → Nat} {x0 x1 : Nat} {X : tm_X} {me N0 Z0 : Nat} {vO : Option Value} {SO : dm_S} {pc len : Nat} {ins : Instr} {ρ : am_Lc} {st : List Value} {S : dm_S} {oC : am_Orc} {oD : dm_Orc} {ret : Option Value → dm_S → Option γ} {k : Nat → am_Lc → List Value → dm_S → Option γ}
    (hme : me < 45) (C : tm_Cx p R s m args meth c al dC dI aC aV x0 x1 X me N0 Z0 SO) (hd : decode (tm_cc me) pc = .ok (ins, len)) (hlen : tm_il ins len = true) (hret : ∀ v S', ret v S' = some g → v = vO ∧ S' = SO)
    (hk : ∀ pc' ρ' st' S', k pc' ρ' st' S' = some g → tm_At p l e R s m args below meth c al dC dI aC x0 x1 me N0 Z0 vO SO pc' ρ' st' S')
    (hcall : ∀ sv ix, (ins = .invokevirtual ix ∧ sv = 0 ∨ ins = .invokestatic ix ∧ sv = 1 ∨ ins = .invokespecial ix ∧ sv = 2) → tm_inv me sv pc ix ρ st S oC oD k = some g → tm_At p l e R s m args below meth c al dC dI aC x0 x1 me N0 Z0 vO SO pc ρ st S)
    (hr : tm_op X me pc ins len ρ st S oC oD ret k = some g) : tm_At p l e R s m args below meth c al dC dI aC x0 x1 me N0 Z0 vO SO pc ρ st S := by
  have C' := C
  obtain ⟨hx, hb, hml, hown, hts, hlocks, hrt, hK, hF, hX, hR, hA, hsz, hN0, hnm⟩ := C
  have hD : ∀ S', va_D (fun q => x0 ≤ q) (tm_W al aC x1 S') := fun S' => tm_VD hA
  have hAs : ∀ q, s.heap.size ≤ q → x0 ≤ q := fun q h => by
    have := hA.2
    omega
  have hT0 : (tm_tys aC)[0]? = some (aC 0, FieldType.int) := rfl
  have hT7 : (tm_tys aC)[7]? = some (aC 7, FieldType.byte) := rfl
  have hNw := tm_nw
  rw [Bool.and_eq_true, Bool.and_eq_true] at hNw
  intro hN hZ
  have hn1 : 1000 ≤ dm_n S := Nat.le_trans hN0 hN
  cases ins
  case iload_n i =>
    cases Nat.eq_of_beq_eq_true hlen
    obtain ⟨x, hm, h1⟩ := am_ldi_some hr
    have q := hk _ _ _ _ h1 hN hZ
    exact ⟨q.1, q.2.1, fun H locs ls hl hP hS => lv_iload_n hx hb hd rfl (hl.2.2 _ (am_rls_mem hm)) (q.2.2 H locs ls hl hP hS)⟩
  case iload i =>
    cases Nat.eq_of_beq_eq_true hlen
    obtain ⟨x, hm, h1⟩ := am_ldi_some hr
    have q := hk _ _ _ _ h1 hN hZ
    exact ⟨q.1, q.2.1, fun H locs ls hl hP hS => lv_iload hx hb hd (hl.2.2 _ (am_rls_mem hm)) (q.2.2 H locs ls hl hP hS)⟩
  case aload_n i =>
    cases Nat.eq_of_beq_eq_true hlen
    obtain ⟨x, hm, h1⟩ := am_lda_some hr
    have q := hk _ _ _ _ h1 hN hZ
    exact ⟨q.1, q.2.1, fun H locs ls hl hP hS => lv_aload_n hx hb hd rfl (hl.2.2 _ (am_rls_mem hm)) (q.2.2 H locs ls hl hP hS)⟩
  case aload i =>
    cases Nat.eq_of_beq_eq_true hlen
    obtain ⟨x, hm, h1⟩ := am_lda_some hr
    have q := hk _ _ _ _ h1 hN hZ
    exact ⟨q.1, q.2.1, fun H locs ls hl hP hS => lv_aload hx hb hd (hl.2.2 _ (am_rls_mem hm)) (q.2.2 H locs ls hl hP hS)⟩
  case istore_n i =>
    cases Nat.eq_of_beq_eq_true hlen
    obtain ⟨x, r, rfl, h1⟩ := am_s1_some hr
    obtain ⟨h2, h3⟩ := am_bif h1
    have q := hk _ _ _ _ h3 hN hZ
    exact ⟨q.1, q.2.1, fun H locs ls hl hP hS => lv_istore_n hx hb hd rfl hl (Nat.blt_eq.mp h2) am_rls_sti (fun ls hl => (q.2.2 H locs ls hl hP hS))⟩
  case istore i =>
    cases Nat.eq_of_beq_eq_true hlen
    obtain ⟨x, r, rfl, h1⟩ := am_s1_some hr
    obtain ⟨h2, h3⟩ := am_bif h1
    have q := hk _ _ _ _ h3 hN hZ
    exact ⟨q.1, q.2.1, fun H locs ls hl hP hS => lv_istore hx hb hd hl (Nat.blt_eq.mp h2) am_rls_sti (fun ls hl => (q.2.2 H locs ls hl hP hS))⟩
  case astore_n i =>
    cases Nat.eq_of_beq_eq_true hlen
    obtain ⟨x, r, rfl, h1⟩ := am_sa_some hr
    obtain ⟨h2, h3⟩ := am_bif h1
    have q := hk _ _ _ _ h3 hN hZ
    exact ⟨q.1, q.2.1, fun H locs ls hl hP hS => lv_astore_n hx hb hd rfl hl (Nat.blt_eq.mp h2) am_rls_sta (fun ls hl => (q.2.2 H locs ls hl hP hS))⟩
  case astore i =>
    cases Nat.eq_of_beq_eq_true hlen
    obtain ⟨x, r, rfl, h1⟩ := am_sa_some hr
    obtain ⟨h2, h3⟩ := am_bif h1
    have q := hk _ _ _ _ h3 hN hZ
    exact ⟨q.1, q.2.1, fun H locs ls hl hP hS => lv_astore hx hb hd hl (Nat.blt_eq.mp h2) am_rls_sta (fun ls hl => (q.2.2 H locs ls hl hP hS))⟩
  case iinc i n =>
    cases Nat.eq_of_beq_eq_true hlen
    obtain ⟨x, hm, h1⟩ := am_ldi_some hr
    obtain ⟨h2, h3⟩ := am_bif h1
    have q := hk _ _ _ _ h3 hN hZ
    obtain ⟨kk, hkk⟩ := List.getElem?_of_mem (am_rls_mem (al := dm_al al x1) hm)
    exact ⟨q.1, q.2.1, fun H locs ls hl hP hS => lv_iinc hx hb hd hl hkk rfl (Nat.blt_eq.mp h2) am_rls_sti (fun ls hl => (q.2.2 H locs ls hl hP hS))⟩
  case iconst n =>
    cases Nat.eq_of_beq_eq_true hlen
    skip
    have q := hk _ _ _ _ hr hN hZ
    exact ⟨q.1, q.2.1, fun H locs ls hl hP hS => lv_iconst hx hb hd rfl (q.2.2 H locs ls hl hP hS)⟩
  case bipush n =>
    cases Nat.eq_of_beq_eq_true hlen
    skip
    have q := hk _ _ _ _ hr hN hZ
    exact ⟨q.1, q.2.1, fun H locs ls hl hP hS => lv_bipush hx hb hd rfl (q.2.2 H locs ls hl hP hS)⟩
  case iadd =>
    cases Nat.eq_of_beq_eq_true hlen
    obtain ⟨x, y, r, rfl, h1⟩ := am_s2_some hr
    have q := hk _ _ _ _ h1 hN hZ
    exact ⟨q.1, q.2.1, fun H locs ls hl hP hS => lv_iadd hx hb hd (q.2.2 H locs ls hl hP hS)⟩
  case isub =>
    cases Nat.eq_of_beq_eq_true hlen
    obtain ⟨x, y, r, rfl, h1⟩ := am_s2_some hr
    have q := hk _ _ _ _ h1 hN hZ
    exact ⟨q.1, q.2.1, fun H locs ls hl hP hS => lv_isub hx hb hd (q.2.2 H locs ls hl hP hS)⟩
  case imul =>
    cases Nat.eq_of_beq_eq_true hlen
    obtain ⟨x, y, r, rfl, h1⟩ := am_s2_some hr
    have q := hk _ _ _ _ h1 hN hZ
    exact ⟨q.1, q.2.1, fun H locs ls hl hP hS => lv_imul hx hb hd (q.2.2 H locs ls hl hP hS)⟩
  case dup =>
    cases Nat.eq_of_beq_eq_true hlen
    have hr : am_d1 st (fun v r => k (pc + 1) ρ (v :: v :: r) S) = some g := hr
    obtain ⟨v, r, rfl, hv, h1⟩ := am_d1_some hr
    have q := hk _ _ _ _ h1 hN hZ
    exact ⟨q.1, q.2.1, fun H locs ls hl hP hS => lv_dup hx hb hd (by rw [am_rl_cat]; exact hv) (q.2.2 H locs ls hl hP hS)⟩
  case pop =>
    cases Nat.eq_of_beq_eq_true hlen
    have hr : am_d1 st (fun _ r => k (pc + 1) ρ r S) = some g := hr
    obtain ⟨v, r, rfl, hv, h1⟩ := am_d1_some hr
    have q := hk _ _ _ _ h1 hN hZ
    exact ⟨q.1, q.2.1, fun H locs ls hl hP hS => lv_pop hx hb hd (by rw [am_rl_cat]; exact hv) (q.2.2 H locs ls hl hP hS)⟩
  case goto off =>
    cases Nat.eq_of_beq_eq_true hlen
    obtain ⟨t, ht, h1⟩ := am_to_some hr
    have q := hk _ _ _ _ h1 hN hZ
    exact ⟨q.1, q.2.1, fun H locs ls hl hP hS => lv_goto hx hb hd ht (q.2.2 H locs ls hl hP hS)⟩
  case if_icmp cd off =>
    cases Nat.eq_of_beq_eq_true hlen
    obtain ⟨x, y, r, rfl, h1⟩ := am_s2_some hr
    obtain ⟨t, ht, h2⟩ := am_to_some h1
    cases cd with
    | eq =>
      by_cases zz : x = y
      · have h3 := (if_pos zz).symm.trans h2
        have q := hk _ _ _ _ h3 hN hZ
        exact ⟨q.1, q.2.1, fun H locs ls hl hP hS => lv_icmp_eq hx hb hd ht (fun _ => (q.2.2 H locs ls hl hP hS)) (fun z => absurd zz z)⟩
      · have h3 := (if_neg zz).symm.trans h2
        have q := hk _ _ _ _ h3 hN hZ
        exact ⟨q.1, q.2.1, fun H locs ls hl hP hS => lv_icmp_eq hx hb hd ht (fun z => absurd z zz) (fun _ => (q.2.2 H locs ls hl hP hS))⟩
    | ne =>
      by_cases zz : x = y
      · have h3 := (if_pos zz).symm.trans h2
        have q := hk _ _ _ _ h3 hN hZ
        exact ⟨q.1, q.2.1, fun H locs ls hl hP hS => lv_icmp_ne hx hb hd ht (fun z => absurd zz z) (fun _ => (q.2.2 H locs ls hl hP hS))⟩
      · have h3 := (if_neg zz).symm.trans h2
        have q := hk _ _ _ _ h3 hN hZ
        exact ⟨q.1, q.2.1, fun H locs ls hl hP hS => lv_icmp_ne hx hb hd ht (fun _ => (q.2.2 H locs ls hl hP hS)) (fun z => absurd z zz)⟩
    | lt =>
      by_cases zz : x < y
      · have h3 := (if_pos zz).symm.trans h2
        have q := hk _ _ _ _ h3 hN hZ
        exact ⟨q.1, q.2.1, fun H locs ls hl hP hS => lv_icmp_lt hx hb hd ht (fun _ => (q.2.2 H locs ls hl hP hS)) (fun z => absurd zz z)⟩
      · have h3 := (if_neg zz).symm.trans h2
        have q := hk _ _ _ _ h3 hN hZ
        exact ⟨q.1, q.2.1, fun H locs ls hl hP hS => lv_icmp_lt hx hb hd ht (fun z => absurd z zz) (fun _ => (q.2.2 H locs ls hl hP hS))⟩
    | ge =>
      by_cases zz : y ≤ x
      · have h3 := (if_pos zz).symm.trans h2
        have q := hk _ _ _ _ h3 hN hZ
        exact ⟨q.1, q.2.1, fun H locs ls hl hP hS => lv_icmp_ge hx hb hd ht (fun _ => (q.2.2 H locs ls hl hP hS)) (fun z => absurd zz z)⟩
      · have h3 := (if_neg zz).symm.trans h2
        have q := hk _ _ _ _ h3 hN hZ
        exact ⟨q.1, q.2.1, fun H locs ls hl hP hS => lv_icmp_ge hx hb hd ht (fun z => absurd z zz) (fun _ => (q.2.2 H locs ls hl hP hS))⟩
    | gt =>
      by_cases zz : y < x
      · have h3 := (if_pos zz).symm.trans h2
        have q := hk _ _ _ _ h3 hN hZ
        exact ⟨q.1, q.2.1, fun H locs ls hl hP hS => lv_icmp_gt hx hb hd ht (fun _ => (q.2.2 H locs ls hl hP hS)) (fun z => absurd zz z)⟩
      · have h3 := (if_neg zz).symm.trans h2
        have q := hk _ _ _ _ h3 hN hZ
        exact ⟨q.1, q.2.1, fun H locs ls hl hP hS => lv_icmp_gt hx hb hd ht (fun z => absurd z zz) (fun _ => (q.2.2 H locs ls hl hP hS))⟩
    | le =>
      by_cases zz : x ≤ y
      · have h3 := (if_pos zz).symm.trans h2
        have q := hk _ _ _ _ h3 hN hZ
        exact ⟨q.1, q.2.1, fun H locs ls hl hP hS => lv_icmp_le hx hb hd ht (fun _ => (q.2.2 H locs ls hl hP hS)) (fun z => absurd zz z)⟩
      · have h3 := (if_neg zz).symm.trans h2
        have q := hk _ _ _ _ h3 hN hZ
        exact ⟨q.1, q.2.1, fun H locs ls hl hP hS => lv_icmp_le hx hb hd ht (fun z => absurd z zz) (fun _ => (q.2.2 H locs ls hl hP hS))⟩
  case ifCond cd off =>
    cases Nat.eq_of_beq_eq_true hlen
    obtain ⟨x, r, rfl, h1⟩ := am_s1_some hr
    obtain ⟨t, ht, h2⟩ := am_to_some h1
    cases cd with
    | eq =>
      by_cases zz : x = 0
      · have h3 := (if_pos zz).symm.trans h2
        have q := hk _ _ _ _ h3 hN hZ
        exact ⟨q.1, q.2.1, fun H locs ls hl hP hS => lv_if_eq hx hb hd ht (fun _ => (q.2.2 H locs ls hl hP hS)) (fun z => absurd zz z)⟩
      · have h3 := (if_neg zz).symm.trans h2
        have q := hk _ _ _ _ h3 hN hZ
        exact ⟨q.1, q.2.1, fun H locs ls hl hP hS => lv_if_eq hx hb hd ht (fun z => absurd z zz) (fun _ => (q.2.2 H locs ls hl hP hS))⟩
    | ne =>
      by_cases zz : x = 0
      · have h3 := (if_pos zz).symm.trans h2
        have q := hk _ _ _ _ h3 hN hZ
        exact ⟨q.1, q.2.1, fun H locs ls hl hP hS => lv_if_ne hx hb hd ht (fun z => absurd zz z) (fun _ => (q.2.2 H locs ls hl hP hS))⟩
      · have h3 := (if_neg zz).symm.trans h2
        have q := hk _ _ _ _ h3 hN hZ
        exact ⟨q.1, q.2.1, fun H locs ls hl hP hS => lv_if_ne hx hb hd ht (fun _ => (q.2.2 H locs ls hl hP hS)) (fun z => absurd z zz)⟩
    | lt =>
      by_cases zz : x < 0
      · have h3 := (if_pos zz).symm.trans h2
        have q := hk _ _ _ _ h3 hN hZ
        exact ⟨q.1, q.2.1, fun H locs ls hl hP hS => lv_if_lt hx hb hd ht (fun _ => (q.2.2 H locs ls hl hP hS)) (fun z => absurd zz z)⟩
      · have h3 := (if_neg zz).symm.trans h2
        have q := hk _ _ _ _ h3 hN hZ
        exact ⟨q.1, q.2.1, fun H locs ls hl hP hS => lv_if_lt hx hb hd ht (fun z => absurd z zz) (fun _ => (q.2.2 H locs ls hl hP hS))⟩
    | ge =>
      by_cases zz : 0 ≤ x
      · have h3 := (if_pos zz).symm.trans h2
        have q := hk _ _ _ _ h3 hN hZ
        exact ⟨q.1, q.2.1, fun H locs ls hl hP hS => lv_if_ge hx hb hd ht (fun _ => (q.2.2 H locs ls hl hP hS)) (fun z => absurd zz z)⟩
      · have h3 := (if_neg zz).symm.trans h2
        have q := hk _ _ _ _ h3 hN hZ
        exact ⟨q.1, q.2.1, fun H locs ls hl hP hS => lv_if_ge hx hb hd ht (fun z => absurd z zz) (fun _ => (q.2.2 H locs ls hl hP hS))⟩
    | gt =>
      by_cases zz : 0 < x
      · have h3 := (if_pos zz).symm.trans h2
        have q := hk _ _ _ _ h3 hN hZ
        exact ⟨q.1, q.2.1, fun H locs ls hl hP hS => lv_if_gt hx hb hd ht (fun _ => (q.2.2 H locs ls hl hP hS)) (fun z => absurd zz z)⟩
      · have h3 := (if_neg zz).symm.trans h2
        have q := hk _ _ _ _ h3 hN hZ
        exact ⟨q.1, q.2.1, fun H locs ls hl hP hS => lv_if_gt hx hb hd ht (fun z => absurd z zz) (fun _ => (q.2.2 H locs ls hl hP hS))⟩
    | le =>
      by_cases zz : x ≤ 0
      · have h3 := (if_pos zz).symm.trans h2
        have q := hk _ _ _ _ h3 hN hZ
        exact ⟨q.1, q.2.1, fun H locs ls hl hP hS => lv_if_le hx hb hd ht (fun _ => (q.2.2 H locs ls hl hP hS)) (fun z => absurd zz z)⟩
      · have h3 := (if_neg zz).symm.trans h2
        have q := hk _ _ _ _ h3 hN hZ
        exact ⟨q.1, q.2.1, fun H locs ls hl hP hS => lv_if_le hx hb hd ht (fun z => absurd z zz) (fun _ => (q.2.2 H locs ls hl hP hS))⟩
  case sipush n =>
    cases Nat.eq_of_beq_eq_true hlen
    skip
    have q := hk _ _ _ _ hr hN hZ
    exact ⟨q.1, q.2.1, fun H locs ls hl hP hS => lv_sipush hx hb hd rfl (q.2.2 H locs ls hl hP hS)⟩
  case aconst_null =>
    cases Nat.eq_of_beq_eq_true hlen
    skip
    have q := hk _ _ _ _ hr hN hZ
    exact ⟨q.1, q.2.1, fun H locs ls hl hP hS => lv_null hx hb hd (q.2.2 H locs ls hl hP hS)⟩
  case iand =>
    cases Nat.eq_of_beq_eq_true hlen
    obtain ⟨x, y, r, rfl, h1⟩ := am_s2_some hr
    have q := hk _ _ _ _ h1 hN hZ
    exact ⟨q.1, q.2.1, fun H locs ls hl hP hS => lv_iand hx hb hd (q.2.2 H locs ls hl hP hS)⟩
  case ior =>
    cases Nat.eq_of_beq_eq_true hlen
    obtain ⟨x, y, r, rfl, h1⟩ := am_s2_some hr
    have q := hk _ _ _ _ h1 hN hZ
    exact ⟨q.1, q.2.1, fun H locs ls hl hP hS => lv_ior hx hb hd (q.2.2 H locs ls hl hP hS)⟩
  case ishl =>
    cases Nat.eq_of_beq_eq_true hlen
    obtain ⟨x, y, r, rfl, h1⟩ := am_s2_some hr
    have q := hk _ _ _ _ h1 hN hZ
    exact ⟨q.1, q.2.1, fun H locs ls hl hP hS => lv_ishl hx hb hd (q.2.2 H locs ls hl hP hS)⟩
  case ishr =>
    cases Nat.eq_of_beq_eq_true hlen
    obtain ⟨x, y, r, rfl, h1⟩ := am_s2_some hr
    have q := hk _ _ _ _ h1 hN hZ
    exact ⟨q.1, q.2.1, fun H locs ls hl hP hS => lv_ishr hx hb hd (q.2.2 H locs ls hl hP hS)⟩
  case idiv =>
    cases Nat.eq_of_beq_eq_true hlen
    obtain ⟨x, y, r, rfl, h0⟩ := am_s2_some hr
    obtain ⟨hne, h1⟩ := dm_if0 h0
    have q := hk _ _ _ _ h1 hN hZ
    exact ⟨q.1, q.2.1, fun H locs ls hl hP hS => lv_idiv hx hb hd hne (q.2.2 H locs ls hl hP hS)⟩
  case irem =>
    cases Nat.eq_of_beq_eq_true hlen
    obtain ⟨x, y, r, rfl, h0⟩ := am_s2_some hr
    obtain ⟨hne, h1⟩ := dm_if0 h0
    have q := hk _ _ _ _ h1 hN hZ
    exact ⟨q.1, q.2.1, fun H locs ls hl hP hS => lv_irem hx hb hd hne (q.2.2 H locs ls hl hP hS)⟩
  case ineg =>
    cases Nat.eq_of_beq_eq_true hlen
    obtain ⟨x, r, rfl, h1⟩ := am_s1_some hr
    have q := hk _ _ _ _ h1 hN hZ
    exact ⟨q.1, q.2.1, fun H locs ls hl hP hS => lv_ineg hx hb hd (q.2.2 H locs ls hl hP hS)⟩
  case i2b =>
    cases Nat.eq_of_beq_eq_true hlen
    obtain ⟨x, r, rfl, h1⟩ := am_s1_some hr
    have q := hk _ _ _ _ h1 hN hZ
    exact ⟨q.1, q.2.1, fun H locs ls hl hP hS => lv_i2b hx hb hd rfl (q.2.2 H locs ls hl hP hS)⟩
  case i2c =>
    cases Nat.eq_of_beq_eq_true hlen
    obtain ⟨x, r, rfl, h1⟩ := am_s1_some hr
    have q := hk _ _ _ _ h1 hN hZ
    exact ⟨q.1, q.2.1, fun H locs ls hl hP hS => lv_i2c hx hb hd rfl (q.2.2 H locs ls hl hP hS)⟩
  case dup2 =>
    cases Nat.eq_of_beq_eq_true hlen
    have hr : am_d2 st (fun v w r => k (pc + 1) ρ (v :: w :: v :: w :: r) S) = some g := hr
    obtain ⟨v, w, r, rfl, hv, hw, h1⟩ := am_d2_some hr
    have q := hk _ _ _ _ h1 hN hZ
    exact ⟨q.1, q.2.1, fun H locs ls hl hP hS => lv_dup2_11 hx hb hd (by rw [am_rl_cat]; exact hv) (by rw [am_rl_cat]; exact hw) (q.2.2 H locs ls hl hP hS)⟩
  case dup_x1 =>
    cases Nat.eq_of_beq_eq_true hlen
    have hr : tm_x1 st (fun v u r => k (pc + 1) ρ (v :: u :: v :: r) S) = some g := hr
    obtain ⟨v, u, r, rfl, hv, hu, h1⟩ := tm_x1_some hr
    have q := hk _ _ _ _ h1 hN hZ
    exact ⟨q.1, q.2.1, fun H locs ls hl hP hS => lv_dup_x1 hx hb hd (by rw [am_rl_cat]; exact hv) (by rw [am_rl_cat]; exact hu) (q.2.2 H locs ls hl hP hS)⟩
  case ifnonnull off =>
    cases Nat.eq_of_beq_eq_true hlen
    obtain ⟨x, r, rfl, h0⟩ := am_sa_some hr
    obtain ⟨t, ht, h1⟩ := am_to_some h0
    have q := hk _ _ _ _ h1 hN hZ
    exact ⟨q.1, q.2.1, fun H locs ls hl hP hS => lv_ifnonnull hx hb hd ht (q.2.2 H locs ls hl hP hS)⟩
  case ldc ix =>
    cases Nat.eq_of_beq_eq_true hlen
    have hr : (match tm_ck me ix with
      | some (.inl v) => k (pc + 2) ρ (.int v :: st) S
      | some (.inr r) => k (pc + 2) ρ (.ref r :: st) S
      | none => none) = some g := hr
    cases hz : tm_ck me ix with
    | none => rw [hz] at hr; cases hr
    | some v =>
      rw [hz] at hr
      have hv := tm_ck_spec (by omega) hz
      cases v with
      | inl v =>
        have q := hk _ _ _ _ hr hN hZ
        have hv : decide ((tm_own me, ix, v) ∈ tm_kc) = true := hv
        exact ⟨q.1, q.2.1, fun H locs ls hl hP hS => lv_ldc hx hb hown (va_Nw.use rfl (hX.2.2.1 _ (of_decide_eq_true hv))) hd (q.2.2 H locs ls hl hP hS)⟩
      | inr r =>
        have q := hk _ _ _ _ hr hN hZ
        have hv : (tm_cs r && decide (tm_own me = RL) && decide ((ix, r - 900) ∈ tm_rs)) = true := hv
        rw [Bool.and_eq_true, Bool.and_eq_true] at hv
        obtain ⟨i, hi, rfl⟩ := tm_cs_s hv.1.1
        have h9 := hX.2.1 _ (of_decide_eq_true hv.2)
        rw [of_decide_eq_true hv.1.2] at hown
        have e9 : dm_al al x1 (900 + i) = al (900 + (900 + i - 900)) := by
          rw [dm_al_lo (by omega)]
          exact congrArg al (by omega)
        refine ⟨q.1, q.2.1, fun H locs ls hl hP hS => va_ldcS hx hb hown h9 hd ?_⟩
        rw [← e9]
        exact (q.2.2 H locs ls hl hP hS)
  case getstatic ix =>
    cases Nat.eq_of_beq_eq_true hlen
    have hr : (match tm_sk me ix with
      | none => none
      | some j => bif Nat.beq j 1 then k (pc + 3) ρ (.int 1 :: st) S else k (pc + 3) ρ (.ref j :: st) S) = some g := hr
    cases hz : tm_sk me ix with
    | none => rw [hz] at hr; cases hr
    | some j =>
      rw [hz] at hr
      obtain ⟨f1, f2⟩ := tm_sk_spec hme hz
      rcases f1 with rfl | rfl | rfl
      · have q := hk _ _ _ _ (show k (pc + 3) ρ (.int 1 :: st) S = some g from hr) hN hZ
        exact ⟨q.1, q.2.1, fun H locs ls hl hP hS => va_gets hx hb hF.2.2.2.2.2.2.2.2.2.2.2.1 hS hown (hts _ f2) (fun _ h9 => h9) hd (q.2.2 H locs ls hl hP hS)⟩
      · have q := hk _ _ _ _ (show k (pc + 3) ρ (.ref 940 :: st) S = some g from hr) hN hZ
        exact ⟨q.1, q.2.1, fun H locs ls hl hP hS => va_gets hx hb hX.2.2.2.1.2 hS hown (hts _ f2) (fun _ h9 => h9) hd (q.2.2 H locs ls hl hP hS)⟩
      · have q := hk _ _ _ _ (show k (pc + 3) ρ (.ref 941 :: st) S = some g from hr) hN hZ
        exact ⟨q.1, q.2.1, fun H locs ls hl hP hS => va_gets hx hb hX.2.2.2.2.1.2 hS hown (hts _ f2) (fun _ h9 => h9) hd (q.2.2 H locs ls hl hP hS)⟩
  case getfield ix =>
    cases Nat.eq_of_beq_eq_true hlen
    have hr : (match tm_fk me ix with
      | none => none
      | some (ci, j) => am_sa st (fun a r => bif tm_cs a then (bif Nat.beq ci 11 then (bif Nat.beq j 0 then k (pc + 3) ρ (.ref (a + 20) :: r) S else bif Nat.beq j 1 then k (pc + 3) ρ (.int 0 :: r) S else none) else none)
        else bif dm_ok S (ci - 6) a then (bif Nat.beq j 0 then (if dm_g S a j < 0 then none else k (pc + 3) ρ (.ref (dm_g S a j).toNatClampNeg :: r) S) else k (pc + 3) ρ (.int (dm_g S a j) :: r) S) else none)) = some g := hr
    cases hz : tm_fk me ix with
    | none => rw [hz] at hr; cases hr
    | some qq =>
      obtain ⟨ci, j⟩ := qq
      rw [hz] at hr
      obtain ⟨a, r, rfl, h1⟩ := am_sa_some hr
      obtain ⟨f0, f1, f2⟩ := tm_fk_spec (by omega) hz
      rcases tm_ifR h1 with ⟨h2, h3⟩ | ⟨h2, h3⟩
      · obtain ⟨i, hi, rfl⟩ := tm_cs_s h2
        obtain ⟨h4, h5⟩ := am_bif h3
        cases Nat.eq_of_beq_eq_true h4
        obtain ⟨-, g2, g3, -⟩ := hX.1.1 i hi
        have e8 : dm_al al x1 (900 + i) = al (900 + i) := dm_al_lo (by omega)
        have e9 : dm_al al x1 (900 + i + 20) = al (920 + i) := by
          rw [dm_al_lo (by omega)]
          exact congrArg al (by omega)
        rcases tm_ifR h5 with ⟨h6, h7⟩ | ⟨h6, h7⟩
        · cases Nat.eq_of_beq_eq_true h6
          have q := hk _ _ _ _ h7 hN hZ
          refine ⟨q.1, q.2.1, fun H locs ls hl hP hS => ?_⟩
          have q3 := q.2.2 H locs ls hl hP hS
          have q3 : W p l e R s m args below meth c H locs (dm_n S - N0) (dm_zz S - Z0) (MQ below (tm_Q al dC dI aC x0 x1 vO SO) args s (dm_n SO - N0) (dm_zz SO - Z0) (fun q => x0 ≤ q)) (F0 m (pc + 3) ls (.ref (dm_al al x1 (900 + i + 20)) :: r.map (am_rl (dm_al al x1)))) := q3
          rw [e9] at q3
          show W p l e R s m args below meth c H locs _ _ _ (F0 m pc ls (.ref (dm_al al x1 (900 + i)) :: r.map (am_rl (dm_al al x1))))
          rw [e8]
          exact vk_getf hx hb g3 hS hown (hts _ f2) (fun _ h9 => h9) hd q3
        · obtain ⟨h8, h9⟩ := am_bif h7
          cases Nat.eq_of_beq_eq_true h8
          have q := hk _ _ _ _ h9 hN hZ
          refine ⟨q.1, q.2.1, fun H locs ls hl hP hS => ?_⟩
          have q3 := q.2.2 H locs ls hl hP hS
          show W p l e R s m args below meth c H locs _ _ _ (F0 m pc ls (.ref (dm_al al x1 (900 + i)) :: r.map (am_rl (dm_al al x1))))
          rw [e8]
          exact vk_getf hx hb g2 hS hown (hts _ f2) (fun _ h9 => h9) hd q3
      · obtain ⟨h4, h5⟩ := am_bif h3
        obtain ⟨k1, k2, k3⟩ := dm_ok_s h4
        have he := tm_get (al := al) (aC := aC) (x1 := x1) k2 k3
        rw [tm_co f0 k1] at he
        have key : ∀ v : Value, tm_fv al x1 S a j = am_rl (dm_al al x1) v → k (pc + 3) ρ (v :: r) S = some g → (dm_n S ≤ dm_n SO ∧ dm_zz S ≤ dm_zz SO ∧ ∀ (H : Heap) (locs : List Loc) (ls : Array Slot), lv_has ls (tm_ml me) (am_rls (dm_al al x1) ρ) → va_P (dC, dI) vwCl (tm_W al aC x1 S) H → va_S (fun q => x0 ≤ q) s.heap H locs →
            W p l e R s m args below meth c H locs (dm_n S - N0) (dm_zz S - Z0) (MQ below (tm_Q al dC dI aC x0 x1 vO SO) args s (dm_n SO - N0) (dm_zz SO - Z0) (fun q => x0 ≤ q)) (F0 m pc ls ((Value.ref a :: r).map (am_rl (dm_al al x1))))) := by
          intro v hv hkv
          have q := hk _ _ _ _ hkv hN hZ
          refine ⟨q.1, q.2.1, fun H locs ls hl hP hS => ?_⟩
          have hv2 := tm_fv_get (al := al) (x1 := x1) (S := S) (a := a) f1
          rw [hv] at hv2
          exact va_get (D := (dC, dI)) (T := tm_T ci) (N := 4) hx hb hts (tm_uw f0) hown hK hP _ he (tm_cl f0) j f1 (hts _ f2) (fun _ h9 => h9) hv2 hd (q.2.2 H locs ls hl hP hS)
        rcases tm_ifR h5 with ⟨h6, h7⟩ | ⟨h6, h7⟩
        · cases Nat.eq_of_beq_eq_true h6
          obtain ⟨h8, h9⟩ := dm_if0 h7
          refine key (.ref (dm_g S a 0).toNatClampNeg) ?_ h9
          show va_rf (dm_rf al x1 (dm_g S a 0)) = _
          unfold dm_rf
          rw [if_neg h8]
          rfl
        · refine key (.int (dm_g S a j)) ?_ h7
          unfold tm_fv
          rw [h6]
          rfl
  case putfield ix =>
    cases Nat.eq_of_beq_eq_true hlen
    have hr : (match tm_fk me ix with
      | none => none
      | some (ci, j) => bif Nat.beq ci 12 || Nat.beq me 35 then (bif Nat.beq j 0 then dm_saa st (fun a x r => bif dm_ok S (ci - 6) a && dm_ok S 4 x && Nat.blt x dm_bg then k (pc + 3) ρ r (dm_wr S a j (am_z (x : Int))) else none)
        else am_s1 st (fun x r => am_sa r (fun a r => bif dm_ok S (ci - 6) a && (bif Nat.beq j 1 then decide (x = 0) else true) then k (pc + 3) ρ r (dm_wr S a j x) else none))) else none) = some g := hr
    cases hz : tm_fk me ix with
    | none => rw [hz] at hr; cases hr
    | some qq =>
      obtain ⟨ci, j⟩ := qq
      rw [hz] at hr
      obtain ⟨h0, hr⟩ := am_bif hr
      obtain ⟨f0, f1, f2⟩ := tm_fk_spec (by omega) hz
      have f3 := tm_fk_j (by omega) hz
      have key : ∀ (a : Nat) (x : Value) (r : List Value) (v : Int32), dm_ok S (ci - 6) a = true → tm_fv al x1 (dm_wr S a j v) a j = am_rl (dm_al al x1) x → narrow (tm_ty ci j) (am_rl (dm_al al x1) x) = am_rl (dm_al al x1) x → fits (tm_ty ci j) (am_rl (dm_al al x1) x) = true →
          k (pc + 3) ρ r (dm_wr S a j v) = some g → (dm_n S ≤ dm_n SO ∧ dm_zz S ≤ dm_zz SO ∧ ∀ (H : Heap) (locs : List Loc) (ls : Array Slot), lv_has ls (tm_ml me) (am_rls (dm_al al x1) ρ) → va_P (dC, dI) vwCl (tm_W al aC x1 S) H → va_S (fun q => x0 ≤ q) s.heap H locs →
          W p l e R s m args below meth c H locs (dm_n S - N0) (dm_zz S - Z0) (MQ below (tm_Q al dC dI aC x0 x1 vO SO) args s (dm_n SO - N0) (dm_zz SO - Z0) (fun q => x0 ≤ q)) (F0 m pc ls ((x :: Value.ref a :: r).map (am_rl (dm_al al x1))))) := by
        intro a x r v h2 hv hna hfi hkv
        obtain ⟨k1, k2, k3⟩ := dm_ok_s h2
        have he := tm_get (al := al) (aC := aC) (x1 := x1) k2 k3
        rw [tm_co f0 k1] at he
        have q := hk _ _ _ _ hkv hN hZ
        refine ⟨q.1, q.2.1, fun H locs ls hl hP hS => ?_⟩
        have fin : ∀ (H1 : Heap) (locs1 : List Loc), va_P (dC, dI) vwCl ((tm_W al aC x1 S).set (193 + (a - 1000)) (dm_al al x1 a, .inr (ci, ((List.range 4).map (tm_fv al x1 S a)).set j (am_rl (dm_al al x1) x)))) H1 → va_S (fun q => x0 ≤ q) s.heap H1 locs1 →
            W p l e R s m args below meth c H1 locs1 (dm_n S - N0) (dm_zz S - Z0) (MQ below (tm_Q al dC dI aC x0 x1 vO SO) args s (dm_n SO - N0) (dm_zz SO - Z0) (fun q => x0 ≤ q)) (F0 m (pc + 3) ls (r.map (am_rl (dm_al al x1)))) := by
          intro H1 locs1 hP1 hS1
          rw [tm_set_o hv, tm_set k2 k3 (tm_co (S := dm_wr S a j v) f0 k1)] at hP1
          exact q.2.2 H1 locs1 ls hl hP1 hS1
        rcases f0 with rfl | rfl
        · have hm35 : me = 35 := by
            rw [Bool.or_eq_true] at h0
            rcases h0 with z | z
            · exact absurd (show Nat.beq 11 12 = true from z) (by decide)
            · exact Nat.eq_of_beq_eq_true z
          subst hm35
          have hj2 : j = 0 ∨ j = 1 := f3 rfl
          exact va_putF (D := (dC, dI)) (T := tm_T 11) (N := 4) hx hb hts (tm_uw (Or.inl rfl)) (tm_ty 11) (tm_ty_ok (Or.inl rfl)) (tm_nm (Or.inl rfl)) hown hK hP (hD _) hS _ he (tm_cl (Or.inl rfl)) j f1 (hts _ f2) (fun _ h9 => h9) (by rcases hj2 with rfl | rfl <;> rfl) (by rw [hnm]; rfl) (by rcases hj2 with rfl | rfl <;> rfl) (tm_ty_ok (Or.inl rfl) j f1) hna hfi (by simpa using f1) hd (fun H1 locs1 q1 _ q3 => fin H1 locs1 q1 q3)
        · exact va_put (D := (dC, dI)) (T := tm_T 12) (N := 4) hx hb hts (tm_uw (Or.inr rfl)) (tm_ty 12) (tm_ty_ok (Or.inr rfl)) (tm_nm (Or.inr rfl)) hown hK hP (hD _) hS _ he (tm_cl (Or.inr rfl)) j f1 (hts _ f2) (fun _ h9 => h9) (tm_nofin j f1) (tm_ty_ok (Or.inr rfl) j f1) hna hfi (by simpa using f1) hd (fun H1 locs1 q1 _ q3 => fin H1 locs1 q1 q3)
      have t0 : tm_ty ci 0 = .array .byte := by rcases f0 with rfl | rfl <;> rfl
      have t1 : tm_ty ci 1 = .byte := by rcases f0 with rfl | rfl <;> rfl
      rcases tm_ifR hr with ⟨h6, h7⟩ | ⟨h6, h7⟩
      · cases Nat.eq_of_beq_eq_true h6
        obtain ⟨a, x, r, rfl, h8⟩ := dm_saa_some h7
        obtain ⟨h9, h10⟩ := am_bif h8
        rw [Bool.and_eq_true, Bool.and_eq_true] at h9
        refine key a (.ref x) r (am_z (x : Int)) h9.1.1 ?_ (by rw [t0]; rfl) (by rw [t0]; rfl) h10
        show va_rf (dm_rf al x1 (dm_g (dm_wr S a 0 (am_z (x : Int))) a 0)) = _
        rw [dm_wr_g, if_pos rfl, dm_rf_z (Nat.blt_eq.mp h9.2)]
        rfl
      · obtain ⟨x, r0, rfl, h00⟩ := am_s1_some h7
        obtain ⟨a, r, rfl, h8⟩ := am_sa_some h00
        obtain ⟨h9, h10⟩ := am_bif h8
        rw [Bool.and_eq_true] at h9
        have hv : tm_fv al x1 (dm_wr S a j x) a j = am_rl (dm_al al x1) (.int x) := by
          unfold tm_fv
          rw [h6, dm_wr_g, if_pos rfl]
          rfl
        by_cases hj1 : j = 1
        · subst hj1
          have hx0 : x = 0 := of_decide_eq_true h9.2
          subst hx0
          exact key a (.int 0) r 0 h9.1 hv (by rw [t1]; rfl) (by rw [t1]; rfl) h10
        · have hj3 : ci = 12 ∧ j = 3 := by
            have hj0 : j ≠ 0 := fun z => by rw [z] at h6; cases h6
            rcases f0 with rfl | rfl
            · rcases f3 rfl with z | z <;> omega
            · refine ⟨rfl, ?_⟩
              have := tm_fk_j3 (by omega) hz
              omega
          obtain ⟨rfl, rfl⟩ := hj3
          exact key a (.int x) r x h9.1 hv rfl rfl h10
  case iaload =>
    cases Nat.eq_of_beq_eq_true hlen
    have hr : am_sia st (fun a x r => bif Nat.beq a 950 then (bif am_in x X.1 then k (pc + 1) ρ (.int (X.2 x.toNatClampNeg) :: r) S else none) else bif dm_ok S 2 a && am_in x (dm_len S a) then k (pc + 1) ρ (.int (dm_g S a x.toNatClampNeg) :: r) S else none) = some g := hr
    obtain ⟨a, x, r, rfl, h1⟩ := am_sia_some hr
    rcases tm_ifR h1 with ⟨h2, h3⟩ | ⟨h2, h3⟩
    · cases Nat.eq_of_beq_eq_true h2
      obtain ⟨h4, h5⟩ := am_bif h3
      have q := hk _ _ _ _ h5 hN hZ
      refine ⟨q.1, q.2.1, fun H locs ls hl hP hS => ?_⟩
      exact va_sld hx hb hX.2.2.2.2.2.1 hX.2.2.2.2.2.2.2.1 hX.2.2.2.2.2.2.1 hS (am_in_spec h4) hd (q.2.2 H locs ls hl hP hS)
    · obtain ⟨h4, h5⟩ := am_bif h3
      rw [Bool.and_eq_true] at h4
      obtain ⟨k1, k2, k3⟩ := dm_ok_s h4.1
      have he := tm_get (al := al) (aC := aC) (x1 := x1) k2 k3
      rw [tm_c2 k1] at he
      have q := hk _ _ _ _ h5 hN hZ
      exact ⟨q.1, q.2.1, fun H locs ls hl hP hS => va_iald hx hb hK hP _ 0 he hT0 (am_in_spec h4.2) hd (q.2.2 H locs ls hl hP hS)⟩
  case baload =>
    cases Nat.eq_of_beq_eq_true hlen
    have hr : am_sia st (fun a x r => bif Nat.beq a 940 || Nat.beq a 941 then (bif am_in x 100 then k (pc + 1) ρ (.int (tm_dg (a - 940) x.toNatClampNeg) :: r) S else none) else bif dm_ok S 4 a && am_in x (dm_len S a) then k (pc + 1) ρ (.int (tm_b (dm_g S a x.toNatClampNeg)) :: r) S else none) = some g := hr
    obtain ⟨a, x, r, rfl, h1⟩ := am_sia_some hr
    rcases tm_ifR h1 with ⟨h2, h3⟩ | ⟨h2, h3⟩
    · obtain ⟨h4, h5⟩ := am_bif h3
      have q := hk _ _ _ _ h5 hN hZ
      rw [Bool.or_eq_true] at h2
      rcases h2 with h2 | h2
      · cases Nat.eq_of_beq_eq_true h2
        exact ⟨q.1, q.2.1, fun H locs ls hl hP hS => va_tb hx hb hX.2.2.2.1.1 hS (am_in_spec h4) rfl hd (q.2.2 H locs ls hl hP hS)⟩
      · cases Nat.eq_of_beq_eq_true h2
        exact ⟨q.1, q.2.1, fun H locs ls hl hP hS => va_tb hx hb hX.2.2.2.2.1.1 hS (am_in_spec h4) rfl hd (q.2.2 H locs ls hl hP hS)⟩
    · obtain ⟨h4, h5⟩ := am_bif h3
      rw [Bool.and_eq_true] at h4
      obtain ⟨k1, k2, k3⟩ := dm_ok_s h4.1
      have he := tm_get (al := al) (aC := aC) (x1 := x1) k2 k3
      rw [tm_c4 k1] at he
      have q := hk _ _ _ _ h5 hN hZ
      exact ⟨q.1, q.2.1, fun H locs ls hl hP hS => va_bald hx hb hK hP _ 7 he hT7 (am_in_spec h4.2) hd (q.2.2 H locs ls hl hP hS)⟩
  case iastore =>
    cases Nat.eq_of_beq_eq_true hlen
    have hr : am_siia st (fun a i x r => bif dm_ok S 2 a && am_in i (dm_len S a) then k (pc + 1) ρ r (dm_wr S a i.toNatClampNeg x) else none) = some g := hr
    obtain ⟨a, i, x, r, rfl, h1⟩ := am_siia_some hr
    obtain ⟨h2, h3⟩ := am_bif h1
    rw [Bool.and_eq_true] at h2
    obtain ⟨k1, k2, k3⟩ := dm_ok_s h2.1
    have he := tm_get (al := al) (aC := aC) (x1 := x1) k2 k3
    rw [tm_c2 k1] at he
    have q := hk _ _ _ _ h3 hN hZ
    refine ⟨q.1, q.2.1, fun H locs ls hl hP hS => ?_⟩
    refine va_iast hx hb hK hP (hD _) hS _ 0 he hT0 (am_in_spec h2.2) hd (fun H1 locs1 hP1 _ hS1 => ?_)
    have e2 : upd (dm_g S a) i.toNatClampNeg x = dm_g (dm_wr S a i.toNatClampNeg x) a := by
      funext j
      rw [dm_wr_g]
      rfl
    rw [e2, ← show dm_len (dm_wr S a i.toNatClampNeg x) a = dm_len S a from rfl, ← tm_c2 (al := al) (x1 := x1) (S := dm_wr S a i.toNatClampNeg x) (a := a) k1, tm_set k2 k3 rfl] at hP1
    exact q.2.2 H1 _ ls hl hP1 hS1
  case bastore =>
    cases Nat.eq_of_beq_eq_true hlen
    have hr : am_siia st (fun a i x r => bif dm_ok S 4 a && am_in i (dm_len S a) then k (pc + 1) ρ r (dm_wr S a i.toNatClampNeg x) else none) = some g := hr
    obtain ⟨a, i, x, r, rfl, h1⟩ := am_siia_some hr
    obtain ⟨h2, h3⟩ := am_bif h1
    rw [Bool.and_eq_true] at h2
    obtain ⟨k1, k2, k3⟩ := dm_ok_s h2.1
    have he := tm_get (al := al) (aC := aC) (x1 := x1) k2 k3
    rw [tm_c4 k1] at he
    have q := hk _ _ _ _ h3 hN hZ
    refine ⟨q.1, q.2.1, fun H locs ls hl hP hS => ?_⟩
    refine va_bast hx hb hK hP (hD _) hS _ 7 he hT7 (am_in_spec h2.2) hd (fun H1 locs1 hP1 _ hS1 => ?_)
    have e2 : upd (fun j => tm_b (dm_g S a j)) i.toNatClampNeg (vp_nar .byte x) = fun j => tm_b (dm_g (dm_wr S a i.toNatClampNeg x) a j) := by
      funext j
      rw [dm_wr_g]
      show (if j = i.toNatClampNeg then tm_b x else tm_b (dm_g S a j)) = _
      by_cases hj : j = i.toNatClampNeg
      · rw [if_pos hj, if_pos hj]
      · rw [if_neg hj, if_neg hj]
    rw [e2, ← show dm_len (dm_wr S a i.toNatClampNeg x) a = dm_len S a from rfl, ← tm_c4 (al := al) (x1 := x1) (S := dm_wr S a i.toNatClampNeg x) (a := a) k1, tm_set k2 k3 rfl] at hP1
    exact q.2.2 H1 _ ls hl hP1 hS1
  case arraylength =>
    cases Nat.eq_of_beq_eq_true hlen
    have hr : am_sa st (fun a r => bif tm_cb a then k (pc + 1) ρ (.int (Int32.ofNat (tm_sl (a - 920))) :: r) S else bif Nat.beq a 950 then k (pc + 1) ρ (.int (Int32.ofNat X.1) :: r) S else bif dm_ok S 2 a || dm_ok S 4 a then k (pc + 1) ρ (.int (Int32.ofNat (dm_len S a)) :: r) S else none) = some g := hr
    obtain ⟨a, r, rfl, h1⟩ := am_sa_some hr
    rcases tm_ifR h1 with ⟨h2, h3⟩ | ⟨h2, h3⟩
    · obtain ⟨i, hi, rfl⟩ := tm_cb_s h2
      have q := hk _ _ _ _ h3 hN hZ
      refine ⟨q.1, q.2.1, fun H locs ls hl hP hS => ?_⟩
      have e8 : dm_al al x1 (920 + i) = al (920 + i) := dm_al_lo (by omega)
      show W p l e R s m args below meth c H locs _ _ _ (F0 m pc ls (.ref (dm_al al x1 (920 + i)) :: r.map (am_rl (dm_al al x1))))
      rw [e8]
      refine va_tlen hx hb (hX.1.1 i hi).2.2.2 hS ?_ hd (q.2.2 H locs ls hl hP hS)
      show Int32.ofNat (tm_slL.getD i 0) = Int32.ofNat (tm_slL.getD (920 + i - 920) 0)
      rw [Nat.add_sub_cancel_left]
    · rcases tm_ifR h3 with ⟨h4, h5⟩ | ⟨h4, h5⟩
      · cases Nat.eq_of_beq_eq_true h4
        have q := hk _ _ _ _ h5 hN hZ
        refine ⟨q.1, q.2.1, fun H locs ls hl hP hS => ?_⟩
        exact va_slen hx hb hX.2.2.2.2.2.1 hX.2.2.2.2.2.2.2.1 hX.2.2.2.2.2.2.1 hS hd (q.2.2 H locs ls hl hP hS)
      · obtain ⟨h6, h7⟩ := am_bif h5
        have q := hk _ _ _ _ h7 hN hZ
        refine ⟨q.1, q.2.1, fun H locs ls hl hP hS => ?_⟩
        rw [Bool.or_eq_true] at h6
        rcases h6 with h6 | h6
        · obtain ⟨k1, k2, k3⟩ := dm_ok_s h6
          have he := tm_get (al := al) (aC := aC) (x1 := x1) k2 k3
          rw [tm_c2 k1] at he
          exact va_alen hx hb hK hP _ 0 he hT0 rfl hd (q.2.2 H locs ls hl hP hS)
        · obtain ⟨k1, k2, k3⟩ := dm_ok_s h6
          have he := tm_get (al := al) (aC := aC) (x1 := x1) k2 k3
          rw [tm_c4 k1] at he
          exact va_alen hx hb hK hP _ 7 he hT7 rfl hd (q.2.2 H locs ls hl hP hS)
  case newarray t =>
    cases Nat.eq_of_beq_eq_true hlen
    cases t
    case int =>
      have hr : am_s1 st (fun x r => if x < 0 then none else bif Nat.ble x.toNatClampNeg 100000 then k (pc + 2) ρ (.ref (dm_n S) :: r) (dm_nw S (2, 0, x.toNatClampNeg) (fun _ => 0) x.toNatClampNeg) else none) = some g := hr
      obtain ⟨x, r, rfl, h1⟩ := am_s1_some hr
      obtain ⟨h2, h3⟩ := dm_if0 h1
      obtain ⟨h4, h5⟩ := am_bif h3
      have h4 := Nat.le_of_ble_eq_true h4
      have en : dm_n (dm_nw S (2, 0, x.toNatClampNeg) (fun _ => 0) x.toNatClampNeg) = dm_n S + 1 := rfl
      have ez : dm_zz (dm_nw S (2, 0, x.toNatClampNeg) (fun _ => 0) x.toNatClampNeg) = dm_zz S + x.toNatClampNeg := rfl
      have q := hk _ _ _ _ h5 (by rw [en]; omega) (by rw [ez]; omega)
      rw [en, ez] at q
      refine ⟨by omega, by omega, fun H locs ls hl hP hS => ?_⟩
      refine tm_szW hP hS hsz hN0 hN rfl (fun hHz => ?_)
      refine va_newaK (atype := .int) (N := x.toNatClampNeg) hx hb (hts _ (dm_inT_spec hNw.1.1)) rfl hd rfl h2 rfl (by show x.toNatClampNeg * 4 ≤ _; omega) (by rw [hR]; show dm_n S - N0 + 1 ≤ dm_n SO - N0; omega) (by rw [hR]; show dm_zz S - Z0 + x.toNatClampNeg ≤ dm_zz SO - Z0; omega) hHz (fun H1 cA e1 z1 o1 hAr hNm => ?_)
      have hcA : cA = aC 0 := by
        have h9 : va_RA s (aC 0) .int := (hK.2 0 _ hT0).2
        have h9 : s.vm.findClass ("[" ++ (FieldType.int).toString) = some (aC 0) := h9
        exact Option.some.inj (hNm.symm.trans h9)
      subst hcA
      have ek : (dm_k (dm_nw S (2, 0, x.toNatClampNeg) (fun _ => 0) x.toNatClampNeg) (dm_n S)) = (2, 0, x.toNatClampNeg) := if_pos rfl
      have eg : (dm_g (dm_nw S (2, 0, x.toNatClampNeg) (fun _ => 0) x.toNatClampNeg) (dm_n S)) = fun _ => 0 := by
        funext j
        exact if_pos rfl
      refine tm_newW (E := .inl (aC 0, x.toNatClampNeg, .inl (fun _ => 0))) hn1 hN hZ hP hS hHz ?_ z1 o1 (fun kk q9 hkk => ?_) q.2.2 hl
      · rw [tm_c2 (by rw [ek])]
        unfold dm_len
        rw [ek, eg]
      · have hz9 : kk < 1 := (List.getElem?_eq_some_iff.mp hkk).1
        rw [show kk = 0 by omega] at hkk
        rw [← Option.some.inj hkk]
        show H1[_]? = some (vp_cell _ _)
        rw [vp_cell_i]
        exact e1
    case byte =>
      have hr : am_s1 st (fun x r => if x < 0 then none else bif Nat.ble x.toNatClampNeg 100000 then k (pc + 2) ρ (.ref (dm_n S) :: r) (dm_nw S (4, 7, x.toNatClampNeg) (fun _ => 0) x.toNatClampNeg) else none) = some g := hr
      obtain ⟨x, r, rfl, h1⟩ := am_s1_some hr
      obtain ⟨h2, h3⟩ := dm_if0 h1
      obtain ⟨h4, h5⟩ := am_bif h3
      have h4 := Nat.le_of_ble_eq_true h4
      have en : dm_n (dm_nw S (4, 7, x.toNatClampNeg) (fun _ => 0) x.toNatClampNeg) = dm_n S + 1 := rfl
      have ez : dm_zz (dm_nw S (4, 7, x.toNatClampNeg) (fun _ => 0) x.toNatClampNeg) = dm_zz S + x.toNatClampNeg := rfl
      have q := hk _ _ _ _ h5 (by rw [en]; omega) (by rw [ez]; omega)
      rw [en, ez] at q
      refine ⟨by omega, by omega, fun H locs ls hl hP hS => ?_⟩
      refine tm_szW hP hS hsz hN0 hN rfl (fun hHz => ?_)
      refine va_newaK (atype := .byte) (N := x.toNatClampNeg) hx hb (hts _ (dm_inT_spec hNw.1.2)) rfl hd rfl h2 rfl (by show x.toNatClampNeg * 1 ≤ _; omega) (by rw [hR]; show dm_n S - N0 + 1 ≤ dm_n SO - N0; omega) (by rw [hR]; show dm_zz S - Z0 + x.toNatClampNeg ≤ dm_zz SO - Z0; omega) hHz (fun H1 cA e1 z1 o1 hAr hNm => ?_)
      have hcA : cA = aC 7 := by
        have h9 : va_RA s (aC 7) .byte := (hK.2 7 _ hT7).2
        have h9 : s.vm.findClass ("[" ++ (FieldType.byte).toString) = some (aC 7) := h9
        exact Option.some.inj (hNm.symm.trans h9)
      subst hcA
      have ek : (dm_k (dm_nw S (4, 7, x.toNatClampNeg) (fun _ => 0) x.toNatClampNeg) (dm_n S)) = (4, 7, x.toNatClampNeg) := if_pos rfl
      have eg : (dm_g (dm_nw S (4, 7, x.toNatClampNeg) (fun _ => 0) x.toNatClampNeg) (dm_n S)) = fun _ => 0 := by
        funext j
        exact if_pos rfl
      refine tm_newW (E := .inl (aC 7, x.toNatClampNeg, .inl (fun _ => 0))) hn1 hN hZ hP hS hHz ?_ z1 o1 (fun kk q9 hkk => ?_) q.2.2 hl
      · rw [tm_c4 (by rw [ek])]
        unfold dm_len
        rw [ek, eg]
        rfl
      · have hz9 : kk < 1 := (List.getElem?_eq_some_iff.mp hkk).1
        rw [show kk = 0 by omega] at hkk
        rw [← Option.some.inj hkk]
        show H1[_]? = some (vp_cell _ _)
        rw [vp_cell_i]
        exact e1
    all_goals exact absurd (show (none : Option γ) = some g from hr) (by simp)
  case new ix =>
    cases Nat.eq_of_beq_eq_true hlen
    have hr : (match tm_nk me ix with
      | none => none
      | some ci => bif Nat.blt (dm_n S + 2000) dm_bg then k (pc + 3) ρ (.ref (dm_n S) :: st) (dm_nw S (ci - 6, ci, 4) (fun j => if j = 0 then am_z (-1) else 0) 4) else none) = some g := hr
    cases hz : tm_nk me ix with
    | none => rw [hz] at hr; cases hr
    | some ci =>
      rw [hz] at hr
      obtain ⟨f0, f1, f2, f3⟩ := tm_nk_spec (by omega) hz
      obtain ⟨h4, h5⟩ := am_bif hr
      have en : dm_n (dm_nw S (ci - 6, ci, 4) (fun j => if j = 0 then am_z (-1) else 0) 4) = dm_n S + 1 := rfl
      have ez : dm_zz (dm_nw S (ci - 6, ci, 4) (fun j => if j = 0 then am_z (-1) else 0) 4) = dm_zz S + 4 := rfl
      have q := hk _ _ _ _ h5 (by rw [en]; omega) (by rw [ez]; omega)
      rw [en, ez] at q
      refine ⟨by omega, by omega, fun H locs ls hl hP hS => ?_⟩
      refine tm_szW hP hS hsz hN0 hN rfl (fun hHz => ?_)
      have hKn := hK.1 ci _ (tm_cl f0)
      refine W.newcK hx hb hown (hts _ f1) (hts _ f2) (hts _ f3) rfl hd (by rw [hR]; show dm_n S - N0 + 1 ≤ dm_n SO - N0; omega) (by rw [hR]; show dm_zz S - Z0 + 4 ≤ dm_zz SO - Z0; omega) hKn.2.1 hHz (fun H1 kC hkC e1 z1 o1 => ?_)
      have ek : (dm_k (dm_nw S (ci - 6, ci, 4) (fun j => if j = 0 then am_z (-1) else 0) 4) (dm_n S)) = (ci - 6, ci, 4) := if_pos rfl
      have eg : ∀ j, (dm_g (dm_nw S (ci - 6, ci, 4) (fun j => if j = 0 then am_z (-1) else 0) 4) (dm_n S)) j = if j = 0 then am_z (-1) else 0 := fun j => if_pos rfl
      refine tm_newW (E := .inr (ci, (List.range 4).map (tm_fv al x1 (dm_nw S (ci - 6, ci, 4) (fun j => if j = 0 then am_z (-1) else 0) 4) (dm_n S)))) hn1 hN hZ hP hS hHz (tm_co f0 (by rw [ek])) z1 o1 (fun kk q9 hkk => ?_) q.2.2 hl
      have hz9 : kk < 1 := (List.getElem?_eq_some_iff.mp hkk).1
      rw [show kk = 0 by omega] at hkk
      rw [← Option.some.inj hkk]
      refine ⟨_, tm_cl f0, (u_born (tm_ty ci) hts (tm_uw f0) hKn hkC e1 (tm_ty_ok f0)).to (fun j hj => ?_)⟩
      have e3 : vp_V ((List.range 4).map (tm_fv al x1 (dm_nw S (ci - 6, ci, 4) (fun j => if j = 0 then am_z (-1) else 0) 4) (dm_n S))) j = tm_fv al x1 (dm_nw S (ci - 6, ci, 4) (fun j => if j = 0 then am_z (-1) else 0) 4) (dm_n S) j := by
        unfold vp_V
        rw [List.getD_eq_getElem?_getD, tm_fv_get hj]
        rfl
      refine Eq.trans ?_ e3.symm
      unfold tm_fv
      rw [eg]
      have hj4 : j = 0 ∨ j = 1 ∨ j = 2 ∨ j = 3 := by have hj : j < 4 := hj; omega
      rcases hj4 with rfl | rfl | rfl | rfl
      · rw [if_pos rfl, dm_rf_m1]
        rcases f0 with rfl | rfl <;> rfl
      · rcases f0 with rfl | rfl <;> rfl
      · rcases f0 with rfl | rfl <;> rfl
      · rcases f0 with rfl | rfl <;> rfl
  case checkcast ix =>
    cases Nat.eq_of_beq_eq_true hlen
    have hr : am_sa st (fun a r => bif Nat.beq ix 311 && dm_ok S 4 a && (Nat.beq me 23 || Nat.beq me 39) then k (pc + 3) ρ (.ref a :: r) S else none) = some g := hr
    obtain ⟨a, r, rfl, h1⟩ := am_sa_some hr
    obtain ⟨h2, h3⟩ := am_bif h1
    rw [Bool.and_eq_true, Bool.and_eq_true, Bool.or_eq_true] at h2
    cases Nat.eq_of_beq_eq_true h2.1.1
    obtain ⟨k1, k2, k3⟩ := dm_ok_s h2.1.2
    have he := tm_get (al := al) (aC := aC) (x1 := x1) k2 k3
    rw [tm_c4 k1] at he
    have q := hk _ _ _ _ h3 hN hZ
    have ho9 : tm_own me = "java/util/Arrays" := by
      rcases h2.2 with z | z
      · cases Nat.eq_of_beq_eq_true z; rfl
      · cases Nat.eq_of_beq_eq_true z; rfl
    rw [ho9] at hown
    refine ⟨q.1, q.2.1, fun H locs ls hl hP hS => va_castE hx hb hown (hts _ (dm_inT_spec hNw.2)) ?_ hd (q.2.2 H locs ls hl hP hS)⟩
    have h9 : va_RA s (aC 7) .byte := (hK.2 7 _ hT7).2
    have h9 : s.vm.findClass ("[" ++ (FieldType.byte).toString) = some (aC 7) := h9
    exact ⟨_, hP _ _ he, rfl, h9⟩
  case invokevirtual ix =>
    cases Nat.eq_of_beq_eq_true hlen
    exact hcall 0 ix (Or.inl ⟨rfl, rfl⟩) hr hN hZ
  case invokestatic ix =>
    cases Nat.eq_of_beq_eq_true hlen
    exact hcall 1 ix (Or.inr (Or.inl ⟨rfl, rfl⟩)) hr hN hZ
  case invokespecial ix =>
    cases Nat.eq_of_beq_eq_true hlen
    exact hcall 2 ix (Or.inr (Or.inr ⟨rfl, rfl⟩)) hr hN hZ
  case ireturn =>
    cases Nat.eq_of_beq_eq_true hlen
    have hr : am_s1 st (fun x r => bif r.isEmpty && tm_ri me x then ret (some (.int x)) S else none) = some g := hr
    obtain ⟨x, r, rfl, h1⟩ := am_s1_some hr
    obtain ⟨h2, h3⟩ := am_bif h1
    rw [Bool.and_eq_true] at h2
    cases List.isEmpty_iff.mp h2.1
    obtain ⟨e1, e2⟩ := hret _ _ h3
    subst e1; subst e2
    refine ⟨Nat.le_refl _, Nat.le_refl _, fun H locs ls hl hP hS => ?_⟩
    refine tm_szW hP hS hsz hN0 hN rfl (fun hHz => ?_)
    have h4 := h2.2
    have h4 : ∃ t, tm_re me = some t ∧ narrow t (.int x) = .int x := by
      unfold tm_ri at h4
      split at h4
      · rename_i e9
        exact ⟨_, e9, rfl⟩
      · rename_i e9
        exact ⟨_, e9, of_decide_eq_true h4⟩
      · cases h4
    obtain ⟨t, hre, h5⟩ := h4
    exact W.zret (ty := t) hx hb (by rw [hrt]; exact hre) h5 (fun t ht hW => ⟨rfl, by rw [ht]; exact hHz, by rw [ht]; exact hP, hS.F ht⟩) hS.2.2 hd
  case areturn =>
    cases Nat.eq_of_beq_eq_true hlen
    have hr : am_sa st (fun x r => bif r.isEmpty && tm_rr me then ret (some (.ref x)) S else none) = some g := hr
    obtain ⟨x, r, rfl, h1⟩ := am_sa_some hr
    obtain ⟨h2, h3⟩ := am_bif h1
    rw [Bool.and_eq_true] at h2
    cases List.isEmpty_iff.mp h2.1
    obtain ⟨e1, e2⟩ := hret _ _ h3
    subst e1; subst e2
    refine ⟨Nat.le_refl _, Nat.le_refl _, fun H locs ls hl hP hS => ?_⟩
    refine tm_szW hP hS hsz hN0 hN rfl (fun hHz => ?_)
    have h4 := h2.2
    have hre : ∃ t, tm_re me = some t ∧ ((∃ n, t = .object n) ∨ ∃ u, t = .array u) := by
      unfold tm_rr at h4
      split at h4
      · rename_i n hz; exact ⟨_, hz, Or.inl ⟨n, rfl⟩⟩
      · rename_i u hz; exact ⟨_, hz, Or.inr ⟨u, rfl⟩⟩
      · cases h4
    obtain ⟨t, ht, hor⟩ := hre
    exact W.aret hx hb (by rw [hrt]; exact ht) hor (Or.inr ⟨_, rfl⟩) (fun t ht hW => ⟨rfl, by rw [ht]; exact hHz, by rw [ht]; exact hP, hS.F ht⟩) hS.2.2 hd
  case return_ =>
    cases Nat.eq_of_beq_eq_true hlen
    have hr : (bif st.isEmpty && decide (tm_re me = none) then ret none S else none) = some g := hr
    obtain ⟨h2, h3⟩ := am_bif hr
    rw [Bool.and_eq_true] at h2
    cases List.isEmpty_iff.mp h2.1
    obtain ⟨e1, e2⟩ := hret _ _ h3
    subst e1; subst e2
    refine ⟨Nat.le_refl _, Nat.le_refl _, fun H locs ls hl hP hS => ?_⟩
    refine tm_szW hP hS hsz hN0 hN rfl (fun hHz => ?_)
    exact W.vret hx hb (by rw [hrt]; exact of_decide_eq_true h2.2) (fun t ht hW => ⟨rfl, by rw [ht]; exact hHz, by rw [ht]; exact hP, hS.F ht⟩) hS.2.2 hd
  all_goals exact absurd (show (none : Option γ) = some g from hr) (by simp)
end TM3
