section TE5
variable {S S' S1 S2 : dm_S} {a b n0 m v c : Nat} {L M : List Nat} {X : tm_X} {N : Nat}
theorem te_bv (n : Nat) : (am_z (n : Int)).toBitVec = BitVec.ofNat 32 n := by
  rw [← am_z_nat]
  rfl
theorem te_tn {n : Nat} (h : n < 2147483648) : (am_z (n : Int)).toBitVec.toNat = n := by
  rw [te_bv, BitVec.toNat_ofNat]
  exact Nat.mod_eq_of_lt (by omega)
theorem te_or {x y : Nat} (hx : x < 2147483648) (hy : y < 2147483648) : am_z (x : Int) ||| am_z (y : Int) = am_z ((x ||| y : Nat) : Int) := by
  have h : x ||| y < 2147483648 := Nat.or_lt_two_pow (n := 31) hx hy
  refine Int32.toBitVec.inj (BitVec.eq_of_toNat_eq ?_)
  rw [Int32.toBitVec_or, BitVec.toNat_or, te_tn hx, te_tn hy, te_tn h]
theorem te_orA {q s y : Nat} (h : y < 2 ^ s) (hx : q * 2 ^ s + y < 2147483648) : am_z ((q * 2 ^ s : Nat) : Int) ||| am_z (y : Int) = am_z ((q * 2 ^ s + y : Nat) : Int) := by
  rw [te_or (by omega) (by omega)]
  have e := Nat.shiftLeft_add_eq_or_of_lt h q
  rw [Nat.shiftLeft_eq] at e
  rw [e]
theorem te_shl {t s : Nat} (hs : (am_z (s : Int)).toBitVec.smod 32 = BitVec.ofNat 32 s) (h32 : s < 32) (ht : t < 2147483648) (h : t * 2 ^ s < 2147483648) : am_z (t : Int) <<< am_z (s : Int) = am_z ((t * 2 ^ s : Nat) : Int) := by
  have e2 : (BitVec.ofNat 32 s).toNat = s := by rw [BitVec.toNat_ofNat]; exact Nat.mod_eq_of_lt (by omega)
  refine Int32.toBitVec.inj (BitVec.eq_of_toNat_eq ?_)
  rw [Int32.toBitVec_shiftLeft, hs, BitVec.shiftLeft_eq', e2, BitVec.toNat_shiftLeft, te_tn ht, te_tn h, Nat.shiftLeft_eq]
  exact Nat.mod_eq_of_lt (by omega)
theorem te_shr {x s : Nat} (hs : (am_z (s : Int)).toBitVec.smod 32 = BitVec.ofNat 32 s) (h32 : s < 32) (hx : x < 2147483648) : am_z (x : Int) >>> am_z (s : Int) = am_z ((x / 2 ^ s : Nat) : Int) := by
  have e2 : (BitVec.ofNat 32 s).toNat = s := by rw [BitVec.toNat_ofNat]; exact Nat.mod_eq_of_lt (by omega)
  have hm : (am_z (x : Int)).toBitVec.msb = false := by
    rw [BitVec.msb_eq_false_iff_two_mul_lt, te_tn hx]
    omega
  have h2 : x / 2 ^ s < 2147483648 := Nat.lt_of_le_of_lt (Nat.div_le_self _ _) hx
  refine Int32.toBitVec.inj (BitVec.eq_of_toNat_eq ?_)
  rw [Int32.toBitVec_shiftRight, hs, BitVec.sshiftRight_eq', e2, BitVec.toNat_sshiftRight_of_msb_false hm, te_tn hx, te_tn h2, Nat.shiftRight_eq_div_pow]
theorem te_255 {x : Nat} (hx : x < 2147483648) : am_z (x : Int) &&& am_z 255 = am_z ((x % 256 : Nat) : Int) := by
  refine Int32.toBitVec.inj (BitVec.eq_of_toNat_eq ?_)
  have e := te_tn (n := 255) (by decide)
  have e : (am_z 255).toBitVec.toNat = 255 := e
  rw [Int32.toBitVec_and, BitVec.toNat_and, te_tn hx, te_tn (by omega), e]
  exact Nat.and_two_pow_sub_one_eq_mod x 8
theorem te_sm : (am_z ((24 : Nat) : Int)).toBitVec.smod 32 = BitVec.ofNat 32 24 ∧ (am_z ((16 : Nat) : Int)).toBitVec.smod 32 = BitVec.ofNat 32 16 ∧ (am_z ((8 : Nat) : Int)).toBitVec.smod 32 = BitVec.ofNat 32 8 ∧ (am_z ((0 : Nat) : Int)).toBitVec.smod 32 = BitVec.ofNat 32 0 := by decide
/-- the first m bytes of a word that begins at p -/
def te_pw (T : List Nat) (p m : Nat) : Nat := (if 0 < m then T.getD p 0 * 2 ^ 24 else 0) + ((if 1 < m then T.getD (p + 1) 0 * 2 ^ 16 else 0) + ((if 2 < m then T.getD (p + 2) 0 * 2 ^ 8 else 0) + (if 3 < m then T.getD (p + 3) 0 else 0)))
theorem te_by {T : List Nat} (h : ∀ x ∈ T, x < 128) (p : Nat) : T.getD p 0 < 128 := by
  rw [List.getD_eq_getElem?_getD]
  cases e : T[p]? with
  | none => exact (by decide : (0 : Nat) < 128)
  | some x => exact h x (List.mem_of_getElem? e)
theorem te_pws {T : List Nat} (h : ∀ x ∈ T, x < 128) {p m : Nat} (hm : m < 4) : am_z ((te_pw T p m : Nat) : Int) ||| (am_z ((T.getD (p + m) 0 : Nat) : Int) <<< (am_z ((24 - 8 * m : Nat) : Int) &&& 31)) = am_z ((te_pw T p (m + 1) : Nat) : Int) := by
  obtain ⟨m24, m16, m8, m0⟩ := te_sm
  have a0 := te_by h p
  have a1 := te_by h (p + 1)
  have a2 := te_by h (p + 2)
  have a3 := te_by h (p + 3)
  have l24 : am_z ((24 - 8 * 0 : Nat) : Int) &&& 31 = am_z ((24 : Nat) : Int) := by decide
  have l16 : am_z ((24 - 8 * 1 : Nat) : Int) &&& 31 = am_z ((16 : Nat) : Int) := by decide
  have l8 : am_z ((24 - 8 * 2 : Nat) : Int) &&& 31 = am_z ((8 : Nat) : Int) := by decide
  have l0 : am_z ((24 - 8 * 3 : Nat) : Int) &&& 31 = am_z ((0 : Nat) : Int) := by decide
  rcases (show m = 0 ∨ m = 1 ∨ m = 2 ∨ m = 3 by omega) with rfl | rfl | rfl | rfl
  · have e : te_pw T p 0 = 0 := rfl
    rw [e, l24, show p + 0 = p from rfl, te_shl m24 (by decide) (by omega) (by omega), te_or (by omega) (by omega)]
    have e1 : te_pw T p (0 + 1) = T.getD p 0 * 2 ^ 24 := by unfold te_pw; simp
    rw [e1, Nat.zero_or]
  · have e : te_pw T p 1 = T.getD p 0 * 2 ^ 24 := by unfold te_pw; simp
    have e1 : te_pw T p (1 + 1) = T.getD p 0 * 2 ^ 24 + T.getD (p + 1) 0 * 2 ^ 16 := by unfold te_pw; simp
    rw [l16, te_shl m16 (by decide) (by omega) (by omega), e, te_orA (by omega) (by omega), e1]
  · have e : te_pw T p 2 = (T.getD p 0 * 256 + T.getD (p + 1) 0) * 2 ^ 16 := by unfold te_pw; simp; omega
    have e1 : te_pw T p (2 + 1) = (T.getD p 0 * 256 + T.getD (p + 1) 0) * 2 ^ 16 + T.getD (p + 2) 0 * 2 ^ 8 := by unfold te_pw; simp; omega
    rw [l8, te_shl m8 (by decide) (by omega) (by omega), e, te_orA (by omega) (by omega), e1]
  · have e : te_pw T p 3 = (T.getD p 0 * 65536 + T.getD (p + 1) 0 * 256 + T.getD (p + 2) 0) * 2 ^ 8 := by unfold te_pw; simp; omega
    have e1 : te_pw T p (3 + 1) = (T.getD p 0 * 65536 + T.getD (p + 1) 0 * 256 + T.getD (p + 2) 0) * 2 ^ 8 + T.getD (p + 3) 0 := by unfold te_pw; simp; omega
    rw [l0, te_shl m0 (by decide) (by omega) (by omega), Nat.pow_zero, Nat.mul_one, e, te_orA (by omega) (by omega), e1]
/-- a byte out of a word -/
theorem te_fb {T : List Nat} (h : ∀ x ∈ T, x < 128) {p i : Nat} (hi : i < 4) : fb (am_z ((te_pw T p 4 : Nat) : Int)) i = am_z ((T.getD (p + i) 0 : Nat) : Int) := by
  obtain ⟨m24, m16, m8, m0⟩ := te_sm
  have a0 := te_by h p
  have a1 := te_by h (p + 1)
  have a2 := te_by h (p + 2)
  have a3 := te_by h (p + 3)
  have e : te_pw T p 4 = T.getD p 0 * 2 ^ 24 + (T.getD (p + 1) 0 * 2 ^ 16 + (T.getD (p + 2) 0 * 2 ^ 8 + T.getD (p + 3) 0)) := by unfold te_pw; simp
  have hw : te_pw T p 4 < 2147483648 := by omega
  have l24 : am_z (24 - 8 * ((0 : Nat) : Int)) &&& am_z 31 = am_z ((24 : Nat) : Int) := by decide
  have l16 : am_z (24 - 8 * ((1 : Nat) : Int)) &&& am_z 31 = am_z ((16 : Nat) : Int) := by decide
  have l8 : am_z (24 - 8 * ((2 : Nat) : Int)) &&& am_z 31 = am_z ((8 : Nat) : Int) := by decide
  have l0 : am_z (24 - 8 * ((3 : Nat) : Int)) &&& am_z 31 = am_z ((0 : Nat) : Int) := by decide
  have fin : ∀ x y : Nat, x < 2147483648 → x % 256 = y → am_z (x : Int) &&& am_z 255 = am_z (y : Int) := fun x y h1 h2 => by rw [te_255 h1, h2]
  unfold fb
  rcases (show i = 0 ∨ i = 1 ∨ i = 2 ∨ i = 3 by omega) with rfl | rfl | rfl | rfl
  · rw [l24, te_shr m24 (by decide) hw]
    exact fin _ _ (by omega) (by show _ % 256 = T.getD p 0; rw [e]; omega)
  · rw [l16, te_shr m16 (by decide) hw]
    exact fin _ _ (by omega) (by rw [e]; omega)
  · rw [l8, te_shr m8 (by decide) hw]
    exact fin _ _ (by omega) (by rw [e]; omega)
  · rw [l0, te_shr m0 (by decide) hw]
    exact fin _ _ (by omega) (by rw [e]; omega)
/-- the class's feed, told absolutely -/
theorem te_feed {nS nU F : Nat} {hc hm : am_Hp} (hN : 60000 ≤ N) (R : qr_R nS nU hc hm) (b1 : hc 1 1 = am_z (F : Int)) (hF : F + 20 ≤ 600) (a b c d e : Int32) : ∃ v hc' hm', f_X9_feed N a b c d e hc = some (v, hc') ∧ qr_R nS nU hc' hm' ∧ hc' 1 1 = am_z ((F + 20 : Nat) : Int) ∧ (∀ i, i < F → hc' 2 i = hc 2 i) ∧ ∀ i, i < 20 → hc' 2 (F + i) = fb (fsel a b c d e i) (i % 4) := by
  obtain ⟨v, h', hm', q1, -, q3, -⟩ := q_feed hN R a b c d e
  have e1 : (F : Int) + 20 = ((F + 20 : Nat) : Int) := by omega
  have ec : (am_z ((F + 20 : Nat) : Int) ≤ am_z 600) = (F + 20 ≤ 600) := by
    rw [am_z_le (by omega) (by omega) (by omega) (by omega)]
    refine propext ?_
    omega
  obtain ⟨h1, p1, p2, p3, p4, p5, p6⟩ := c_app (N := N) (x := a) (h := hc) (by omega) (show F + 4 ≤ 600 by omega) b1
  obtain ⟨h2, q1', q2, q3', q4, q5, q6⟩ := c_app (N := N) (x := b) (h := h1) (by omega) (show F + 4 + 4 ≤ 600 by omega) p4
  obtain ⟨h3, r1, r2, r3, r4, r5, r6⟩ := c_app (N := N) (x := c) (h := h2) (by omega) (show F + 4 + 4 + 4 ≤ 600 by omega) q4
  obtain ⟨h4, s1, s2, s3, s4, s5, s6⟩ := c_app (N := N) (x := d) (h := h3) (by omega) (show F + 4 + 4 + 4 + 4 ≤ 600 by omega) r4
  obtain ⟨h5, t1, t2, t3, t4, t5, t6⟩ := c_app (N := N) (x := e) (h := h4) (by omega) (show F + 4 + 4 + 4 + 4 + 4 ≤ 600 by omega) s4
  have hx : F + 4 + 4 + 4 + 4 + 4 = F + 20 := by omega
  rw [hx] at t4
  have ef : f_X9_feed N a b c d e hc = some (am_z ((F + 20 : Nat) : Int), h5) := by
    unfold f_X9_feed
    simp only [am_z_lit, b1, am_z_add, e1, ec, if_pos hF, p1, q1', r1, s1, t1, am_bi_s, t4]
  rw [ef] at q1
  have hh : h5 = h' := (Prod.mk.inj (Option.some.inj q1)).2
  rw [← hh] at q3
  refine ⟨_, h5, hm', ef, q3, t4, fun i hi => ?_, fun j hj => ?_⟩
  · rw [t5 i (by omega), s5 i (by omega), r5 i (by omega), q5 i (by omega), p5 i (by omega)]
  · unfold fsel
    by_cases c1 : j < 4
    · rw [if_pos c1, t5 _ (by omega), s5 _ (by omega), r5 _ (by omega), q5 _ (by omega), p6 j c1, Nat.mod_eq_of_lt c1]
    rw [if_neg c1]
    by_cases c2 : j < 8
    · rw [if_pos c2]
      have ej : F + j = F + 4 + (j - 4) := by omega
      have ek : j % 4 = j - 4 := by omega
      rw [ej, t5 _ (by omega), s5 _ (by omega), r5 _ (by omega), q6 (j - 4) (by omega), ek]
    rw [if_neg c2]
    by_cases c3 : j < 12
    · rw [if_pos c3]
      have ej : F + j = F + 4 + 4 + (j - 8) := by omega
      have ek : j % 4 = j - 8 := by omega
      rw [ej, t5 _ (by omega), s5 _ (by omega), r6 (j - 8) (by omega), ek]
    rw [if_neg c3]
    by_cases c4 : j < 16
    · rw [if_pos c4]
      have ej : F + j = F + 4 + 4 + 4 + (j - 12) := by omega
      have ek : j % 4 = j - 12 := by omega
      rw [ej, t5 _ (by omega), s6 (j - 12) (by omega), ek]
    rw [if_neg c4]
    have ej : F + j = F + 4 + 4 + 4 + 4 + (j - 16) := by omega
    have ek : j % 4 = j - 16 := by omega
    rw [ej, t6 (j - 16) (by omega), ek]
end TE5
