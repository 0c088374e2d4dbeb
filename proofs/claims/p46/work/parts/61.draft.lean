/-! ===== what a text describes: the class's draft against the model's rows ===== -/
section DRAFT
variable {N L : Nat} {B : Nat → Nat} {hc hm : am_Hp}
def tO (T : Nat) : Prop := T = 4 ∨ T = 8 ∨ T = 15 ∨ T = 19
theorem tO_f {T : Nat} (h : tO T) : am_isO T 8 = true ∧ am_G T 1 = some (T + 1) ∧ am_G T 2 = some (T + 2) ∧ am_G T 3 = some (T + 3) ∧ am_isI (T + 1) = true ∧ am_isI (T + 2) = true ∧ am_isI (T + 3) = true ∧ am_len (T + 1) = 6 ∧ am_len (T + 2) = 6 ∧ am_len (T + 3) = 6 := by
  rcases h with rfl | rfl | rfl | rfl <;> decide +kernel
theorem c_full {T a most : Nat} {h : am_Hp} (hT : tO T) (h0 : h T 0 = am_z most) (h4 : h T 4 = am_z a) (ha : a ≤ most) (hm6 : most ≤ 6) : f_X8_isFull N T h = some (if a = most then am_z 1 else am_z 0, h) := by
  obtain ⟨g1, g2, g3, g4, g5, g6, g7, g8, g9, g10⟩ := tO_f hT
  unfold f_X8_isFull
  by_cases q : a = most
  · have z : am_z (most : Int) ≤ am_z (a : Int) := by rw [am_z_le (by omega) (by omega) (by omega) (by omega)]; omega
    simp only [g1, cond_true, h0, h4, if_pos z, am_z_lit, am_z_and1, if_true, if_pos q]
  · have z : ¬ (am_z (most : Int) ≤ am_z (a : Int)) := by rw [am_z_le (by omega) (by omega) (by omega) (by omega)]; omega
    have z2 : am_z (a : Int) < am_z ((6 : Nat) : Int) := by rw [am_z_lt (by omega) (by omega) (by omega) (by omega)]; omega
    simp only [g1, cond_true, h0, h4, if_neg z, g2, Option.bind_some, g5, Bool.true_or, g8, am_z_nat, if_pos z2, am_z_lit, am_z_and0, if_true, if_neg q]
theorem c_add {T a most : Nat} {h : am_Hp} {x w t : Int32} (hT : tO T) (h0 : h T 0 = am_z most) (h4 : h T 4 = am_z a) (ha : a < most) (hm6 : most ≤ 6) : f_X8_add N T x w t h = some ((), am_pi (am_pi (am_pi (am_pi h (T + 1) a x) (T + 2) a w) (T + 3) a t) T 4 (am_z ((a + 1 : Nat) : Int))) := by
  obtain ⟨g1, g2, g3, g4, g5, g6, g7, g8, g9, g10⟩ := tO_f hT
  have i1 : am_in (am_z (a : Int)) 6 = true := m_in (by omega) (by decide)
  have e4 : (a : Int) + 1 = ((a + 1 : Nat) : Int) := by omega
  have p1 : am_pi h (T + 1) a x T 4 = am_z a := by rw [am_pi_a (by omega)]; exact h4
  have p2 : am_pi (am_pi h (T + 1) a x) (T + 2) a w T 4 = am_z a := by rw [am_pi_a (by omega)]; exact p1
  have p3 : am_pi (am_pi (am_pi h (T + 1) a x) (T + 2) a w) (T + 3) a t T 4 = am_z a := by rw [am_pi_a (by omega)]; exact p2
  unfold f_X8_add
  simp (disch := omega) only [g1, cond_true, c_full hT h0 h4 (Nat.le_of_lt ha) hm6, if_neg (Nat.ne_of_lt ha), am_bi_s, am_z_lit, if_true, g2, g3, g4, Option.bind_some, g5, g6, g7, g8, g9, g10, Bool.true_and, h4, i1, am_z_cl, Int.toNat_natCast, p1, p2, p3, am_z_add, e4]
def fIdx (V : Nat → Int32) (x : Int32) : Nat → Nat → Int32
  | 0, _ => am_z (-1)
  | k + 1, i => if V i = x then am_z i else fIdx V x k (i + 1)
theorem c_idxL {T a : Nat} {h : am_Hp} {x : Int32} {V : Nat → Int32} (hT : tO T) (ha : a ≤ 6) (h4 : h T 4 = am_z a) (hV : ∀ i, i < a → h (T + 1) i = V i) : ∀ (k i n : Nat), i + k = a → k < n → l_X8_indexOf_2 N n T x (am_z i) h = some (fIdx V x k i, h)
  | k, i, 0, _, hx => by omega
  | 0, i, n + 1, hi, _ => by
    obtain ⟨g1, g2, g3, g4, g5, g6, g7, g8, g9, g10⟩ := tO_f hT
    have e1 : i = a := by omega
    unfold l_X8_indexOf_2 fIdx
    simp only [g1, cond_true, h4, e1, if_pos (Int32.le_refl _), am_z_lit, am_z_neg]
  | k + 1, i, n + 1, hi, hx => by
    obtain ⟨g1, g2, g3, g4, g5, g6, g7, g8, g9, g10⟩ := tO_f hT
    have i1 : am_in (am_z (i : Int)) 6 = true := m_in (by omega) (by decide)
    have e4 : (i : Int) + 1 = ((i + 1 : Nat) : Int) := by omega
    have z : ¬ (am_z (a : Int) ≤ am_z (i : Int)) := by rw [am_z_le (by omega) (by omega) (by omega) (by omega)]; omega
    have z2 : ¬ (am_z ((6 : Nat) : Int) ≤ am_z (i : Int)) := by rw [am_z_le (by omega) (by omega) (by omega) (by omega)]; omega
    have ih := c_idxL (x := x) hT ha h4 hV k (i + 1) n (by omega) (by omega)
    unfold l_X8_indexOf_2
    rw [fIdx]
    simp (disch := omega) only [g1, cond_true, h4, if_neg z, g2, Option.bind_some, g5, Bool.true_or, g8, am_z_nat, if_neg z2, i1, am_z_cl, Int.toNat_natCast, hV i (by omega), am_z_lit, am_z_add, e4, ih]
    by_cases q : V i = x
    · rw [if_pos q, if_pos q]
    · rw [if_neg q, if_neg q]
theorem m_idxS {a : Nat} {h : am_Hp} {x : Int32} {V : Nat → Int32} (ha : a ≤ 4) (h4 : h 195 0 = am_z a) (hV : ∀ i, i < a → h 195 (2 + i) = V i) : ∀ (k i n : Nat), i + k = a → k < n → l_X10_found_2 N n (am_z 0) x (am_z i) h = some (fIdx V x k i, h)
  | k, i, 0, _, hx => by omega
  | 0, i, n + 1, hi, _ => by
    have e1 : i = a := by omega
    have j0 : am_in (am_z 0) 20 = true := by decide
    unfold l_X10_found_2 fIdx
    simp only [am_z_lit, am_z_neg, if_true, j0, cond_true, h4, e1, if_pos (Int32.le_refl _)]
  | k + 1, i, n + 1, hi, hx => by
    have j0 : am_in (am_z 0) 20 = true := by decide
    have e5 : 2 + (i : Int) = ((2 + i : Nat) : Int) := by omega
    have i1 : am_in (am_z ((2 + i : Nat) : Int)) 20 = true := m_in (by omega) (by decide)
    have e4 : (i : Int) + 1 = ((i + 1 : Nat) : Int) := by omega
    have z : ¬ (am_z (a : Int) ≤ am_z (i : Int)) := by rw [am_z_le (by omega) (by omega) (by omega) (by omega)]; omega
    have ih := m_idxS (x := x) ha h4 hV k (i + 1) n (by omega) (by omega)
    unfold l_X10_found_2
    rw [fIdx]
    simp (disch := omega) only [am_z_lit, if_true, j0, cond_true, h4, if_neg z, am_z_add, e5, i1, am_z_cl, Int.toNat_natCast, hV i (by omega), e4, ih]
    by_cases q : V i = x
    · rw [if_pos q, if_pos q]
    · rw [if_neg q, if_neg q]
theorem m_idxU {a : Nat} {h : am_Hp} {x : Int32} {V : Nat → Int32} (ha : a ≤ 6) (h4 : h 195 1 = am_z a) (hV : ∀ i, i < a → h 195 (6 + i) = V i) : ∀ (k i n : Nat), i + k = a → k < n → l_X10_found_2 N n (am_z 1) x (am_z i) h = some (fIdx V x k i, h)
  | k, i, 0, _, hx => by omega
  | 0, i, n + 1, hi, _ => by
    have e1 : i = a := by omega
    have j0 : am_in (am_z 1) 20 = true := by decide
    unfold l_X10_found_2 fIdx
    simp only [am_z_lit, am_z_neg, if_neg z_10, j0, cond_true, h4, e1, if_pos (Int32.le_refl _)]
  | k + 1, i, n + 1, hi, hx => by
    have j0 : am_in (am_z 1) 20 = true := by decide
    have e5 : 6 + (i : Int) = ((6 + i : Nat) : Int) := by omega
    have i1 : am_in (am_z ((6 + i : Nat) : Int)) 20 = true := m_in (by omega) (by decide)
    have e4 : (i : Int) + 1 = ((i + 1 : Nat) : Int) := by omega
    have z : ¬ (am_z (a : Int) ≤ am_z (i : Int)) := by rw [am_z_le (by omega) (by omega) (by omega) (by omega)]; omega
    have ih := m_idxU (x := x) ha h4 hV k (i + 1) n (by omega) (by omega)
    unfold l_X10_found_2
    rw [fIdx]
    simp (disch := omega) only [am_z_lit, if_neg z_10, j0, cond_true, h4, if_neg z, am_z_add, e5, i1, am_z_cl, Int.toNat_natCast, hV i (by omega), e4, ih]
    by_cases q : V i = x
    · rw [if_pos q, if_pos q]
    · rw [if_neg q, if_neg q]
-- ---- both texts stand at the same token
def TKp (L : Nat) (B : Nat → Nat) (hc hm : am_Hp) (s e K : Nat) : Prop := hc 1 4 = am_z s ∧ hc 1 5 = am_z e ∧ hc 1 3 = am_z K ∧ hm 193 19 = am_z s ∧ hm 193 18 = am_z e ∧ hm 193 20 = am_z (tk K : Nat) ∧ s ≤ e ∧ e ≤ L ∧ K ≤ 4 ∧ (K = 0 → s = L) ∧ (K ≠ 0 → s < e) ∧ (K = 2 → (∀ i, s ≤ i → i < e → 48 ≤ B i ∧ B i ≤ 57) ∧ hm 193 21 = am_z (mv B s (e - s) : Nat) ∧ mv B s (e - s) ≤ 1000009)
theorem q_adv {p : Nat} (hN : 1000 ≤ N) (bc : cB hc L B) (bm : mB hm L B) (hp : p ≤ L) (h5 : hc 1 5 = am_z p) (h8 : hm 193 18 = am_z p) : ∃ hc' hm' s e K, f_X7_advance N hc = some ((), hc') ∧ f_X10_next N hm = some ((), hm') ∧ TKp L B hc' hm' s e K ∧ p ≤ s ∧ (∀ a, a ≠ 1 → hc' a = hc a) ∧ (∀ k, k ≠ 3 → k ≠ 4 → k ≠ 5 → hc' 1 k = hc 1 k) ∧ (∀ a, a ≠ 193 → hm' a = hm a) ∧ (∀ k, ¬ (18 ≤ k ∧ k ≤ 21) → hm' 193 k = hm 193 k) ∧ cB hc' L B ∧ mB hm' L B := by
  obtain ⟨hm', m1, m2, m3, m4, m5, m6, m7⟩ := m_next hN bm hp h8
  obtain ⟨a1, a2, a3⟩ := tkS_le (B := B) hp
  obtain ⟨t1, t2, t3, t4, t5, t6, t7⟩ := tkE_le (B := B) hp
  refine ⟨_, hm', tkS B L p, tkE B L p, tkK B L p, c_adv hN bc hp h5, m1, ⟨?_, am_pi_s _ _ _ _, ?_, m2, m3, m4, t1, t2, t3, t4, t5, fun z => ⟨t7 z, m5 z⟩⟩, a1, fun a ha => by rw [qc_pia ha, qc_pia ha, qc_pia ha], fun k h1 h2 h3 => by rw [am_pi_k h3, am_pi_k h1, am_pi_k h2], m6, m7, cB_p (by decide) (cB_p (by decide) (cB_p (by decide) bc)), ⟨bm.1, by rw [m7 17 (by decide)]; exact bm.2.1, fun i hi => by rw [m6 194 (by decide)]; exact bm.2.2 i hi⟩⟩
  · rw [am_pi_k (by decide), am_pi_k (by decide), am_pi_s]
  · rw [am_pi_k (by decide), am_pi_s]
/-- the class reads a number -/
theorem c_rdn {hc1 hm1 : am_Hp} {s e K lo hi : Nat} (hN : 1000 ≤ N) (ha : f_X7_advance N hc = some ((), hc1)) (b : cB hc1 L B) (T : TKp L B hc1 hm1 s e K) (hlo : lo ≤ hi) (hhi : hi < 1000) :
    (K ≠ 2 → f_X1_readNumber N (am_z lo) (am_z hi) hc = some (am_z (-11), hc1)) ∧ (K = 2 → lo ≤ mv B s (e - s) → mv B s (e - s) ≤ hi → f_X1_readNumber N (am_z lo) (am_z hi) hc = some (am_z 0, hc1) ∧ f_X7_number N hc1 = some (am_z (mv B s (e - s) : Nat), hc1)) ∧ (K = 2 → ¬ (lo ≤ mv B s (e - s) ∧ mv B s (e - s) ≤ hi) → f_X1_readNumber N (am_z lo) (am_z hi) hc = some (am_z (-12), hc1)) := by
  obtain ⟨t1, t2, t3, t4, t5, t6, t7, t8, t9, t10, t11, t12⟩ := T
  refine ⟨fun q => ?_, fun q r1 r2 => ?_, fun q r => ?_⟩
  · have z : ¬ (am_z (K : Int) = am_z 2) := by rw [am_z_eq (by omega) (by omega) (by omega) (by omega)]; omega
    unfold f_X1_readNumber
    simp only [am_z_lit, am_z_neg, ha, am_bi_s, t3, if_neg z]
  · obtain ⟨d1, d2, d3⟩ := t12 q
    have z : am_z (K : Int) = am_z 2 := by rw [q]; rfl
    have nu := c_num hN b t7 t8 t1 t2 d1
    have e1 : min (mv B s (e - s)) 1000 = mv B s (e - s) := by omega
    rw [e1] at nu
    have z1 : ¬ (am_z (mv B s (e - s) : Nat) < am_z (lo : Int)) := by rw [am_z_lt (by omega) (by omega) (by omega) (by omega)]; omega
    have z2 : am_z (mv B s (e - s) : Nat) ≤ am_z (hi : Int) := by rw [am_z_le (by omega) (by omega) (by omega) (by omega)]; omega
    refine ⟨?_, nu⟩
    unfold f_X1_readNumber
    simp only [am_z_lit, am_z_neg, ha, am_bi_s, t3, if_pos z, nu, if_neg z1, if_pos z2]
  · obtain ⟨d1, d2, d3⟩ := t12 q
    have z : am_z (K : Int) = am_z 2 := by rw [q]; rfl
    have nu := c_num hN b t7 t8 t1 t2 d1
    generalize mv B s (e - s) = v at *
    unfold f_X1_readNumber
    simp only [am_z_lit, am_z_neg, ha, am_bi_s, t3, if_pos z, nu]
    by_cases q1 : v < lo
    · rw [if_pos (by rw [am_z_lt (by omega) (by omega) (by omega) (by omega)]; omega)]
    · rw [if_neg (by rw [am_z_lt (by omega) (by omega) (by omega) (by omega)]; omega), if_neg (by rw [am_z_le (by omega) (by omega) (by omega) (by omega)]; omega)]
/-- the model reads a number, or fails there as the class does -/
theorem m_rdn {hc1 hm1 : am_Hp} {s e K lo hi : Nat} (T : TKp L B hc1 hm1 s e K) (h2 : hm1 193 22 = am_z 0) (hlo : lo ≤ hi) (hhi : hi < 1000) :
    (K ≠ 2 → f_X10_integer N (am_z lo) (am_z hi) hm1 = some (am_z lo, eS (am_z (-11)) hm1)) ∧ (K = 2 → lo ≤ mv B s (e - s) → mv B s (e - s) ≤ hi → ∀ hm2, f_X10_next N hm1 = some ((), hm2) → f_X10_integer N (am_z lo) (am_z hi) hm1 = some (am_z (mv B s (e - s) : Nat), hm2)) ∧ (K = 2 → ¬ (lo ≤ mv B s (e - s) ∧ mv B s (e - s) ≤ hi) → f_X10_integer N (am_z lo) (am_z hi) hm1 = some (am_z lo, eS (am_z (-12)) hm1)) := by
  obtain ⟨t1, t2, t3, t4, t5, t6, t7, t8, t9, t10, t11, t12⟩ := T
  refine ⟨fun q => m_intS h2 ?_, fun q r1 r2 hm2 hn => ?_, fun q r => ?_⟩
  · rw [t6]
    have : tk K ≠ 1 ∧ tk K ≤ 4 := by
      unfold tk
      rw [if_neg q]
      split
      · exact ⟨by decide, by decide⟩
      split
      · exact ⟨by decide, by decide⟩
      split <;> exact ⟨by decide, by decide⟩
    rw [Ne, am_z_eq (by omega) (by omega) (by omega) (by omega)]
    omega
  · obtain ⟨d1, d2, d3⟩ := t12 q
    have et : hm1 193 20 = am_z 1 := by rw [t6, q]; rfl
    exact m_int0 h2 et d2 d3 (by omega) (by omega) ⟨r1, r2⟩ hn
  · obtain ⟨d1, d2, d3⟩ := t12 q
    have et : hm1 193 20 = am_z 1 := by rw [t6, q]; rfl
    exact m_intR h2 et d2 d3 (by omega) (by omega) r
end DRAFT
