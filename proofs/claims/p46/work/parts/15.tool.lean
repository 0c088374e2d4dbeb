/-! ===== ints as wholes, and reading a heap that was written ===== -/
section AMZ
def am_z (x : Int) : Int32 := Int32.ofInt x
theorem am_z_ti {x : Int} (h1 : -2147483648 ≤ x) (h2 : x < 2147483648) : (am_z x).toInt = x := Int32.toInt_ofInt_of_le h1 h2
theorem am_z_of (x : Int32) : am_z x.toInt = x := Int32.ofInt_toInt x
theorem am_z_rg (x : Int32) : -2147483648 ≤ x.toInt ∧ x.toInt < 2147483648 := by
  have h1 := Int32.le_toInt x
  have h2 := Int32.toInt_lt x
  omega
/-- every int is a whole of its range -/
theorem am_z_ex (x : Int32) : ∃ v : Int, x = am_z v ∧ -2147483648 ≤ v ∧ v < 2147483648 := ⟨x.toInt, (am_z_of x).symm, am_z_rg x⟩
theorem am_z_lit (n : Nat) : (OfNat.ofNat n : Int32) = am_z (OfNat.ofNat n) := (Int32.ofInt_eq_ofNat (n := n)).symm
theorem am_z_nat (n : Nat) : Int32.ofNat n = am_z n := (Int32.ofInt_eq_ofNat (n := n)).symm
theorem am_z_neg (x : Int) : -am_z x = am_z (-x) := (Int32.ofInt_neg x).symm
theorem am_z_add (x y : Int) : am_z x + am_z y = am_z (x + y) := (Int32.ofInt_add x y).symm
theorem am_z_sub (x y : Int) : am_z x - am_z y = am_z (x - y) := (Int32.ofInt_sub x y).symm
theorem am_z_mul (x y : Int) : am_z x * am_z y = am_z (x * y) := (Int32.ofInt_mul x y).symm
theorem am_z_eq {x y : Int} (h1 : -2147483648 ≤ x) (h2 : x < 2147483648) (h3 : -2147483648 ≤ y) (h4 : y < 2147483648) : (am_z x = am_z y) = (x = y) := by
  refine propext ⟨fun h => ?_, fun h => by rw [h]⟩
  have := congrArg Int32.toInt h
  rwa [am_z_ti h1 h2, am_z_ti h3 h4] at this
theorem am_z_le {x y : Int} (h1 : -2147483648 ≤ x) (h2 : x < 2147483648) (h3 : -2147483648 ≤ y) (h4 : y < 2147483648) : (am_z x ≤ am_z y) = (x ≤ y) := by
  rw [Int32.le_iff_toInt_le, am_z_ti h1 h2, am_z_ti h3 h4]
theorem am_z_lt {x y : Int} (h1 : -2147483648 ≤ x) (h2 : x < 2147483648) (h3 : -2147483648 ≤ y) (h4 : y < 2147483648) : (am_z x < am_z y) = (x < y) := by
  rw [Int32.lt_iff_toInt_lt, am_z_ti h1 h2, am_z_ti h3 h4]
theorem am_z_cl {x : Int} (h1 : -2147483648 ≤ x) (h2 : x < 2147483648) : (am_z x).toNatClampNeg = x.toNat := by
  rw [← Int32.toNat_toInt, am_z_ti h1 h2]
theorem am_z_in {x : Int} {n : Nat} (h1 : -2147483648 ≤ x) (h2 : x < 2147483648) : am_in (am_z x) n = decide (0 ≤ x ∧ x < n) := by
  unfold am_in
  simp only [am_z_lit, am_z_cl h1 h2, am_z_lt h1 h2 (show (-2147483648 : Int) ≤ 0 by decide) (show (0 : Int) < 2147483648 by decide)]
  refine decide_eq_decide.mpr ?_
  show ¬ (x < 0 ∨ n ≤ x.toNat) ↔ _
  omega
theorem am_z_int {x : Int} {n : Nat} (h1 : 0 ≤ x) (h2 : x < n) (h3 : n ≤ 2147483648) : am_in (am_z x) n = true := by
  rw [am_z_in (by omega) (by omega)]
  exact decide_eq_true ⟨h1, h2⟩
theorem am_z_and1 : am_z 1 &&& am_z 1 = am_z 1 := by decide
theorem am_z_and0 : am_z 0 &&& am_z 1 = am_z 0 := by decide
theorem am_z_div {x y : Int} (h1 : -2147483648 ≤ x) (h2 : x < 2147483648) (h3 : 0 < y) (h4 : y < 2147483648) : am_z x / am_z y = am_z (x.tdiv y) := by
  have hy : (am_z y).toInt = y := am_z_ti (by omega) h4
  refine Int32.toInt.inj ?_
  rw [Int32.toInt_div_of_ne_right _ _ (by
    intro e
    have := congrArg Int32.toInt e
    rw [hy] at this
    have h5 : (-1 : Int32).toInt = -1 := by decide
    omega), hy, am_z_ti h1 h2, am_z_ti]
  · have h5 : (x.tdiv y).natAbs ≤ x.natAbs := by rw [Int.natAbs_tdiv]; exact Nat.div_le_self _ _
    omega
  · have h5 : (x.tdiv y).natAbs ≤ x.natAbs := by rw [Int.natAbs_tdiv]; exact Nat.div_le_self _ _
    by_cases hx : x = -2147483648
    · by_cases h6 : y = 1
      · subst h6; simp; omega
      · have h7 : (x.tdiv y).natAbs = x.natAbs / y.natAbs := Int.natAbs_tdiv x y
        have h8 : x.natAbs / y.natAbs ≤ x.natAbs / 2 := Nat.div_le_div_left (by omega) (by decide)
        omega
    · omega
theorem am_z_min {x y : Int} : (if x < y then am_z x else am_z y) = am_z (min x y) := by
  split
  · congr 1; omega
  · congr 1; omega
theorem am_z_max {x y : Int} : (if x < y then am_z y else am_z x) = am_z (max x y) := by
  split
  · congr 1; omega
  · congr 1; omega
theorem am_pi_ap (h : am_Hp) (a k : Nat) (v : Int32) (x y : Nat) : am_pi h a k v x y = if x = a ∧ y = k then v else h x y := rfl
theorem am_pi_s (h : am_Hp) (a k : Nat) (v : Int32) : am_pi h a k v a k = v := by simp [am_pi]
theorem am_pi_k {h : am_Hp} {a k : Nat} {v : Int32} {y : Nat} (hy : y ≠ k) : am_pi h a k v a y = h a y := by simp [am_pi, hy]
theorem am_pi_a {h : am_Hp} {a k : Nat} {v : Int32} {x y : Nat} (hx : x ≠ a) : am_pi h a k v x y = h x y := by simp [am_pi, hx]
theorem am_bi_s {α γ : Type} (a : α) (h : am_Hp) (k : α → am_Hp → Option γ) : am_bi (some (a, h)) k = k a h := rfl
theorem am_bt_s {α γ : Type} (a : α) (h : am_Hp) (kx : am_Hp → Option γ) (k : α → am_Hp → Option γ) : am_bt (some (some a, h)) kx k = k a h := rfl
theorem am_bt_n {α γ : Type} (h : am_Hp) (kx : am_Hp → Option γ) (k : α → am_Hp → Option γ) : am_bt (some ((none : Option α), h)) kx k = kx h := rfl
end AMZ
