/-! ===== a screen of the class: its ring of lines, as rows of symbols ===== -/
section SCR
theorem am_xor_nn {x m : Int} (h1 : 0 ≤ x) (h2 : x < 2147483648) (h3 : 0 ≤ m) (h4 : m < 2147483648) : (am_z 0 ≤ am_z x ^^^ am_z m) = True := by
  refine eq_true ?_
  have key : ∀ y : Int, 0 ≤ y → y < 2147483648 → (am_z y).toBitVec.msb = false := by
    intro y a b
    rw [BitVec.msb_eq_toInt]
    refine decide_eq_false ?_
    have : (am_z y).toBitVec.toInt = y := am_z_ti (by omega) b
    omega
  rw [Int32.le_iff_toInt_le]
  have e : (am_z x ^^^ am_z m).toBitVec.msb = false := by
    rw [Int32.toBitVec_xor, BitVec.msb_xor, key x h1 h2, key m h3 h4]; rfl
  rw [BitVec.msb_eq_toInt] at e
  have e2 := of_decide_eq_false e
  have e3 : (am_z 0).toInt = 0 := by decide
  rw [e3]
  have : (am_z x ^^^ am_z m).toBitVec.toInt = (am_z x ^^^ am_z m).toInt := rfl
  omega
theorem am_fm {N : Nat} {x m : Int} {h : am_Hp} (h1 : 0 ≤ x) (h2 : x < 2147483648) (h3 : 0 < m) (h4 : m < 2147483648) : f_J9_floorMod_7cf53 N (am_z x) (am_z m) h = some (am_z (x % m), h) := by
  unfold f_J9_floorMod_7cf53
  have e0 : ¬ (m = 0) := by omega
  simp (disch := omega) only [am_z_lit, am_z_neg, am_z_add, am_z_sub, am_z_mul, am_z_eq, am_xor_nn, am_z_div, if_true, if_neg e0]
  have : x - x.tdiv m * m = x % m := by rw [Int.tdiv_eq_ediv_of_nonneg h1, Int.emod_def, Int.mul_comm]
  rw [this]
theorem am_fm8 {N : Nat} {h : am_Hp} : f_J9_floorMod_7cf53 N (am_z (-1)) (am_z 8) h = some (am_z 7, h) := by
  unfold f_J9_floorMod_7cf53
  rw [if_neg (by decide), if_neg (by decide), if_neg (by decide)]
  have : am_z (-1) - am_z (-1) / am_z 8 * am_z 8 + am_z 8 = am_z 7 := by decide
  rw [this]
def qc_O (o p : Nat) : Prop := (o = 161 ∧ p = 162) ∨ (o = 163 ∧ p = 164)
theorem qc_O1 {o p : Nat} (h : qc_O o p) : am_isO o 4 = true ∧ am_G o 0 = some p ∧ am_isI p = true ∧ am_len p = 736 ∧ o ≠ p := by
  rcases h with ⟨rfl, rfl⟩ | ⟨rfl, rfl⟩ <;> decide
def qc_em (p b k : Nat) (h : am_Hp) : am_Hp := fun a j => if a = p ∧ b + k ≤ j ∧ j < b + 16 then am_z 27 else h a j
variable {N o p : Nat}
theorem qc_start {h : am_Hp} {f l : Nat} (hO : qc_O o p) (hf : h o 1 = am_z f) (f1 : f < 46) (l1 : l < 1000) : f_X4_startOf N o (am_z l) h = some (am_z (((f + l) % 46 * 16 : Nat) : Int), h) := by
  unfold f_X4_startOf
  simp only [(qc_O1 hO).1, cond_true, hf, am_z_add, am_z_lit]
  rw [am_fm (by omega) (by omega) (by decide) (by decide)]
  simp only [am_bi_s, am_z_mul]
  have e : ((f : Int) + l) % 46 * 16 = ((f + l) % 46 * 16 : Nat) := by omega
  rw [e]
theorem qc_emL {b : Nat} (hO : qc_O o p) (hb : b + 16 ≤ 736) : ∀ (n k : Nat) (h : am_Hp), k ≤ 16 → 17 ≤ n + k → l_X4_emptyFrom_13 N n o (am_z b) (am_z k) h = some ((), qc_em p b k h)
  | 0, k, h, h1, h2 => by omega
  | n + 1, k, h, h1, h2 => by
    obtain ⟨g1, g2, g3, g4, g5⟩ := qc_O1 hO
    unfold l_X4_emptyFrom_13
    by_cases hk : k = 16
    · subst hk
      simp (disch := omega) only [am_z_lit, am_z_neg, am_z_add, am_z_sub, am_z_mul, am_z_le, am_z_lt, am_z_eq, am_z_cl, am_z_int, if_pos, if_neg]
      have : qc_em p b 16 h = h := by
        funext a j
        unfold qc_em
        rw [if_neg (by omega)]
      rw [this]
    · have e1 : ((b : Int) + k).toNat = b + k := by omega
      have e2 : (k : Int) + 1 = ((k + 1 : Nat) : Int) := by omega
      have e3 : am_in (am_z ((b : Int) + k)) 736 = true := am_z_int (by omega) (by omega) (by decide)
      simp (disch := omega) only [am_z_lit, am_z_neg, am_z_add, am_z_sub, am_z_mul, am_z_le, am_z_lt, am_z_eq, am_z_cl, am_z_int, if_pos, if_neg, cond_true, cond_false, am_bi_s, am_bt_s, am_bt_n, Option.bind_some, Bool.and_true, Bool.true_and, Bool.and_false, Bool.false_and, g1, g2, g3, g4, e1, e2, e3]
      rw [qc_emL hO hb n (k + 1) _ (by omega) (by omega)]
      have : qc_em p b (k + 1) (am_pi h p (b + k) (am_z 27)) = qc_em p b k h := by
        funext a j
        unfold qc_em
        rw [am_pi_ap]
        by_cases ha : a = p
        · subst ha
          by_cases hj : j = b + k
          · subst hj; simp; omega
          · simp only [true_and, hj, if_false]
            by_cases hq : b + (k + 1) ≤ j ∧ j < b + 16
            · rw [if_pos hq, if_pos (by omega)]
            · rw [if_neg hq, if_neg (by omega)]
        · simp [ha]
      rw [this]
theorem qc_empty {h : am_Hp} {f l k : Nat} (hN : 100 ≤ N) (hO : qc_O o p) (hf : h o 1 = am_z f) (f1 : f < 46) (l1 : l < 1000) (k1 : k ≤ 16) : f_X4_emptyFrom N o (am_z l) (am_z k) h = some ((), qc_em p ((f + l) % 46 * 16) k h) := by
  unfold f_X4_emptyFrom
  simp (disch := omega) only [am_z_lit, am_z_neg, am_z_add, am_z_sub, am_z_mul, am_z_le, am_z_lt, am_z_eq, am_z_cl, am_z_int, if_pos, if_neg, (qc_O1 hO).1, cond_true, qc_start hO hf f1 l1, am_bi_s]
  exact qc_emL hO (by omega) N k h k1 (by omega)
/-- the ring of lines holds these rows -/
def qc_D (o p : Nat) (h : am_Hp) (f w hh row col up : Nat) (L : Nat → Nat → Int32) : Prop :=
  f < 46 ∧ h o 1 = am_z f ∧ h o 2 = am_z up ∧ h o 3 = am_z w ∧ h o 4 = am_z hh ∧ h o 5 = am_z row ∧ h o 6 = am_z col ∧ ∀ l c, l < up + hh → c < 16 → h p ((f + l) % 46 * 16 + c) = L l c
def qc_fr (o p : Nat) (h h' : am_Hp) : Prop := ∀ a, a ≠ o → a ≠ p → h' a = h a
theorem qc_frt {h h1 h2 : am_Hp} (a : qc_fr o p h h1) (b : qc_fr o p h1 h2) : qc_fr o p h h2 := fun x y z => (b x y z).trans (a x y z)
theorem qc_emo {b k : Nat} {h : am_Hp} {a : Nat} (ha : a ≠ p) : qc_em p b k h a = h a := by
  funext j
  simp [qc_em, ha]
theorem qc_emp {b k : Nat} {h : am_Hp} {j : Nat} : qc_em p b k h p j = if b + k ≤ j ∧ j < b + 16 then am_z 27 else h p j := by simp [qc_em]
theorem qc_pia {h : am_Hp} {a k : Nat} {v : Int32} {x : Nat} (hx : x ≠ a) : am_pi h a k v x = h x := by
  funext y; exact am_pi_a hx
/-- a row is emptied from a place on -/
theorem qc_emD {h : am_Hp} {f w hh row col up l k : Nat} {L : Nat → Nat → Int32} (hO : qc_O o p) (hD : qc_D o p h f w hh row col up L) (h46 : up + hh ≤ 46) (hl : l < 46) :
    qc_D o p (qc_em p ((f + l) % 46 * 16) k h) f w hh row col up (fun l' c => if l' = l ∧ k ≤ c then am_z 27 else L l' c) := by
  obtain ⟨d0, d1, d2, d3, d4, d5, d6, d7⟩ := hD
  have g5 := (qc_O1 hO).2.2.2.2
  unfold qc_D
  simp only [qc_emo g5]
  refine ⟨d0, d1, d2, d3, d4, d5, d6, fun l' c h1 h2 => ?_⟩
  rw [qc_emp]
  by_cases hl' : l' = l
  · subst hl'
    by_cases hk : k ≤ c
    · rw [if_pos (by omega), if_pos (by omega)]
    · rw [if_neg (by omega), if_neg (by omega)]; exact d7 _ _ h1 h2
  · have hne : (f + l') % 46 ≠ (f + l) % 46 := by omega
    rw [if_neg (by omega), if_neg (by omega)]; exact d7 _ _ h1 h2
theorem qc_addRow {h : am_Hp} {f w hh row col up : Nat} {L : Nat → Nat → Int32} (hN : 100 ≤ N) (hO : qc_O o p) (hD : qc_D o p h f w hh row col up L) (h46 : up + hh < 46) (hL : ∀ c, L (up + hh) c = am_z 27) :
    ∃ h', f_X4_addRow N o h = some ((), h') ∧ qc_D o p h' f w (hh + 1) row col up L ∧ qc_fr o p h h' := by
  have hD0 := hD
  obtain ⟨d0, d1, d2, d3, d4, d5, d6, d7⟩ := hD
  obtain ⟨g1, g2, g3, g4, g5⟩ := qc_O1 hO
  have e1 : (hh : Int) + 1 = ((hh + 1 : Nat) : Int) := by omega
  have e2 : (up : Int) + ((hh + 1 : Nat) : Int) - 1 = ((up + hh : Nat) : Int) := by omega
  refine ⟨qc_em p ((f + (up + hh)) % 46 * 16) 0 (am_pi h o 4 (am_z ((hh + 1 : Nat) : Int))), ?_, ?_, ?_⟩
  · unfold f_X4_addRow
    have s1 := qc_empty (N := N) (h := am_pi h o 4 (am_z ((hh + 1 : Nat) : Int))) (f := f) (l := up + hh) (k := 0) hN hO (by rw [am_pi_k (by decide)]; exact d1) d0 (by omega) (by omega)
    simp (disch := decide) only [g1, cond_true, d4, am_z_lit, am_z_add, e1, am_pi_s, am_pi_k, d2, am_z_sub, e2]
    have s1' : f_X4_emptyFrom N o (am_z ((up + hh : Nat) : Int)) (am_z 0) (am_pi h o 4 (am_z ((hh + 1 : Nat) : Int))) = _ := s1
    rw [s1', am_bi_s]
  · unfold qc_D
    simp (disch := decide) only [qc_emo g5, am_pi_s, am_pi_k]
    refine ⟨d0, d1, d2, d3, trivial, d5, d6, fun l' c h1 h2 => ?_⟩
    rw [qc_emp, qc_pia (Ne.symm g5)]
    by_cases hl' : l' = up + hh
    · subst hl'
      rw [if_pos (by omega)]; exact (hL c).symm
    · have hne : (f + l') % 46 ≠ (f + (up + hh)) % 46 := by omega
      rw [if_neg (by omega)]; exact d7 _ _ (by omega) h2
  · intro a h1 h2
    rw [qc_emo h2, qc_pia h1]
end SCR
