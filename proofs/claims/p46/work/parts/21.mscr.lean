/-! ===== the screen of the model, against the same rows of symbols ===== -/
section MSCR
variable {N : Nat}
/-- places i .. m-1 of an array get what g says -/
def qm_map (A i m : Nat) (g : Nat → Int32) (h : am_Hp) : am_Hp := fun a j => if a = A ∧ i ≤ j ∧ j < m then g j else h a j
theorem qm_map_0 {A m : Nat} {g : Nat → Int32} {h : am_Hp} : qm_map A m m g h = h := by
  funext a j
  unfold qm_map
  rw [if_neg (by omega)]
theorem qm_map_s {A i m : Nat} {g : Nat → Int32} {h : am_Hp} (hi : i < m) : qm_map A (i + 1) m g (am_pi h A i (g i)) = qm_map A i m g h := by
  funext a j
  unfold qm_map
  rw [am_pi_ap]
  by_cases ha : a = A
  · subst ha
    by_cases hj : j = i
    · subst hj
      rw [if_neg (by omega), if_pos ⟨rfl, rfl⟩, if_pos (by omega)]
    · rw [if_neg (show ¬ (a = a ∧ j = i) by omega)]
      by_cases hq : i + 1 ≤ j ∧ j < m
      · rw [if_pos (by omega), if_pos (by omega)]
      · rw [if_neg (by omega), if_neg (by omega)]
  · rw [if_neg (by omega), if_neg (by omega), if_neg (by omega)]
theorem qm_map_v {A i m : Nat} {g : Nat → Int32} {h : am_Hp} {v : Int32} (hi : i < m) (hv : v = g i) : qm_map A (i + 1) m g (am_pi h A i v) = qm_map A i m g h := by
  rw [hv]; exact qm_map_s hi
theorem qm_map_a {A i m : Nat} {g : Nat → Int32} {h : am_Hp} {a : Nat} (ha : a ≠ A) : qm_map A i m g h a = h a := by
  funext j
  unfold qm_map
  rw [if_neg (by omega)]
theorem qm_map_p {A i m : Nat} {g : Nat → Int32} {h : am_Hp} {j : Nat} (hj : i ≤ j ∧ j < m) : qm_map A i m g h A j = g j := by
  unfold qm_map
  rw [if_pos ⟨rfl, hj⟩]
theorem qm_map_n {A i m : Nat} {g : Nat → Int32} {h : am_Hp} {j : Nat} (hj : ¬ (i ≤ j ∧ j < m)) : qm_map A i m g h A j = h A j := by
  unfold qm_map
  rw [if_neg (fun z => hj z.2)]
theorem qm_map_g {A i m : Nat} {g g' : Nat → Int32} {h : am_Hp} (e : ∀ j, i ≤ j → j < m → g j = g' j) : qm_map A i m g h = qm_map A i m g' h := by
  funext a j
  unfold qm_map
  by_cases hq : a = A ∧ i ≤ j ∧ j < m
  · rw [if_pos hq, if_pos hq]; exact e j hq.2.1 hq.2.2
  · rw [if_neg hq, if_neg hq]
theorem qm_emptiesL : ∀ (n i : Nat) (h : am_Hp), i ≤ 96 → 97 ≤ n + i → l_X10_empties_2 N n (am_z i) h = some ((), qm_map 200 i 96 (fun _ => am_z 27) h) ∧ l_X10_sizes_102 N n (am_z i) h = some ((), qm_map 200 i 96 (fun _ => am_z 27) h)
  | 0, i, h, h1, h2 => by omega
  | n + 1, i, h, h1, h2 => by
    unfold l_X10_empties_2 l_X10_sizes_102
    by_cases hi : i = 96
    · subst hi
      simp (disch := omega) only [am_z_lit, am_z_neg, am_z_add, am_z_sub, am_z_mul, am_z_le, am_z_lt, am_z_eq, am_z_cl, am_z_int, if_pos, if_neg, qm_map_0, and_self]
    · have e1 : (i : Int) + 1 = ((i + 1 : Nat) : Int) := by omega
      have e2 : am_in (am_z i) 96 = true := am_z_int (by omega) (by omega) (by decide)
      simp (disch := omega) only [am_z_lit, am_z_neg, am_z_add, am_z_sub, am_z_mul, am_z_le, am_z_lt, am_z_eq, am_z_cl, am_z_int, if_pos, if_neg, cond_true, cond_false, am_bi_s, am_bt_s, am_bt_n, Option.bind_some, Bool.and_true, Bool.true_and, Bool.and_false, Bool.false_and, e2, e1, Int.toNat_natCast]
      obtain ⟨a1, a2⟩ := qm_emptiesL n (i + 1) (am_pi h 200 i (am_z 27)) (by omega) (by omega)
      rw [a1, a2, qm_map_s (g := fun _ => am_z 27) (by omega)]
      exact ⟨rfl, rfl⟩
theorem qm_shift {h0 : am_Hp} : ∀ (n i : Nat) (h : am_Hp), i ≤ 96 → 97 ≤ n + i → (∀ j, i ≤ j → h 200 j = h0 200 j) → l_X10_goesUp_150 N n (am_z i) h = some ((), qm_map 200 i 96 (fun j => if j + 16 < 96 then h0 200 (j + 16) else am_z 27) h)
  | 0, i, h, h1, h2, hh => by omega
  | n + 1, i, h, h1, h2, hh => by
    unfold l_X10_goesUp_150
    by_cases hi : i = 96
    · subst hi
      simp (disch := omega) only [am_z_lit, am_z_neg, am_z_add, am_z_sub, am_z_mul, am_z_le, am_z_lt, am_z_eq, am_z_cl, am_z_int, if_pos, if_neg, qm_map_0]
    · have e1 : (i : Int) + 1 = ((i + 1 : Nat) : Int) := by omega
      have e3 : (i : Int) + 16 = ((i + 16 : Nat) : Int) := by omega
      have e2 : am_in (am_z i) 96 = true := am_z_int (by omega) (by omega) (by decide)
      by_cases hq : i + 16 < 96
      · have e4 : am_in (am_z ((i + 16 : Nat) : Int)) 96 = true := am_z_int (by omega) (by omega) (by decide)
        simp (disch := omega) only [am_z_lit, am_z_neg, am_z_add, am_z_sub, am_z_mul, am_z_le, am_z_lt, am_z_eq, am_z_cl, am_z_int, cond_true, cond_false, am_bi_s, am_bt_s, am_bt_n, Option.bind_some, Bool.and_true, Bool.true_and, Bool.and_false, Bool.false_and, e3, e4, e2, e1, if_neg (show ¬ (96 : Int) ≤ i by omega), if_neg (show ¬ (96 : Int) ≤ ((i + 16 : Nat) : Int) by omega), Int.toNat_natCast]
        rw [qm_shift (h0 := h0) n (i + 1) _ (by omega) (by omega) (fun j hj => by rw [am_pi_k (by omega)]; exact hh j (by omega))]
        have e5 : h 200 (i + 16) = (fun j => if j + 16 < 96 then h0 200 (j + 16) else am_z 27) i := by
          show _ = if i + 16 < 96 then h0 200 (i + 16) else am_z 27
          rw [if_pos hq, hh _ (by omega)]
        rw [qm_map_v (g := fun j => if j + 16 < 96 then h0 200 (j + 16) else am_z 27) (i := i) (by omega) e5]
      · simp (disch := omega) only [am_z_lit, am_z_neg, am_z_add, am_z_sub, am_z_mul, am_z_le, am_z_lt, am_z_eq, am_z_cl, am_z_int, cond_true, cond_false, am_bi_s, am_bt_s, am_bt_n, Option.bind_some, Bool.and_true, Bool.true_and, Bool.and_false, Bool.false_and, e3, e2, e1, if_neg (show ¬ (96 : Int) ≤ i by omega), if_pos (show (96 : Int) ≤ ((i + 16 : Nat) : Int) by omega), Int.toNat_natCast]
        rw [qm_shift (h0 := h0) n (i + 1) _ (by omega) (by omega) (fun j hj => by rw [am_pi_k (by omega)]; exact hh j (by omega))]
        have e5 : am_z 27 = (fun j => if j + 16 < 96 then h0 200 (j + 16) else am_z 27) i := by
          show _ = if i + 16 < 96 then h0 200 (i + 16) else am_z 27
          rw [if_neg hq]
        rw [qm_map_v (g := fun j => if j + 16 < 96 then h0 200 (j + 16) else am_z 27) (i := i) (by omega) e5]
/-- the uppermost row of the screen goes behind the kept lines -/
def qm_top (w : Nat) (h : am_Hp) : Nat → Int32 := fun x => if x < w then h 200 x else am_z 27
theorem qm_mv {w up : Nat} {h0 : am_Hp} (hw : w ≤ 16) (hu : up < 40) : ∀ (n i : Nat) (h : am_Hp), i ≤ 16 → 17 ≤ n + i → h 193 14 = am_z up → h 193 9 = am_z w → h 200 = h0 200 →
    l_X10_goesUp_80 N n (am_z i) h = l_X10_goesUp_150 N N (am_z 0) (am_pi (am_pi (qm_map 201 (16 * up + i) (16 * up + 16) (fun j => qm_top w h0 (j - 16 * up)) h) 202 up (am_z w)) 193 14 (am_z ((up + 1 : Nat) : Int)))
  | 0, i, h, h1, h2, d1, d2, d3 => by omega
  | n + 1, i, h, h1, h2, d1, d2, d3 => by
    rw [l_X10_goesUp_80]
    by_cases hi : i = 16
    · subst hi
      have e2 : am_in (am_z up) 40 = true := am_z_int (by omega) (by omega) (by decide)
      have e1 : (up : Int) + 1 = ((up + 1 : Nat) : Int) := by omega
      simp (disch := first | omega | decide) only [am_z_lit, am_z_neg, am_z_add, am_z_sub, am_z_mul, am_z_le, am_z_lt, am_z_eq, am_z_cl, am_z_int, if_pos, if_neg, cond_true, cond_false, am_bi_s, am_bt_s, am_bt_n, Option.bind_some, Bool.and_true, Bool.true_and, Bool.and_false, Bool.false_and, d1, d2, e2, e1, qm_map_0, am_pi_a, Int.toNat_natCast]
    · have e1 : (i : Int) + 1 = ((i + 1 : Nat) : Int) := by omega
      have e2 : am_in (am_z i) 96 = true := am_z_int (by omega) (by omega) (by decide)
      have e3 : 16 * (up : Int) + i = ((16 * up + i : Nat) : Int) := by omega
      have e4 : am_in (am_z ((16 * up + i : Nat) : Int)) 640 = true := am_z_int (by omega) (by omega) (by decide)
      have e6 : 16 * up + i - 16 * up = i := by omega
      by_cases hq : i < w
      · simp (disch := omega) only [am_z_lit, am_z_neg, am_z_add, am_z_sub, am_z_mul, am_z_le, am_z_lt, am_z_eq, am_z_cl, am_z_int, cond_true, cond_false, am_bi_s, am_bt_s, am_bt_n, Option.bind_some, Bool.and_true, Bool.true_and, Bool.and_false, Bool.false_and, d1, d2, e3, e4, e2, e1, if_neg (show ¬ (16 : Int) ≤ i by omega), if_neg (show ¬ (w : Int) ≤ i by omega), Int.toNat_natCast]
        rw [qm_mv (h0 := h0) hw hu n (i + 1) _ (by omega) (by omega) (by rw [am_pi_a (by decide)]; exact d1) (by rw [am_pi_a (by decide)]; exact d2) (by rw [qc_pia (by decide)]; exact d3)]
        have e5 : h 200 i = (fun j => qm_top w h0 (j - 16 * up)) (16 * up + i) := by
          show _ = qm_top w h0 (16 * up + i - 16 * up)
          rw [e6, d3]; unfold qm_top; rw [if_pos hq]
        rw [← Nat.add_assoc, qm_map_v (g := fun j => qm_top w h0 (j - 16 * up)) (i := 16 * up + i) (by omega) e5]
      · simp (disch := omega) only [am_z_lit, am_z_neg, am_z_add, am_z_sub, am_z_mul, am_z_le, am_z_lt, am_z_eq, am_z_cl, am_z_int, cond_true, cond_false, am_bi_s, am_bt_s, am_bt_n, Option.bind_some, Bool.and_true, Bool.true_and, Bool.and_false, Bool.false_and, d1, d2, e3, e4, e2, e1, if_neg (show ¬ (16 : Int) ≤ i by omega), if_pos (show (w : Int) ≤ i by omega), Int.toNat_natCast]
        rw [qm_mv (h0 := h0) hw hu n (i + 1) _ (by omega) (by omega) (by rw [am_pi_a (by decide)]; exact d1) (by rw [am_pi_a (by decide)]; exact d2) (by rw [qc_pia (by decide)]; exact d3)]
        have e5 : am_z 27 = (fun j => qm_top w h0 (j - 16 * up)) (16 * up + i) := by
          show _ = qm_top w h0 (16 * up + i - 16 * up)
          rw [e6]; unfold qm_top; rw [if_neg hq]
        rw [← Nat.add_assoc, qm_map_v (g := fun j => qm_top w h0 (j - 16 * up)) (i := 16 * up + i) (by omega) e5]
theorem qm_dl1 {h0 : am_Hp} : ∀ (n i : Nat) (h : am_Hp), 16 ≤ i → i ≤ 640 → 641 ≤ n + i → (∀ j, i - 16 ≤ j → h 201 j = h0 201 j) → l_X10_goesUp_12 N n (am_z i) h = l_X10_goesUp_42 N N (am_z 1) (qm_map 201 (i - 16) 624 (fun j => h0 201 (j + 16)) h)
  | 0, i, h, h0, h1, h2, hh => by omega
  | n + 1, i, h, z0, h1, h2, hh => by
    rw [l_X10_goesUp_12]
    by_cases hi : i = 640
    · subst hi
      simp (disch := omega) only [am_z_lit, am_z_neg, am_z_add, am_z_sub, am_z_mul, am_z_le, am_z_lt, am_z_eq, am_z_cl, am_z_int, if_pos, if_neg, qm_map_0]
    · have e1 : (i : Int) + 1 = ((i + 1 : Nat) : Int) := by omega
      have e3 : (i : Int) - 16 = ((i - 16 : Nat) : Int) := by omega
      have e2 : am_in (am_z i) 640 = true := am_z_int (by omega) (by omega) (by decide)
      have e4 : am_in (am_z ((i - 16 : Nat) : Int)) 640 = true := am_z_int (by omega) (by omega) (by decide)
      simp (disch := omega) only [am_z_lit, am_z_neg, am_z_add, am_z_sub, am_z_mul, am_z_le, am_z_lt, am_z_eq, am_z_cl, am_z_int, cond_true, cond_false, am_bi_s, am_bt_s, am_bt_n, Option.bind_some, Bool.and_true, Bool.true_and, Bool.and_false, Bool.false_and, e3, e4, e2, e1, if_neg (show ¬ (640 : Int) ≤ i by omega), Int.toNat_natCast]
      rw [qm_dl1 (h0 := h0) n (i + 1) _ (by omega) (by omega) (by omega) (fun j hj => by rw [am_pi_k (by omega)]; exact hh j (by omega))]
      have e5 : h 201 i = (fun j => h0 201 (j + 16)) (i - 16) := by
        show _ = h0 201 (i - 16 + 16)
        rw [hh _ (by omega)]; congr 1; omega
      have e6 : i + 1 - 16 = i - 16 + 1 := by omega
      rw [e6, qm_map_v (g := fun j => h0 201 (j + 16)) (i := i - 16) (by omega) e5]
theorem qm_dl2 {h0 : am_Hp} (hu : h0 193 14 = am_z 40) : ∀ (n i : Nat) (h : am_Hp), 1 ≤ i → i ≤ 40 → 41 ≤ n + i → (∀ j, i - 1 ≤ j → h 202 j = h0 202 j) → h 193 14 = am_z 40 → l_X10_goesUp_42 N n (am_z i) h = l_X10_goesUp_80 N N (am_z 0) (am_pi (qm_map 202 (i - 1) 39 (fun j => h0 202 (j + 1)) h) 193 14 (am_z 39))
  | 0, i, h, h0, h1, h2, hh, hz => by omega
  | n + 1, i, h, z0, h1, h2, hh, hz => by
    rw [l_X10_goesUp_42]
    by_cases hi : i = 40
    · subst hi
      simp (disch := omega) only [am_z_lit, am_z_neg, am_z_add, am_z_sub, am_z_mul, am_z_le, am_z_lt, am_z_eq, am_z_cl, am_z_int, if_pos, if_neg, qm_map_0, hz, show (40 : Int) - 1 = 39 by decide]
    · have e1 : (i : Int) + 1 = ((i + 1 : Nat) : Int) := by omega
      have e3 : (i : Int) - 1 = ((i - 1 : Nat) : Int) := by omega
      have e2 : am_in (am_z i) 40 = true := am_z_int (by omega) (by omega) (by decide)
      have e4 : am_in (am_z ((i - 1 : Nat) : Int)) 40 = true := am_z_int (by omega) (by omega) (by decide)
      simp (disch := omega) only [am_z_lit, am_z_neg, am_z_add, am_z_sub, am_z_mul, am_z_le, am_z_lt, am_z_eq, am_z_cl, am_z_int, cond_true, cond_false, am_bi_s, am_bt_s, am_bt_n, Option.bind_some, Bool.and_true, Bool.true_and, Bool.and_false, Bool.false_and, e3, e4, e2, e1, if_neg (show ¬ (40 : Int) ≤ i by omega), Int.toNat_natCast]
      rw [qm_dl2 hu n (i + 1) _ (by omega) (by omega) (by omega) (fun j hj => by rw [am_pi_k (by omega)]; exact hh j (by omega)) (by rw [am_pi_a (by decide)]; exact hz)]
      have e5 : h 202 i = (fun j => h0 202 (j + 1)) (i - 1) := by
        show _ = h0 202 (i - 1 + 1)
        rw [hh _ (by omega)]; congr 1; omega
      have e6 : i + 1 - 1 = i - 1 + 1 := by omega
      rw [e6, qm_map_v (g := fun j => h0 202 (j + 1)) (i := i - 1) (by omega) e5]
end MSCR
