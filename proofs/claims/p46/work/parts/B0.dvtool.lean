/-! ===== the mathematics of the law's own screens ===== -/
section DV0
variable {S : dm_S} {a b k kd z w hh j : Nat} {v : Int32} {q : Nat × Nat × Nat} {f : Nat → Int32} {h : am_Hp}
theorem dv_g_wr : dm_g (dm_wr S a k v) b j = if b = a ∧ j = k then v else dm_g S b j := rfl
theorem dv_g_w1 : dm_g (dm_wr S a k v) a k = v := by rw [dv_g_wr, if_pos ⟨rfl, rfl⟩]
theorem dv_g_w2 (hj : j ≠ k) : dm_g (dm_wr S a k v) a j = dm_g S a j := by rw [dv_g_wr, if_neg (fun z => hj z.2)]
theorem dv_g_w3 (hb : b ≠ a) : dm_g (dm_wr S a k v) b = dm_g S b := by
  funext j
  rw [dv_g_wr, if_neg (fun z => hb z.1)]
theorem dv_k_wr : dm_k (dm_wr S a k v) = dm_k S := rfl
theorem dv_n_wr : dm_n (dm_wr S a k v) = dm_n S := rfl
theorem dv_z_wr : dm_zz (dm_wr S a k v) = dm_zz S := rfl
theorem dv_h_wr : dm_h (dm_wr S a k v) = dm_h S := rfl
theorem dv_ok_wr : dm_ok (dm_wr S a k v) kd b = dm_ok S kd b := rfl
theorem dv_len_wr : dm_len (dm_wr S a k v) b = dm_len S b := rfl
theorem dv_g_sh : dm_g (dm_sh S h) = dm_g S := rfl
theorem dv_k_sh : dm_k (dm_sh S h) = dm_k S := rfl
theorem dv_n_sh : dm_n (dm_sh S h) = dm_n S := rfl
theorem dv_z_sh : dm_zz (dm_sh S h) = dm_zz S := rfl
theorem dv_h_sh : dm_h (dm_sh S h) = h := rfl
theorem dv_ok_sh : dm_ok (dm_sh S h) kd b = dm_ok S kd b := rfl
theorem dv_len_sh : dm_len (dm_sh S h) b = dm_len S b := rfl
theorem dv_okm (h1 : (dm_k S b).1 = kd) (h2 : 1000 ≤ b) (h3 : b < dm_n S) : dm_ok S kd b = true := by
  unfold dm_ok
  rw [Bool.and_eq_true, Bool.and_eq_true, h1]
  exact ⟨⟨Nat.beq_refl kd, Nat.ble_eq.mpr h2⟩, Nat.blt_eq.mpr h3⟩
theorem dv_blt (h1 : b < dm_bg) : Nat.blt b dm_bg = true := Nat.blt_eq.mpr h1
theorem dv_nn {x : Nat} (h1 : x < dm_bg) : (am_z (x : Int) < 0) = False := by
  unfold dm_bg at h1
  have e0 : (0 : Int32) = am_z 0 := rfl
  rw [e0, am_z_lt (by omega) (by omega) (by omega) (by omega)]
  exact eq_false (by omega)
theorem dv_cl {x : Nat} (h1 : x < dm_bg) : (am_z (x : Int)).toNatClampNeg = x := by
  unfold dm_bg at h1
  rw [am_z_cl (by omega) (by omega), Int.toNat_natCast]
theorem dv_bi {α γ : Type} (x : α) (S : dm_S) (kk : α → dm_S → Option γ) : dm_bi (some (x, S)) kk = kk x S := rfl
theorem dv_of {x : Nat} : Int32.ofNat x = am_z (x : Int) := am_z_nat x
end DV0
section DV1
variable {N : Nat}
/-- the loop that fills a new row -/
theorem dv_rowL {a0 a1 w : Nat} (hw : w ≤ 1000) (hne : a0 ≠ a1) : ∀ (m i n : Nat) (S : dm_S), i + m = w → m < n → dm_ok S 1 a0 = true → dm_g S a0 3 = am_z (w : Int) → dm_ok S 2 a1 = true → dm_len S a1 = w →
    ∃ S', el_X10_row_9 N n a0 a1 (am_z (i : Int)) S = some (a1, S') ∧ dm_h S' = dm_h S ∧ dm_n S' = dm_n S ∧ dm_zz S' = dm_zz S ∧ dm_k S' = dm_k S ∧ (∀ b, b ≠ a1 → dm_g S' b = dm_g S b) ∧ ∀ c, c < w → dm_g S' a1 c = if i ≤ c then am_z 27 else dm_g S a1 c
  | 0, i, n + 1, S, h1, h2, h3, h4, h5, h6 => by
    refine ⟨S, ?_, rfl, rfl, rfl, rfl, fun _ _ => rfl, fun c hc => by rw [if_neg (by omega)]⟩
    unfold el_X10_row_9
    have e1 : am_z (w : Int) ≤ am_z (i : Int) := by rw [am_z_le (by omega) (by omega) (by omega) (by omega)]; omega
    simp only [h3, cond_true, h4, if_pos e1]
  | m + 1, i, n + 1, S, h1, h2, h3, h4, h5, h6 => by
    obtain ⟨S', e, f1, f2, f3, f4, f5, f6⟩ := dv_rowL hw hne m (i + 1) n (dm_wr S a1 i (am_z 27)) (by omega) (by omega) h3 (by rw [dv_g_w3 hne]; exact h4) h5 h6
    refine ⟨S', ?_, f1, f2, f3, f4, fun b hb => by rw [f5 b hb, dv_g_w3 hb], fun c hc => ?_⟩
    · unfold el_X10_row_9
      have e1 : ¬ am_z (w : Int) ≤ am_z (i : Int) := by rw [am_z_le (by omega) (by omega) (by omega) (by omega)]; omega
      have e2 : am_in (am_z (i : Int)) (dm_len S a1) = true := by rw [h6]; exact am_z_int (by omega) (by omega) (by omega)
      have e3 : (am_z (i : Int)).toNatClampNeg = i := by rw [am_z_cl (by omega) (by omega), Int.toNat_natCast]
      have e4 : (am_z (i : Int)) + (1 : Int32) = am_z ((i + 1 : Nat) : Int) := by
        rw [show (1 : Int32) = am_z 1 from rfl, am_z_add]
        rfl
      simp only [h3, cond_true, h4, if_neg e1, h5, e2, Bool.and_true, e3, e4]
      exact e
    · rw [f6 c hc]
      by_cases hci : c = i
      · subst hci
        rw [if_neg (by omega), if_pos (Nat.le_refl _), dv_g_w1]
      · rw [dv_g_w2 hci]
        by_cases h9 : i ≤ c
        · rw [if_pos h9, if_pos (by omega)]
        · rw [if_neg h9, if_neg (by omega)]
/-- a new row: empty -/
theorem dv_row {a w : Nat} {S : dm_S} (hN : 2000 ≤ N) (hw : w ≤ 1000) (h1 : dm_ok S 1 a = true) (h3 : dm_g S a 3 = am_z (w : Int)) (hn : 1000 ≤ dm_n S) :
    ∃ S', e_X10_row N a S = some (dm_n S, S') ∧ dm_h S' = dm_h S ∧ dm_n S' = dm_n S + 1 ∧ dm_zz S' = dm_zz S + w ∧ (∀ b, b ≠ dm_n S → dm_k S' b = dm_k S b ∧ dm_g S' b = dm_g S b) ∧ dm_k S' (dm_n S) = (2, 0, w) ∧ ∀ c, c < w → dm_g S' (dm_n S) c = am_z 27 := by
  obtain ⟨k1, k2, k3⟩ := dm_ok_s h1
  have hne : a ≠ dm_n S := by omega
  have gk : ∀ b, b ≠ dm_n S → dm_k (dm_nw S (2, 0, w) (fun _ => 0) w) b = dm_k S b ∧ dm_g (dm_nw S (2, 0, w) (fun _ => 0) w) b = dm_g S b := fun b hb => ⟨if_neg hb, by funext j; exact if_neg hb⟩
  have gn : dm_k (dm_nw S (2, 0, w) (fun _ => 0) w) (dm_n S) = (2, 0, w) := if_pos rfl
  have en : dm_n (dm_nw S (2, 0, w) (fun _ => 0) w) = dm_n S + 1 := rfl
  obtain ⟨S', e, f1, f2, f3, f4, f5, f6⟩ := dv_rowL (N := N) (a0 := a) (a1 := dm_n S) hw hne w 0 N (dm_nw S (2, 0, w) (fun _ => 0) w) (by omega) (by omega) (dv_okm (by rw [(gk a hne).1]; exact k1) k2 (by rw [en]; omega)) (by rw [(gk a hne).2]; exact h3) (dv_okm (by rw [gn]) hn (by rw [en]; omega)) (by unfold dm_len; rw [gn])
  refine ⟨S', ?_, f1, by rw [f2, en], by rw [f3]; rfl, fun b hb => ⟨by rw [f4, (gk b hb).1], by rw [f5 b hb, (gk b hb).2]⟩, by rw [f4, gn], fun c hc => by rw [f6 c hc, if_pos (Nat.zero_le _)]⟩
  unfold e_X10_row
  have e1 : ¬ (am_z (w : Int) < 0) := by
    have e0 : (0 : Int32) = am_z 0 := rfl
    rw [e0, am_z_lt (by omega) (by omega) (by omega) (by omega)]
    omega
  have e2 : (am_z (w : Int)).toNatClampNeg = w := by rw [am_z_cl (by omega) (by omega), Int.toNat_natCast]
  have e3 : Nat.ble w 100000 = true := Nat.ble_eq.mpr (by omega)
  simp only [h1, cond_true, h3, if_neg e1, e2, e3]
  exact e
end DV1
