section DV2
variable {N : Nat}
theorem dv_blkI {K : Nat → Int32 → Int32 → dm_S → Option (Unit × dm_S)} {a2 a5 w : Nat} {i3 i4 : Int32} (hw : w ≤ 1000) : ∀ (m i n : Nat) (S : dm_S), i + m = w → m < n → dm_ok S 2 a5 = true → dm_len S a5 = w →
    ∃ S', el_X10_blank_39 N K n a2 i3 i4 a5 (am_z (i : Int)) S = K a2 i3 (i4 + 1) S' ∧ dm_h S' = dm_h S ∧ dm_n S' = dm_n S ∧ dm_zz S' = dm_zz S ∧ dm_k S' = dm_k S ∧ (∀ b, b ≠ a5 → dm_g S' b = dm_g S b) ∧ ∀ c, c < w → dm_g S' a5 c = if i ≤ c then am_z 27 else dm_g S a5 c
  | 0, i, n + 1, S, h1, h2, h5, h6 => by
    refine ⟨S, ?_, rfl, rfl, rfl, rfl, fun _ _ => rfl, fun c hc => by rw [if_neg (by omega)]⟩
    unfold el_X10_blank_39
    have e1 : am_z (w : Int) ≤ am_z (i : Int) := by rw [am_z_le (by omega) (by omega) (by omega) (by omega)]; omega
    simp only [h5, Bool.true_or, cond_true, h6, dv_of, if_pos e1]
  | m + 1, i, n + 1, S, h1, h2, h5, h6 => by
    obtain ⟨S', e, f1, f2, f3, f4, f5, f6⟩ := dv_blkI (K := K) (a2 := a2) (i3 := i3) (i4 := i4) hw m (i + 1) n (dm_wr S a5 i (am_z 27)) (by omega) (by omega) h5 h6
    refine ⟨S', ?_, f1, f2, f3, f4, fun b hb => by rw [f5 b hb, dv_g_w3 hb], fun c hc => ?_⟩
    · unfold el_X10_blank_39
      have e1 : ¬ am_z (w : Int) ≤ am_z (i : Int) := by rw [am_z_le (by omega) (by omega) (by omega) (by omega)]; omega
      have e2 : am_in (am_z (i : Int)) w = true := am_z_int (by omega) (by omega) (by omega)
      have e3 : (am_z (i : Int)).toNatClampNeg = i := by rw [am_z_cl (by omega) (by omega), Int.toNat_natCast]
      have e4 : (am_z (i : Int)) + (1 : Int32) = am_z ((i + 1 : Nat) : Int) := by
        rw [show (1 : Int32) = am_z 1 from rfl, am_z_add]
        rfl
      simp only [h5, Bool.true_or, cond_true, h6, dv_of, if_neg e1, e2, Bool.and_true, e3, e4]
      exact e
    · rw [f6 c hc]
      by_cases hci : c = i
      · subst hci
        rw [if_neg (by omega), if_pos (Nat.le_refl _), dv_g_w1]
      · rw [dv_g_w2 hci]
        by_cases h9 : i ≤ c
        · rw [if_pos h9, if_pos (by omega)]
        · rw [if_neg h9, if_neg (by omega)]
theorem dv_blkO {a2 w hh : Nat} {r : Nat → Nat} (hN : 2000 ≤ N) (hw : w ≤ 1000) (hh1 : hh ≤ 1000) (hr : ∀ i j, i < hh → j < hh → r i = r j → i = j) (hr2 : ∀ i, i < hh → r i ≠ a2 ∧ r i < dm_bg) : ∀ (m i n : Nat) (S : dm_S), i + m = hh → m < n → dm_ok S 3 a2 = true → dm_len S a2 = hh → (∀ j, j < hh → dm_g S a2 j = am_z (r j : Int) ∧ dm_ok S 2 (r j) = true ∧ dm_len S (r j) = w) →
    ∃ S', el_X10_blank_24 N n a2 (am_z (hh : Int)) (am_z (i : Int)) S = some ((), S') ∧ dm_h S' = dm_h S ∧ dm_n S' = dm_n S ∧ dm_zz S' = dm_zz S ∧ dm_k S' = dm_k S ∧ (∀ b, (∀ j, i ≤ j → j < hh → b ≠ r j) → dm_g S' b = dm_g S b) ∧ ∀ j, i ≤ j → j < hh → ∀ c, c < w → dm_g S' (r j) c = am_z 27
  | 0, i, n + 1, S, h1, h2, h3, h4, h5 => by
    refine ⟨S, ?_, rfl, rfl, rfl, rfl, fun _ _ => rfl, fun j h6 h7 => by omega⟩
    unfold el_X10_blank_24
    have e1 : am_z (hh : Int) ≤ am_z (i : Int) := by rw [am_z_le (by omega) (by omega) (by omega) (by omega)]; omega
    rw [if_pos e1]
  | m + 1, i, n + 1, S, h1, h2, h3, h4, h5 => by
    have hi : i < hh := by omega
    obtain ⟨g1, g2, g3⟩ := h5 i hi
    obtain ⟨S1, e, f1, f2, f3, f4, f5, f6⟩ := dv_blkI (N := N) (K := el_X10_blank_24 N n) (a2 := a2) (i3 := am_z (hh : Int)) (i4 := am_z (i : Int)) hw w 0 N S (by omega) (by omega) g2 g3
    have ok1 : ∀ kd b, dm_ok S1 kd b = dm_ok S kd b := fun kd b => by unfold dm_ok; rw [f4, f2]
    have ln1 : ∀ b, dm_len S1 b = dm_len S b := fun b => by unfold dm_len; rw [f4]
    obtain ⟨S', e', f1', f2', f3', f4', f5', f6'⟩ := dv_blkO hN hw hh1 hr hr2 m (i + 1) n S1 (by omega) (by omega) (by rw [ok1]; exact h3) (by rw [ln1]; exact h4) (fun j hj => by
      obtain ⟨z1, z2, z3⟩ := h5 j hj
      refine ⟨?_, by rw [ok1]; exact z2, by rw [ln1]; exact z3⟩
      rw [f5 a2 (Ne.symm (hr2 i hi).1)]
      exact z1)
    refine ⟨S', ?_, by rw [f1', f1], by rw [f2', f2], by rw [f3', f3], by rw [f4', f4], fun b hb => ?_, fun j h6 h7 c hc => ?_⟩
    · unfold el_X10_blank_24
      have e1 : ¬ am_z (hh : Int) ≤ am_z (i : Int) := by rw [am_z_le (by omega) (by omega) (by omega) (by omega)]; omega
      have e2 : am_in (am_z (i : Int)) hh = true := am_z_int (by omega) (by omega) (by omega)
      have e3 : (am_z (i : Int)).toNatClampNeg = i := by rw [am_z_cl (by omega) (by omega), Int.toNat_natCast]
      have e4 : (am_z (i : Int)) + (1 : Int32) = am_z ((i + 1 : Nat) : Int) := by
        rw [show (1 : Int32) = am_z 1 from rfl, am_z_add]
        rfl
      rw [if_neg e1]
      simp only [h3, h4, e2, Bool.and_true, cond_true, e3, g1, dv_nn (hr2 i hi).2, if_false, dv_cl (hr2 i hi).2]
      rw [e4] at e
      exact e.trans e'
    · rw [f5' b (fun j z1 z2 => hb j (by omega) z2), f5 b (hb i (Nat.le_refl _) hi)]
    · by_cases hji : j = i
      · subst hji
        rw [f5' (r j) (fun j' z1 z2 z3 => by have := hr j j' h7 z2 z3; omega), f6 c hc, if_pos (Nat.zero_le _)]
      · exact f6' j (by omega) h7 c hc
theorem dv_blank {a w hh : Nat} {S : dm_S} (hN : 2000 ≤ N) (hw : w ≤ 1000) (hh1 : hh ≤ 1000) (h1 : dm_ok S 1 a = true) (h3 : dm_g S a 3 = am_z (w : Int)) (hn : 1000 ≤ dm_n S) (hb : dm_n S + 2000 < dm_bg) :
    ∃ S', e_X10_blank N a (am_z (hh : Int)) S = some ((), S') ∧ dm_h S' = dm_h S ∧ dm_n S' = dm_n S + 1 + hh ∧ dm_zz S' = dm_zz S + hh + hh * w ∧ (∀ b, b < dm_n S → dm_k S' b = dm_k S b ∧ (b ≠ a → dm_g S' b = dm_g S b)) ∧ dm_g S' a 0 = am_z (dm_n S : Int) ∧ (∀ j, j ≠ 0 → dm_g S' a j = dm_g S a j) ∧
      dm_k S' (dm_n S) = (3, 6, hh) ∧ ∀ j, j < hh → dm_g S' (dm_n S) j = am_z ((dm_n S + 1 + j : Nat) : Int) ∧ dm_k S' (dm_n S + 1 + j) = (2, 0, w) ∧ ∀ c, c < w → dm_g S' (dm_n S + 1 + j) c = am_z 27 := by
  obtain ⟨k1, k2, k3⟩ := dm_ok_s h1
  have hna : a ≠ dm_n S := by omega
  have mk : ∀ b, b < dm_n S → dm_k (dm_mu S hh w) b = dm_k S b := fun b hb => by
    show (if b = dm_n S then (3, 6, hh) else if dm_n S < b ∧ b ≤ dm_n S + hh then (2, 0, w) else dm_k S b) = _
    rw [if_neg (by omega), if_neg (by omega)]
  have mg : ∀ b, b < dm_n S → dm_g (dm_mu S hh w) b = dm_g S b := fun b hb => by
    funext j
    show (if b = dm_n S then (if j < hh then am_z ((dm_n S + 1 + j : Nat) : Int) else am_z (-1)) else if dm_n S < b ∧ b ≤ dm_n S + hh then 0 else dm_g S b j) = _
    rw [if_neg (by omega), if_neg (by omega)]
  have mk0 : dm_k (dm_mu S hh w) (dm_n S) = (3, 6, hh) := if_pos rfl
  have mg0 : ∀ j, j < hh → dm_g (dm_mu S hh w) (dm_n S) j = am_z ((dm_n S + 1 + j : Nat) : Int) := fun j hj => by
    have e2 : dm_g (dm_mu S hh w) (dm_n S) j = if j < hh then am_z ((dm_n S + 1 + j : Nat) : Int) else am_z (-1) := if_pos rfl
    rw [e2, if_pos hj]
  have mk1 : ∀ j, j < hh → dm_k (dm_mu S hh w) (dm_n S + 1 + j) = (2, 0, w) := fun j hj => by
    show (if dm_n S + 1 + j = dm_n S then (3, 6, hh) else if dm_n S < dm_n S + 1 + j ∧ dm_n S + 1 + j ≤ dm_n S + hh then (2, 0, w) else dm_k S (dm_n S + 1 + j)) = _
    rw [if_neg (by omega), if_pos (by omega)]
  have en : dm_n (dm_mu S hh w) = dm_n S + 1 + hh := rfl
  have okn : dm_ok (dm_mu S hh w) 3 (dm_n S) = true := dv_okm (by rw [mk0]) hn (by rw [en]; omega)
  have oka : dm_ok (dm_mu S hh w) 1 a = true := dv_okm (by rw [mk a k3]; exact k1) k2 (by rw [en]; omega)
  obtain ⟨S', e, f1, f2, f3, f4, f5, f6⟩ := dv_blkO (N := N) (a2 := dm_n S) (w := w) (hh := hh) (r := fun j => dm_n S + 1 + j) hN hw hh1 (fun i j _ _ z => by omega) (fun i hi => ⟨by omega, by omega⟩) hh 0 N (dm_wr (dm_mu S hh w) a 0 (am_z (dm_n S : Int))) (by omega) (by omega) okn (by show (dm_k (dm_mu S hh w) (dm_n S)).2.2 = hh; rw [mk0]) (fun j hj => by
    refine ⟨?_, ?_, ?_⟩
    · rw [dv_g_w3 (Ne.symm hna)]
      exact mg0 j hj
    · exact dv_okm (by rw [dv_k_wr, mk1 j hj]) (by omega) (by rw [dv_n_wr, en]; omega)
    · show (dm_k (dm_mu S hh w) (dm_n S + 1 + j)).2.2 = w
      rw [mk1 j hj])
  refine ⟨S', ?_, by rw [f1]; rfl, by rw [f2]; rfl, by rw [f3]; rfl, fun b hb => ⟨by rw [f4, dv_k_wr, mk b hb], fun hba => ?_⟩, ?_, fun j hj => ?_, by rw [f4, dv_k_wr, mk0], fun j hj => ⟨?_, by rw [f4, dv_k_wr, mk1 j hj], fun c hc => f6 j (Nat.zero_le _) hj c hc⟩⟩
  · unfold e_X10_blank
    have e1 : ∀ x : Nat, x ≤ 1000 → ¬ (am_z (x : Int) < 0) := fun x hx => by
      have e0 : (0 : Int32) = am_z 0 := rfl
      rw [e0, am_z_lt (by omega) (by omega) (by omega) (by omega)]
      omega
    have e2 : ∀ x : Nat, x ≤ 1000 → (am_z (x : Int)).toNatClampNeg = x := fun x hx => by rw [am_z_cl (by omega) (by omega), Int.toNat_natCast]
    have e3 : Nat.ble hh 1000 = true := Nat.ble_eq.mpr hh1
    have e4 : Nat.ble w 1000 = true := Nat.ble_eq.mpr hw
    have e5 : Nat.blt (dm_n S + 2000) dm_bg = true := Nat.blt_eq.mpr hb
    have e6 : Nat.blt (dm_n S) dm_bg = true := Nat.blt_eq.mpr (by omega)
    have e7 : dm_len (dm_mu S hh w) (dm_n S) = hh := by unfold dm_len; rw [mk0]
    simp only [h1, cond_true, if_neg (e1 hh hh1), h3, if_neg (e1 w hw), e2 hh hh1, e2 w hw, e3, e4, e5, e6, Bool.and_true, oka, dv_ok_wr, dv_g_w1, dv_nn (show dm_n S < dm_bg by omega), if_false, dv_cl (show dm_n S < dm_bg by omega), okn, Bool.or_true, dv_len_wr, e7, dv_of]
    exact e
  · rw [f5 b (fun j _ _ => by omega), dv_g_w3 hba, mg b hb]
  · rw [f5 a (fun j _ _ => by omega), dv_g_w1]
  · rw [f5 a (fun j' _ _ => by omega), dv_g_w2 hj, mg a k3]
  · rw [f5 (dm_n S) (fun j' _ _ => by omega), dv_g_w3 (Ne.symm hna), mg0 j hj]
end DV2
