section TE1
variable {S S' S1 S2 : dm_S} {a b n0 m v c : Nat} {L M : List Nat} {X : tm_X} {N : Nat}
theorem te_newLen {x y w : Int} {r : Nat} (h1 : 0 < x + max y w) (h2 : x + max y w ≤ 100000) (hx : 0 ≤ x) (hx2 : x ≤ 100000) (hy : -100000 ≤ y) (hw : -100000 ≤ w) (hr : x + max y w = r) : e_T_newLen X N (am_z x) (am_z y) (am_z w) S = some (am_z (r : Int), S) := by
  have c1 : ¬ (am_z (r : Int) ≤ am_z 0) := te_lei (by omega) (by omega) (by omega) (by omega) (by omega)
  have c2 : ¬ (am_z 2147483639 < am_z (r : Int)) := te_lti (by omega) (by omega) (by omega) (by omega) (by omega)
  have c1 : ¬ (am_z (r : Int) ≤ (0 : Int32)) := c1
  have c2 : ¬ ((2147483639 : Int32) < am_z (r : Int)) := c2
  have e1 : (if am_z y < am_z w then am_z w else am_z y) = am_z (max y w) := by
    by_cases q : y < w
    · rw [if_pos (by rw [am_z_lt (by omega) (by omega) (by omega) (by omega)]; exact q)]
      congr 1
      omega
    · rw [if_neg (te_lti (by omega) (by omega) (by omega) (by omega) q)]
      congr 1
      omega
  have e2 : e_T_max X N (am_z y) (am_z w) S = some (am_z (max y w), S) := by
    unfold e_T_max
    simp only [te_ri21, cond_true]
    rw [← e1]
    by_cases q : am_z y < am_z w
    · rw [if_pos q, if_pos q]
    · rw [if_neg q, if_neg q]
  unfold e_T_newLen
  rw [e2, dv_bi, am_z_add, hr, if_neg c1, if_neg c2, te_ri20, cond_true]
theorem te_newCap {need : Nat} (hB : te_B S n0 a v c L) (hneed : need ≤ 900) (hc : c < need) (hb : dm_n S + 8000 < dm_bg) : e_T_newCap X N a (am_z (need : Int)) S = some (am_z ((max need (2 * c + 2) : Nat) : Int), S) := by
  obtain ⟨b1, b2, b3, b4, b5, b6, b7, b8, b9, b10, b11⟩ := hB
  obtain ⟨-, a1, a2⟩ := dm_ok_s b3
  obtain ⟨-, v1, v2⟩ := dm_ok_s b7
  have q1 : v < dm_bg := by omega
  have e2 : am_z (c : Int) + (2 : Int32) = am_z ((c : Int) + 2) := am_z_add (c : Int) 2
  have e3 := te_newLen (X := X) (N := N) (S := S) (x := (c : Int)) (y := (need : Int) - (c : Int)) (w := (c : Int) + 2) (r := max need (2 * c + 2)) (by omega) (by omega) (by omega) (by omega) (by omega) (by omega) (by omega)
  have e4 : ¬ (am_z ((max need (2 * c + 2) : Nat) : Int) = (2147483647 : Int32)) := te_eqi (y := 2147483647) (by omega) (by omega) (by omega) (by omega) (by omega)
  unfold e_T_newCap
  simp only [te_ncs a1, cond_false, b3, cond_true, b4, dv_nn q1, if_false, dv_cl q1, te_ncb v1, te_nbq v1 (show 950 < 1000 by decide), b7, Bool.or_true, b8, b5, te_sr, te_sl, am_z_nat, am_z_sub, e2, e3, dv_bi, if_neg e4, te_ri19]
theorem te_copyOf {w : Nat} (o4 : dm_ok S 4 v = true) (hl : dm_len S v = c) (hc : c < w) (hw : w ≤ 100000) (hb : dm_n S + 8000 < dm_bg) : ∃ S1, e_T_copyOf X N v (am_z (w : Int)) S = some (dm_n S, S1) ∧ dm_h S1 = dm_h S ∧ dm_n S1 = dm_n S + 1 ∧ dm_zz S1 = dm_zz S + w ∧ dm_k S1 (dm_n S) = (4, 7, w) ∧ (∀ b, b ≠ dm_n S → dm_k S1 b = dm_k S b ∧ dm_g S1 b = dm_g S b) ∧ ∀ j, j < c → dm_g S1 (dm_n S) j = dm_g S v j := by
  obtain ⟨-, v1, v2⟩ := dm_ok_s o4
  have hne : v ≠ dm_n S := by omega
  have q1 : w < dm_bg := by unfold dm_bg; omega
  have q2 : c < dm_bg := by omega
  have e1 : ¬ (am_z (w : Int) = am_z (c : Int)) := te_eqi (by omega) (by omega) (by omega) (by omega) (by omega)
  have e2 : Nat.ble w 100000 = true := Nat.ble_eq.mpr hw
  have p1 : dm_ok (dm_nw S (4, 7, w) (fun _ => 0) w) 4 v = true := te_okk o4 (Nat.le_succ _) (by rw [te_nk, if_neg hne])
  have p2 : dm_ok (dm_nw S (4, 7, w) (fun _ => 0) w) 4 (dm_n S) = true := dv_okm (by rw [te_nk, if_pos rfl]) (by omega) (Nat.lt_succ_self _)
  have p3 : dm_len (dm_nw S (4, 7, w) (fun _ => 0) w) v = c := by unfold dm_len at hl ⊢; rw [te_nk, if_neg hne]; exact hl
  have p4 : dm_len (dm_nw S (4, 7, w) (fun _ => 0) w) (dm_n S) = w := by unfold dm_len; rw [te_nk, if_pos rfl]
  have e3 : e_T_min X N (am_z (c : Int)) (am_z (w : Int)) (dm_nw S (4, 7, w) (fun _ => 0) w) = some (am_z (c : Int), dm_nw S (4, 7, w) (fun _ => 0) w) := by
    unfold e_T_min
    rw [if_neg (te_lti (by omega) (by omega) (by omega) (by omega) (by omega)), te_ri22, cond_true]
  have e4 : Nat.ble c w = true := Nat.ble_eq.mpr (by omega)
  have e5 : Nat.ble c c = true := Nat.ble_eq.mpr (Nat.le_refl _)
  refine ⟨tm_cp (dm_nw S (4, 7, w) (fun _ => 0) w) (dm_n S) (dm_g (dm_nw S (4, 7, w) (fun _ => 0) w) v) 0 0 c, ?_, rfl, rfl, rfl, if_pos rfl, fun b hb9 => ⟨if_neg hb9, ?_⟩, fun j hj => ?_⟩
  · unfold e_T_copyOf
    simp only [te_ncb v1, cond_false, te_nbq v1 (show 950 < 1000 by decide), o4, Bool.or_true, cond_true, hl, am_z_nat, if_neg e1, dv_nn q1, if_false, dv_cl q1, e2, p1, p3, e3, dv_bi, dv_nn q2, te_lt0, dv_cl q2, te_t0, Nat.zero_add, p2, p4, e4, e5, Bool.and_true]
  · rw [te_cg2 hb9]
    funext j
    exact if_neg hb9
  · rw [te_cg, if_pos ⟨rfl, Nat.zero_le _, by omega⟩, te_ng, if_neg hne]
    rw [show 0 + (j - 0) = j by omega]
theorem te_ens {need : Nat} (hB : te_B S n0 a v c L) (hneed : need ≤ 900) (hn0 : n0 ≤ dm_n S) (hb : dm_n S + 8000 < dm_bg) : ∃ S' v' c', e_T_ensure X N a (am_z (need : Int)) S = some ((), S') ∧ te_B S' n0 a v' c' L ∧ need ≤ c' ∧ te_F n0 1 2000 S S' ∧ ∀ y, y < dm_n S → y ≠ a → dm_g S' y = dm_g S y := by
  have hB9 := hB
  obtain ⟨b1, b2, b3, b4, b5, b6, b7, b8, b9, b10, b11⟩ := hB
  obtain ⟨k6, a1, a2⟩ := dm_ok_s b3
  obtain ⟨k4, v1, v2⟩ := dm_ok_s b7
  have q1 : v < dm_bg := by omega
  by_cases hc : need ≤ c
  · have e1 : am_z ((need : Int) - (c : Int)) ≤ (0 : Int32) := te_lej (y := 0) (by omega) (by omega) (by omega) (by omega) (by omega)
    refine ⟨S, v, c, ?_, hB9, hc, te_Fm (Nat.zero_le _) (Nat.zero_le _) te_F0, fun _ _ _ => rfl⟩
    unfold e_T_ensure
    simp only [te_ncs a1, cond_false, b3, cond_true, b4, dv_nn q1, if_false, dv_cl q1, te_ncb v1, te_nbq v1 (show 950 < 1000 by decide), b7, Bool.or_true, b8, b5, te_sr, am_z_nat, am_z_sub, if_pos e1]
  · have e1 : ¬ (am_z ((need : Int) - (c : Int)) ≤ (0 : Int32)) := te_lei (y := 0) (by omega) (by omega) (by omega) (by omega) (by omega)
    have e2 := te_newCap (X := X) (N := N) hB9 hneed (by omega) hb
    obtain ⟨w, hw⟩ : ∃ w, w = max need (2 * c + 2) := ⟨_, rfl⟩
    rw [← hw] at e2
    obtain ⟨S1, f1, f2, f3, f4, f5, f6, f7⟩ := te_copyOf (X := X) (N := N) (w := w) b7 b8 (by omega) (by omega) hb
    have hna : a ≠ dm_n S := by omega
    have hnv : v ≠ dm_n S := by omega
    have o6 : dm_ok S1 6 a = true := te_okk b3 (by omega) (f6 a hna).1
    have o4 : dm_ok S1 4 (dm_n S) = true := dv_okm (by rw [f5]) (by omega) (by omega)
    have q2 : dm_n S < dm_bg := by omega
    refine ⟨dm_wr S1 a 0 (am_z ((dm_n S : Nat) : Int)), dm_n S, w, ?_, ⟨b1, hn0, o6, dv_g_w1, ?_, ?_, o4, ?_, by omega, by omega, fun j hj => ?_⟩, by omega, ⟨f2, ?_, ?_, ?_, fun y hy => ?_, fun y hy => ?_⟩, fun y hy hya => ?_⟩
    · unfold e_T_ensure
      simp only [te_ncs a1, cond_false, b3, cond_true, b4, dv_nn q1, if_false, dv_cl q1, te_ncb v1, te_nbq v1 (show 950 < 1000 by decide), b7, Bool.or_true, b8, b5, te_sr, te_sl, am_z_nat, am_z_sub, if_neg e1, e2, dv_bi, f1, o6, o4, dv_blt q2, Bool.and_true]
    · rw [dv_g_w2 (by decide), (f6 a hna).2]; exact b5
    · rw [dv_g_w2 (by decide), (f6 a hna).2]; exact b6
    · unfold dm_len; rw [dv_k_wr, f5]
    · rw [dv_g_w3 (Ne.symm hna), f7 j (by omega)]; exact b11 j hj
    · show dm_n S ≤ dm_n S1
      omega
    · show dm_n S1 ≤ dm_n S + 1
      omega
    · show dm_zz S1 ≤ dm_zz S + 2000
      omega
    · rw [dv_k_wr]; exact (f6 y (by omega)).1
    · rw [dv_g_w3 (by omega)]; exact (f6 y (by omega)).2
    · rw [dv_g_w3 hya]; exact (f6 y (by omega)).2
/-- the bytes of a string go into a builder's array -/
theorem te_getBytes {i : Nat} (hT : te_T S m b M) (o4 : dm_ok S 4 v = true) (hl : i + M.length ≤ dm_len S v) (hc : dm_len S v ≤ 100000) (hb : dm_n S < dm_bg) : ∃ f : Nat → Int32, (∀ j, j < M.length → f j = am_z ((M.getD j 0 : Nat) : Int)) ∧ e_T_getBytes X N b v (am_z (i : Int)) 0 S = some ((), tm_cp S v f 0 i M.length) := by
  have hco := te_coder (X := X) (N := N) hT
  have q0 : M.length < dm_bg := by unfold dm_bg; omega
  have q9 : i < dm_bg := by unfold dm_bg; omega
  have e1 : Nat.ble (i + M.length) (dm_len S v) = true := Nat.ble_eq.mpr hl
  have e2 : Nat.ble M.length M.length = true := Nat.ble_eq.mpr (Nat.le_refl _)
  rcases hT with ⟨k, hk, rfl, rfl⟩ | ⟨u, -, -, h1, h0, h2, h3, h4, h5⟩
  · have e : 900 + k + 20 - 920 = k := by omega
    obtain ⟨c1, c2, c3⟩ := te_Cs k hk
    refine ⟨tm_sb k, c3, ?_⟩
    unfold e_T_getBytes
    simp only [te_cs hk, Bool.true_or, cond_true, hco, dv_bi, if_true, te_cb hk, e, c1, am_z_nat, dv_nn q0, if_false, te_sl, dv_nn q9, te_lt0, o4, dv_cl q9, dv_cl q0, e1, Bool.and_true, te_t0, Nat.zero_add, e2]
  · obtain ⟨-, a1, a2⟩ := dm_ok_s h1
    obtain ⟨-, u1, u2⟩ := dm_ok_s h3
    have q1 : u < dm_bg := by omega
    refine ⟨dm_g S u, h5, ?_⟩
    unfold e_T_getBytes
    simp only [te_ncs a1, Bool.false_or, h1, cond_true, cond_false, hco, dv_bi, if_true, h0, dv_nn q1, dv_cl q1, te_ncb u1, te_nbq u1 (show 950 < 1000 by decide), h3, Bool.or_true, h4, am_z_nat, dv_nn q0, if_false, te_sl, dv_nn q9, te_lt0, o4, dv_cl q9, dv_cl q0, e1, Bool.and_true, te_t0, Nat.zero_add, e2]
theorem te_app (hT : te_T S m b M) (hB : te_B S n0 a v c L) (hl : L.length + M.length ≤ 900) (hn0 : n0 ≤ dm_n S) (hb : dm_n S + 8000 < dm_bg) : ∃ S' v' c', e_T_SBappS X N a b S = some (a, S') ∧ te_B S' n0 a v' c' (L ++ M) ∧ te_F n0 1 2000 S S' := by
  obtain ⟨k6, a1, a2⟩ := dm_ok_s hB.2.2.1
  have l0 := te_len (X := X) (N := N) hT (by omega)
  have g3 := hB.2.2.2.2.2.1
  have o6 := hB.2.2.1
  obtain ⟨S1, v', c', en, hB1, hc, hF, hg⟩ := te_ens (X := X) (N := N) (need := L.length + M.length) hB hl hn0 hb
  have hT1 : te_T S1 m b M := te_T_k (b := a) hT hF.2.1 k6 hF.2.2.2.2.1 hg
  have hB9 := hB1
  obtain ⟨b1, b2, b3, b4, b5, b6, b7, b8, b9, b10, b11⟩ := hB1
  have hF9 := hF
  obtain ⟨F1, F2, F3, F4, F5, F6⟩ := hF
  obtain ⟨k4, v1, v2⟩ := dm_ok_s b7
  obtain ⟨k61, -, a3⟩ := dm_ok_s b3
  have hva : v' ≠ a := fun e => by rw [e, k61] at k4; cases k4
  have q1 : v' < dm_bg := by omega
  have ec : am_z (L.length : Int) + am_z (M.length : Int) = am_z ((L.length + M.length : Nat) : Int) := am_z_add _ _
  have hco := te_coder (X := X) (N := N) hT1
  obtain ⟨f, f1, f2⟩ := te_getBytes (X := X) (N := N) (v := v') (i := L.length) hT1 b7 (by omega) (by omega) (by omega)
  have inf : e_T_inflIf X N a b S1 = some ((), S1) := by
    unfold e_T_inflIf
    simp only [if_neg te_10, te_ncs a1, cond_false, b3, cond_true, te_tok hT1, hco, dv_bi, b5, if_true]
  have o61 : dm_ok (tm_cp S1 v' f 0 L.length M.length) 6 a = true := b3
  have g61 : dm_g (tm_cp S1 v' f 0 L.length M.length) a 3 = am_z (L.length : Int) := by rw [te_cg2 (Ne.symm hva)]; exact b6
  refine ⟨dm_wr (tm_cp S1 v' f 0 L.length M.length) a 3 (am_z ((L.length + M.length : Nat) : Int)), v', c', ?_, ⟨b1, b2, b3, ?_, ?_, ?_, b7, b8, by rw [List.length_append]; exact hc, b10, fun j hj => ?_⟩, ⟨F1, F2, F3, F4, F5, fun y hy => ?_⟩⟩
  · unfold e_T_SBappS e_T_ASBappS e_T_putStr
    simp only [o6, cond_true, te_tok hT, l0, dv_bi, te_ncs a1, cond_false, g3, ec, en, b3, inf, b4, dv_nn q1, if_false, dv_cl q1, te_tok hT1, b6, b5, f2, o61, Bool.and_true, g61]
  · rw [dv_g_w2 (by decide), te_cg2 (Ne.symm hva)]; exact b4
  · rw [dv_g_w2 (by decide), te_cg2 (Ne.symm hva)]; exact b5
  · rw [dv_g_w1, List.length_append]
  · rw [dv_g_w3 hva, te_cg]
    rw [List.length_append] at hj
    by_cases h9 : L.length ≤ j
    · rw [if_pos ⟨rfl, h9, hj⟩, te_gaR h9, Nat.zero_add]
      exact f1 _ (by omega)
    · rw [if_neg (fun z => h9 z.2.1), te_gaL (by omega)]
      exact b11 j (by omega)
  · rw [dv_g_w3 (by omega), te_cg2 (by omega)]
    exact F6 y hy
end TE1
