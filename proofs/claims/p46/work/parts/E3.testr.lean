section TE3
variable {S S' S1 S2 : dm_S} {a b n0 m v c : Nat} {L M : List Nat} {X : tm_X} {N : Nat}
theorem te_s0 (y : Int32) : y - (0 : Int32) = y := Int32.sub_zero y
theorem te_crng {n : Nat} (o4 : dm_ok S 4 v = true) (hl : dm_len S v = c) (hn : n ≤ c) (hc : c ≤ 2000) (hb : dm_n S + 2000 < dm_bg) : ∃ S1, e_T_copyRange X N v (0 : Int32) (am_z (n : Int)) S = some (dm_n S, S1) ∧ dm_h S1 = dm_h S ∧ dm_n S1 = dm_n S + 1 ∧ dm_zz S1 = dm_zz S + n ∧ dm_k S1 (dm_n S) = (4, 7, n) ∧ (∀ b, b ≠ dm_n S → dm_k S1 b = dm_k S b ∧ dm_g S1 b = dm_g S b) ∧ ∀ j, j < n → dm_g S1 (dm_n S) j = dm_g S v j := by
  obtain ⟨-, v1, v2⟩ := dm_ok_s o4
  have hne : v ≠ dm_n S := by omega
  by_cases h : n = c
  · subst h
    have q3 : Nat.blt (dm_n S + 2000) dm_bg = true := Nat.blt_eq.mpr (by omega)
    have p2 : dm_ok (dm_nw S (4, 7, n) (dm_g S v) n) 4 (dm_n S) = true := dv_okm (by rw [te_nk, if_pos rfl]) (by omega) (Nat.lt_succ_self _)
    refine ⟨dm_nw S (4, 7, n) (dm_g S v) n, ?_, rfl, rfl, rfl, if_pos rfl, fun b hb9 => ⟨if_neg hb9, by funext j; exact if_neg hb9⟩, fun j hj => if_pos rfl⟩
    unfold e_T_copyRange
    simp only [if_true, te_ncb v1, cond_false, te_nbq v1 (show 950 < 1000 by decide), o4, Bool.or_true, cond_true, hl, am_z_nat, q3, Bool.and_true, p2]
  · have q1 : n < dm_bg := by unfold dm_bg; omega
    have e1 : ¬ (am_z (n : Int) = am_z (c : Int)) := te_eqi (by omega) (by omega) (by omega) (by omega) (by omega)
    have e2 : Nat.ble n 100000 = true := Nat.ble_eq.mpr (by omega)
    have p1 : dm_ok (dm_nw S (4, 7, n) (fun _ => 0) n) 4 v = true := te_okk o4 (Nat.le_succ _) (by rw [te_nk, if_neg hne])
    have p2 : dm_ok (dm_nw S (4, 7, n) (fun _ => 0) n) 4 (dm_n S) = true := dv_okm (by rw [te_nk, if_pos rfl]) (by omega) (Nat.lt_succ_self _)
    have p3 : dm_len (dm_nw S (4, 7, n) (fun _ => 0) n) v = c := by unfold dm_len at hl ⊢; rw [te_nk, if_neg hne]; exact hl
    have p4 : dm_len (dm_nw S (4, 7, n) (fun _ => 0) n) (dm_n S) = n := by unfold dm_len; rw [te_nk, if_pos rfl]
    have e3 : e_T_min X N (am_z (c : Int)) (am_z (n : Int)) (dm_nw S (4, 7, n) (fun _ => 0) n) = some (am_z (n : Int), dm_nw S (4, 7, n) (fun _ => 0) n) := by
      unfold e_T_min
      rw [if_pos (by rw [am_z_lt (by omega) (by omega) (by omega) (by omega)]; omega), te_ri22, cond_true]
    have e4 : Nat.ble n c = true := Nat.ble_eq.mpr hn
    have e5 : Nat.ble n n = true := Nat.ble_eq.mpr (Nat.le_refl _)
    have cl : e_T_chkLen X N (0 : Int32) (am_z (n : Int)) S = some ((), S) := by
      unfold e_T_chkLen
      have c9 : (0 : Int32) ≤ am_z (n : Int) := te_lej (x := 0) (by omega) (by omega) (by omega) (by omega) (by omega)
      rw [if_pos c9]
    refine ⟨tm_cp (dm_nw S (4, 7, n) (fun _ => 0) n) (dm_n S) (dm_g (dm_nw S (4, 7, n) (fun _ => 0) n) v) 0 0 n, ?_, rfl, rfl, rfl, if_pos rfl, fun b hb9 => ⟨if_neg hb9, ?_⟩, fun j hj => ?_⟩
    · unfold e_T_copyRange e_T_copyRangeB
      simp only [if_true, te_ncb v1, cond_false, te_nbq v1 (show 950 < 1000 by decide), o4, Bool.or_true, cond_true, hl, am_z_nat, if_neg e1, cl, dv_bi, te_s0, dv_nn q1, if_false, dv_cl q1, e2, p1, p3, e3, te_lt0, te_t0, Nat.zero_add, p2, p4, e4, e5, Bool.and_true]
    · rw [te_cg2 hb9]
      funext j
      exact if_neg hb9
    · rw [te_cg, if_pos ⟨rfl, Nat.zero_le _, by omega⟩, te_ng, if_neg hne]
      rw [show 0 + (j - 0) = j by omega]
theorem te_r5 : tm_r4 S 34 [.ref a, .ref b] = dm_ok S 5 a ∧ tm_r4 S 35 [.ref a, .ref b, .null] = dm_ok S 5 a := by
  refine ⟨?_, ?_⟩
  · unfold tm_r4
    rw [show decide (tm_own 34 = "java/lang/String") = true by decide +kernel]
    rfl
  · unfold tm_r4
    rw [show decide (tm_own 35 = "java/lang/String") = true by decide +kernel]
    rfl
theorem te_str (hB : te_B S n0 a v c L) (hb : dm_n S + 8000 < dm_bg) : ∃ r S', e_T_toStr X N a S = some (r, S') ∧ te_S S' (dm_n S') r L ∧ te_F (dm_n S) 2 2100 S S' := by
  obtain ⟨b1, b2, b3, b4, b5, b6, b7, b8, b9, b10, b11⟩ := hB
  obtain ⟨k6, a1, a2⟩ := dm_ok_s b3
  obtain ⟨k4, v1, v2⟩ := dm_ok_s b7
  have o1 : dm_ok (dm_nw S (5, 11, 4) (fun j => if j = 0 then am_z (-1) else 0) 4) 5 (dm_n S) = true := dv_okm (by rw [te_nk, if_pos rfl]) (by omega) (Nat.lt_succ_self _)
  have n1 : dm_n (dm_nw S (5, 11, 4) (fun j => if j = 0 then am_z (-1) else 0) 4) = dm_n S + 1 := rfl
  have z1 : dm_zz (dm_nw S (5, 11, 4) (fun j => if j = 0 then am_z (-1) else 0) 4) = dm_zz S + 4 := rfl
  have h1 : dm_h (dm_nw S (5, 11, 4) (fun j => if j = 0 then am_z (-1) else 0) 4) = dm_h S := rfl
  have k1 : ∀ b, b ≠ dm_n S → dm_k (dm_nw S (5, 11, 4) (fun j => if j = 0 then am_z (-1) else 0) 4) b = dm_k S b ∧ dm_g (dm_nw S (5, 11, 4) (fun j => if j = 0 then am_z (-1) else 0) 4) b = dm_g S b := fun b hb => ⟨if_neg hb, by funext j; exact if_neg hb⟩
  have q3 : Nat.blt (dm_n S + 2000) dm_bg = true := Nat.blt_eq.mpr (by omega)
  unfold e_T_toStr
  rw [q3, cond_true]
  show ∃ r S', (bif tm_r4 (dm_nw S (5, 11, 4) (fun j => if j = 0 then am_z (-1) else 0) 4) 34 [.ref (dm_n S), .ref a] then dm_bi (e_T_strInit X N (dm_n S) a (dm_nw S (5, 11, 4) (fun j => if j = 0 then am_z (-1) else 0) 4)) (fun _ S2 => some (dm_n S, S2)) else none) = some (r, S') ∧ _
  generalize dm_nw S (5, 11, 4) (fun j => if j = 0 then am_z (-1) else 0) 4 = P at *
  have hna : a ≠ dm_n S := by omega
  have hnv : v ≠ dm_n S := by omega
  have p6 : dm_ok P 6 a = true := te_okk b3 (by omega) (k1 a hna).1
  have p4 : dm_ok P 4 v = true := te_okk b7 (by omega) (k1 v hnv).1
  have pl : dm_len P v = c := by unfold dm_len at b8 ⊢; rw [(k1 v hnv).1]; exact b8
  have p0 : dm_g P a 0 = am_z (v : Int) := by rw [(k1 a hna).2]; exact b4
  have p1 : dm_g P a 1 = 0 := by rw [(k1 a hna).2]; exact b5
  have p3 : dm_g P a 3 = am_z (L.length : Int) := by rw [(k1 a hna).2]; exact b6
  have q1 : v < dm_bg := by omega
  have s1 : e_T_getVal X N a P = some (v, P) := by
    unfold e_T_getVal
    simp only [te_ncs a1, cond_false, p6, cond_true, p0, dv_nn q1, if_false, dv_cl q1]
  have s2 : e_T_sbLen X N a P = some (am_z (L.length : Int), P) := by
    unfold e_T_sbLen e_T_asbLen
    simp only [te_ncs a1, cond_false, p6, cond_true, p3, te_ri37, te_ri38, dv_bi]
  have s3 := te_isLat (X := X) (N := N) p6 p1
  obtain ⟨S2, f1, f2, f3, f4, f5, f6, f7⟩ := te_crng (X := X) (N := N) (S := dm_wr P (dm_n S) 1 0) (n := L.length) (c := c) p4 pl b9 b10 (by rw [dv_n_wr]; omega)
  rw [dv_n_wr, n1] at f1 f3 f5 f6 f7
  rw [dv_z_wr] at f4
  have hs : dm_n S ≠ dm_n S + 1 := by omega
  have o52 : dm_ok S2 5 (dm_n S) = true := te_okk o1 (by omega) (by rw [(f6 _ hs).1]; rfl)
  have o42 : dm_ok S2 4 (dm_n S + 1) = true := dv_okm (by rw [f5]) (by omega) (by omega)
  have q2 : dm_n S + 1 < dm_bg := by omega
  refine ⟨dm_n S, dm_wr S2 (dm_n S) 0 (am_z ((dm_n S + 1 : Nat) : Int)), ?_, ⟨dm_n S + 1, ?_, ?_, o52, dv_g_w1, ?_, o42, ?_, fun j hj => ?_⟩, ⟨f2.trans h1, ?_, ?_, ?_, fun y hy => ?_, fun y hy => ?_⟩⟩
  · unfold e_T_strInit e_T_strInit2
    simp only [te_r5, o1, cond_true, Bool.true_or, p6, s1, dv_bi, s2, s3, if_neg te_10, decide_true, Bool.and_true, f1, o52, o42, dv_blt q2]
  · show dm_n S < dm_n S2
    omega
  · show dm_n S + 1 < dm_n S2
    omega
  · rw [dv_g_w2 (by decide), (f6 _ hs).2, dv_g_w1]
  · unfold dm_len; rw [dv_k_wr, f5]
  · rw [dv_g_w3 (by omega), f7 j hj, dv_g_w3 hnv, (k1 v hnv).2]
    exact b11 j hj
  · show dm_n S ≤ dm_n S2
    omega
  · show dm_n S2 ≤ dm_n S + 2
    omega
  · show dm_zz S2 ≤ dm_zz S + 2100
    omega
  · rw [dv_k_wr, (f6 y (by omega)).1, dv_k_wr, (k1 y (by omega)).1]
  · rw [dv_g_w3 (by omega), (f6 y (by omega)).2, dv_g_w3 (by omega), (k1 y (by omega)).2]
theorem te_nchr : ∀ i, i < 20 → ((((Int8.ofInt (97)).toInt32) + am_z ((i : Nat) : Int)).toUInt32 % 65536).toInt32 = am_z ((97 + i : Nat) : Int) := by decide +kernel
/-- names -/
theorem te_name {i : Nat} {q : Int32} {C : List Nat} (hq : (q = 0 ∧ C = [115]) ∨ (q = 1 ∧ C = [117])) (hi : i < 20) (hn : 1000 ≤ dm_n S) (hb : dm_n S + 9000 < dm_bg) : ∃ r S', e_T_name X N q (am_z (i : Int)) S = some (r, S') ∧ te_T S' (dm_n S') r (C ++ [97 + i]) ∧ te_F (dm_n S) 6 6200 S S' := by
  obtain ⟨t1, t2, S1, t3, t4, t5⟩ := te_new (X := X) (N := N) hn (show dm_n S + 8000 < dm_bg by omega)
  have n1 := t5.2.1
  have n2 := t5.2.2.1
  obtain ⟨k, hk, hC⟩ : ∃ k, k < 8 ∧ C = te_C k := by
    rcases hq with ⟨-, h⟩ | ⟨-, h⟩
    · exact ⟨2, by decide, h⟩
    · exact ⟨1, by decide, h⟩
  have cl : C.length = 1 := by rcases hq with ⟨-, h⟩ | ⟨-, h⟩ <;> rw [h] <;> rfl
  have hT : te_T S1 (dm_n S) (900 + k) C := Or.inl ⟨k, hk, rfl, hC⟩
  obtain ⟨S2, v2, c2, u1, u2, u3⟩ := te_app (X := X) (N := N) hT t4 (by rw [cl]; decide) (by omega) (by omega)
  have n3 := u3.2.1
  have n4 := u3.2.2.1
  obtain ⟨S3, v3, c3, w1, w2, w3⟩ := te_chr (X := X) (N := N) (ch := 97 + i) (by omega) u2 (by rw [List.length_append, cl]; decide) (by omega) (by omega)
  have n5 := w3.2.1
  have n6 := w3.2.2.1
  obtain ⟨r, S4, x1, x2, x3⟩ := te_str (X := X) (N := N) w2 (by omega)
  have o2 := t4.2.2.1
  have o3 := u2.2.2.1
  have o4 := w2.2.2.1
  have x3' : te_F (dm_n S) 2 2100 S3 S4 := te_Fw (by omega) x3
  refine ⟨r, S4, ?_, Or.inr x2, te_Fm (by decide) (by decide) (te_Ft (te_Ft (te_Ft t5 u3) w3) x3')⟩
  have nc := te_nchr i hi
  unfold e_T_name
  rw [t1, cond_true]
  show (bif tm_r4 (dm_nw S (6, 12, 4) (fun j => if j = 0 then am_z (-1) else 0) 4) 10 [.ref (dm_n S)] then dm_bi (e_T_SBinit X N (dm_n S) (dm_nw S (6, 12, 4) (fun j => if j = 0 then am_z (-1) else 0) 4)) _ else none) = _
  rw [t2, cond_true, t3, dv_bi, nc]
  rcases hq with ⟨h1, h2⟩ | ⟨h1, h2⟩
  · have hk2 : e_T_SBappS X N (dm_n S) 902 S1 = some (dm_n S, S2) := by
      have : k = 2 := by
        have h9 := hC
        rw [h2] at h9
        rcases (show k = 0 ∨ k = 1 ∨ k = 2 ∨ k = 3 ∨ k = 4 ∨ k = 5 ∨ k = 6 ∨ k = 7 by omega) with h | h | h | h | h | h | h | h <;> rw [h] at h9 ⊢ <;> revert h9 <;> decide
      rw [this] at u1
      exact u1
    rw [h1, if_pos rfl, o2, cond_true, hk2, dv_bi, o3, cond_true, w1, dv_bi, o4, cond_true, x1, dv_bi]
  · have hk2 : e_T_SBappS X N (dm_n S) 901 S1 = some (dm_n S, S2) := by
      have : k = 1 := by
        have h9 := hC
        rw [h2] at h9
        rcases (show k = 0 ∨ k = 1 ∨ k = 2 ∨ k = 3 ∨ k = 4 ∨ k = 5 ∨ k = 6 ∨ k = 7 by omega) with h | h | h | h | h | h | h | h <;> rw [h] at h9 ⊢ <;> revert h9 <;> decide
      rw [this] at u1
      exact u1
    rw [h1, if_neg te_10, o2, cond_true, hk2, dv_bi, o3, cond_true, w1, dv_bi, o4, cond_true, x1, dv_bi]
-- ---- the script's words
theorem te_cell (hX : X.1 < 2147483648) {k : Nat} (hk : k < 1000) (S : dm_S) : e_T_cell X N 950 (am_z (k : Int)) S = some (if X.1 ≤ k then 0 else X.2 k, S) := by
  have b1 : tm_cb 950 = false := by decide
  have b2 : Nat.beq 950 950 = true := by decide
  have k1 : k < dm_bg := by unfold dm_bg; omega
  unfold e_T_cell
  simp only [b1, cond_false, b2, cond_true, am_z_nat, te_ri1, dv_cl k1]
  by_cases h : X.1 ≤ k
  · rw [if_pos (te_lej (by omega) (by omega) (by omega) (by omega) (by omega)), if_pos h]
  · rw [if_neg (te_lei (by omega) (by omega) (by omega) (by omega) (by omega)), if_neg h, am_z_int (by omega) (by omega) (by omega), cond_true]
theorem te_in (x : Int32) {n : Nat} (h1 : 0 < n) (h2 : n < 100000) : ∃ r : Nat, r < n ∧ ∀ S, e_T_in X N x (am_z (n : Int)) S = some (am_z (r : Int), S) := by
  obtain ⟨w, hw, e⟩ := dvc_and x
  refine ⟨w % n, Nat.mod_lt _ h1, fun S => ?_⟩
  unfold e_T_in
  have c : ¬ am_z (n : Int) = 0 := te_eqi (y := 0) (by omega) (by omega) (by omega) (by omega) (by omega)
  rw [if_neg c, te_ri0, cond_true, e, am_z_div (by omega) (by omega) (by omega) (by omega), am_z_mul, am_z_sub]
  have e2 : (w : Int) - (w : Int).tdiv (n : Int) * (n : Int) = ((w % n : Nat) : Int) := by
    have e3 : ((w % n : Nat) : Int) = (w : Int) % (n : Int) := rfl
    rw [e3, Int.tdiv_eq_ediv_of_nonneg (by omega), Int.emod_def, Int.mul_comm]
  rw [e2]
theorem te_sessions (hX : X.1 < 2147483648) : ∃ n : Nat, 1 ≤ n ∧ n ≤ 3 ∧ ∀ S, e_T_sessions X N 950 S = some (am_z (n : Int), S) := by
  obtain ⟨r, hr, e⟩ := te_in (X := X) (N := N) (if X.1 ≤ 0 then 0 else X.2 0) (n := 3) (by decide) (by decide)
  refine ⟨1 + r, by omega, by omega, fun S => ?_⟩
  have e1 : (1 : Int32) + am_z (r : Int) = am_z ((1 + r : Nat) : Int) := am_z_add 1 (r : Int)
  have ec : e_T_cell X N 950 (0 : Int32) S = _ := te_cell (N := N) hX (k := 0) (by decide) S
  have e : ∀ S, e_T_in X N (if X.1 ≤ 0 then 0 else X.2 0) (3 : Int32) S = some (am_z (r : Int), S) := e
  unfold e_T_sessions
  rw [ec, dv_bi, e, dv_bi, te_ri2, cond_true, e1]
theorem te_users (hX : X.1 < 2147483648) : ∃ n : Nat, 2 ≤ n ∧ n ≤ 5 ∧ ∀ S, e_T_users X N 950 S = some (am_z (n : Int), S) := by
  obtain ⟨r, hr, e⟩ := te_in (X := X) (N := N) ((if X.1 ≤ 0 then 0 else X.2 0) / (4 : Int32)) (n := 4) (by decide) (by decide)
  refine ⟨2 + r, by omega, by omega, fun S => ?_⟩
  have e1 : (2 : Int32) + am_z (r : Int) = am_z ((2 + r : Nat) : Int) := am_z_add 2 (r : Int)
  have ec : e_T_cell X N 950 (0 : Int32) S = _ := te_cell (N := N) hX (k := 0) (by decide) S
  have e4 : ¬ ((4 : Int32) = 0) := by decide
  have e : ∀ S, e_T_in X N ((if X.1 ≤ 0 then 0 else X.2 0) / (4 : Int32)) (4 : Int32) S = some (am_z (r : Int), S) := e
  unfold e_T_users
  rw [ec, dv_bi, if_neg e4, e, dv_bi, te_ri3, cond_true, e1]
theorem te_setting (hX : X.1 < 2147483648) : ∃ k z : Nat, 1 ≤ k ∧ k ≤ 12 ∧ z ≤ 1 ∧ (∀ S, e_T_setting X N 950 (0 : Int32) S = some (am_z (k : Int), S)) ∧ ∀ S, e_T_setting X N 950 (1 : Int32) S = some (am_z (z : Int), S) := by
  obtain ⟨r, hr, e⟩ := te_in (X := X) (N := N) (if X.1 ≤ 3 then 0 else X.2 3) (n := 12) (by decide) (by decide)
  obtain ⟨r2, hr2, e2⟩ := te_in (X := X) (N := N) ((if X.1 ≤ 3 then 0 else X.2 3) / (16 : Int32)) (n := 2) (by decide) (by decide)
  have ec : ∀ S, e_T_cell X N 950 (3 : Int32) S = some (if X.1 ≤ 3 then 0 else X.2 3, S) := fun S => te_cell (N := N) hX (k := 3) (by decide) S
  have e16 : ¬ ((16 : Int32) = 0) := by decide
  have e : ∀ S, e_T_in X N (if X.1 ≤ 3 then 0 else X.2 3) (12 : Int32) S = some (am_z (r : Int), S) := e
  have e2 : ∀ S, e_T_in X N ((if X.1 ≤ 3 then 0 else X.2 3) / (16 : Int32)) (2 : Int32) S = some (am_z (r2 : Int), S) := e2
  have e1 : (1 : Int32) + am_z (r : Int) = am_z ((1 + r : Nat) : Int) := am_z_add 1 (r : Int)
  refine ⟨1 + r, r2, by omega, by omega, by omega, fun S => ?_, fun S => ?_⟩
  · unfold e_T_setting
    rw [if_pos rfl, ec, dv_bi, e, dv_bi, te_ri5, cond_true, e1]
  · unfold e_T_setting
    rw [if_neg te_10, ec, dv_bi, if_neg e16, e2, dv_bi, te_ri5, cond_true]
theorem te_size (hX : X.1 < 2147483648) {q : Int32} (hq : q = 0 ∨ q = 1) (i : Int32) : ∃ w h : Nat, 2 ≤ w ∧ w ≤ 10 ∧ 1 ≤ h ∧ h ≤ 4 ∧ (∀ S, e_T_size X N 950 q i (0 : Int32) S = some (am_z (w : Int), S)) ∧ ∀ S, e_T_size X N 950 q i (1 : Int32) S = some (am_z (h : Int), S) := by
  have e16 : ¬ ((16 : Int32) = 0) := by decide
  have ea : ∀ r : Nat, (1 : Int32) + am_z (r : Int) = am_z ((1 + r : Nat) : Int) := fun r => am_z_add 1 (r : Int)
  have eb : ∀ r : Nat, (2 : Int32) + am_z (r : Int) = am_z ((2 + r : Nat) : Int) := fun r => am_z_add 2 (r : Int)
  rcases hq with rfl | rfl
  · have ec : ∀ S, e_T_cell X N 950 (1 : Int32) S = some (if X.1 ≤ 1 then 0 else X.2 1, S) := fun S => te_cell (N := N) hX (k := 1) (by decide) S
    generalize (if X.1 ≤ 1 then 0 else X.2 1) = y at ec
    obtain ⟨r, hr, e⟩ := te_in (X := X) (N := N) (y >>> (((4 : Int32) * i) &&& 31)) (n := 9) (by decide) (by decide)
    obtain ⟨r2, hr2, e2⟩ := te_in (X := X) (N := N) ((y >>> (((4 : Int32) * i) &&& 31)) / (16 : Int32)) (n := 4) (by decide) (by decide)
    have e : ∀ S, e_T_in X N (y >>> (((4 : Int32) * i) &&& 31)) (9 : Int32) S = some (am_z (r : Int), S) := e
    have e2 : ∀ S, e_T_in X N ((y >>> (((4 : Int32) * i) &&& 31)) / (16 : Int32)) (4 : Int32) S = some (am_z (r2 : Int), S) := e2
    refine ⟨2 + r, 1 + r2, by omega, by omega, by omega, by omega, fun S => ?_, fun S => ?_⟩
    · unfold e_T_size
      rw [if_pos rfl, ec, dv_bi, if_pos rfl, e, dv_bi, te_ri4, cond_true, eb]
    · unfold e_T_size
      rw [if_pos rfl, ec, dv_bi, if_neg te_10, if_neg e16, e2, dv_bi, te_ri4, cond_true, ea]
  · have ec : ∀ S, e_T_cell X N 950 (2 : Int32) S = some (if X.1 ≤ 2 then 0 else X.2 2, S) := fun S => te_cell (N := N) hX (k := 2) (by decide) S
    generalize (if X.1 ≤ 2 then 0 else X.2 2) = y at ec
    obtain ⟨r, hr, e⟩ := te_in (X := X) (N := N) (y >>> (((4 : Int32) * i) &&& 31)) (n := 9) (by decide) (by decide)
    obtain ⟨r2, hr2, e2⟩ := te_in (X := X) (N := N) ((y >>> (((4 : Int32) * i) &&& 31)) / (16 : Int32)) (n := 4) (by decide) (by decide)
    have e : ∀ S, e_T_in X N (y >>> (((4 : Int32) * i) &&& 31)) (9 : Int32) S = some (am_z (r : Int), S) := e
    have e2 : ∀ S, e_T_in X N ((y >>> (((4 : Int32) * i) &&& 31)) / (16 : Int32)) (4 : Int32) S = some (am_z (r2 : Int), S) := e2
    refine ⟨2 + r, 1 + r2, by omega, by omega, by omega, by omega, fun S => ?_, fun S => ?_⟩
    · unfold e_T_size
      rw [if_neg te_10, ec, dv_bi, if_pos rfl, e, dv_bi, te_ri4, cond_true, eb]
    · unfold e_T_size
      rw [if_neg te_10, ec, dv_bi, if_neg te_10, if_neg e16, e2, dv_bi, te_ri4, cond_true, ea]
end TE3
