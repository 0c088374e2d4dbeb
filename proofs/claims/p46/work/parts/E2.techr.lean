section TE2
variable {S S' S1 S2 : dm_S} {a b n0 m v c : Nat} {L M : List Nat} {X : tm_X} {N : Nat}
theorem te_b : ∀ x, x < 128 → tm_b (am_z (x : Nat)) = am_z (x : Nat) := by decide +kernel
theorem te_isLat (h6 : dm_ok S 6 a = true) (h1 : dm_g S a 1 = 0) : e_T_isLat X N a S = some ((1 : Int32), S) := by
  have a1 := (dm_ok_s h6).2.1
  unfold e_T_isLat
  simp only [if_neg te_10, te_ncs a1, cond_false, h6, cond_true, h1, if_true, te_ri31]
theorem te_chr {ch : Nat} (hch : ch < 128) (hB : te_B S n0 a v c L) (hl : L.length + 1 ≤ 900) (hn0 : n0 ≤ dm_n S) (hb : dm_n S + 8000 < dm_bg) : ∃ S' v' c', e_T_SBappC X N a (am_z (ch : Int)) S = some (a, S') ∧ te_B S' n0 a v' c' (L ++ [ch]) ∧ te_F n0 1 2000 S S' := by
  obtain ⟨k6, a1, a2⟩ := dm_ok_s hB.2.2.1
  have g3 := hB.2.2.2.2.2.1
  have o6 := hB.2.2.1
  obtain ⟨S1, v', c', en, hB1, hc, hF, hg⟩ := te_ens (X := X) (N := N) (need := L.length + 1) hB hl hn0 hb
  obtain ⟨b1, b2, b3, b4, b5, b6, b7, b8, b9, b10, b11⟩ := hB1
  obtain ⟨F1, F2, F3, F4, F5, F6⟩ := hF
  obtain ⟨k4, v1, v2⟩ := dm_ok_s b7
  obtain ⟨k61, -, a3⟩ := dm_ok_s b3
  have hva : v' ≠ a := fun e => by rw [e, k61] at k4; cases k4
  have q1 : v' < dm_bg := by omega
  have q2 : L.length < dm_bg := by unfold dm_bg; omega
  have ec : am_z (L.length : Int) + (1 : Int32) = am_z ((L.length + 1 : Nat) : Int) := am_z_add (L.length : Int) 1
  have c1 : ¬ ((255 : Int32) < am_z (ch : Int)) := te_lti (x := 255) (by omega) (by omega) (by omega) (by omega) (by omega)
  have ce : e_T_canEnc X N (am_z (ch : Int)) S1 = some ((1 : Int32), S1) := by
    unfold e_T_canEnc
    rw [if_neg c1, te_ri32, cond_true]
  have ii : am_in (am_z (L.length : Int)) c' = true := am_z_int (by omega) (by omega) (by omega)
  refine ⟨dm_wr (dm_wr S1 a 3 (am_z ((L.length + 1 : Nat) : Int))) v' L.length (am_z (ch : Int)), v', c', ?_, ⟨b1, b2, b3, ?_, ?_, ?_, b7, b8, by rw [List.length_append]; exact hc, b10, fun j hj => ?_⟩, ⟨F1, F2, F3, F4, F5, fun y hy => ?_⟩⟩
  · unfold e_T_SBappC e_T_ASBappC
    simp only [o6, cond_true, te_ncs a1, cond_false, g3, ec, en, dv_bi, b3, te_isLat (X := X) (N := N) b3 b5, if_neg te_10, ce, b4, dv_nn q1, if_false, dv_cl q1, b6, Bool.and_true, dv_ok_wr, dv_len_wr, b7, b8, ii, dv_cl q2, te_b ch hch]
  · rw [dv_g_w3 (Ne.symm hva), dv_g_w2 (by decide)]; exact b4
  · rw [dv_g_w3 (Ne.symm hva), dv_g_w2 (by decide)]; exact b5
  · rw [dv_g_w3 (Ne.symm hva), dv_g_w1, List.length_append]; rfl
  · rw [List.length_append] at hj
    by_cases h9 : j < L.length
    · rw [dv_g_w2 (by omega), dv_g_w3 hva, te_gaL h9]
      exact b11 j h9
    · have e : j = L.length := by
        have : [ch].length = 1 := rfl
        omega
      subst e
      rw [dv_g_w1, te_gaR (Nat.le_refl _), Nat.sub_self]
      rfl
  · rw [dv_g_w3 (by omega), dv_g_w3 (by omega)]
    exact F6 y hy
/-- the digits of a number below 100 -/
def te_d (x : Nat) : List Nat := if x < 10 then [48 + x] else [48 + x / 10, 48 + x % 10]
theorem te_dl {x : Nat} : 1 ≤ (te_d x).length ∧ (te_d x).length ≤ 2 := by
  unfold te_d
  split
  · exact ⟨Nat.le_refl 1, Nat.le_succ 1⟩
  · exact ⟨Nat.le_succ 1, Nat.le_refl 2⟩
theorem te_strSize {x : Nat} (hN : 100 ≤ N) (hx : x < 100) : e_T_strSize X N (am_z (x : Int)) S = some (am_z ((te_d x).length : Int), S) := by
  have k10 : (Int8.ofInt (10)).toInt32 = am_z 10 := by decide
  have km : (Int8.ofInt (-10)).toInt32 = am_z (-10) := by decide
  have c0 : ¬ (am_z (x : Int) < (0 : Int32)) := te_lti (y := 0) (by omega) (by omega) (by omega) (by omega) (by omega)
  have c1 : ¬ (am_z 10 ≤ (1 : Int32)) := by decide
  have c2 : ¬ (am_z 10 ≤ am_z 2) := by decide
  have key : ∀ f, el_T_strSize_16 X N (f + 1 + 1) (am_z (-(x : Int))) (0 : Int32) (am_z (-10)) (1 : Int32) S = some (am_z ((te_d x).length : Int), S) := by
    intro f
    rw [el_T_strSize_16, k10, if_neg c1]
    by_cases h : x < 10
    · rw [if_neg (te_lei (by omega) (by omega) (by omega) (by omega) (by omega)), te_ri29, cond_true]
      unfold te_d
      rw [if_pos h]
      rfl
    · rw [if_pos (te_lej (by omega) (by omega) (by omega) (by omega) (by omega)), show am_z 10 * am_z (-10) = am_z (-100) from am_z_mul _ _, show (1 : Int32) + (1 : Int32) = am_z 2 by decide, el_T_strSize_16, k10, if_neg c2, if_neg (te_lei (by omega) (by omega) (by omega) (by omega) (by omega)), te_ri29, cond_true]
      unfold te_d
      rw [if_neg h]
      rfl
  have k9 := key (N - 2)
  rw [show N - 2 + 1 + 1 = N by omega] at k9
  unfold e_T_strSize
  rw [if_neg c0, km, am_z_neg]
  exact k9
theorem te_getChars {x p : Nat} (hN : 100 ≤ N) (hx : x < 100) (o4 : dm_ok S 4 v = true) (hl : dm_len S v = c) (hc : p + (te_d x).length ≤ c) (hc2 : c ≤ 2000) : ∃ S', e_T_getChars X N (am_z (x : Int)) (am_z ((p + (te_d x).length : Nat) : Int)) v S = some (am_z (p : Int), S') ∧ dm_h S' = dm_h S ∧ dm_n S' = dm_n S ∧ dm_zz S' = dm_zz S ∧ dm_k S' = dm_k S ∧ (∀ y, y ≠ v → dm_g S' y = dm_g S y) ∧ (∀ j, j < p → dm_g S' v j = dm_g S v j) ∧ ∀ j, j < (te_d x).length → dm_g S' v (p + j) = am_z (((te_d x).getD j 0 : Nat) : Int) := by
  have km : (Int8.ofInt (-100)).toInt32 = am_z (-100) := by decide
  have k9 : (Int8.ofInt (-9)).toInt32 = am_z (-9) := by decide
  have c0 : (0 : Int32) ≤ am_z (x : Int) := te_lej (x := 0) (by omega) (by omega) (by omega) (by omega) (by omega)
  have c1 : am_z (-100) < am_z (-(x : Int)) := by rw [am_z_lt (by omega) (by omega) (by omega) (by omega)]; omega
  have en : - am_z (-(x : Int)) = am_z (x : Int) := by rw [am_z_neg, Int.neg_neg]
  have i1 : am_in (am_z (x : Int)) 100 = true := am_z_int (by omega) (by omega) (by omega)
  have em : ∀ y : Nat, 0 < y → am_z (y : Int) + Int32.ofInt (-1) = am_z ((y - 1 : Nat) : Int) := by
    intro y hy
    have : am_z (y : Int) + am_z (-1) = am_z ((y : Int) + (-1)) := am_z_add (y : Int) (-1)
    have h2 : (y : Int) + (-1) = ((y - 1 : Nat) : Int) := by omega
    rw [h2] at this
    exact this
  have t0 : tm_dg 0 x = am_z ((48 + x % 10 : Nat) : Int) := am_z_nat _
  have t1 : tm_dg 1 x = am_z ((48 + x / 10 : Nat) : Int) := am_z_nat _
  have s0 : ∀ (q : Int32) (T : dm_S), ej_T_getChars_104 X N v q (0 : Int32) T = some (q, T) := by
    intro q T
    unfold ej_T_getChars_104
    rw [if_pos rfl, te_ri30, cond_true]
  have ew : e_T_getChars X N (am_z (x : Int)) (am_z ((p + (te_d x).length : Nat) : Int)) v S = ej_T_getChars_72 X N (am_z (-(x : Int))) v (am_z ((p + (te_d x).length : Nat) : Int)) (0 : Int32) S := by
    have key : ∀ f, el_T_getChars_22 X N (f + 1) (am_z (-(x : Int))) v (am_z ((p + (te_d x).length : Nat) : Int)) (0 : Int32) S = ej_T_getChars_72 X N (am_z (-(x : Int))) v (am_z ((p + (te_d x).length : Nat) : Int)) (0 : Int32) S := by
      intro f
      rw [el_T_getChars_22, km, if_pos c1]
    have k0 := key (N - 1)
    rw [show N - 1 + 1 = N by omega] at k0
    unfold e_T_getChars
    rw [if_pos c0, if_pos rfl, am_z_neg]
    exact k0
  have nb : (Nat.beq 940 940 || Nat.beq 940 941) = true := by decide
  have nb2 : (Nat.beq 941 940 || Nat.beq 941 941) = true := by decide
  have x1 : x < dm_bg := by unfold dm_bg; omega
  rw [ew]
  by_cases h : x < 10
  · have ed : te_d x = [48 + x] := by unfold te_d; rw [if_pos h]
    have el : (te_d x).length = 1 := by rw [ed]; rfl
    rw [el] at hc ⊢
    have i2 : am_in (am_z (p : Int)) c = true := am_z_int (by omega) (by omega) (by omega)
    have e9 : am_z (-9) ≤ am_z (-(x : Int)) := te_lej (by omega) (by omega) (by omega) (by omega) (by omega)
    have ep := em (p + 1) (by omega)
    rw [Nat.add_sub_cancel] at ep
    have p1 : p < dm_bg := by unfold dm_bg; omega
    refine ⟨dm_wr S v p (tm_dg 0 x), ?_, rfl, rfl, rfl, rfl, fun y hy => dv_g_w3 hy, fun j hj => dv_g_w2 (by omega), fun j hj => ?_⟩
    · unfold ej_T_getChars_72
      rw [nb, cond_true, en, i1, cond_true, o4, ep, hl, i2]
      show ej_T_getChars_85 X N (am_z (-(x : Int))) v (am_z (p : Int)) (0 : Int32) (dm_wr S v (am_z (p : Int)).toNatClampNeg (tm_dg 0 (am_z (x : Int)).toNatClampNeg)) = _
      rw [dv_cl p1, dv_cl x1]
      unfold ej_T_getChars_85
      rw [k9, if_pos e9, s0]
    · have : j = 0 := by omega
      subst this
      show dm_g (dm_wr S v p (tm_dg 0 x)) v p = _
      rw [dv_g_w1, t0, ed]
      have : 48 + x % 10 = 48 + x := by omega
      rw [this]
      rfl
  · have ed : te_d x = [48 + x / 10, 48 + x % 10] := by unfold te_d; rw [if_neg h]
    have el : (te_d x).length = 2 := by rw [ed]; rfl
    rw [el] at hc ⊢
    have i2 : am_in (am_z ((p + 1 : Nat) : Int)) c = true := am_z_int (by omega) (by omega) (by omega)
    have i3 : am_in (am_z (p : Int)) c = true := am_z_int (by omega) (by omega) (by omega)
    have e9 : ¬ (am_z (-9) ≤ am_z (-(x : Int))) := te_lei (by omega) (by omega) (by omega) (by omega) (by omega)
    have ep := em (p + 2) (by omega)
    rw [show p + 2 - 1 = p + 1 by omega] at ep
    have ep2 := em (p + 1) (by omega)
    rw [Nat.add_sub_cancel] at ep2
    have p1 : p < dm_bg := by unfold dm_bg; omega
    have p2 : p + 1 < dm_bg := by unfold dm_bg; omega
    refine ⟨dm_wr (dm_wr S v (p + 1) (tm_dg 0 x)) v p (tm_dg 1 x), ?_, rfl, rfl, rfl, rfl, fun y hy => by rw [dv_g_w3 hy, dv_g_w3 hy], fun j hj => by rw [dv_g_w2 (by omega), dv_g_w2 (by omega)], fun j hj => ?_⟩
    · unfold ej_T_getChars_72
      rw [nb, cond_true, en, i1, cond_true, o4, ep, hl, i2]
      show ej_T_getChars_85 X N (am_z (-(x : Int))) v (am_z ((p + 1 : Nat) : Int)) (0 : Int32) (dm_wr S v (am_z ((p + 1 : Nat) : Int)).toNatClampNeg (tm_dg 0 (am_z (x : Int)).toNatClampNeg)) = _
      rw [dv_cl p2, dv_cl x1]
      unfold ej_T_getChars_85
      rw [k9, if_neg e9, nb2, cond_true, en, i1, cond_true, dv_ok_wr, o4, ep2, dv_len_wr, hl, i3]
      show ej_T_getChars_104 X N v (am_z (p : Int)) (0 : Int32) (dm_wr (dm_wr S v (p + 1) (tm_dg 0 x)) v (am_z (p : Int)).toNatClampNeg (tm_dg 1 (am_z (x : Int)).toNatClampNeg)) = _
      rw [dv_cl p1, dv_cl x1, s0]
    · rcases (show j = 0 ∨ j = 1 by omega) with rfl | rfl
      · show dm_g (dm_wr (dm_wr S v (p + 1) (tm_dg 0 x)) v p (tm_dg 1 x)) v p = _
        rw [dv_g_w1, t1, ed]
        rfl
      · rw [dv_g_w2 (by omega), dv_g_w1, t0, ed]
        rfl
theorem te_int {x : Nat} (hN : 100 ≤ N) (hx : x < 100) (hB : te_B S n0 a v c L) (hl : L.length + 2 ≤ 900) (hn0 : n0 ≤ dm_n S) (hb : dm_n S + 8000 < dm_bg) : ∃ S' v' c', e_T_SBappI X N a (am_z (x : Int)) S = some (a, S') ∧ te_B S' n0 a v' c' (L ++ te_d x) ∧ te_F n0 1 2000 S S' := by
  obtain ⟨k6, a1, a2⟩ := dm_ok_s hB.2.2.1
  have dl := te_dl (x := x)
  have g3 := hB.2.2.2.2.2.1
  have o6 := hB.2.2.1
  have hs := te_strSize (X := X) (N := N) (S := S) hN hx
  obtain ⟨S1, v', c', en, hB1, hc, hF, hg⟩ := te_ens (X := X) (N := N) (need := L.length + (te_d x).length) hB (by omega) hn0 hb
  obtain ⟨b1, b2, b3, b4, b5, b6, b7, b8, b9, b10, b11⟩ := hB1
  obtain ⟨F1, F2, F3, F4, F5, F6⟩ := hF
  obtain ⟨k4, v1, v2⟩ := dm_ok_s b7
  obtain ⟨k61, -, a3⟩ := dm_ok_s b3
  have hva : v' ≠ a := fun e => by rw [e, k61] at k4; cases k4
  have q1 : v' < dm_bg := by omega
  have ec : am_z (L.length : Int) + am_z ((te_d x).length : Int) = am_z ((L.length + (te_d x).length : Nat) : Int) := am_z_add _ _
  obtain ⟨S2, g1, g2, g4, g5, g6, g7, g8, g9⟩ := te_getChars (X := X) (N := N) (x := x) (p := L.length) hN hx b7 b8 hc b10
  have o62 : dm_ok S2 6 a = true := te_okk b3 (by omega) (by rw [g6])
  refine ⟨dm_wr S2 a 3 (am_z ((L.length + (te_d x).length : Nat) : Int)), v', c', ?_, ⟨b1, b2, o62, ?_, ?_, ?_, te_okk b7 (by show dm_n S1 ≤ dm_n S2; omega) (by rw [dv_k_wr, g6]), ?_, by rw [List.length_append]; exact hc, b10, fun j hj => ?_⟩, ⟨g2.trans F1, ?_, ?_, ?_, fun y hy => ?_, fun y hy => ?_⟩⟩
  · unfold e_T_SBappI e_T_ASBappI
    simp only [o6, cond_true, te_ncs a1, cond_false, hs, dv_bi, g3, ec, en, b3, te_isLat (X := X) (N := N) b3 b5, if_neg te_10, b4, dv_nn q1, if_false, dv_cl q1, g1, o62, Bool.and_true]
  · rw [dv_g_w2 (by decide), g7 a (Ne.symm hva)]; exact b4
  · rw [dv_g_w2 (by decide), g7 a (Ne.symm hva)]; exact b5
  · rw [dv_g_w1, List.length_append]
  · unfold dm_len at b8 ⊢; rw [dv_k_wr, g6]; exact b8
  · rw [dv_g_w3 hva]
    rw [List.length_append] at hj
    by_cases h9 : j < L.length
    · rw [g8 j h9, te_gaL h9]
      exact b11 j h9
    · obtain ⟨i, rfl⟩ : ∃ i, j = L.length + i := ⟨j - L.length, by omega⟩
      rw [g9 i (by omega), te_gaR (by omega), Nat.add_sub_cancel_left]
  · show dm_n S ≤ dm_n S2
    omega
  · show dm_n S2 ≤ dm_n S + 1
    omega
  · show dm_zz S2 ≤ dm_zz S + 2000
    omega
  · rw [dv_k_wr, g6]; exact F5 y hy
  · rw [dv_g_w3 (by omega), g7 y (by omega)]; exact F6 y hy
end TE2
