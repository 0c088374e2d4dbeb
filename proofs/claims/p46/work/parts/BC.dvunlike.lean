section DVD
variable {N nS nU : Nat} {hm h0 : am_Hp}
theorem dW_fr {lo : Nat} {S S' : dm_S} {a R Ln : Nat} {A : Nat → Nat} {hh up : Nat} {L : Nat → Nat → Int32} (h : dW lo S a R Ln A hh up L) (hn : dm_n S ≤ dm_n S') (f : ∀ b, b < dm_n S → dm_k S' b = dm_k S b ∧ dm_g S' b = dm_g S b) : dW lo S' a R Ln A hh up L := by
  obtain ⟨n1, n2, n3⟩ := dW_ne h
  obtain ⟨⟨o1, o3, o4, hne, t1, t2, t3⟩, ⟨l3, l4, g0, g4, g5⟩, hr, hq, hA, hi⟩ := h
  have fa := f a (dm_ok_s o1).2.2
  have fR := f R (dm_ok_s o3).2.2
  have fL := f Ln (dm_ok_s o4).2.2
  refine ⟨⟨dvF_ok hn fa.1 o1, dvF_ok hn fR.1 o3, dvF_ok hn fL.1 o4, hne, t1, t2, t3⟩, ⟨(dvF_len fR.1).trans l3, (dvF_len fL.1).trans l4, by rw [fa.2]; exact g0, by rw [fa.2]; exact g4, by rw [fa.2]; exact g5⟩, fun i hi => by rw [fR.2]; exact hr i hi, fun k hk => by rw [fL.2]; exact hq k hk, fun l hl => ?_, hi⟩
  obtain ⟨q1, q2, q3, q4, q5⟩ := hA l hl
  have fA := f (A l) (dm_ok_s q2).2.2
  rw [dvF_len fA.1, fA.2]
  exact ⟨q1, dvF_ok hn fA.1 q2, q3, q4, q5⟩
theorem dWw_fr {S S' : dm_S} {a : Nat} {A : Nat → Nat} {w hh up : Nat} (h : dWw S a A w hh up) (ha : a < dm_n S) (hA : ∀ l, l < up + hh → A l < dm_n S) (f : ∀ b, b < dm_n S → dm_k S' b = dm_k S b ∧ dm_g S' b = dm_g S b) : dWw S' a A w hh up :=
  ⟨by rw [(f a ha).2]; exact h.1, fun l hl hl2 => by rw [dvF_len (f _ (hA l hl2)).1]; exact h.2 l hl hl2⟩
/-- the end of the comparison -/
theorem dw_uE {S : dm_S} {a1 a2 R1 R2 l1 l2 n : Nat} {i1 i2 i3 i7 FD : Int32} {h1 : am_Hp} (o1 : dm_ok S 1 a1 = true) (o2 : dm_ok S 1 a2 = true) (g1 : dm_g S a1 0 = am_z (R1 : Int)) (g2 : dm_g S a2 0 = am_z (R2 : Int)) (r1 : dm_ok S 3 R1 = true) (r2 : dm_ok S 3 R2 = true) (e1 : dm_len S R1 = l1) (e2 : dm_len S R2 = l2) (hbg : dm_n S < dm_bg) (hF : f_X9_firstDifference N i1 i2 i3 (dm_h S) = some (some FD, h1)) (hD : am_z (l1 : Int) ≤ i7 ∨ am_z (l2 : Int) ≤ i7 ∨ 0 ≤ FD) :
    el_L_isUnlike_22 N (n + 1) i1 i2 i3 a1 a2 FD i7 S = some ((1 : Int32), dm_sh S h1) := by
  have b1 := (dm_ok_s r1).2.2
  have b2 := (dm_ok_s r2).2.2
  have nn1 := dv_nn (show R1 < dm_bg by omega)
  have cl1 := dv_cl (show R1 < dm_bg by omega)
  have nn2 := dv_nn (show R2 < dm_bg by omega)
  have cl2 := dv_cl (show R2 < dm_bg by omega)
  have e11 : ((1 : Int32) &&& 1 = (1 : Int32)) = True := eq_true (by decide)
  unfold el_L_isUnlike_22
  simp only [o1, o2, cond_true, g1, g2, nn1, nn2, cl1, cl2, if_false, r1, r2, Bool.or_true, e1, e2, dv_of, hF, am_bt_s, if_true, e11]
  by_cases c1 : am_z (l1 : Int) ≤ i7
  · rw [if_pos c1]
  · rw [if_neg c1]
    by_cases c2 : am_z (l2 : Int) ≤ i7
    · rw [if_pos c2]
    · rw [if_neg c2]
      rcases hD with z | z | z
      · exact absurd z c1
      · exact absurd z c2
      · rw [if_pos z]
theorem dw_u52 {S : dm_S} {t1 t2 : qc_T} {a1 a2 R1 R2 Ln1 Ln2 lo1 lo2 i : Nat} {A1 A2 : Nat → Nat} {i1 i2 i3 FD rest : Int32} {res : Option (Int32 × dm_S)} (k1 : qc_OK t1) (k2 : qc_OK t2) (hW1 : dW lo1 S a1 R1 Ln1 A1 t1.2.1 t1.2.2.2.2.1 t1.2.2.2.2.2) (hw1 : dWw S a1 A1 t1.1 t1.2.1 t1.2.2.2.2.1) (hW2 : dW lo2 S a2 R2 Ln2 A2 t2.2.1 t2.2.2.2.2.1 t2.2.2.2.2.2) (hw2 : dWw S a2 A2 t2.1 t2.2.1 t2.2.2.2.2.1) (hbg : dm_n S < dm_bg) (hi1 : i < t1.2.1) (hi2 : i < t2.2.1)
    {K22 : Int32 → Int32 → Int32 → Nat → Nat → Int32 → Int32 → dm_S → Option (Int32 × dm_S)} (hC : rest = FD → K22 i1 i2 i3 a1 a2 (-1 : Int32) (am_z ((i + 1 : Nat) : Int)) S = res) (hD : 0 ≤ FD → K22 i1 i2 i3 a1 a2 FD (am_z ((i + 1 : Nat) : Int)) S = res) : ∀ (k j n : Nat), j + k = min t1.1 t2.1 → k + 1 < n → dva_fc t1 t2 i k j rest = FD →
    el_L_isUnlike_52 N K22 n i1 i2 i3 a1 a2 (-1 : Int32) (am_z (i : Int)) (am_z (j : Int)) S = res
  | k, j, 0, _, hx, _ => by omega
  | 0, j, n + 1, e, _, hf => by
    have c1 := qc_OKw k1
    have c2 := qc_OKw k2
    have o1 := hW1.1.1
    have o2 := hW2.1.1
    have hC := hC hf
    unfold el_L_isUnlike_52
    simp only [o1, o2, cond_true, hw1.1, hw2.1, dv_p1 (show i < 100000 by omega)]
    by_cases z : t1.1 ≤ j
    · rw [if_pos (by rw [am_z_le (by omega) (by omega) (by omega) (by omega)]; omega)]
      exact hC
    · rw [if_neg (by rw [am_z_le (by omega) (by omega) (by omega) (by omega)]; omega), if_pos (by rw [am_z_le (by omega) (by omega) (by omega) (by omega)]; omega)]
      exact hC
  | k + 1, j, n + 1, e, hx, hf => by
    have c1 := qc_OKw k1
    have c2 := qc_OKw k2
    have o1 := hW1.1.1
    have o2 := hW2.1.1
    have r1 := hW1.1.2.1
    have r2 := hW2.1.2.1
    have b1 := (dm_ok_s r1).2.2
    have b2 := (dm_ok_s r2).2.2
    have l1 := hW1.2.1.1
    have l2 := hW2.2.1.1
    have g1 := hW1.2.1.2.2.1
    have g2 := hW2.2.1.2.2.1
    have gr1 := hW1.2.2.1 i hi1
    have gr2 := hW2.2.2.1 i hi2
    obtain ⟨-, q12, -, q14, -⟩ := hW1.2.2.2.2.1 (t1.2.2.2.2.1 + i) (by omega)
    obtain ⟨-, q22, -, q24, -⟩ := hW2.2.2.2.2.1 (t2.2.2.2.2.1 + i) (by omega)
    have bA1 := (dm_ok_s q12).2.2
    have bA2 := (dm_ok_s q22).2.2
    have lw1 := hw1.2 (t1.2.2.2.2.1 + i) (by omega) (by omega)
    have lw2 := hw2.2 (t2.2.2.2.2.1 + i) (by omega) (by omega)
    have gc1 : dm_g S (A1 (t1.2.2.2.2.1 + i)) j = qc_sy t1 i j := q14 j (by omega)
    have gc2 : dm_g S (A2 (t2.2.2.2.2.1 + i)) j = qc_sy t2 i j := q24 j (by omega)
    have n1 := dv_nn (show R1 < dm_bg by omega)
    have m1 := dv_cl (show R1 < dm_bg by omega)
    have n2 := dv_nn (show R2 < dm_bg by omega)
    have m2 := dv_cl (show R2 < dm_bg by omega)
    have n3 := dv_nn (show A1 (t1.2.2.2.2.1 + i) < dm_bg by omega)
    have m3 := dv_cl (show A1 (t1.2.2.2.2.1 + i) < dm_bg by omega)
    have n4 := dv_nn (show A2 (t2.2.2.2.2.1 + i) < dm_bg by omega)
    have m4 := dv_cl (show A2 (t2.2.2.2.2.1 + i) < dm_bg by omega)
    have hlt1 : ¬ (am_z (t1.1 : Int) ≤ am_z (j : Int)) := by rw [am_z_le (by omega) (by omega) (by omega) (by omega)]; omega
    have hlt2 : ¬ (am_z (t2.1 : Int) ≤ am_z (j : Int)) := by rw [am_z_le (by omega) (by omega) (by omega) (by omega)]; omega
    have hm1 : ¬ ((0 : Int32) ≤ (-1 : Int32)) := by decide
    have i1 : am_in (am_z (i : Int)) t1.2.1 = true := am_z_int (by omega) (by omega) (by omega)
    have i1' : am_in (am_z (i : Int)) t2.2.1 = true := am_z_int (by omega) (by omega) (by omega)
    have i2 : (am_z (i : Int)).toNatClampNeg = i := by rw [am_z_cl (by omega) (by omega), Int.toNat_natCast]
    have i3 : am_in (am_z (j : Int)) t1.1 = true := am_z_int (by omega) (by omega) (by omega)
    have i3' : am_in (am_z (j : Int)) t2.1 = true := am_z_int (by omega) (by omega) (by omega)
    have i4 : (am_z (j : Int)).toNatClampNeg = j := by rw [am_z_cl (by omega) (by omega), Int.toNat_natCast]
    unfold el_L_isUnlike_52
    simp only [o1, o2, cond_true, hw1.1, hw2.1, if_neg hlt1, if_neg hlt2, if_neg hm1, g1, n1, m1, if_false, r1, l1, i1, Bool.and_true, i2, gr1, n3, m3, q12, lw1, i3, g2, n2, m2, r2, l2, i1', gr2, n4, m4, q22, lw2, i3', i4, gc1, gc2, dv_p1 (show j < 100000 by omega)]
    have hf : (if qc_sy t1 i j = qc_sy t2 i j then dva_fc t1 t2 i k (j + 1) rest else am_z ((16 * i + j : Nat) : Int)) = FD := hf
    by_cases z : qc_sy t1 i j = qc_sy t2 i j
    · rw [if_pos z] at hf ⊢
      exact dw_u52 k1 k2 hW1 hw1 hW2 hw2 hbg hi1 hi2 hC hD k (j + 1) n (by omega) (by omega) hf
    · rw [if_neg z] at hf ⊢
      have e5 : (16 : Int32) * am_z (i : Int) + am_z (j : Int) = FD := by
        rw [← hf, show (16 : Int32) = am_z 16 from rfl, am_z_mul, am_z_add]
        have : 16 * (i : Int) + j = ((16 * i + j : Nat) : Int) := by omega
        rw [this]
      have pos : (0 : Int32) ≤ FD := by
        rw [← hf, show (0 : Int32) = am_z 0 from rfl, am_z_le (by omega) (by omega) (by omega) (by omega)]; omega
      have hD := hD pos
      rw [e5]
      obtain ⟨n', rfl⟩ : ∃ n', n = n' + 1 := ⟨n - 1, by omega⟩
      unfold el_L_isUnlike_52
      simp only [o1, o2, cond_true, hw1.1, hw2.1, dv_p1 (show i < 100000 by omega)]
      by_cases y1 : am_z (t1.1 : Int) ≤ am_z ((j + 1 : Nat) : Int)
      · rw [if_pos y1]; exact hD
      · rw [if_neg y1]
        by_cases y2 : am_z (t2.1 : Int) ≤ am_z ((j + 1 : Nat) : Int)
        · rw [if_pos y2]; exact hD
        · rw [if_neg y2, if_pos pos]; exact hD
theorem dw_u22 {S : dm_S} {t1 t2 : qc_T} {a1 a2 R1 R2 Ln1 Ln2 lo1 lo2 : Nat} {A1 A2 : Nat → Nat} {i1 i2 i3 FD : Int32} {h1 : am_Hp} (hN : 2000 ≤ N) (k1 : qc_OK t1) (k2 : qc_OK t2) (hW1 : dW lo1 S a1 R1 Ln1 A1 t1.2.1 t1.2.2.2.2.1 t1.2.2.2.2.2) (hw1 : dWw S a1 A1 t1.1 t1.2.1 t1.2.2.2.2.1) (hW2 : dW lo2 S a2 R2 Ln2 A2 t2.2.1 t2.2.2.2.2.1 t2.2.2.2.2.2) (hw2 : dWw S a2 A2 t2.1 t2.2.1 t2.2.2.2.2.1) (hbg : dm_n S < dm_bg) (hF : f_X9_firstDifference N i1 i2 i3 (dm_h S) = some (some FD, h1)) : ∀ (k i n : Nat), i + k = min t1.2.1 t2.2.1 → k + 1 < n → dva_fr t1 t2 (min t1.1 t2.1) k i = FD →
    el_L_isUnlike_22 N n i1 i2 i3 a1 a2 (-1 : Int32) (am_z (i : Int)) S = some ((1 : Int32), dm_sh S h1)
  | k, i, 0, _, hx, _ => by omega
  | 0, i, n + 1, e, _, hf => by
    have c1 := qc_OKw k1
    have c2 := qc_OKw k2
    have hf : (-1 : Int32) = FD := hf
    rw [hf]
    refine dw_uE hW1.1.1 hW2.1.1 hW1.2.1.2.2.1 hW2.2.1.2.2.1 hW1.1.2.1 hW2.1.2.1 hW1.2.1.1 hW2.2.1.1 hbg hF ?_
    by_cases z : t1.2.1 ≤ i
    · left
      rw [am_z_le (by omega) (by omega) (by omega) (by omega)]; omega
    · right; left
      rw [am_z_le (by omega) (by omega) (by omega) (by omega)]; omega
  | k + 1, i, n + 1, e, hx, hf => by
    have c1 := qc_OKw k1
    have c2 := qc_OKw k2
    have o1 := hW1.1.1
    have o2 := hW2.1.1
    have r1 := hW1.1.2.1
    have r2 := hW2.1.2.1
    have b1 := (dm_ok_s r1).2.2
    have b2 := (dm_ok_s r2).2.2
    have l1 := hW1.2.1.1
    have l2 := hW2.2.1.1
    have g1 := hW1.2.1.2.2.1
    have g2 := hW2.2.1.2.2.1
    have n1 := dv_nn (show R1 < dm_bg by omega)
    have m1 := dv_cl (show R1 < dm_bg by omega)
    have n2 := dv_nn (show R2 < dm_bg by omega)
    have m2 := dv_cl (show R2 < dm_bg by omega)
    have hlt1 : ¬ (am_z (t1.2.1 : Int) ≤ am_z (i : Int)) := by rw [am_z_le (by omega) (by omega) (by omega) (by omega)]; omega
    have hlt2 : ¬ (am_z (t2.2.1 : Int) ≤ am_z (i : Int)) := by rw [am_z_le (by omega) (by omega) (by omega) (by omega)]; omega
    have hm1 : ¬ ((0 : Int32) ≤ (-1 : Int32)) := by decide
    have hf : dva_fc t1 t2 i (min t1.1 t2.1) 0 (dva_fr t1 t2 (min t1.1 t2.1) k (i + 1)) = FD := hf
    have key := dw_u52 (N := N) (S := S) (i := i) (i1 := i1) (i2 := i2) (i3 := i3) (FD := FD) (res := some ((1 : Int32), dm_sh S h1)) k1 k2 hW1 hw1 hW2 hw2 hbg (by omega) (by omega) (K22 := el_L_isUnlike_22 N n) (fun z => dw_u22 hN k1 k2 hW1 hw1 hW2 hw2 hbg hF k (i + 1) n (by omega) (by omega) z) (fun z => by
      obtain ⟨n', rfl⟩ : ∃ n', n = n' + 1 := ⟨n - 1, by omega⟩
      exact dw_uE hW1.1.1 hW2.1.1 hW1.2.1.2.2.1 hW2.2.1.2.2.1 hW1.1.2.1 hW2.1.2.1 hW1.2.1.1 hW2.2.1.1 hbg hF (Or.inr (Or.inr z))) (min t1.1 t2.1) 0 N (by omega) (by omega) hf
    unfold el_L_isUnlike_22
    simp only [o1, o2, cond_true, g1, g2, n1, n2, m1, m2, if_false, r1, r2, Bool.or_true, l1, l2, dv_of, if_neg hlt1, if_neg hlt2, if_neg hm1]
    exact key
theorem dw_isUnlike {S : dm_S} {s q q' : Nat} (hN : 2000 ≤ N) (RR : dR nS nU h0 hm (dm_h S)) (hs : s < nS) (hq : q ≤ nv (hm 197 (55 + 1504 * s))) (hq' : q' ≤ nv (hm 197 (55 + 1504 * s))) (hn : 1000 ≤ dm_n S) (hb : dm_n S + 16000 < dm_bg) :
    ∃ S', e_L_isUnlike N (am_z (s : Int)) (am_z (q : Int)) (am_z (q' : Int)) S = some ((1 : Int32), S') ∧ dR nS nU h0 hm (dm_h S') ∧ dvB 7818 119096 S S' := by
  obtain ⟨S1, e1, f1, f2⟩ := dv_screen (N := N) hN RR.1 hs hq hn (by omega)
  obtain ⟨v1, v2, v3, v4, v5⟩ := f2
  have R1 : dR nS nU h0 hm (dm_h S1) := by rw [v1]; exact RR
  obtain ⟨S2, e2, g1, g2⟩ := dv_screen (N := N) hN R1.1 hs hq' (by omega) (by omega)
  obtain ⟨u1, u2, u3, u4, u5⟩ := g2
  have R2 : dR nS nU h0 hm (dm_h S2) := by rw [u1]; exact R1
  have ok1 := rLay_ok RR.1 hs hq
  have ok2 := rLay_ok RR.1 hs hq'
  obtain ⟨Ra, La, Aa, hWa, hwa, -, -⟩ := dV_e f1
  obtain ⟨Rb, Lb, Ab, hWb, hwb, -, -⟩ := dV_e g1
  have hWa2 := dW_fr hWa u2 u5
  have hwa2 := dWw_fr hwa (dm_ok_s hWa.1.1).2.2 (fun l hl => ((dW_ne hWa).2.2 l hl).2.2.2) u5
  obtain ⟨h1, a1, a2⟩ := dva_firstDifference (N := N) (by omega) R2.1 hs hq hq'
  have o1 := qc_OKw ok1
  refine ⟨dm_sh S2 h1, ?_, dR_c R2 a2, ⟨by show dm_n S ≤ dm_n S2; omega, by show dm_n S2 ≤ _; omega, by show dm_zz S2 ≤ _; omega⟩⟩
  unfold e_L_isUnlike
  rw [e1, dv_bi, e2, dv_bi]
  exact dw_u22 (N := N) hN ok1 ok2 hWa2 hwa2 hWb hwb (by omega) a1 (min (rLay hm s q).2.1 (rLay hm s q').2.1) 0 N (by omega) (by omega) rfl
end DVD
