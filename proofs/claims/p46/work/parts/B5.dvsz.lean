section DV6
variable {N : Nat}
theorem dv_szC {K7 : Nat → Int32 → Int32 → Int32 → dm_S → Option (Unit × dm_S)} {a R B a4 w' lw hh i : Nat} {i2 : Int32} (hw' : w' ≤ 1000) (hlw : lw ≤ 1000) (hh1 : hh ≤ 1000) (hi : i < hh) (nR : a4 ≠ R) (na : a4 ≠ a) (nB : a4 ≠ B) (nRB : R ≠ B) : ∀ (m j n : Nat) (S : dm_S), j + m = min w' lw → m < n → dm_ok S 1 a = true → dm_g S a 0 = am_z (R : Int) → dm_ok S 3 R = true → dm_len S R = hh → dm_g S R i = am_z (B : Int) → dm_ok S 2 B = true → dm_len S B = lw → dm_ok S 2 a4 = true → dm_len S a4 = w' → dm_n S < dm_bg →
    ∃ S', el_X10_sized_25 N K7 n a (am_z (w' : Int)) i2 (am_z (i : Int)) a4 (am_z (j : Int)) S = K7 a (am_z (w' : Int)) i2 (am_z ((i + 1 : Nat) : Int)) S' ∧ dm_h S' = dm_h S ∧ dm_n S' = dm_n S ∧ dm_zz S' = dm_zz S ∧ dm_k S' = dm_k S ∧ (∀ b, b ≠ a4 → b ≠ R → dm_g S' b = dm_g S b) ∧ (∀ k, dm_g S' R k = if k = i then am_z (a4 : Int) else dm_g S R k) ∧ ∀ c, c < w' → dm_g S' a4 c = if j ≤ c ∧ c < lw then dm_g S B c else dm_g S a4 c
  | m, j, 0, S, h1, h2, o1, g0, o3, l3, gB, oB, lB, o4, l4, hb => by omega
  | m, j, n + 1, S, h1, h2, o1, g0, o3, l3, gB, oB, lB, o4, l4, hb => by
    have b3 := (dm_ok_s o3).2.2
    have b4 := (dm_ok_s o4).2.2
    have bB := (dm_ok_s oB).2.2
    have i1 : am_in (am_z (i : Int)) hh = true := am_z_int (by omega) (by omega) (by omega)
    have i3 : (am_z (i : Int)).toNatClampNeg = i := by rw [am_z_cl (by omega) (by omega), Int.toNat_natCast]
    have j3 : (am_z (j : Int)).toNatClampNeg = j := by rw [am_z_cl (by omega) (by omega), Int.toNat_natCast]
    have eR : ∀ k, dm_g (dm_wr S R i (am_z (a4 : Int))) R k = if k = i then am_z (a4 : Int) else dm_g S R k := fun k => by
      by_cases hk : k = i
      · rw [if_pos hk, hk, dv_g_w1]
      · rw [if_neg hk, dv_g_w2 hk]
    unfold el_X10_sized_25
    by_cases c1 : w' ≤ j
    · have e1 : am_z (w' : Int) ≤ am_z (j : Int) := by rw [am_z_le (by omega) (by omega) (by omega) (by omega)]; omega
      refine ⟨dm_wr S R i (am_z (a4 : Int)), ?_, rfl, rfl, rfl, rfl, fun b _ hbR => dv_g_w3 hbR, eR, fun c hc => ?_⟩
      · simp only [if_pos e1, o1, cond_true, g0, dv_nn (show R < dm_bg by omega), if_false, dv_cl (show R < dm_bg by omega), o3, l3, i1, Bool.and_true, o4, dv_blt (show a4 < dm_bg by omega), i3, dv_p1 (show i < 100000 by omega)]
      · rw [if_neg (by omega), dv_g_w3 nR]
    · have e1 : ¬ am_z (w' : Int) ≤ am_z (j : Int) := by rw [am_z_le (by omega) (by omega) (by omega) (by omega)]; omega
      by_cases c2 : lw ≤ j
      · have e2 : am_z (lw : Int) ≤ am_z (j : Int) := by rw [am_z_le (by omega) (by omega) (by omega) (by omega)]; omega
        refine ⟨dm_wr S R i (am_z (a4 : Int)), ?_, rfl, rfl, rfl, rfl, fun b _ hbR => dv_g_w3 hbR, eR, fun c hc => ?_⟩
        · simp only [if_neg e1, o1, cond_true, g0, dv_nn (show R < dm_bg by omega), if_false, dv_cl (show R < dm_bg by omega), o3, l3, i1, Bool.and_true, o4, dv_blt (show a4 < dm_bg by omega), i3, dv_p1 (show i < 100000 by omega), gB, dv_nn (show B < dm_bg by omega), dv_cl (show B < dm_bg by omega), oB, Bool.true_or, lB, dv_of, if_pos e2]
        · rw [if_neg (by omega), dv_g_w3 nR]
      · have e2 : ¬ am_z (lw : Int) ≤ am_z (j : Int) := by rw [am_z_le (by omega) (by omega) (by omega) (by omega)]; omega
        obtain ⟨m', rfl⟩ : ∃ m', m = m' + 1 := ⟨m - 1, by omega⟩
        obtain ⟨S', e, f1, f2, f3, f4, f5, f6, f7⟩ := dv_szC (K7 := K7) (i2 := i2) hw' hlw hh1 hi nR na nB nRB m' (j + 1) n (dm_wr S a4 j (dm_g S B j)) (by omega) (by omega) o1 (by rw [dv_g_w3 (Ne.symm na)]; exact g0) o3 l3 (by rw [dv_g_w3 (Ne.symm nR)]; exact gB) oB lB o4 l4 hb
        refine ⟨S', ?_, f1, f2, f3, f4, fun b hb4 hbR => by rw [f5 b hb4 hbR, dv_g_w3 hb4], fun k => by rw [f6 k, dv_g_w3 (Ne.symm nR)], fun c hc => ?_⟩
        · have j1 : am_in (am_z (j : Int)) lw = true := am_z_int (by omega) (by omega) (by omega)
          have j2 : am_in (am_z (j : Int)) w' = true := am_z_int (by omega) (by omega) (by omega)
          simp only [if_neg e1, o1, cond_true, g0, dv_nn (show R < dm_bg by omega), if_false, dv_cl (show R < dm_bg by omega), o3, l3, i1, Bool.and_true, o4, i3, gB, dv_nn (show B < dm_bg by omega), dv_cl (show B < dm_bg by omega), oB, Bool.true_or, lB, dv_of, if_neg e2, j1, j2, l4, j3, dv_p1 (show j < 100000 by omega)]
          exact e
        · rw [f7 c hc, dv_g_w3 (Ne.symm nB)]
          by_cases c3 : c = j
          · rw [c3, if_neg (by omega), dv_g_w1, if_pos (by omega)]
          · rw [dv_g_w2 c3]
            by_cases c4 : j ≤ c ∧ c < lw
            · rw [if_pos (by omega), if_pos c4]
            · rw [if_neg (by omega), if_neg c4]
/-- what stays of the old rows -/
theorem dv_szO {a R R' h' hh : Nat} {ρ : Nat → Nat} (hh1 : hh ≤ 1000) (h'1 : h' ≤ 1000) (nR : R' ≠ R) (na : R' ≠ a) : ∀ (m i n : Nat) (S : dm_S), i + m = min h' hh → m < n → dm_ok S 1 a = true → dm_g S a 0 = am_z (R' : Int) → dm_ok S 3 R' = true → dm_len S R' = h' → dm_ok S 3 R = true → dm_len S R = hh → (∀ j, j < min h' hh → dm_g S R j = am_z (ρ j : Int) ∧ dm_ok S 2 (ρ j) = true) → dm_n S < dm_bg →
    ∃ S', el_X10_sized_137 N n a (am_z (h' : Int)) R (am_z (i : Int)) S = some ((), S') ∧ dm_h S' = dm_h S ∧ dm_n S' = dm_n S ∧ dm_zz S' = dm_zz S ∧ dm_k S' = dm_k S ∧ (∀ b, b ≠ R' → dm_g S' b = dm_g S b) ∧ ∀ j, dm_g S' R' j = if i ≤ j ∧ j < min h' hh then am_z (ρ j : Int) else dm_g S R' j
  | m, i, 0, S, h1, h2, o1, g0, o3, l3, oR, lR, hr, hb => by omega
  | m, i, n + 1, S, h1, h2, o1, g0, o3, l3, oR, lR, hr, hb => by
    have b3 := (dm_ok_s o3).2.2
    have bR := (dm_ok_s oR).2.2
    unfold el_X10_sized_137
    by_cases c1 : h' ≤ i
    · have e1 : am_z (h' : Int) ≤ am_z (i : Int) := by rw [am_z_le (by omega) (by omega) (by omega) (by omega)]; omega
      refine ⟨S, by rw [if_pos e1], rfl, rfl, rfl, rfl, fun _ _ => rfl, fun j => by rw [if_neg (by omega)]⟩
    · have e1 : ¬ am_z (h' : Int) ≤ am_z (i : Int) := by rw [am_z_le (by omega) (by omega) (by omega) (by omega)]; omega
      by_cases c2 : hh ≤ i
      · have e2 : am_z (hh : Int) ≤ am_z (i : Int) := by rw [am_z_le (by omega) (by omega) (by omega) (by omega)]; omega
        refine ⟨S, by simp only [if_neg e1, oR, Bool.or_true, cond_true, lR, dv_of, if_pos e2], rfl, rfl, rfl, rfl, fun _ _ => rfl, fun j => by rw [if_neg (by omega)]⟩
      · have e2 : ¬ am_z (hh : Int) ≤ am_z (i : Int) := by rw [am_z_le (by omega) (by omega) (by omega) (by omega)]; omega
        obtain ⟨m', rfl⟩ : ∃ m', m = m' + 1 := ⟨m - 1, by omega⟩
        obtain ⟨p1, p2⟩ := hr i (by omega)
        have bp := (dm_ok_s p2).2.2
        obtain ⟨S', e, f1, f2, f3, f4, f5, f6⟩ := dv_szO (ρ := ρ) hh1 h'1 nR na m' (i + 1) n (dm_wr S R' i (am_z (ρ i : Int))) (by omega) (by omega) o1 (by rw [dv_g_w3 (Ne.symm na)]; exact g0) o3 l3 oR lR (fun j hj => by rw [dv_g_w3 (Ne.symm nR)]; exact hr j hj) hb
        have i1 : am_in (am_z (i : Int)) hh = true := am_z_int (by omega) (by omega) (by omega)
        have i2 : am_in (am_z (i : Int)) h' = true := am_z_int (by omega) (by omega) (by omega)
        have i3 : (am_z (i : Int)).toNatClampNeg = i := by rw [am_z_cl (by omega) (by omega), Int.toNat_natCast]
        refine ⟨S', ?_, f1, f2, f3, f4, fun b hb => by rw [f5 b hb, dv_g_w3 hb], fun j => ?_⟩
        · simp only [if_neg e1, oR, Bool.or_true, cond_true, lR, dv_of, if_neg e2, o1, g0, dv_nn (show R' < dm_bg by omega), if_false, dv_cl (show R' < dm_bg by omega), i1, Bool.and_true, i3, p1, dv_nn (show ρ i < dm_bg by omega), dv_cl (show ρ i < dm_bg by omega), o3, l3, i2, p2, dv_blt (show ρ i < dm_bg by omega), dv_p1 (show i < 100000 by omega)]
          exact e
        · rw [f6 j]
          by_cases c3 : j = i
          · rw [c3, if_neg (by omega), dv_g_w1, if_pos (by omega)]
          · rw [dv_g_w2 c3]
            by_cases c4 : i ≤ j ∧ j < min h' hh
            · rw [if_pos (by omega), if_pos c4]
            · rw [if_neg (by omega), if_neg c4]
/-- the end of a new size: the rows that no longer fit went up, the rest is laid anew -/
theorem dv_sz99 {lo a R Ln w hh h' col : Nat} (hN : 2000 ≤ N) (w1 : w ≤ 16) (hh1 : 1 ≤ hh) (h6 : hh ≤ 6) (h'1 : 1 ≤ h') (h'6 : h' ≤ 6) (hlo : 1000 ≤ lo) : ∀ (k row n : Nat) (S : dm_S) (A : Nat → Nat) (up : Nat) (L : Nat → Nat → Int32), row + 1 - h' = k → row < hh → k < n → dW lo S a R Ln A hh up L → dWw S a A w hh up → dm_g S a 1 = am_z (row : Int) → dm_g S a 2 = am_z (col : Int) → up ≤ 40 → (∀ l c, up + hh ≤ l → L l c = am_z 27) → lo ≤ dm_n S → dm_n S + k + 2000 < dm_bg →
    ∃ S', el_X10_sized_99 N n a (am_z (h' : Int)) S = some ((), S') ∧ dV lo S' a (w, h', row - k, col, (qc_ups k up L).1, qc_cut ((qc_ups k up L).1 + h') (qc_ups k up L).2) ∧ dvF lo (k + (1 + h')) (k * 16 + (h' + h' * w)) S S'
  | k, row, 0, S, A, up, L, hk, hr, hn, hW, hw, gr, gc, hup, h27, hlo2, hb => by omega
  | 0, row, n + 1, S, A, up, L, hk, hr, hn, hW, hw, gr, gc, hup, h27, hlo2, hb => by
    show ∃ S', _ ∧ dV lo S' a (w, h', row - 0, col, up, qc_cut (up + h') L) ∧ _
    obtain ⟨S1, e, f1, f2, f3, f4, f5, f6, f7⟩ := dv_Blank (N := N) (h' := h') hN hW hw.1 w1 h'6 hlo hlo2 (by omega)
    obtain ⟨n1, n2, n3⟩ := dW_ne hW
    have o1 := hW.1.1
    have o3 := hW.1.2.1
    have b1 := (dm_ok_s o1).2.2
    have b3 := (dm_ok_s o3).2.2
    have l3 := hW.2.1.1
    have g0 := hW.2.1.2.2.1
    have hn1 : dm_n S ≤ dm_n S1 := by omega
    have kA : ∀ j, j < hh → dm_g S1 R j = am_z (A (up + j) : Int) ∧ dm_ok S1 2 (A (up + j)) = true := fun j hj => by
      have q2 := (hW.2.2.2.2.1 (up + j) (by omega)).2.1
      have y4 := (n3 (up + j) (by omega)).2.2.2
      refine ⟨?_, dvF_ok hn1 (f7 _ y4).1 q2⟩
      rw [(f7 R b3).2 (Ne.symm n1)]
      exact hW.2.2.1 j hj
    obtain ⟨d1, d2, d3⟩ := dW_ne f1
    obtain ⟨S', e', u1, u2, u3, u4, u5, u6⟩ := dv_szO (N := N) (a := a) (R := R) (R' := dm_n S) (h' := h') (hh := hh) (ρ := fun j => A (up + j)) (by omega) (by omega) (by omega) (Ne.symm d1) (min h' hh) 0 N S1 (by omega) (by omega) f1.1.1 f1.2.1.2.2.1 f1.1.2.1 f1.2.1.1 (dvF_ok hn1 (f7 R b3).1 o3) ((dvF_len (f7 R b3).1).trans l3) (fun j hj => kA j (by omega)) (by omega)
    have ok1 : ∀ kd b, dm_ok S' kd b = dm_ok S1 kd b := fun kd b => by unfold dm_ok; rw [u4, u2]
    have ln1 : ∀ b, dm_len S' b = dm_len S1 b := fun b => by unfold dm_len; rw [u4]
    have e1 : ∀ l, (fun l => if l < up + min h' hh then A l else dm_n S + 1 + (l - up)) l = if l < up + min h' hh then A l else dm_n S + 1 + (l - up) := fun _ => rfl
    have c9 : ∀ i, up + i - up = i := fun i => by omega
    obtain ⟨⟨p1, p2, p3, p4, p5, p6, p7⟩, ⟨r1, r2, r3, r4, r5⟩, hr1, hq1, hA1, hi1⟩ := f1
    refine ⟨S', ?_, ⟨dm_n S, Ln, fun l => if l < up + min h' hh then A l else dm_n S + 1 + (l - up), ⟨⟨by rw [ok1]; exact p1, by rw [ok1]; exact p2, by rw [ok1]; exact p3, p4, p5, p6, p7⟩, ⟨(ln1 _).trans r1, (ln1 _).trans r2, by rw [u5 a d1]; exact r3, by rw [u5 a d1]; exact r4, by rw [u5 a d1]; exact r5⟩, fun i hi9 => ?_, fun k hk9 => ?_, fun l hl => ?_, fun l m hl hm z => ?_⟩, ⟨by rw [u5 a d1]; exact f2.1, fun l hl hl2 => ?_⟩, by rw [u5 a d1, f4]; exact gr, by rw [u5 a d1, f5]; exact gc⟩, ?_⟩
    · unfold el_X10_sized_99
      have e2 : am_z (row : Int) < am_z (h' : Int) := by rw [am_z_lt (by omega) (by omega) (by omega) (by omega)]; omega
      simp only [o1, cond_true, gr, if_pos e2, g0, dv_nn (show R < dm_bg by omega), if_false, e, dv_bi, dv_cl (show R < dm_bg by omega)]
      exact e'
    · rw [u6 i, e1]
      by_cases c1 : i < min h' hh
      · rw [if_pos (by omega), if_pos (by omega)]
      · have c2 : ¬ up + i < up := by omega
        rw [if_neg (by omega), if_neg (by omega), hr1 i hi9]
        dsimp only
        rw [if_neg c2]
    · rw [u5 Ln (Ne.symm p4), hq1 k hk9, e1]
      dsimp only
      have hk8 : k < up := hk9
      rw [if_pos hk8, if_pos (by omega)]
    · rw [e1]
      have eL : ∀ c, qc_cut (up + h') L l c = L l c := fun c => by unfold qc_cut; rw [if_neg (by have : l < up + h' := hl; omega)]
      show _ ∧ _ ∧ _ ∧ (∀ c, _ → _ = qc_cut (up + h') L l c) ∧ ∀ c, _ → qc_cut (up + h') L l c = _
      by_cases c1 : l < up + min h' hh
      · obtain ⟨q1, q2, q3, q4, q5⟩ := hW.2.2.2.2.1 l (by omega)
        obtain ⟨y1, y2, y3, y4⟩ := n3 l (by omega)
        have yn : A l ≠ dm_n S := by omega
        rw [if_pos c1, ok1, ln1, u5 _ yn, dvF_len (f7 _ y4).1, (f7 _ y4).2 y1]
        exact ⟨q1, dvF_ok hn1 (f7 _ y4).1 q2, q3, fun c hc => by rw [eL]; exact q4 c hc, fun c hc => by rw [eL]; exact q5 c hc⟩
      · obtain ⟨q1, q2, q3, q4, q5⟩ := hA1 l hl
        have c2 : ¬ l < up := by omega
        dsimp only at q1 q2 q3 q4 q5
        rw [if_neg c2] at q1 q2 q3 q4 q5
        have yn : dm_n S + 1 + (l - up) ≠ dm_n S := by omega
        have eC : ∀ c, qc_cut up L l c = am_z 27 := fun c => by unfold qc_cut; rw [if_pos (by omega)]
        rw [if_neg c1, ok1, ln1, u5 _ yn]
        have hL27 : ∀ c, L l c = am_z 27 := fun c => h27 l c (by have : l < up + h' := hl; omega)
        exact ⟨q1, q2, q3, fun c hc => by rw [eL, q4 c hc, eC, hL27], fun c hc => by rw [eL, hL27]⟩
    · rw [e1, e1] at z
      have hl : l < up + h' := hl
      have hm : m < up + h' := hm
      by_cases c1 : l < up + min h' hh
      · have c3 := (n3 l (by omega)).2.2.2
        by_cases c2 : m < up + min h' hh
        · rw [if_pos c1, if_pos c2] at z
          exact hW.2.2.2.2.2 l m (by omega) (by omega) z
        · rw [if_pos c1, if_neg c2] at z
          omega
      · by_cases c2 : m < up + min h' hh
        · have c3 := (n3 m (by omega)).2.2.2
          rw [if_neg c1, if_pos c2] at z
          omega
        · rw [if_neg c1, if_neg c2] at z
          omega
    · rw [e1, ln1]
      have hl2 : l < up + h' := hl2
      have hl : up ≤ l := hl
      by_cases c1 : l < up + min h' hh
      · have y4 := (n3 l (by omega)).2.2.2
        rw [if_pos c1, dvF_len (f7 _ y4).1]
        exact hw.2 l hl (by omega)
      · have c2 : ¬ l < up := by omega
        have := f2.2 l hl hl2
        dsimp only at this
        rw [if_neg c2] at this
        rw [if_neg c1]
        exact this
    · have f : dvF lo 0 0 S1 S' := ⟨u1, by omega, by omega, by omega, fun b hb9 => ⟨by rw [u4], u5 b (by omega)⟩⟩
      exact dvF_m (dvF_t f3 f) (by omega) (by omega)
  | k + 1, row, n + 1, S, A, up, L, hk, hr, hn, hW, hw, gr, gc, hup, h27, hlo2, hb => by
    obtain ⟨S1, A1, e, f1, f2, f3, f4, f5⟩ := dv_Up (N := N) hN hW hw w1 hh1 h6 hup h27 hlo hlo2 (by omega)
    obtain ⟨s, s1, s2, s3, s4⟩ := dv_s hup
    obtain ⟨v1, v2, v3, v4, v5⟩ := f3
    obtain ⟨S', e', u1, u2⟩ := dv_sz99 (col := col) hN w1 hh1 h6 h'1 h'6 hlo k (row - 1) n (dm_wr S1 a 1 (am_z ((row - 1 : Nat) : Int))) A1 (qc_upN up) (qc_upL up L) (by omega) (by omega) (by omega) (dW_f f1 (by decide) (by decide) (by decide)) (dWw_f f2 (by decide)) dv_g_w1 (by rw [dv_g_w2 (by decide), f5]; exact gc) s2 (fun l c hl => by rw [s3]; exact h27 _ _ (by omega)) (by rw [dv_n_wr]; omega) (by rw [dv_n_wr]; omega)
    have o1 := hW.1.1
    have o1' := f1.1.1
    have hla := hW.1.2.2.2.2.1
    have er : row - 1 - k = row - (k + 1) := by omega
    rw [er] at u1
    refine ⟨S', ?_, u1, dvF_m (dvF_t (dvF_t ⟨v1, v2, v3, v4, v5⟩ (dvF_wr hla)) u2) (by omega) (by omega)⟩
    unfold el_X10_sized_99
    have e2 : ¬ am_z (row : Int) < am_z (h' : Int) := by rw [am_z_lt (by omega) (by omega) (by omega) (by omega)]; omega
    simp only [o1, cond_true, gr, if_neg e2, e, dv_bi, o1', f4, dv_m1 (show 1 ≤ row by omega)]
    exact e'
end DV6
