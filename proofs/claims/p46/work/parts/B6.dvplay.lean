section DV7
variable {N : Nat}
theorem dv_sz7 {lo a R Ln w hh w' h' row col up : Nat} {L : Nat → Nat → Int32} (hN : 2000 ≤ N) (w1 : w ≤ 16) (w'1 : 2 ≤ w') (w'16 : w' ≤ 16) (h6 : hh ≤ 6) (h'1 : 1 ≤ h') (h'6 : h' ≤ 6) (hr : row < hh) (hc : col < w) (hup : up ≤ 40) (h27 : ∀ l c, up + hh ≤ l → L l c = am_z 27) (hw27 : ∀ l c, up ≤ l → w ≤ c → L l c = am_z 27) (hlo : 1000 ≤ lo) : ∀ (m i n : Nat) (S : dm_S) (A : Nat → Nat), i + m = hh → m < n → dW lo S a R Ln A hh up (qc_nari up i w' L) → dm_g S a 3 = am_z (w' : Int) → (∀ l, up ≤ l → l < up + hh → dm_len S (A l) = if l < up + i then w' else w) → dm_g S a 1 = am_z (row : Int) → dm_g S a 2 = am_z (col : Int) → lo ≤ dm_n S → dm_n S + m + 8 + 2000 < dm_bg →
    ∃ S', el_X10_sized_7 N n a (am_z (w' : Int)) (am_z (h' : Int)) (am_z (i : Int)) S = some ((), S') ∧ dV lo S' a (qc_szs w' h' (w, hh, row, col, up, L)) ∧ dvF lo (m + ((row + 1 - h') + (1 + h'))) (m * 16 + ((row + 1 - h') * 16 + (h' + h' * w'))) S S'
  | m, i, 0, S, A, hi, hn, hW, g3, hwd, gr, gc, hlo2, hb => by omega
  | 0, i, n + 1, S, A, hi, hn, hW, g3, hwd, gr, gc, hlo2, hb => by
    have hii : i = hh := by omega
    rw [hii] at hW hwd ⊢
    have o1 := hW.1.1
    have o3 := hW.1.2.1
    have b3 := (dm_ok_s o3).2.2
    have l3 := hW.2.1.1
    have g0 := hW.2.1.2.2.1
    have hla := hW.1.2.2.2.2.1
    have eL : qc_nari up hh w' L = qc_nar up w' L := by
      funext l c
      unfold qc_nari qc_nar
      by_cases c1 : up ≤ l ∧ w' ≤ c
      · rw [if_pos c1]
        by_cases c2 : up ≤ l ∧ l < up + hh ∧ w' ≤ c
        · rw [if_pos c2]
        · rw [if_neg c2]
          exact h27 l c (by omega)
      · rw [if_neg c1, if_neg (fun z => c1 ⟨z.1, z.2.2⟩)]
    rw [eL] at hW
    have h27' : ∀ l c, up + hh ≤ l → qc_nar up w' L l c = am_z 27 := fun l c hl => by
      unfold qc_nar
      by_cases c1 : up ≤ l ∧ w' ≤ c
      · rw [if_pos c1]
      · rw [if_neg c1]
        exact h27 l c hl
    have ecol : (if am_z (col : Int) < am_z (w' : Int) then am_z (col : Int) else am_z ((w' - 1 : Nat) : Int)) = am_z ((min col (w' - 1) : Nat) : Int) := by
      have e0 : (am_z (col : Int) < am_z (w' : Int)) = ((col : Int) < (w' : Int)) := am_z_lt (by omega) (by omega) (by omega) (by omega)
      by_cases c1 : col < w'
      · rw [if_pos (e0 ▸ (by omega)), show min col (w' - 1) = col by omega]
      · rw [if_neg (e0 ▸ (by omega)), show min col (w' - 1) = w' - 1 by omega]
    obtain ⟨S', e', u1, u2⟩ := dv_sz99 (N := N) (col := min col (w' - 1)) (w := w') hN w'16 (by omega) h6 h'1 h'6 hlo (row + 1 - h') row N (dm_wr S a 2 (am_z ((min col (w' - 1) : Nat) : Int))) A up (qc_nar up w' L) rfl hr (by omega) (dW_f hW (by decide) (by decide) (by decide)) ⟨by rw [dv_g_w2 (by decide)]; exact g3, fun l hl hl2 => by
      have := hwd l hl hl2
      rw [if_pos hl2] at this
      exact this⟩ (by rw [dv_g_w2 (by decide)]; exact gr) dv_g_w1 hup h27' hlo2 (by rw [dv_n_wr]; omega)
    refine ⟨S', ?_, u1, dvF_m (dvF_t (dvF_wr hla) u2) (by omega) (by omega)⟩
    unfold el_X10_sized_7
    have e2 : am_z (hh : Int) ≤ am_z (hh : Int) := by rw [am_z_le (by omega) (by omega) (by omega) (by omega)]; omega
    simp only [o1, cond_true, g0, dv_nn (show R < dm_bg by omega), if_false, dv_cl (show R < dm_bg by omega), o3, Bool.or_true, l3, dv_of, if_pos e2, gc]
    rw [← ecol] at e'
    by_cases c1 : am_z (col : Int) < am_z (w' : Int)
    · rw [if_pos c1]
      rw [if_pos c1] at e'
      exact e'
    · rw [if_neg c1]
      rw [if_neg c1] at e'
      rw [dv_m1 (show 1 ≤ w' by omega)]
      exact e'
  | m + 1, i, n + 1, S, A, hi, hn, hW, g3, hwd, gr, gc, hlo2, hb => by
    obtain ⟨n1, n2, n3⟩ := dW_ne hW
    have hii : i < hh := by omega
    obtain ⟨⟨o1, o3, o4, hne, t1, t2, t3⟩, ⟨l3, l4, g0, g4, g5⟩, hrr, hqq, hA, hi0⟩ := hW
    have b1 := (dm_ok_s o1).2.2
    have b3 := (dm_ok_s o3).2.2
    have b4 := (dm_ok_s o4).2.2
    obtain ⟨q1, q2, q3, q4, q5⟩ := hA (up + i) (by omega)
    obtain ⟨m1, m2, m3, m4⟩ := n3 (up + i) (by omega)
    have lB : dm_len S (A (up + i)) = w := by
      have := hwd (up + i) (by omega) (by omega)
      rw [if_neg (by omega)] at this
      exact this
    obtain ⟨S1, e1, f1, f2, f3, f4, f5, f6⟩ := dv_row (N := N) (a := a) (w := w') (S := S) hN (by omega) o1 g3 (by omega)
    have hn1 : dm_n S ≤ dm_n S1 := by omega
    have fr1 : ∀ b, b < dm_n S → dm_k S1 b = dm_k S b ∧ dm_g S1 b = dm_g S b := fun b hb => f4 b (by omega)
    have on1 : dm_ok S1 2 (dm_n S) = true := dv_okm (by rw [f5]) (by omega) (by omega)
    have ln1 : dm_len S1 (dm_n S) = w' := by unfold dm_len; rw [f5]
    obtain ⟨S2, e2, v1, v2, v3, v4, v5, v6, v7⟩ := dv_szC (N := N) (K7 := el_X10_sized_7 N n) (a := a) (R := R) (B := A (up + i)) (a4 := dm_n S) (w' := w') (lw := w) (hh := hh) (i := i) (i2 := am_z (h' : Int)) (by omega) (by omega) (by omega) hii (by omega) (by omega) (by omega) (Ne.symm m2) (min w' w) 0 N S1 (by omega) (by omega) (dvF_ok hn1 (fr1 a b1).1 o1) (by rw [(fr1 a b1).2]; exact g0) (dvF_ok hn1 (fr1 R b3).1 o3) ((dvF_len (fr1 R b3).1).trans l3) (by rw [(fr1 R b3).2]; exact hrr i hii) (dvF_ok hn1 (fr1 _ m4).1 q2) ((dvF_len (fr1 _ m4).1).trans lB) on1 ln1 (by omega)
    have k2 : ∀ b, b < dm_n S → dm_k S2 b = dm_k S b := fun b hb => by rw [v4, (fr1 b hb).1]
    have g2 : ∀ b, b < dm_n S → b ≠ R → dm_g S2 b = dm_g S b := fun b hb hR => by rw [v5 b (by omega) hR, (fr1 b hb).2]
    have hn2 : dm_n S ≤ dm_n S2 := by omega
    have x1 : ∀ l, (fun l => if l = up + i then dm_n S else A l) l = if l = up + i then dm_n S else A l := fun _ => rfl
    have lenn : dm_len S2 (dm_n S) = w' := by unfold dm_len; rw [v4, f5]
    have cont : ∀ c, c < w' → dm_g S2 (dm_n S) c = L (up + i) c := fun c hc9 => by
      rw [v7 c hc9]
      by_cases c1 : 0 ≤ c ∧ c < w
      · rw [if_pos c1, (fr1 _ m4).2, q4 c (by omega)]
        unfold qc_nari
        rw [if_neg (by omega)]
      · rw [if_neg c1, f6 c hc9]
        exact (hw27 (up + i) c (by omega) (by omega)).symm
    have hW2 : dW lo S2 a R Ln (fun l => if l = up + i then dm_n S else A l) hh up (qc_nari up (i + 1) w' L) := by
      refine ⟨⟨dvF_ok hn2 (k2 a b1) o1, dvF_ok hn2 (k2 R b3) o3, dvF_ok hn2 (k2 Ln b4) o4, hne, t1, t2, t3⟩, ⟨(dvF_len (k2 R b3)).trans l3, (dvF_len (k2 Ln b4)).trans l4, by rw [g2 a b1 n1]; exact g0, by rw [g2 a b1 n1]; exact g4, by rw [g2 a b1 n1]; exact g5⟩, fun j hj => ?_, fun k hk => ?_, fun l hl => ?_, fun l l' hl hm z => ?_⟩
      · rw [v6 j, x1]
        by_cases c1 : j = i
        · rw [if_pos c1, if_pos (by omega)]
        · rw [if_neg c1, if_neg (by omega), (fr1 R b3).2]
          exact hrr j hj
      · rw [g2 Ln b4 (Ne.symm hne), x1, if_neg (by omega)]
        exact hqq k hk
      · rw [x1]
        by_cases c1 : l = up + i
        · rw [if_pos c1, lenn, c1]
          refine ⟨by omega, dv_okm (by rw [v4, f5]) (by omega) (by omega), w'16, fun c hc9 => ?_, fun c hc9 => ?_⟩
          · rw [cont c hc9]
            unfold qc_nari
            rw [if_neg (by omega)]
          · unfold qc_nari
            rw [if_pos (by omega)]
        · obtain ⟨p1, p2, p3, p4, p5⟩ := hA l hl
          obtain ⟨y1, y2, y3, y4⟩ := n3 l hl
          have eq : ∀ c, qc_nari up (i + 1) w' L l c = qc_nari up i w' L l c := fun c => by
            unfold qc_nari
            by_cases c2 : up ≤ l ∧ l < up + i ∧ w' ≤ c
            · rw [if_pos c2, if_pos (by omega)]
            · rw [if_neg c2, if_neg (by omega)]
          rw [if_neg c1, dvF_len (k2 _ y4), g2 _ y4 y2]
          exact ⟨p1, dvF_ok hn2 (k2 _ y4) p2, p3, fun c hc9 => by rw [eq]; exact p4 c hc9, fun c hc9 => by rw [eq]; exact p5 c hc9⟩
      · rw [x1, x1] at z
        by_cases c1 : l = up + i
        · by_cases c2 : l' = up + i
          · omega
          · have := (n3 l' hm).2.2.2
            rw [if_pos c1, if_neg c2] at z
            omega
        · by_cases c2 : l' = up + i
          · have := (n3 l hl).2.2.2
            rw [if_neg c1, if_pos c2] at z
            omega
          · rw [if_neg c1, if_neg c2] at z
            exact hi0 l l' hl hm z
    obtain ⟨S', e', u1, u2⟩ := dv_sz7 hN w1 w'1 w'16 h6 h'1 h'6 hr hc hup h27 hw27 hlo m (i + 1) n S2 _ (by omega) (by omega) hW2 (by rw [g2 a b1 n1]; exact g3) (fun l hl hl2 => by
      by_cases c1 : l = up + i
      · rw [if_pos c1, lenn, if_pos (by omega)]
      · have y4 := (n3 l hl2).2.2.2
        rw [if_neg c1, dvF_len (k2 _ y4), hwd l hl hl2]
        by_cases c2 : l < up + i
        · rw [if_pos c2, if_pos (by omega)]
        · rw [if_neg c2, if_neg (by omega)]) (by rw [g2 a b1 n1]; exact gr) (by rw [g2 a b1 n1]; exact gc) (by omega) (by omega)
    have f : dvF lo 1 16 S S2 := ⟨v1.trans f1, hn2, by omega, by omega, fun b hb9 => ⟨k2 b (by omega), g2 b (by omega) (by omega)⟩⟩
    refine ⟨S', ?_, u1, dvF_m (dvF_t f u2) (by omega) (by omega)⟩
    unfold el_X10_sized_7
    have c2 : ¬ am_z (hh : Int) ≤ am_z (i : Int) := by rw [am_z_le (by omega) (by omega) (by omega) (by omega)]; omega
    simp only [o1, cond_true, g0, dv_nn (show R < dm_bg by omega), if_false, dv_cl (show R < dm_bg by omega), o3, Bool.or_true, l3, dv_of, if_neg c2, e1, dv_bi]
    exact e2.trans e'
theorem dv_Siz {lo : Nat} {S : dm_S} {a w hh row col up w' h' : Nat} {L : Nat → Nat → Int32} (hN : 2000 ≤ N) (h : dV lo S a (w, hh, row, col, up, L)) (hK : qc_OK (w, hh, row, col, up, L)) (w'1 : 2 ≤ w') (w'16 : w' ≤ 16) (h'1 : 1 ≤ h') (h'6 : h' ≤ 6) (hlo : 1000 ≤ lo) (hlo2 : lo ≤ dm_n S) (hb : dm_n S + 3000 < dm_bg) :
    ∃ S', e_X10_sized N a (am_z (w' : Int)) (am_z (h' : Int)) S = some ((), S') ∧ dV lo S' a (qc_szs w' h' (w, hh, row, col, up, L)) ∧ dvF lo 13 198 S S' := by
  obtain ⟨k1, k2, k3, k4, k5, k6, k7, k8, k9, k10⟩ := hK
  obtain ⟨R, Ln, A, hW, hw, gr, gc⟩ := h
  have o1 := hW.1.1
  have hla := hW.1.2.2.2.2.1
  have eL : qc_nari up 0 w' L = L := by
    funext l c
    unfold qc_nari
    rw [if_neg (by omega)]
  obtain ⟨S', e, u1, u2⟩ := dv_sz7 (N := N) (h' := h') hN k2 w'1 w'16 k4 h'1 h'6 k5 k6 k7 k8 k9 hlo hh 0 N (dm_wr S a 3 (am_z (w' : Int))) A (by omega) (by omega) (by rw [eL]; exact dW_f hW (by decide) (by decide) (by decide)) dv_g_w1 (fun l hl hl2 => by
    rw [if_neg (by omega)]
    exact hw.2 l hl hl2) (by rw [dv_g_w2 (by decide)]; exact gr) (by rw [dv_g_w2 (by decide)]; exact gc) hlo2 (by rw [dv_n_wr]; omega)
  refine ⟨S', ?_, u1, dvF_m (dvF_t (dvF_wr hla) u2) (by omega) ?_⟩
  · unfold e_X10_sized
    rw [o1, cond_true]
    exact e
  · have : h' * w' ≤ h' * 16 := Nat.mul_le_mul_left h' w'16
    omega
end DV7
