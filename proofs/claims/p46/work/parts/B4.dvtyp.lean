section DV5
variable {N : Nat}
theorem dW_put {lo : Nat} {S : dm_S} {a R Ln : Nat} {A : Nat → Nat} {hh up l0 c0 : Nat} {v : Int32} {L : Nat → Nat → Int32} (h : dW lo S a R Ln A hh up L) (hl : l0 < up + hh) (hc : c0 < dm_len S (A l0)) : dW lo (dm_wr S (A l0) c0 v) a R Ln A hh up (qc_put l0 c0 v L) := by
  obtain ⟨n1, n2, n3⟩ := dW_ne h
  obtain ⟨m1, m2, m3, -⟩ := n3 l0 hl
  obtain ⟨f1, ⟨l3, l4, g0, g4, g5⟩, hr, hq, hA, hi⟩ := h
  refine ⟨f1, ⟨l3, l4, by rw [dv_g_w3 (Ne.symm m1)]; exact g0, by rw [dv_g_w3 (Ne.symm m1)]; exact g4, by rw [dv_g_w3 (Ne.symm m1)]; exact g5⟩, fun i hi => by rw [dv_g_w3 (Ne.symm m2)]; exact hr i hi, fun k hk => by rw [dv_g_w3 (Ne.symm m3)]; exact hq k hk, fun l hl9 => ?_, hi⟩
  obtain ⟨q1, q2, q3, q4, q5⟩ := hA l hl9
  refine ⟨q1, q2, q3, fun c hc9 => ?_, fun c hc9 => ?_⟩
  · unfold qc_put
    by_cases e : l = l0
    · by_cases e2 : c = c0
      · rw [if_pos ⟨e, e2⟩, e, e2, dv_g_w1]
      · rw [if_neg (fun z => e2 z.2), ← q4 c hc9, e, dv_g_w2 e2]
    · rw [if_neg (fun z => e z.1), ← q4 c hc9, dv_g_w3 (fun z => e (hi l l0 hl9 hl z))]
  · unfold qc_put
    have hc9 : dm_len S (A l) ≤ c := hc9
    rw [if_neg (fun z => by rw [z.1, z.2] at hc9; omega)]
    exact q5 c hc9
/-- new blank rows -/
theorem dv_Blank {lo : Nat} {S : dm_S} {a R Ln : Nat} {A : Nat → Nat} {w hh h' up : Nat} {L : Nat → Nat → Int32} (hN : 2000 ≤ N) (h : dW lo S a R Ln A hh up L) (g3 : dm_g S a 3 = am_z (w : Int)) (w1 : w ≤ 16) (h6 : h' ≤ 6) (hlo : 1000 ≤ lo) (hlo2 : lo ≤ dm_n S) (hb : dm_n S + 2000 < dm_bg) :
    ∃ S', e_X10_blank N a (am_z (h' : Int)) S = some ((), S') ∧ dW lo S' a (dm_n S) Ln (fun l => if l < up then A l else dm_n S + 1 + (l - up)) h' up (qc_cut up L) ∧ dWw S' a (fun l => if l < up then A l else dm_n S + 1 + (l - up)) w h' up ∧ dvF lo (1 + h') (h' + h' * w) S S' ∧ dm_g S' a 1 = dm_g S a 1 ∧ dm_g S' a 2 = dm_g S a 2 ∧ dm_n S' = dm_n S + 1 + h' ∧ ∀ b, b < dm_n S → dm_k S' b = dm_k S b ∧ (b ≠ a → dm_g S' b = dm_g S b) := by
  obtain ⟨n1, n2, n3⟩ := dW_ne h
  obtain ⟨⟨o1, o3, o4, hne, t1, t2, t3⟩, ⟨l3, l4, g0, g4, g5⟩, hr, hq, hA, hi⟩ := h
  obtain ⟨S', e, f1, f2, f3, f4, f5, f6, f7, f8⟩ := dv_blank (N := N) (a := a) (w := w) (hh := h') hN (by omega) (by omega) o1 g3 (by omega) hb
  have a1 := (dm_ok_s o1).2.2
  have a4 := (dm_ok_s o4).2.2
  have hn : dm_n S ≤ dm_n S' := by omega
  have e1 : ∀ l, (fun l => if l < up then A l else dm_n S + 1 + (l - up)) l = if l < up then A l else dm_n S + 1 + (l - up) := fun _ => rfl
  have e2 : ∀ i, up + i - up = i := fun i => by omega
  have o3' : dm_ok S' 3 (dm_n S) = true := dv_okm (by rw [f7]) (by omega) (by omega)
  have l3' : dm_len S' (dm_n S) = h' := by unfold dm_len; rw [f7]
  refine ⟨S', e, ⟨⟨dvF_ok hn (f4 a a1).1 o1, o3', dvF_ok hn (f4 Ln a4).1 o4, by omega, t1, hlo2, t3⟩, ⟨l3', (dvF_len (f4 Ln a4).1).trans l4, f5, (f6 4 (by decide)).trans g4, (f6 5 (by decide)).trans g5⟩, fun i hi9 => ?_, fun k hk => ?_, fun l hl => ?_, fun l m hl hm z => ?_⟩, ⟨(f6 3 (by decide)).trans g3, fun l hl hl2 => ?_⟩, ⟨f1, hn, by omega, by omega, fun b hb9 => ⟨(f4 b (by omega)).1, (f4 b (by omega)).2 (by omega)⟩⟩, f6 1 (by decide), f6 2 (by decide), f2, f4⟩
  · have c1 : ¬ up + i < up := by omega
    rw [e1, if_neg c1, e2]
    exact (f8 i hi9).1
  · rw [e1, if_pos hk, (f4 Ln a4).2 (Ne.symm n2)]
    exact hq k hk
  · rw [e1]
    by_cases c1 : l < up
    · obtain ⟨q1, q2, q3, q4, q5⟩ := hA l (by omega)
      obtain ⟨y1, y2, y3, y4⟩ := n3 l (by omega)
      have c2 : qc_cut up L l = L l := by funext c; unfold qc_cut; rw [if_neg (by omega)]
      rw [if_pos c1, dvF_len (f4 _ y4).1, (f4 _ y4).2 y1, c2]
      exact ⟨q1, dvF_ok hn (f4 _ y4).1 q2, q3, q4, q5⟩
    · obtain ⟨p1, p2, p3⟩ := f8 (l - up) (by omega)
      have lw : dm_len S' (dm_n S + 1 + (l - up)) = w := by unfold dm_len; rw [p2]
      have c2 : ∀ c, qc_cut up L l c = am_z 27 := fun c => by unfold qc_cut; rw [if_pos (by omega)]
      rw [if_neg c1, lw]
      exact ⟨by omega, dv_okm (by rw [p2]) (by omega) (by omega), w1, fun c hc => by rw [p3 c hc, c2], fun c hc => c2 c⟩
  · rw [e1, e1] at z
    by_cases c1 : l < up
    · have c3 := (n3 l (by omega)).2.2.2
      by_cases c2 : m < up
      · rw [if_pos c1, if_pos c2] at z
        exact hi l m (by omega) (by omega) z
      · rw [if_pos c1, if_neg c2] at z
        omega
    · by_cases c2 : m < up
      · have c3 := (n3 m (by omega)).2.2.2
        rw [if_neg c1, if_pos c2] at z
        omega
      · rw [if_neg c1, if_neg c2] at z
        omega
  · have c1 : ¬ l < up := by omega
    rw [e1, if_neg c1]
    unfold dm_len
    rw [(f8 (l - up) (by omega)).2.1]
theorem dv_Typ {lo : Nat} {S : dm_S} {a w hh row col up v : Nat} {L : Nat → Nat → Int32} (hN : 2000 ≤ N) (h : dV lo S a (w, hh, row, col, up, L)) (hK : qc_OK (w, hh, row, col, up, L)) (v1 : v ≤ 31) (hlo : 1000 ≤ lo) (hlo2 : lo ≤ dm_n S) (hb : dm_n S + 2000 < dm_bg) :
    ∃ S', e_X10_typed N a (am_z (v : Int)) S = some ((), S') ∧ dV lo S' a (qc_typ (am_z (v : Int)) (w, hh, row, col, up, L)) ∧ dvF lo 7 102 S S' := by
  obtain ⟨k1, k2, k3, k4, k5, k6, k7, k8, k9, k10⟩ := hK
  have h0 := h
  obtain ⟨R, Ln, A, hW, hw, gr, gc⟩ := h
  have o1 := hW.1.1
  have o3 := hW.1.2.1
  have l3 := hW.2.1.1
  have g0 := hW.2.1.2.2.1
  have g3 := hw.1
  have hR := (dm_ok_s o3).2.2
  have hl := hW.1.2.2.2.2.1
  have vt : (am_z (v : Int)).toInt = (v : Int) := am_z_ti (by omega) (by omega)
  have ve : ∀ n : Nat, n ≤ 31 → (am_z (v : Int) = am_z (n : Int)) = (v = n) := fun n hn => by
    rw [am_z_eq (by omega) (by omega) (by omega) (by omega)]
    exact propext ⟨fun z => by omega, fun z => by omega⟩
  have v28 : (am_z (v : Int) = (28 : Int32)) = (v = 28) := ve 28 (by omega)
  have v29 : (am_z (v : Int) = (29 : Int32)) = (v = 29) := ve 29 (by omega)
  have v30 : (am_z (v : Int) = (30 : Int32)) = (v = 30) := ve 30 (by omega)
  have v31 : (am_z (v : Int) = (31 : Int32)) = (v = 31) := ve 31 (by omega)
  have cv : ∀ n : Nat, ((v : Int) = (n : Int)) = (v = n) := fun n => propext ⟨fun z => by omega, fun z => by omega⟩
  have t28 : ((v : Int) = 28) = (v = 28) := cv 28
  have t29 : ((v : Int) = 29) = (v = 29) := cv 29
  have t30 : ((v : Int) = 30) = (v = 30) := cv 30
  have t31 : ((v : Int) = 31) = (v = 31) := cv 31
  have eT : qc_typ (am_z (v : Int)) (w, hh, row, col, up, L) = if v = 28 then qc_down (w, hh, row, col, up, L)
      else if v = 29 then (w, hh, row, 0, up, L) else if v = 30 then (w, hh, row, col - 1, up, L) else if v = 31 then (w, hh, 0, 0, up, qc_cut up L)
      else if col + 1 = w then qc_down (w, hh, row, col + 1, up, qc_put (up + row) col (am_z (v : Int)) L) else (w, hh, row, col + 1, up, qc_put (up + row) col (am_z (v : Int)) L) := by
    unfold qc_typ
    simp only [vt, t28, t29, t30, t31]
  rw [eT]
  unfold e_X10_typed
  simp only [v28, v29, v30, v31]
  by_cases c28 : v = 28
  · obtain ⟨S', e, f1, f2⟩ := dv_Down hN h0 k2 k5 k4 k7 k8 hlo hlo2 hb
    refine ⟨S', ?_, ?_, dvF_m f2 (by omega) (by omega)⟩
    · simp only [if_pos c28, o1, cond_true, e, dv_bi]
    · rw [if_pos c28]
      exact f1
  · rw [if_neg c28, if_neg c28]
    by_cases c29 : v = 29
    · refine ⟨dm_wr S a 2 (0 : Int32), ?_, ?_, dvF_m (dvF_wr hl) (by omega) (by omega)⟩
      · simp only [if_pos c29, o1, cond_true]
      · rw [if_pos c29]
        exact ⟨R, Ln, A, dW_f hW (by decide) (by decide) (by decide), dWw_f hw (by decide), by rw [dv_g_w2 (by decide)]; exact gr, by rw [dv_g_w1]; rfl⟩
    · rw [if_neg c29, if_neg c29]
      by_cases c30 : v = 30
      · rw [if_pos c30, if_pos c30]
        refine ⟨dm_wr S a 2 (am_z ((col - 1 : Nat) : Int)), ?_, ?_, dvF_m (dvF_wr hl) (by omega) (by omega)⟩
        · by_cases c0 : col = 0
          · have e1 : am_z (col : Int) ≤ (0 : Int32) := by rw [c0]; decide
            have e2 : am_z ((col - 1 : Nat) : Int) = 0 := by rw [c0]; rfl
            simp only [o1, cond_true, gc, if_pos e1, e2]
          · have e1 : ¬ am_z (col : Int) ≤ (0 : Int32) := by
              rw [show (0 : Int32) = am_z 0 from rfl, am_z_le (by omega) (by omega) (by omega) (by omega)]; omega
            simp only [o1, cond_true, gc, if_neg e1, dv_m1 (show 1 ≤ col by omega)]
        · exact ⟨R, Ln, A, dW_f hW (by decide) (by decide) (by decide), dWw_f hw (by decide), by rw [dv_g_w2 (by decide)]; exact gr, by rw [dv_g_w1]⟩
      · rw [if_neg c30, if_neg c30]
        by_cases c31 : v = 31
        · rw [if_pos c31, if_pos c31]
          obtain ⟨S', e, f1, f2, f3, f4, f5, f6, f7⟩ := dv_Blank (h' := hh) hN hW g3 k2 k4 hlo hlo2 hb
          have o1' := f1.1.1
          refine ⟨dm_wr (dm_wr S' a 2 (0 : Int32)) a 1 (0 : Int32), ?_, ?_, ?_⟩
          · simp only [o1, cond_true, g0, dv_nn (show R < dm_bg by omega), if_false, dv_cl (show R < dm_bg by omega), o3, Bool.or_true, l3, dv_of, e, dv_bi, o1', dv_ok_wr]
          · exact ⟨_, Ln, _, dW_f (dW_f f1 (by decide) (by decide) (by decide)) (by decide) (by decide) (by decide), dWw_f (dWw_f f2 (by decide)) (by decide), by rw [dv_g_w1]; rfl, by rw [dv_g_w2 (by decide), dv_g_w1]; rfl⟩
          · refine dvF_m (dvF_t f3 (dvF_t (dvF_wr hl) (dvF_wr hl))) (by omega) ?_
            have : hh * w ≤ 6 * 16 := Nat.mul_le_mul k4 k2
            omega
        · rw [if_neg c31, if_neg c31]
          have hrr : up + row < up + hh := by omega
          obtain ⟨q1, q2, q3, q4, q5⟩ := hW.2.2.2.2.1 (up + row) hrr
          have lw : dm_len S (A (up + row)) = w := hw.2 (up + row) (by omega) hrr
          have hA := (dm_ok_s q2).2.2
          have gR : dm_g S R row = am_z (A (up + row) : Int) := hW.2.2.1 row k5
          obtain ⟨n1, n2, n3⟩ := dW_ne hW
          have hna := (n3 (up + row) hrr).1
          have i1 : am_in (am_z (row : Int)) hh = true := am_z_int (by omega) (by omega) (by omega)
          have i2 : (am_z (row : Int)).toNatClampNeg = row := by rw [am_z_cl (by omega) (by omega), Int.toNat_natCast]
          have i3 : am_in (am_z (col : Int)) w = true := am_z_int (by omega) (by omega) (by omega)
          have i4 : (am_z (col : Int)).toNatClampNeg = col := by rw [am_z_cl (by omega) (by omega), Int.toNat_natCast]
          have hW1 := dW_f (j := 2) (v := am_z ((col + 1 : Nat) : Int)) (dW_put (v := am_z (v : Int)) (c0 := col) hW hrr (by rw [lw]; exact k6)) (by decide) (by decide) (by decide)
          have hw1 : dWw (dm_wr (dm_wr S (A (up + row)) col (am_z (v : Int))) a 2 (am_z ((col + 1 : Nat) : Int))) a A w hh up := dWw_f ⟨by rw [dv_g_w3 (Ne.symm hna)]; exact g3, hw.2⟩ (by decide)
          have hF : dvF lo 0 0 S (dm_wr (dm_wr S (A (up + row)) col (am_z (v : Int))) a 2 (am_z ((col + 1 : Nat) : Int))) := dvF_t (dvF_wr q1) (dvF_wr hl)
          have gr1 : dm_g (dm_wr (dm_wr S (A (up + row)) col (am_z (v : Int))) a 2 (am_z ((col + 1 : Nat) : Int))) a 1 = am_z (row : Int) := by
            rw [dv_g_w2 (by decide), dv_g_w3 (Ne.symm hna)]; exact gr
          have gc1 : dm_g (dm_wr (dm_wr S (A (up + row)) col (am_z (v : Int))) a 2 (am_z ((col + 1 : Nat) : Int))) a 2 = am_z ((col + 1 : Nat) : Int) := dv_g_w1
          have h27 : ∀ l c, up + hh ≤ l → qc_put (up + row) col (am_z (v : Int)) L l c = am_z 27 := fun l c hl9 => by
            unfold qc_put
            rw [if_neg (by omega)]
            exact k8 l c hl9
          have cw : (am_z ((col + 1 : Nat) : Int) = am_z (w : Int)) = (col + 1 = w) := by
            rw [am_z_eq (by omega) (by omega) (by omega) (by omega)]
            exact propext ⟨fun z => by omega, fun z => by omega⟩
          have hV1 : dV lo (dm_wr (dm_wr S (A (up + row)) col (am_z (v : Int))) a 2 (am_z ((col + 1 : Nat) : Int))) a (w, hh, row, col + 1, up, qc_put (up + row) col (am_z (v : Int)) L) := ⟨R, Ln, A, hW1, hw1, gr1, gc1⟩
          simp only [o1, cond_true, g0, dv_nn (show R < dm_bg by omega), if_false, dv_cl (show R < dm_bg by omega), gr, l3, o3, i1, Bool.and_true, i2, gR, dv_nn (show A (up + row) < dm_bg by omega), dv_cl (show A (up + row) < dm_bg by omega), q2, gc, lw, i3, i4, dv_ok_wr, dv_g_w3 (Ne.symm hna), dv_p1 (show col < 100000 by omega), dv_g_w1, dv_g_w2 (show 3 ≠ 2 by decide), g3, cw]
          by_cases cW : col + 1 = w
          · rw [if_pos cW, if_pos cW]
            obtain ⟨S', e, f1, f2⟩ := dv_Down hN hV1 k2 k5 k4 k7 h27 hlo hlo2 hb
            exact ⟨S', by rw [e, dv_bi], f1, dvF_m (dvF_t hF f2) (by omega) (by omega)⟩
          · rw [if_neg cW, if_neg cW]
            exact ⟨_, rfl, hV1, dvF_m hF (by omega) (by omega)⟩
end DV5
