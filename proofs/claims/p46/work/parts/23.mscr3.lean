section MSCR3
variable {N : Nat}
theorem qm_types {h : am_Hp} {t : qc_T} {v : Nat} (hN : 1000 ≤ N) (hR : qm_R h t) (hk : qc_OK t) (hv : 1 ≤ v ∧ v ≤ 31) :
    ∃ h', f_X10_types N (am_z v) h = some ((), h') ∧ qm_R h' (qc_typ (am_z v) t) ∧ qm_fr h h' := by
  obtain ⟨w, hh, row, col, up, L⟩ := t
  have hR' := hR
  obtain ⟨r1, r2, r3, k1, k2, k3, k4⟩ := hR'
  obtain ⟨a1, a2, a3, a4, a5, a6, a7, a8, a9, a10⟩ := hk
  have ht : (am_z v).toInt = (v : Int) := am_z_ti (by omega) (by omega)
  unfold f_X10_types qc_typ
  simp only [ht]
  by_cases q28 : (v : Int) = 28
  · obtain ⟨h', b1, b2, b3⟩ := qm_goesDown (N := N) hN hR ⟨a2, a5, a4, a7⟩ a9 a8
    refine ⟨h', ?_, ?_, b3⟩
    · simp only [q28, if_true, b1, am_bi_s]
    · simp only [q28, if_true]; exact b2
  simp only [if_neg q28]
  by_cases q29 : (v : Int) = 29
  · refine ⟨am_pi h 193 12 (am_z 0), by simp only [q29, if_true, am_z_lit], ?_, qm_frp (by omega)⟩
    simp only [q29, if_true]
    unfold qm_R qm_K
    simp (disch := decide) only [am_pi_k, am_pi_a, am_pi_s]
    exact ⟨r1, r2, rfl, k1, k2, k3, k4⟩
  simp only [if_neg q29]
  by_cases q30 : (v : Int) = 30
  · have e3 : max 0 ((col : Int) - 1) = ((col - 1 : Nat) : Int) := by omega
    refine ⟨am_pi h 193 12 (am_z ((col - 1 : Nat) : Int)), ?_, ?_, qm_frp (by omega)⟩
    · simp (disch := omega) only [q30, if_true, r3, am_z_lit, am_z_neg, am_z_add, am_z_sub, am_z_mul, am_z_lt, am_z_max, e3]
    · simp only [q30, if_true]
      unfold qm_R qm_K
      simp (disch := decide) only [am_pi_k, am_pi_a, am_pi_s]
      exact ⟨r1, r2, trivial, k1, k2, k3, k4⟩
  simp only [if_neg q30]
  by_cases q31 : (v : Int) = 31
  · have b1 := (qm_emptiesL (N := N) N 0 h (by omega) (by omega)).1
    have b1' : l_X10_empties_2 N N (am_z 0) h = _ := b1
    refine ⟨am_pi (am_pi (qm_map 200 0 96 (fun _ => am_z 27) h) 193 12 (am_z 0)) 193 11 (am_z 0), ?_, ?_, qm_frt (qm_frt (qm_frm (by omega)) (qm_frp (by omega))) (qm_frp (by omega))⟩
    · unfold f_X10_empties
      simp only [q31, if_true, am_z_lit, b1', am_bi_s]
    · simp only [q31, if_true]
      unfold qm_R qm_K
      simp (disch := decide) only [am_pi_k, am_pi_a, am_pi_s, qm_map_a]
      refine ⟨r1, rfl, rfl, k1, k2, fun y c hy hc => ?_, fun l hl => ?_⟩
      · rw [qm_map_p (by omega)]; unfold qc_cut; rw [if_pos (by omega)]
      · obtain ⟨q, q1, q2, q3, q4⟩ := k4 l hl
        unfold qc_cut
        simp only [if_neg (show ¬ up ≤ l by omega)]
        exact ⟨q, q1, q2, q3, q4⟩
  simp only [if_neg q31]
  have e1 : 16 * (row : Int) + col = ((16 * row + col : Nat) : Int) := by omega
  have e2 : am_in (am_z ((16 * row + col : Nat) : Int)) 96 = true := am_z_int (by omega) (by omega) (by decide)
  have e3 : (col : Int) + 1 = ((col + 1 : Nat) : Int) := by omega
  generalize hh1 : am_pi (am_pi h 200 (16 * row + col) (am_z v)) 193 12 (am_z ((col + 1 : Nat) : Int)) = h1
  have hR1 : qm_R h1 (w, hh, row, col + 1, up, qc_put (up + row) col (am_z v) L) := by
    subst hh1
    unfold qm_R qm_K
    simp (disch := decide) only [am_pi_k, am_pi_a, am_pi_s]
    refine ⟨r1, r2, trivial, k1, k2, fun y c hy hc => ?_, fun l hl => ?_⟩
    · rw [am_pi_ap]
      unfold qc_put
      by_cases hq : y = row ∧ c = col
      · rw [if_pos (by omega), if_pos (by omega)]
      · rw [if_neg (by omega), if_neg (by omega)]; exact k3 y c hy hc
    · obtain ⟨q, q1, q2, q3, q4⟩ := k4 l hl
      unfold qc_put
      simp only [if_neg (show ∀ {c : Nat}, ¬ (l = up + row ∧ c = col) by omega)]
      exact ⟨q, q1, q2, q3, q4⟩
  have hf1 : qm_fr h h1 := by subst hh1; exact qm_frt (qm_frq (by omega)) (qm_frp (by omega))
  have e12 : h1 193 12 = am_z ((col + 1 : Nat) : Int) := hR1.2.2.1
  have e9 : h1 193 9 = am_z w := hR1.2.2.2.1
  by_cases qw : col + 1 = w
  · obtain ⟨h', b1, b2, b3⟩ := qm_goesDown (N := N) hN hR1 ⟨a2, a5, a4, a7⟩ (fun l c z z2 => qc_putB (by omega) (a9 l c z z2)) (fun l c z => qc_putB (by omega) (a8 l c z))
    refine ⟨h', ?_, ?_, qm_frt hf1 b3⟩
    · simp (disch := first | omega | decide) only [r2, r3, am_z_lit, am_z_neg, am_z_add, am_z_sub, am_z_mul, e1, e2, cond_true, am_z_cl, Int.toNat_natCast, am_pi_a, e3, hh1, e12, e9]
      rw [if_pos (by rw [qw]), b1, am_bi_s]
    · rw [if_pos qw]; exact b2
  · refine ⟨h1, ?_, ?_, hf1⟩
    · simp (disch := first | omega | decide) only [r2, r3, am_z_lit, am_z_neg, am_z_add, am_z_sub, am_z_mul, e1, e2, cond_true, am_z_cl, Int.toNat_natCast, am_pi_a, e3, hh1, e12, e9]
      rw [if_neg (by rw [am_z_eq (by omega) (by omega) (by omega) (by omega)]; omega)]
    · rw [if_neg qw]; exact hR1
theorem qm_narL {w' H : Nat} {h0 : am_Hp} (hw : w' ≤ 16) : ∀ (n i : Nat) (h : am_Hp), i ≤ 96 → 97 ≤ n + i → h 193 9 = am_z w' → (∀ j, i ≤ j → h 200 j = h0 200 j) →
    l_X10_sizes_7 N n (am_z H) (am_z i) h = l_X10_sizes_64 N N (am_z H) (am_pi (qm_map 200 i 96 (fun j => if j % 16 < w' then h0 200 j else am_z 27) h) 193 12 (if am_z ((w' : Int) - 1) < h 193 12 then am_z ((w' : Int) - 1) else h 193 12))
  | 0, i, h, h1, h2, d1, hh => by omega
  | n + 1, i, h, h1, h2, d1, hh => by
    rw [l_X10_sizes_7]
    by_cases hi : i = 96
    · subst hi
      simp (disch := first | omega | decide) only [am_z_lit, am_z_neg, am_z_add, am_z_sub, am_z_mul, am_z_le, am_z_lt, am_z_eq, am_z_cl, am_z_int, if_pos, if_neg, qm_map_0, d1]
    · have e1 : (i : Int) + 1 = ((i + 1 : Nat) : Int) := by omega
      have e2 : am_in (am_z i) 96 = true := am_z_int (by omega) (by omega) (by decide)
      have e4 : ¬ (am_z 16 = am_z 0) := by decide
      have e5 : (i : Int) - (i : Int).tdiv 16 * 16 = ((i % 16 : Nat) : Int) := by rw [Int.tdiv_eq_ediv_of_nonneg (by omega)]; omega
      by_cases hq : i % 16 < w'
      · simp (disch := omega) only [am_z_lit, am_z_neg, am_z_add, am_z_sub, am_z_mul, am_z_le, am_z_lt, am_z_eq, am_z_cl, am_z_int, cond_true, cond_false, am_bi_s, am_bt_s, am_bt_n, Option.bind_some, Bool.and_true, Bool.true_and, Bool.and_false, Bool.false_and, d1, am_z_div, e5, e2, e1, if_neg (show ¬ (96 : Int) ≤ i by omega), if_neg e4, if_neg (show ¬ (w' : Int) ≤ ((i % 16 : Nat) : Int) by omega), Int.toNat_natCast]
        simp (disch := omega) only [if_neg]
        rw [qm_narL (h0 := h0) hw n (i + 1) _ (by omega) (by omega) (by rw [am_pi_a (by decide)]; exact d1) (fun j hj => by rw [am_pi_k (by omega)]; exact hh j (by omega))]
        rw [qm_map_v (g := fun j => if j % 16 < w' then h0 200 j else am_z 27) (i := i) (by omega) (by show _ = if i % 16 < w' then h0 200 i else am_z 27; rw [if_pos hq, hh i (by omega)]), am_pi_a (by decide)]
      · simp (disch := omega) only [am_z_lit, am_z_neg, am_z_add, am_z_sub, am_z_mul, am_z_le, am_z_lt, am_z_eq, am_z_cl, am_z_int, cond_true, cond_false, am_bi_s, am_bt_s, am_bt_n, Option.bind_some, Bool.and_true, Bool.true_and, Bool.and_false, Bool.false_and, d1, am_z_div, e5, e2, e1, if_neg (show ¬ (96 : Int) ≤ i by omega), if_neg e4, if_pos (show (w' : Int) ≤ ((i % 16 : Nat) : Int) by omega), Int.toNat_natCast]
        simp (disch := omega) only [if_neg]
        rw [qm_narL (h0 := h0) hw n (i + 1) _ (by omega) (by omega) (by rw [am_pi_a (by decide)]; exact d1) (fun j hj => by rw [am_pi_k (by omega)]; exact hh j (by omega))]
        rw [qm_map_v (g := fun j => if j % 16 < w' then h0 200 j else am_z 27) (i := i) (by omega) (by show _ = if i % 16 < w' then h0 200 i else am_z 27; rw [if_neg hq]), am_pi_a (by decide)]
theorem qm_szL {w col H : Nat} (hN : 1000 ≤ N) (hH : 1 ≤ H) (hH6 : H ≤ 6) (hw : w ≤ 16) : ∀ (n m row up : Nat) (L : Nat → Nat → Int32) (h : am_Hp), qm_K h w up L → h 193 11 = am_z row → h 193 12 = am_z col → row < m → m ≤ 6 → up ≤ 40 → (∀ l c, up ≤ l → w ≤ c → L l c = am_z 27) → (∀ l c, up + m ≤ l → L l c = am_z 27) → row + 1 - H < n →
    ∃ h', l_X10_sizes_64 N n (am_z H) h = some ((), h') ∧ qm_R h' (w, H, row - (row + 1 - H), col, (qc_ups (row + 1 - H) up L).1, qc_cut ((qc_ups (row + 1 - H) up L).1 + H) (qc_ups (row + 1 - H) up L).2) ∧ qm_fr h h'
  | 0, m, row, up, L, h, hK, r2, r3, h1, h2, h3, hW, hB, h5 => by omega
  | n + 1, m, row, up, L, h, hK, r2, r3, h1, h2, h3, hW, hB, h5 => by
    by_cases hd : row + 1 ≤ H
    · have hk : row + 1 - H = 0 := by omega
      rw [hk]
      have s1 := (qm_emptiesL (N := N) N (16 * H) (am_pi h 193 10 (am_z H)) (by omega) (by omega)).2
      have e1 : 16 * (H : Int) = ((16 * H : Nat) : Int) := by omega
      refine ⟨qm_map 200 (16 * H) 96 (fun _ => am_z 27) (am_pi h 193 10 (am_z H)), ?_, ?_, qm_frt (qm_frp (k := 10) (v := am_z H) (by omega)) (qm_frm (A := 200) (by omega))⟩
      · rw [l_X10_sizes_64]
        simp (disch := omega) only [am_z_lit, am_z_neg, am_z_add, am_z_sub, am_z_mul, am_z_le, am_z_lt, am_z_eq, am_z_cl, am_z_int, if_pos, if_neg, r2, am_pi_s, e1]
        exact s1
      · obtain ⟨k1, k2, k3, k4⟩ := hK
        unfold qm_R qm_K
        simp (disch := decide) only [am_pi_k, am_pi_a, am_pi_s, qm_map_a]
        refine ⟨trivial, r2, r3, k1, k2, fun y c hy hc => ?_, fun l hl => ?_⟩
        · unfold qc_cut
          by_cases hq : y < H
          · rw [qm_map_n (by omega), am_pi_a (by decide), k3 y c hy hc, if_neg]
            · rfl
            · show ¬ up + H ≤ up + y
              omega
          · rw [qm_map_p (by omega), if_pos]
            show up + H ≤ up + y
            omega
        · obtain ⟨q, q1, q2, q3, q4⟩ := k4 l hl
          have hl : l < up := hl
          unfold qc_cut
          have hn : ¬ ((qc_ups 0 up L).1 + H ≤ l) := by
            show ¬ up + H ≤ l
            omega
          simp only [if_neg hn]
          exact ⟨q, q1, q2, q3, q4⟩
    · obtain ⟨row', rfl⟩ : ∃ q, row = q + 1 := ⟨row - 1, by omega⟩
      obtain ⟨m', rfl⟩ : ∃ q, m = q + 1 := ⟨m - 1, by omega⟩
      obtain ⟨h2', b1, b2, b3, b4⟩ := qm_goesUp (N := N) hN hK hw h3 (fun c hc => hW _ c (by omega) hc) (fun l c hl => hB l c (by omega))
      have e11 : h2' 193 11 = am_z ((row' + 1 : Nat) : Int) := (b4 _ (by decide)).trans r2
      have e12 : h2' 193 12 = am_z col := (b4 _ (by decide)).trans r3
      have hK3 : qm_K (am_pi h2' 193 11 (am_z row')) w (qc_upN up) (qc_upL up L) := by
        unfold qm_K
        simp (disch := decide) only [am_pi_k, am_pi_a]
        exact b2
      obtain ⟨h4, c1, c2, c3⟩ := qm_szL hN hH hH6 hw n m' row' (qc_upN up) (qc_upL up L) _ hK3 (am_pi_s _ _ _ _) (by rw [am_pi_k (by decide)]; exact e12) (by omega) (by omega) (qc_up40 h3) (qc_upW h3 hW) (qc_upB h3 hB) (by omega)
      have hk : row' + 1 + 1 - H = (row' + 1 - H) + 1 := by omega
      rw [hk]
      have hk2 : row' + 1 - (row' + 1 - H + 1) = row' - (row' + 1 - H) := by omega
      rw [hk2]
      have e3 : ((row' + 1 : Nat) : Int) - 1 = (row' : Int) := by omega
      refine ⟨h4, ?_, c2, qm_frt b3 (qm_frt (qm_frp (by omega)) c3)⟩
      rw [l_X10_sizes_64]
      simp (disch := omega) only [am_z_lit, am_z_neg, am_z_add, am_z_sub, am_z_mul, am_z_le, am_z_lt, am_z_eq, am_z_cl, am_z_int, r2, if_neg (show ¬ ((row' + 1 : Nat) : Int) < H by omega), b1, am_bi_s, e11, e3]
      exact c1
theorem qm_sizes {h : am_Hp} {t : qc_T} {w' H : Nat} (hN : 1000 ≤ N) (hR : qm_R h t) (hk : qc_OK t) (b : 2 ≤ w' ∧ w' ≤ 16 ∧ 1 ≤ H ∧ H ≤ 6) :
    ∃ h', f_X10_sizes N (am_z w') (am_z H) h = some ((), h') ∧ qm_R h' (qc_szs w' H t) ∧ qm_fr h h' := by
  obtain ⟨w, hh, row, col, up, L⟩ := t
  obtain ⟨r1, r2, r3, k1, k2, k3, k4⟩ := hR
  obtain ⟨a1, a2, a3, a4, a5, a6, a7, a8, a9, a10⟩ := hk
  have s1 := qm_narL (N := N) (H := H) (h0 := h) b.2.1 N 0 (am_pi h 193 9 (am_z w')) (by omega) (by omega) (am_pi_s _ _ _ _) (fun j _ => am_pi_a (by decide))
  have e3 : min ((w' : Int) - 1) (col : Int) = ((min col (w' - 1) : Nat) : Int) := by omega
  have e4 : (if am_z ((w' : Int) - 1) < am_pi h 193 9 (am_z w') 193 12 then am_z ((w' : Int) - 1) else am_pi h 193 9 (am_z w') 193 12) = am_z ((min col (w' - 1) : Nat) : Int) := by
    rw [am_pi_k (by decide), r3]
    simp (disch := omega) only [am_z_lt, am_z_min, e3]
  rw [e4] at s1
  generalize hh1 : am_pi (qm_map 200 0 96 (fun j => if j % 16 < w' then h 200 j else am_z 27) (am_pi h 193 9 (am_z w'))) 193 12 (am_z ((min col (w' - 1) : Nat) : Int)) = h1 at s1
  have hK1 : qm_K h1 w' up (qc_nar up w' L) := by
    subst hh1
    unfold qm_K
    simp (disch := decide) only [am_pi_k, am_pi_a, am_pi_s, qm_map_a]
    refine ⟨trivial, k2, fun y c hy hc => ?_, fun l hl => ?_⟩
    · rw [qm_map_p (by omega)]
      have e5 : (16 * y + c) % 16 = c := by omega
      unfold qc_nar
      rw [e5]
      by_cases hq : c < w'
      · rw [if_pos hq, if_neg (by omega), k3 y c hy hc]
      · rw [if_neg hq, if_pos (by omega)]
    · obtain ⟨q, q1, q2, q3, q4⟩ := k4 l hl
      unfold qc_nar
      simp only [if_neg (show ∀ {c : Nat}, ¬ (up ≤ l ∧ w' ≤ c) by omega)]
      exact ⟨q, q1, q2, q3, q4⟩
  have e11 : h1 193 11 = am_z row := by
    subst hh1; rw [am_pi_k (by decide), qm_map_a (by decide), am_pi_k (by decide)]; exact r2
  have e12 : h1 193 12 = am_z ((min col (w' - 1) : Nat) : Int) := by subst hh1; exact am_pi_s _ _ _ _
  have hf : qm_fr h h1 := by subst hh1; exact qm_frt (qm_frt (qm_frp (by omega)) (qm_frm (by omega))) (qm_frp (by omega))
  obtain ⟨h2, c1, c2, c3⟩ := qm_szL (N := N) hN b.2.2.1 b.2.2.2 b.2.1 N hh row up _ h1 hK1 e11 e12 a5 a4 a7 (fun l c z z2 => by unfold qc_nar; rw [if_pos ⟨z, z2⟩]) (fun l c z => by
    unfold qc_nar; split
    · rfl
    · exact a8 _ _ z) (by omega)
  refine ⟨h2, ?_, c2, qm_frt hf c3⟩
  have s1' : l_X10_sizes_7 N N (am_z H) (am_z 0) (am_pi h 193 9 (am_z w')) = _ := s1
  unfold f_X10_sizes
  simp only [am_z_lit, s1', c1]
-- ---- cells of the model's row
theorem qm_ofS {h : am_Hp} {s k : Nat} (hs : s < 4) (hk : k < 1504) : f_X10_ofS N (am_z s) (am_z k) h = some (h 197 (55 + 1504 * s + k), h) := by
  have e1 : 55 + 1504 * (s : Int) + k = ((55 + 1504 * s + k : Nat) : Int) := by omega
  have e2 : am_in (am_z ((55 + 1504 * s + k : Nat) : Int)) 6071 = true := am_z_int (by omega) (by omega) (by decide)
  unfold f_X10_ofS
  simp (disch := omega) only [am_z_lit, am_z_neg, am_z_add, am_z_sub, am_z_mul, e1, e2, cond_true, am_z_cl, Int.toNat_natCast]
theorem qm_setS {h : am_Hp} {s k : Nat} {v : Int32} (hs : s < 4) (hk : k < 1504) : f_X10_setS N (am_z s) (am_z k) v h = some ((), am_pi h 197 (55 + 1504 * s + k) v) := by
  have e1 : 55 + 1504 * (s : Int) + k = ((55 + 1504 * s + k : Nat) : Int) := by omega
  have e2 : am_in (am_z ((55 + 1504 * s + k : Nat) : Int)) 6071 = true := am_z_int (by omega) (by omega) (by decide)
  unfold f_X10_setS
  simp (disch := omega) only [am_z_lit, am_z_neg, am_z_add, am_z_sub, am_z_mul, e1, e2, cond_true, am_z_cl, Int.toNat_natCast]
theorem qm_ofU {h : am_Hp} {u k : Nat} (hu : u < 6) (hk : k < 8) : f_X10_ofU N (am_z u) (am_z k) h = some (h 197 (7 + 8 * u + k), h) := by
  have e1 : 7 + 8 * (u : Int) + k = ((7 + 8 * u + k : Nat) : Int) := by omega
  have e2 : am_in (am_z ((7 + 8 * u + k : Nat) : Int)) 6071 = true := am_z_int (by omega) (by omega) (by decide)
  unfold f_X10_ofU
  simp (disch := omega) only [am_z_lit, am_z_neg, am_z_add, am_z_sub, am_z_mul, e1, e2, cond_true, am_z_cl, Int.toNat_natCast]
theorem qm_setU {h : am_Hp} {u k : Nat} {v : Int32} (hu : u < 6) (hk : k < 8) : f_X10_setU N (am_z u) (am_z k) v h = some ((), am_pi h 197 (7 + 8 * u + k) v) := by
  have e1 : 7 + 8 * (u : Int) + k = ((7 + 8 * u + k : Nat) : Int) := by omega
  have e2 : am_in (am_z ((7 + 8 * u + k : Nat) : Int)) 6071 = true := am_z_int (by omega) (by omega) (by decide)
  unfold f_X10_setU
  simp (disch := omega) only [am_z_lit, am_z_neg, am_z_add, am_z_sub, am_z_mul, e1, e2, cond_true, am_z_cl, Int.toNat_natCast]
/-- number k of event e of session s, in the model's row -/
def qm_e (h : am_Hp) (s e k : Nat) : Int32 := h 197 (59 + 1504 * s + 5 * e + k)
theorem qm_ofE {h : am_Hp} {s e k : Nat} (hs : s < 4) (he : e < 300) (hk : k < 5) : f_X10_ofE N (am_z s) (am_z e) (am_z k) h = some (qm_e h s e k, h) := by
  have e1 : 4 + 5 * (e : Int) + k = ((4 + 5 * e + k : Nat) : Int) := by omega
  have e2 := qm_ofS (N := N) (h := h) (s := s) (k := 4 + 5 * e + k) hs (by omega)
  unfold f_X10_ofE
  simp only [am_z_lit, am_z_neg, am_z_add, am_z_sub, am_z_mul, e1, e2, am_bi_s]
  unfold qm_e
  have e3 : 55 + 1504 * s + (4 + 5 * e + k) = 59 + 1504 * s + 5 * e + k := by omega
  rw [e3]
theorem qm_comes {h : am_Hp} {t : qc_T} {s e : Nat} (hN : 1000 ≤ N) (hR : qm_R h t) (hk : qc_OK t) (hs : s < 4) (he : e < 300) (hv : qc_EV (qm_e h s e)) :
    ∃ h', f_X10_comes N (am_z s) (am_z e) h = some ((), h') ∧ qm_R h' (qc_play (qm_e h s e) t) ∧ qm_fr h h' := by
  have n0 : f_X10_ofE N (am_z s) (am_z e) (am_z 0) h = _ := qm_ofE (k := 0) hs he (by decide)
  have n1 : f_X10_ofE N (am_z s) (am_z e) (am_z 1) h = _ := qm_ofE (k := 1) hs he (by decide)
  have n2 : f_X10_ofE N (am_z s) (am_z e) (am_z 2) h = _ := qm_ofE (k := 2) hs he (by decide)
  unfold f_X10_comes qc_play
  simp only [am_z_lit, n0, n1, n2, am_bi_s]
  rcases hv with ⟨e0, w', h', e1, e2, b⟩ | ⟨e0, v, e1, b⟩
  · obtain ⟨hz, c1, c2, c3⟩ := qm_sizes (N := N) hN hR hk b
    have hne : ¬ (am_z 1 = am_z 0) := by decide
    refine ⟨hz, ?_, ?_, c3⟩
    · simp only [e0, if_neg hne, e1, e2, c1, am_bi_s]
    · rw [if_pos e0, e1, e2, am_z_cl (by omega) (by omega), am_z_cl (by omega) (by omega), Int.toNat_natCast, Int.toNat_natCast]
      exact c2
  · obtain ⟨hz, c1, c2, c3⟩ := qm_types (N := N) hN hR hk b
    have hne : ¬ (am_z 0 = am_z 1) := by decide
    refine ⟨hz, ?_, ?_, c3⟩
    · simp only [e0, if_true, e1, c1, am_bi_s]
    · rw [e0, if_neg hne, e1]
      exact c2
end MSCR3
