section SCR4
variable {N o p : Nat}
theorem qc_up40 {up : Nat} (h : up ≤ 40) : qc_upN up ≤ 40 := by unfold qc_upN; split <;> omega
theorem qc_upB {up hh : Nat} {L : Nat → Nat → Int32} (hu : up ≤ 40) (hL : ∀ l c, up + (hh + 1) ≤ l → L l c = am_z 27) : ∀ l c, qc_upN up + hh ≤ l → qc_upL up L l c = am_z 27 := by
  unfold qc_upN qc_upL
  by_cases h40 : up < 40
  · simp only [if_pos h40]
    exact fun l c z => hL _ _ (by omega)
  · simp only [if_neg h40]
    exact fun l c z => hL _ _ (by omega)
theorem qc_upW {up w : Nat} {L : Nat → Nat → Int32} (hu : up ≤ 40) (hL : ∀ l c, up ≤ l → w ≤ c → L l c = am_z 27) : ∀ l c, qc_upN up ≤ l → w ≤ c → qc_upL up L l c = am_z 27 := by
  unfold qc_upN qc_upL
  by_cases h40 : up < 40
  · simp only [if_pos h40]
    exact fun l c z => hL _ _ (by omega)
  · simp only [if_neg h40]
    exact fun l c z => hL _ _ (by omega)
theorem qc_up16 {up : Nat} {L : Nat → Nat → Int32} (hL : ∀ l c, 16 ≤ c → L l c = am_z 27) : ∀ l c, 16 ≤ c → qc_upL up L l c = am_z 27 := by
  unfold qc_upL
  by_cases h40 : up < 40
  · simp only [if_pos h40]; exact hL
  · simp only [if_neg h40]; exact fun l c z => hL _ _ z
theorem qc_down_ok {w hh row col up : Nat} {L : Nat → Nat → Int32} (h1 : 2 ≤ w ∧ w ≤ 16 ∧ 1 ≤ hh ∧ hh ≤ 6 ∧ row < hh ∧ up ≤ 40) (hB : ∀ l c, up + hh ≤ l → L l c = am_z 27) (hW : ∀ l c, up ≤ l → w ≤ c → L l c = am_z 27) (h16 : ∀ l c, 16 ≤ c → L l c = am_z 27) : qc_OK (qc_down (w, hh, row, col, up, L)) := by
  unfold qc_down
  by_cases hlt : row + 1 < hh
  · simp only [if_pos hlt]
    exact ⟨h1.1, h1.2.1, h1.2.2.1, h1.2.2.2.1, hlt, by omega, h1.2.2.2.2.2, hB, hW, h16⟩
  · simp only [if_neg hlt]
    obtain ⟨q, rfl⟩ : ∃ q, hh = q + 1 := ⟨hh - 1, by omega⟩
    have hb := qc_upB h1.2.2.2.2.2 hB
    exact ⟨h1.1, h1.2.1, h1.2.2.1, h1.2.2.2.1, h1.2.2.2.2.1, by omega, qc_up40 h1.2.2.2.2.2, fun l c z => hb l c (by omega), qc_upW h1.2.2.2.2.2 hW, qc_up16 h16⟩
theorem qc_putB {l0 c0 : Nat} {s : Int32} {L : Nat → Nat → Int32} {l c : Nat} (hne : ¬ (l = l0 ∧ c = c0)) (h : L l c = am_z 27) : qc_put l0 c0 s L l c = am_z 27 := by
  unfold qc_put; rw [if_neg hne]; exact h
theorem qc_typ_ok {s : Int32} {t : qc_T} (h : qc_OK t) : qc_OK (qc_typ s t) := by
  obtain ⟨w, hh, row, col, up, L⟩ := t
  obtain ⟨a1, a2, a3, a4, a5, a6, a7, a8, a9, a10⟩ := h
  unfold qc_typ
  simp only
  split
  · exact qc_down_ok ⟨a1, a2, a3, a4, a5, a7⟩ a8 a9 a10
  split
  · exact ⟨a1, a2, a3, a4, a5, by omega, a7, a8, a9, a10⟩
  split
  · exact ⟨a1, a2, a3, a4, a5, by omega, a7, a8, a9, a10⟩
  split
  · refine ⟨a1, a2, a3, a4, by omega, by omega, a7, fun l c z => ?_, fun l c z z2 => ?_, fun l c z => ?_⟩ <;> unfold qc_cut <;> split <;> first | rfl | exact a8 _ _ z | exact a9 _ _ z z2 | exact a10 _ _ z
  split
  · exact qc_down_ok ⟨a1, a2, a3, a4, a5, a7⟩ (fun l c z => qc_putB (by omega) (a8 l c z)) (fun l c z z2 => qc_putB (by omega) (a9 l c z z2)) (fun l c z => qc_putB (by omega) (a10 l c z))
  · exact ⟨a1, a2, a3, a4, a5, by omega, a7, fun l c z => qc_putB (by omega) (a8 l c z), fun l c z z2 => qc_putB (by omega) (a9 l c z z2), fun l c z => qc_putB (by omega) (a10 l c z)⟩
theorem qc_ups_ok {w : Nat} : ∀ (k hh up : Nat) (L : Nat → Nat → Int32), up ≤ 40 → (∀ l c, up + (hh + k) ≤ l → L l c = am_z 27) → (∀ l c, up ≤ l → w ≤ c → L l c = am_z 27) → (∀ l c, 16 ≤ c → L l c = am_z 27) →
    (qc_ups k up L).1 ≤ 40 ∧ (∀ l c, (qc_ups k up L).1 + hh ≤ l → (qc_ups k up L).2 l c = am_z 27) ∧ (∀ l c, (qc_ups k up L).1 ≤ l → w ≤ c → (qc_ups k up L).2 l c = am_z 27) ∧ (∀ l c, 16 ≤ c → (qc_ups k up L).2 l c = am_z 27)
  | 0, hh, up, L, h1, h2, h3, h4 => ⟨h1, h2, h3, h4⟩
  | k + 1, hh, up, L, h1, h2, h3, h4 => qc_ups_ok k hh (qc_upN up) (qc_upL up L) (qc_up40 h1) (fun l c z => qc_upB (hh := hh + k) h1 h2 l c (by omega)) (qc_upW h1 h3) (qc_up16 h4)
theorem qc_szs_ok {w' h' : Nat} {t : qc_T} (h : qc_OK t) (b : 2 ≤ w' ∧ w' ≤ 16 ∧ 1 ≤ h' ∧ h' ≤ 6) : qc_OK (qc_szs w' h' t) := by
  obtain ⟨w, hh, row, col, up, L⟩ := t
  obtain ⟨a1, a2, a3, a4, a5, a6, a7, a8, a9, a10⟩ := h
  have hk := qc_ups_ok (w := w') (row + 1 - h') (hh - (row + 1 - h')) up (qc_nar up w' L) a7 (fun l c z => by
    unfold qc_nar; split
    · rfl
    · exact a8 _ _ (by omega)) (fun l c z z2 => by unfold qc_nar; rw [if_pos ⟨z, z2⟩]) (fun l c z => by
    unfold qc_nar; split
    · rfl
    · exact a10 _ _ z)
  unfold qc_szs
  simp only
  refine ⟨b.1, b.2.1, b.2.2.1, b.2.2.2, by omega, by omega, hk.1, fun l c z => ?_, fun l c z z2 => ?_, fun l c z => ?_⟩ <;> unfold qc_cut
  · rw [if_pos z]
  · split
    · rfl
    · exact hk.2.2.1 _ _ z z2
  · split
    · rfl
    · exact hk.2.2.2 _ _ z
theorem qc_play_ok {e : Nat → Int32} {t : qc_T} (h : qc_OK t) (he : qc_EV e) : qc_OK (qc_play e t) := by
  unfold qc_play
  split
  · rename_i h0
    rcases he with ⟨-, w, h', e1, e2, b⟩ | ⟨e0, -⟩
    · rw [e1, e2, am_z_cl (by omega) (by omega), am_z_cl (by omega) (by omega)]
      exact qc_szs_ok h (by simp only [Int.toNat_natCast]; exact b)
    · rw [e0] at h0
      exact absurd h0 (by decide)
  · exact qc_typ_ok h
theorem qc_beg_ok {w h : Nat} (b : 2 ≤ w ∧ w ≤ 16 ∧ 1 ≤ h ∧ h ≤ 6) : qc_OK (qc_beg w h) := ⟨b.1, b.2.1, b.2.2.1, b.2.2.2, by omega, by omega, by omega, fun _ _ _ => rfl, fun _ _ _ _ => rfl, fun _ _ _ => rfl⟩
theorem qc_lay_ok {w h : Nat} {ev : Nat → Nat → Int32} (b : 2 ≤ w ∧ w ≤ 16 ∧ 1 ≤ h ∧ h ≤ 6) : ∀ n, (∀ e, e < n → qc_EV (ev e)) → qc_OK (qc_lay w h ev n)
  | 0, _ => qc_beg_ok b
  | n + 1, he => qc_play_ok (qc_lay_ok b n (fun e z => he e (by omega))) (he n (by omega))
-- ---- resize
theorem qc_rsL {f w hh row col up w' H : Nat} {L : Nat → Nat → Int32} (hN : 100 ≤ N) (hO : qc_O o p) (hu : up + hh ≤ 46) (hw : w' ≤ 16) : ∀ (n i : Nat) (h : am_Hp), qc_D o p h f w hh row col up (qc_nari up i w' L) → i ≤ hh → hh - i < n →
    ∃ h', l_X4_resize_2 N n o (am_z w') (am_z H) (am_z i) h = l_X4_resize_55 N N o (am_z H) (am_z ((row : Int) - H + 1)) (am_pi (am_pi h' o 3 (am_z w')) o 6 (if am_z ((w' : Int) - 1) < am_z col then am_z ((w' : Int) - 1) else am_z col)) ∧ qc_D o p h' f w hh row col up (qc_nari up hh w' L) ∧ qc_fr o p h h'
  | 0, i, h, hD, h1, h2 => by omega
  | n + 1, i, h, hD, h1, h2 => by
    obtain ⟨g1, g2, g3, g4, g5⟩ := qc_O1 hO
    have hD' := hD
    obtain ⟨d0, d1, d2, d3, d4, d5, d6, d7⟩ := hD'
    by_cases hi : i = hh
    · subst hi
      refine ⟨h, ?_, hD, fun _ _ _ => rfl⟩
      rw [l_X4_resize_2]
      simp (disch := first | omega | decide) only [g1, cond_true, d4, if_pos (Int32.le_refl _), am_pi_k, d6, d5, am_z_lit, am_z_neg, am_z_add, am_z_sub, am_z_mul]
    · have a1 := qc_empty (N := N) (h := h) (f := f) (l := up + i) (k := w') hN hO d1 d0 (by omega) hw
      have a2 := qc_emD (k := w') (l := up + i) hO hD (by omega) (by omega)
      rw [qc_nari_s] at a2
      obtain ⟨h2', b1, b2, b3⟩ := qc_rsL (H := H) hN hO hu hw n (i + 1) _ a2 (by omega) (by omega)
      have e : (i : Int) + 1 = ((i + 1 : Nat) : Int) := by omega
      have e2 : (up : Int) + i = ((up + i : Nat) : Int) := by omega
      refine ⟨h2', ?_, b2, qc_frt (fun a z1 z2 => qc_emo z2) b3⟩
      rw [l_X4_resize_2]
      simp (disch := omega) only [am_z_lit, am_z_neg, am_z_add, am_z_sub, am_z_mul, am_z_le, am_z_lt, am_z_eq, am_z_cl, am_z_int, if_pos, if_neg, g1, cond_true, d4, d2, e2, a1, am_bi_s, e, b1]
theorem qc_sendL {w col H : Nat} (hN : 100 ≤ N) (hO : qc_O o p) (hH : 1 ≤ H) (hH6 : H ≤ 6) : ∀ (n f hh row up : Nat) (L : Nat → Nat → Int32) (h : am_Hp), qc_D o p h f w hh row col up L → row < hh → hh ≤ 6 → up ≤ 40 → (∀ l c, up + hh ≤ l → L l c = am_z 27) → row + 1 - H < n →
    ∃ h' f', l_X4_resize_55 N n o (am_z H) (am_z ((row : Int) - H + 1)) h = some ((), h') ∧ qc_D o p h' f' w H (row - (row + 1 - H)) col (qc_ups (row + 1 - H) up L).1 (qc_cut ((qc_ups (row + 1 - H) up L).1 + H) (qc_ups (row + 1 - H) up L).2) ∧ qc_fr o p h h'
  | 0, f, hh, row, up, L, h, hD, h1, h2, h3, hL, h5 => by omega
  | n + 1, f, hh, row, up, L, h, hD, h1, h2, h3, hL, h5 => by
    obtain ⟨g1, g2, g3, g4, g5⟩ := qc_O1 hO
    have hD' := hD
    obtain ⟨d0, d1, d2, d3, d4, d5, d6, d7⟩ := hD'
    by_cases hd : row + 1 ≤ H
    · have hk : row + 1 - H = 0 := by omega
      rw [hk]
      have e1 : (if am_z H < am_z hh then am_z H else am_z hh) = am_z ((min H hh : Nat) : Int) := by
        simp (disch := omega) only [am_z_lt, am_z_min]
        congr 1; omega
      have hD1 : qc_D o p (am_pi h o 4 (am_z ((min H hh : Nat) : Int))) f w (min H hh) row col up (qc_cut (up + H) L) := by
        unfold qc_D
        simp (disch := decide) only [am_pi_s, am_pi_k, qc_pia (Ne.symm g5)]
        refine ⟨d0, d1, d2, d3, trivial, d5, d6, fun l c z1 z2 => ?_⟩
        rw [d7 l c (by omega) z2]
        unfold qc_cut
        rw [if_neg (by omega)]
      obtain ⟨h2', ⟨b1, -⟩, b2, b3⟩ := qc_rows (h := h) hN hO N (min H hh) H _ hD1 (by omega) (by omega) (by omega) (fun l c z => by
        unfold qc_cut
        split
        · rfl
        · exact hL _ _ (by omega))
      refine ⟨h2', f, ?_, b2, qc_frt (fun a z1 z2 => by rw [qc_pia z1]) b3⟩
      rw [l_X4_resize_55]
      simp (disch := first | omega | decide) only [am_z_lit, am_z_neg, am_z_add, am_z_sub, am_z_mul, am_z_le, am_z_lt, am_z_eq, am_z_cl, am_z_int, if_pos (show (row : Int) - H + 1 ≤ 0 by omega), g1, cond_true, d4]
      have e2 : (if (H : Int) < hh then am_z H else am_z hh) = am_z ((min H hh : Nat) : Int) := by
        rw [am_z_min]; congr 1; omega
      simp only [e2, am_pi_s]
      exact b1
    · obtain ⟨hh', rfl⟩ : ∃ q, hh = q + 1 := ⟨hh - 1, by omega⟩
      obtain ⟨row', rfl⟩ : ∃ q, row = q + 1 := ⟨row - 1, by omega⟩
      obtain ⟨h2', f2, b1, b2, b3⟩ := qc_send (N := N) hO hD h3 (by omega)
      have hD3 : qc_D o p (am_pi h2' o 5 (am_z row')) f2 w hh' row' col (qc_upN up) (qc_upL up L) := by
        obtain ⟨c0, c1, c2, c3, c4, c5, c6, c7⟩ := b2
        unfold qc_D
        simp (disch := decide) only [am_pi_s, am_pi_k, qc_pia (Ne.symm g5)]
        exact ⟨c0, c1, c2, c3, c4, trivial, c6, c7⟩
      obtain ⟨h4, f4, c1, c2, c3⟩ := qc_sendL hN hO hH hH6 n f2 hh' row' (qc_upN up) (qc_upL up L) _ hD3 (by omega) (by omega) (qc_up40 h3) (qc_upB h3 hL) (by omega)
      have hk : row' + 1 + 1 - H = (row' + 1 - H) + 1 := by omega
      rw [hk]
      have hk2 : row' + 1 - (row' + 1 - H + 1) = row' - (row' + 1 - H) := by omega
      rw [hk2]
      have hr5 : h2' o 5 = am_z ((row' + 1 : Nat) : Int) := b2.2.2.2.2.2.1
      have e3 : ((row' + 1 : Nat) : Int) - 1 = (row' : Int) := by omega
      have e4 : ((row' + 1 : Nat) : Int) - H + 1 + -1 = (row' : Int) - H + 1 := by omega
      refine ⟨h4, f4, ?_, c2, qc_frt b3 (qc_frt (fun a z1 z2 => by rw [qc_pia z1]) c3)⟩
      rw [l_X4_resize_55]
      simp (disch := first | omega | decide) only [am_z_lit, am_z_neg, am_z_add, am_z_sub, am_z_mul, am_z_le, am_z_lt, am_z_eq, am_z_cl, am_z_int, if_neg (show ¬ ((row' + 1 : Nat) : Int) - H + 1 ≤ 0 by omega), g1, cond_true, b1, am_bi_s, hr5, e3, e4]
      exact c1
theorem qc_resize {h : am_Hp} {f w hh row col up w' H : Nat} {L : Nat → Nat → Int32} (hN : 100 ≤ N) (hO : qc_O o p) (hD : qc_D o p h f w hh row col up L) (hk : qc_OK (w, hh, row, col, up, L)) (hw : 2 ≤ w' ∧ w' ≤ 16 ∧ 1 ≤ H ∧ H ≤ 6) :
    ∃ h', f_X4_resize N o (am_z w') (am_z H) h = some ((), h') ∧ qc_R o p h' (qc_szs w' H (w, hh, row, col, up, L)) ∧ qc_fr o p h h' := by
  obtain ⟨g1, g2, g3, g4, g5⟩ := qc_O1 hO
  obtain ⟨a1, a2, a3, a4, a5, a6, a7, a8, a9, a10⟩ := hk
  have hD0 : qc_D o p h f w hh row col up (qc_nari up 0 w' L) := qc_Dc hD (fun l c z1 z2 => by
    unfold qc_nari
    rw [if_neg (by omega)])
  obtain ⟨h1, b1, b2, b3⟩ := qc_rsL (H := H) hN hO (by omega) hw.2.1 N 0 h hD0 (by omega) (by omega)
  have e1 : (if am_z ((w' : Int) - 1) < am_z col then am_z ((w' : Int) - 1) else am_z col) = am_z ((min col (w' - 1) : Nat) : Int) := by
    simp (disch := omega) only [am_z_lt, am_z_min]
    congr 1; omega
  rw [e1] at b1
  have hD2 : qc_D o p (am_pi (am_pi h1 o 3 (am_z w')) o 6 (am_z ((min col (w' - 1) : Nat) : Int))) f w' hh row (min col (w' - 1)) up (qc_nar up w' L) := by
    have b2 := qc_Dc (L' := qc_nar up w' L) b2 (fun l c z1 z2 => by
      unfold qc_nari qc_nar
      by_cases hq : up ≤ l ∧ w' ≤ c
      · rw [if_pos (by omega), if_pos hq]
      · rw [if_neg (by omega), if_neg hq])
    obtain ⟨d0, d1, d2, d3, d4, d5, d6, d7⟩ := b2
    unfold qc_D
    simp (disch := decide) only [am_pi_s, am_pi_k, qc_pia (Ne.symm g5)]
    exact ⟨d0, d1, d2, trivial, d4, d5, trivial, d7⟩
  obtain ⟨h2, f2, c1, c2, c3⟩ := qc_sendL hN hO hw.2.2.1 hw.2.2.2 N f hh row up _ _ hD2 a5 a4 a7 (fun l c z => by
    unfold qc_nar
    split
    · rfl
    · exact a8 _ _ z) (by omega)
  refine ⟨h2, ?_, ⟨f2, c2⟩, qc_frt b3 (qc_frt (fun a z1 z2 => by rw [qc_pia z1, qc_pia z1]) c3)⟩
  unfold f_X4_resize
  have b1' : l_X4_resize_2 N N o (am_z w') (am_z H) (am_z 0) h = _ := b1
  rw [am_z_lit, b1', c1]
end SCR4
