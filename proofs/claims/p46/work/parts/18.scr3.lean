section SCR3
variable {N o p : Nat}
theorem qc_Dc {h : am_Hp} {f w hh row col up : Nat} {L L' : Nat → Nat → Int32} (hD : qc_D o p h f w hh row col up L) (e : ∀ l c, l < up + hh → c < 16 → L l c = L' l c) : qc_D o p h f w hh row col up L' := by
  obtain ⟨d0, d1, d2, d3, d4, d5, d6, d7⟩ := hD
  exact ⟨d0, d1, d2, d3, d4, d5, d6, fun l c h1 h2 => (d7 l c h1 h2).trans (e l c h1 h2)⟩
theorem qc_rows {h : am_Hp} {f w row col up : Nat} {L : Nat → Nat → Int32} (hN : 100 ≤ N) (hO : qc_O o p) : ∀ (n i H : Nat) (h : am_Hp), qc_D o p h f w i row col up L → i ≤ H → up + H ≤ 46 → H - i < n → (∀ l c, up + i ≤ l → L l c = am_z 27) →
    ∃ h', (l_X4_resize_96 N n o (am_z H) (am_z i) h = some ((), h') ∧ l_X4_restart_32 N n o (am_z H) (am_z i) h = some ((), h')) ∧ qc_D o p h' f w H row col up L ∧ qc_fr o p h h'
  | 0, i, H, h, hD, h1, h2, h3, hL => by omega
  | n + 1, i, H, h, hD, h1, h2, h3, hL => by
    obtain ⟨g1, g2, g3, g4, g5⟩ := qc_O1 hO
    by_cases hi : i = H
    · subst hi
      refine ⟨h, ⟨?_, ?_⟩, hD, fun _ _ _ => rfl⟩
      · unfold l_X4_resize_96; rw [if_pos (Int32.le_refl _)]
      · unfold l_X4_restart_32; rw [if_pos (Int32.le_refl _)]
    · obtain ⟨h1', a1, a2, a3⟩ := qc_addRow (N := N) hN hO hD (by omega) (fun c => hL _ c (by omega))
      obtain ⟨h2', ⟨b1, b1'⟩, b2, b3⟩ := qc_rows (h := h) hN hO n (i + 1) H h1' a2 (by omega) (by omega) (by omega) (fun l c hl => hL l c (by omega))
      have e : (i : Int) + 1 = ((i + 1 : Nat) : Int) := by omega
      refine ⟨h2', ⟨?_, ?_⟩, b2, qc_frt a3 b3⟩
      · unfold l_X4_resize_96
        simp (disch := omega) only [am_z_lit, am_z_neg, am_z_add, am_z_sub, am_z_mul, am_z_le, am_z_lt, am_z_eq, am_z_cl, am_z_int, if_pos, if_neg, g1, cond_true, a1, am_bi_s, e, b1]
      · unfold l_X4_restart_32
        simp (disch := omega) only [am_z_lit, am_z_neg, am_z_add, am_z_sub, am_z_mul, am_z_le, am_z_lt, am_z_eq, am_z_cl, am_z_int, if_pos, if_neg, g1, cond_true, a1, am_bi_s, e, b1']
theorem qc_restart {h : am_Hp} {w H : Nat} (hN : 100 ≤ N) (hO : qc_O o p) (hH : H ≤ 6) :
    ∃ h', f_X4_restart N o (am_z w) (am_z H) h = some ((), h') ∧ qc_R o p h' (qc_beg w H) ∧ qc_fr o p h h' := by
  obtain ⟨g1, g2, g3, g4, g5⟩ := qc_O1 hO
  generalize hh1 : am_pi (am_pi (am_pi (am_pi (am_pi (am_pi h o 1 (am_z 0)) o 2 (am_z 0)) o 3 (am_z w)) o 4 (am_z 0)) o 5 (am_z 0)) o 6 (am_z 0) = h1
  have hD : qc_D o p h1 0 w 0 0 0 0 (fun _ _ => am_z 27) := by
    subst hh1
    unfold qc_D
    simp (disch := decide) only [am_pi_s, am_pi_k, qc_pia (Ne.symm g5)]
    exact ⟨by decide, rfl, rfl, trivial, rfl, rfl, rfl, fun l c z _ => absurd z (by omega)⟩
  obtain ⟨h2, ⟨-, b1⟩, b2, b3⟩ := qc_rows (h := h) hN hO N 0 H h1 hD (by omega) (by omega) (by omega) (fun _ _ _ => rfl)
  refine ⟨h2, ?_, ⟨0, b2⟩, qc_frt ?_ b3⟩
  · unfold f_X4_restart
    have b1' : l_X4_restart_32 N N o (am_z H) (am_z 0) h1 = some ((), h2) := b1
    simp only [g1, cond_true, am_z_lit, hh1, b1']
  · intro a z1 z2
    subst hh1
    simp only [qc_pia z1]
/-- rows up .. up+i-1 emptied from column k on -/
def qc_nari (up i k : Nat) (L : Nat → Nat → Int32) : Nat → Nat → Int32 := fun l c => if up ≤ l ∧ l < up + i ∧ k ≤ c then am_z 27 else L l c
theorem qc_nari_s {up i k : Nat} {L : Nat → Nat → Int32} : (fun l' c => if l' = up + i ∧ k ≤ c then am_z 27 else qc_nari up i k L l' c) = qc_nari up (i + 1) k L := by
  funext l c
  unfold qc_nari
  by_cases h1 : l = up + i ∧ k ≤ c
  · rw [if_pos h1, if_pos (by omega)]
  · rw [if_neg h1]
    by_cases h2 : up ≤ l ∧ l < up + i ∧ k ≤ c
    · rw [if_pos h2, if_pos (by omega)]
    · rw [if_neg h2, if_neg (by omega)]
theorem qc_clearL {f w hh row col up : Nat} {L : Nat → Nat → Int32} (hN : 100 ≤ N) (hO : qc_O o p) (hu : up + hh ≤ 46) : ∀ (n i : Nat) (h : am_Hp), qc_D o p h f w hh row col up (qc_nari up i 0 L) → i ≤ hh → hh - i < n →
    ∃ h', l_X4_clear_12 N n o (am_z i) h = some ((), h') ∧ qc_D o p h' f w hh row col up (qc_nari up hh 0 L) ∧ qc_fr o p h h'
  | 0, i, h, hD, h1, h2 => by omega
  | n + 1, i, h, hD, h1, h2 => by
    obtain ⟨g1, g2, g3, g4, g5⟩ := qc_O1 hO
    have hD' := hD
    obtain ⟨d0, d1, d2, d3, d4, d5, d6, d7⟩ := hD'
    by_cases hi : i = hh
    · subst hi
      refine ⟨h, ?_, hD, fun _ _ _ => rfl⟩
      unfold l_X4_clear_12
      simp only [g1, cond_true, d4]
      rw [if_pos (Int32.le_refl _)]
    · have a1 := qc_empty (N := N) (h := h) (f := f) (l := up + i) (k := 0) hN hO d1 d0 (by omega) (by omega)
      have a2 := qc_emD (k := 0) (l := up + i) hO hD (by omega) (by omega)
      rw [qc_nari_s] at a2
      obtain ⟨h2', b1, b2, b3⟩ := qc_clearL hN hO hu n (i + 1) _ a2 (by omega) (by omega)
      have e : (i : Int) + 1 = ((i + 1 : Nat) : Int) := by omega
      have e2 : (up : Int) + i = ((up + i : Nat) : Int) := by omega
      have a1' : f_X4_emptyFrom N o (am_z ((up + i : Nat) : Int)) (am_z 0) h = _ := a1
      refine ⟨h2', ?_, b2, qc_frt (fun a z1 z2 => qc_emo z2) b3⟩
      unfold l_X4_clear_12
      simp (disch := omega) only [am_z_lit, am_z_neg, am_z_add, am_z_sub, am_z_mul, am_z_le, am_z_lt, am_z_eq, am_z_cl, am_z_int, if_pos, if_neg, g1, cond_true, d4, d2, e2, a1', am_bi_s, e, b1]
theorem qc_clear {h : am_Hp} {f w hh row col up : Nat} {L : Nat → Nat → Int32} (hN : 100 ≤ N) (hO : qc_O o p) (hD : qc_D o p h f w hh row col up L) (hu : up + hh ≤ 46) (hL : ∀ l c, up + hh ≤ l → L l c = am_z 27) :
    ∃ h', f_X4_clear N o h = some ((), h') ∧ qc_D o p h' f w hh 0 0 up (qc_cut up L) ∧ qc_fr o p h h' := by
  obtain ⟨g1, g2, g3, g4, g5⟩ := qc_O1 hO
  obtain ⟨d0, d1, d2, d3, d4, d5, d6, d7⟩ := hD
  generalize hh1 : am_pi (am_pi h o 5 (am_z 0)) o 6 (am_z 0) = h1
  have hD1 : qc_D o p h1 f w hh 0 0 up (qc_nari up 0 0 L) := by
    subst hh1
    unfold qc_D
    simp (disch := decide) only [am_pi_s, am_pi_k, qc_pia (Ne.symm g5)]
    refine ⟨d0, d1, d2, d3, d4, rfl, rfl, fun l c z1 z2 => ?_⟩
    rw [d7 l c z1 z2]
    unfold qc_nari
    rw [if_neg (by omega)]
  obtain ⟨h2, b1, b2, b3⟩ := qc_clearL hN hO hu N 0 h1 hD1 (by omega) (by omega)
  refine ⟨h2, ?_, qc_Dc b2 (fun l c z1 z2 => ?_), qc_frt ?_ b3⟩
  · unfold f_X4_clear
    have b1' : l_X4_clear_12 N N o (am_z 0) h1 = some ((), h2) := b1
    simp only [g1, cond_true, am_z_lit, hh1, b1']
  · unfold qc_nari qc_cut
    by_cases hq : up ≤ l
    · rw [if_pos (by omega), if_pos hq]
    · rw [if_neg (by omega), if_neg hq]
  · intro a z1 z2
    subst hh1
    simp only [qc_pia z1]
theorem qc_putS {h : am_Hp} {f w hh row col up : Nat} {L : Nat → Nat → Int32} (s : Int32) (hN : 100 ≤ N) (hO : qc_O o p) (hD : qc_D o p h f w hh row col up L) (hu : up + hh ≤ 46) (hr : row < hh) (hc : col < 16) :
    ∃ h', f_X4_put N o s h = some ((), h') ∧ qc_D o p h' f w hh row (col + 1) up (qc_put (up + row) col s L) ∧ qc_fr o p h h' := by
  obtain ⟨g1, g2, g3, g4, g5⟩ := qc_O1 hO
  obtain ⟨d0, d1, d2, d3, d4, d5, d6, d7⟩ := hD
  have e1 : (up : Int) + row = ((up + row : Nat) : Int) := by omega
  have e2 : (((f + (up + row)) % 46 * 16 : Nat) : Int) + col = (((f + (up + row)) % 46 * 16 + col : Nat) : Int) := by omega
  have e3 : am_in (am_z (((f + (up + row)) % 46 * 16 + col : Nat) : Int)) 736 = true := am_z_int (by omega) (by omega) (by decide)
  have e4 : (((f + (up + row)) % 46 * 16 + col : Nat) : Int).toNat = (f + (up + row)) % 46 * 16 + col := by omega
  have e5 : (col : Int) + 1 = ((col + 1 : Nat) : Int) := by omega
  refine ⟨am_pi (am_pi h p ((f + (up + row)) % 46 * 16 + col) s) o 6 (am_z ((col + 1 : Nat) : Int)), ?_, ?_, ?_⟩
  · unfold f_X4_put f_X4_cursorLine
    simp (disch := omega) only [am_z_lit, am_z_neg, am_z_add, am_z_sub, am_z_mul, am_z_le, am_z_lt, am_z_eq, am_z_cl, am_z_int, if_pos, if_neg, cond_true, cond_false, am_bi_s, am_bt_s, am_bt_n, Option.bind_some, Bool.and_true, Bool.true_and, Bool.and_false, Bool.false_and, g1, g2, g3, g4, d6, d2, d5, e1, qc_start hO d1 d0 (show up + row < 1000 by omega), e2, e3, e4, qc_pia g5, e5]
  · unfold qc_D
    simp (disch := decide) only [am_pi_s, am_pi_k, qc_pia g5, qc_pia (Ne.symm g5)]
    refine ⟨d0, d1, d2, d3, d4, d5, trivial, fun l c z1 z2 => ?_⟩
    rw [am_pi_ap]
    unfold qc_put
    by_cases hq : l = up + row ∧ c = col
    · obtain ⟨rfl, rfl⟩ := hq
      rw [if_pos ⟨rfl, rfl⟩, if_pos ⟨rfl, rfl⟩]
    · rw [if_neg hq, if_neg (by omega)]
      exact d7 l c z1 z2
  · intro a z1 z2
    rw [qc_pia z1, qc_pia z2]
end SCR3
