section PLAY
variable {N o p : Nat}
theorem rc_f : ∀ s, s < 4 → am_isO (165 + 7 * s) 3 = true ∧ am_G (165 + 7 * s) 0 = some (166 + 7 * s) ∧ am_isA (166 + 7 * s) = true ∧ am_len (166 + 7 * s) = 5 ∧ ∀ k, k < 5 → am_G (166 + 7 * s) k = some (167 + 7 * s + k) ∧ am_isI (167 + 7 * s + k) = true ∧ am_len (167 + 7 * s + k) = 300 := by decide +kernel
/-- number k of event e of session s's recording -/
def rc_e (h : am_Hp) (s e k : Nat) : Int32 := h (167 + 7 * s + k) e
theorem rc_num {h : am_Hp} {s k e : Nat} (hs : s < 4) (hk : k < 5) (he : e < 300) : f_X3_number N (165 + 7 * s) (am_z k) (am_z e) h = some (rc_e h s e k, h) := by
  obtain ⟨g1, g2, g3, g4, g5⟩ := rc_f s hs
  obtain ⟨g6, g7, g8⟩ := g5 k hk
  have e1 : am_in (am_z k) 5 = true := am_z_int (by omega) (by omega) (by decide)
  have e2 : am_in (am_z e) 300 = true := am_z_int (by omega) (by omega) (by decide)
  unfold f_X3_number rc_e
  simp (disch := omega) only [am_z_lit, am_z_neg, am_z_add, am_z_sub, am_z_mul, am_z_le, am_z_lt, am_z_eq, am_z_cl, am_z_int, if_pos, if_neg, cond_true, cond_false, am_bi_s, am_bt_s, am_bt_n, Option.bind_some, Bool.and_true, Bool.true_and, Bool.and_false, Bool.false_and, g1, g2, g3, g4, g6, g7, g8, e1, e2, Int.toNat_natCast]
theorem rc_fr {h h' : am_Hp} (hO : qc_O o p) (hf : qc_fr o p h h') {s e k : Nat} (hs : s < 4) : rc_e h' s e k = rc_e h s e k := by
  unfold rc_e
  rw [hf]
  · rcases hO with ⟨rfl, rfl⟩ | ⟨rfl, rfl⟩ <;> omega
  · rcases hO with ⟨rfl, rfl⟩ | ⟨rfl, rfl⟩ <;> omega
theorem qc_goDown2 {h : am_Hp} {f w hh row col up : Nat} {L : Nat → Nat → Int32} (hN : 100 ≤ N) (hO : qc_O o p) (hD : qc_D o p h f w hh row col up L) (hu : up ≤ 40) (hr : row < hh) (hh6 : hh ≤ 6) (hL : ∀ l c, up + hh ≤ l → L l c = am_z 27) :
    ∃ h', f_X4_goDown N o h = some ((), h') ∧ qc_R o p h' (qc_down (w, hh, row, col, up, L)) ∧ qc_fr o p h h' ∧ h' o 6 = am_z 0 ∧ h' o 3 = am_z w := by
  obtain ⟨h', a1, a2, a3⟩ := qc_goDown hN hO hD hu hr hh6 hL
  refine ⟨h', a1, a2, a3, ?_⟩
  unfold qc_down at a2
  by_cases hlt : row + 1 < hh
  · simp only [if_pos hlt] at a2
    obtain ⟨f, d0, d1, d2, d3, d4, d5, d6, d7⟩ := a2
    exact ⟨d6, d3⟩
  · simp only [if_neg hlt] at a2
    obtain ⟨f, d0, d1, d2, d3, d4, d5, d6, d7⟩ := a2
    exact ⟨d6, d3⟩
theorem qc_playS {h : am_Hp} {t : qc_T} {s e : Nat} (hN : 100 ≤ N) (hO : qc_O o p) (hR : qc_R o p h t) (hk : qc_OK t) (hs : s < 4) (he : e < 300) (hv : qc_EV (rc_e h s e)) :
    ∃ h', f_X4_play N o (165 + 7 * s) (am_z e) h = some ((), h') ∧ qc_R o p h' (qc_play (rc_e h s e) t) ∧ qc_fr o p h h' := by
  obtain ⟨w, hh, row, col, up, L⟩ := t
  obtain ⟨g1, g2, g3, g4, g5⟩ := qc_O1 hO
  have r1 := (rc_f s hs).1
  obtain ⟨f, hD⟩ := hR
  have hD' := hD
  obtain ⟨d0, d1, d2, d3, d4, d5, d6, d7⟩ := hD'
  have hk' := hk
  obtain ⟨a1, a2, a3, a4, a5, a6, a7, a8, a9, a10⟩ := hk'
  have n0 : f_X3_number N (165 + 7 * s) (am_z 0) (am_z e) h = some (rc_e h s e 0, h) := rc_num hs (by decide) he
  have n1 : f_X3_number N (165 + 7 * s) (am_z 1) (am_z e) h = some (rc_e h s e 1, h) := rc_num hs (by decide) he
  have n2 : f_X3_number N (165 + 7 * s) (am_z 2) (am_z e) h = some (rc_e h s e 2, h) := rc_num hs (by decide) he
  have z0 : (am_z 0 < am_z w) = True := by rw [am_z_lt (by omega) (by omega) (by omega) (by omega)]; exact eq_true (by omega)
  unfold qc_play
  rcases hv with ⟨e0, w', h', e1, e2, b⟩ | ⟨e0, v, e1, b⟩
  · obtain ⟨hz, c1, c2, c3⟩ := qc_resize hN hO hD hk b
    refine ⟨hz, ?_, ?_, c3⟩
    · unfold f_X4_play
      simp only [r1, cond_true, am_z_lit, n1, am_bi_s, n0, n2, e0, if_true, e1, e2, g1, c1]
    · rw [if_pos e0, e1, e2, am_z_cl (by omega) (by omega), am_z_cl (by omega) (by omega), Int.toNat_natCast, Int.toNat_natCast]
      exact c2
  · have hne : ¬ (am_z 0 = am_z 1) := by decide
    rw [e0, if_neg hne, e1]
    have ht : (am_z v).toInt = (v : Int) := am_z_ti (by omega) (by omega)
    unfold qc_typ
    simp only [ht]
    unfold f_X4_play
    simp only [r1, cond_true, am_z_lit, n1, am_bi_s, n0, e0, hne, if_false, e1, g1, ht]
    by_cases q28 : (v : Int) = 28
    · obtain ⟨hz, c1, c2, c3, c4, c5⟩ := qc_goDown2 (N := N) hN hO hD a7 a5 a4 a8
      refine ⟨hz, ?_, ?_, c3⟩
      · simp only [q28, if_true, c1, am_bi_s, c4, c5, z0]
      · simp only [q28, if_true]; exact c2
    simp only [if_neg q28]
    by_cases q29 : (v : Int) = 29
    · refine ⟨am_pi h o 6 (am_z 0), ?_, ?_, fun a z1 z2 => by rw [qc_pia z1]⟩
      · simp (disch := decide) only [q29, if_true, am_pi_s, am_pi_k, d3, z0]
      · simp only [q29, if_true]
        refine ⟨f, ?_⟩
        unfold qc_D
        simp (disch := decide) only [am_pi_s, am_pi_k, qc_pia (Ne.symm g5)]
        exact ⟨d0, d1, d2, d3, d4, d5, rfl, d7⟩
    simp only [if_neg q29]
    by_cases q30 : (v : Int) = 30
    · have e3 : max ((col : Int) - 1) 0 = ((col - 1 : Nat) : Int) := by omega
      refine ⟨am_pi h o 6 (am_z ((col - 1 : Nat) : Int)), ?_, ?_, fun a z1 z2 => by rw [qc_pia z1]⟩
      · have e4 : (if am_z ((col : Int) - 1) < am_z 0 then am_z 0 else am_z ((col : Int) - 1)) = am_z ((col - 1 : Nat) : Int) := by
          simp (disch := omega) only [am_z_lt, am_z_max, e3]
        have z1 : (am_z ((col - 1 : Nat) : Int) < am_z w) = True := by rw [am_z_lt (by omega) (by omega) (by omega) (by omega)]; exact eq_true (by omega)
        simp (disch := decide) only [q30, if_true, am_pi_s, am_pi_k, d6, am_z_sub, e4, d3, z1]
      · simp only [q30, if_true]
        refine ⟨f, ?_⟩
        unfold qc_D
        simp (disch := decide) only [am_pi_s, am_pi_k, qc_pia (Ne.symm g5)]
        exact ⟨d0, d1, d2, d3, d4, d5, trivial, d7⟩
    simp only [if_neg q30]
    by_cases q31 : (v : Int) = 31
    · obtain ⟨hz, c1, c2, c3⟩ := qc_clear (N := N) hN hO hD (by omega) a8
      have c4 : hz o 6 = am_z 0 := c2.2.2.2.2.2.2.1
      have c5 : hz o 3 = am_z w := c2.2.2.2.1
      refine ⟨hz, ?_, ?_, c3⟩
      · simp only [q31, if_true, c1, am_bi_s, c4, c5, z0]
      · simp only [q31, if_true]; exact ⟨f, c2⟩
    simp only [if_neg q31]
    obtain ⟨hz, c1, c2, c3⟩ := qc_putS (N := N) (am_z v) hN hO hD (by omega) a5 (by omega)
    have c4 : hz o 6 = am_z ((col + 1 : Nat) : Int) := c2.2.2.2.2.2.2.1
    have c5 : hz o 3 = am_z w := c2.2.2.2.1
    by_cases qw : col + 1 = w
    · obtain ⟨hy, k1, k2, k3⟩ := qc_goDown (N := N) hN hO c2 a7 a5 a4 (fun l c z => qc_putB (by omega) (a8 l c z))
      refine ⟨hy, ?_, ?_, qc_frt c3 k3⟩
      · have z2 : ¬ (am_z ((col + 1 : Nat) : Int) < am_z w) := by rw [am_z_lt (by omega) (by omega) (by omega) (by omega)]; omega
        simp only [c1, am_bi_s, c4, c5, if_neg z2, k1]
      · rw [if_pos qw]; exact k2
    · refine ⟨hz, ?_, ?_, c3⟩
      · have z2 : am_z ((col + 1 : Nat) : Int) < am_z w := by rw [am_z_lt (by omega) (by omega) (by omega) (by omega)]; omega
        simp only [c1, am_bi_s, c4, c5, if_pos z2]
      · rw [if_neg qw]; exact ⟨f, c2⟩
/-- what is read of a screen -/
theorem qc_symL {h : am_Hp} {t : qc_T} {l c : Int} (hO : qc_O o p) (hR : qc_R o p h t) (hk : qc_OK t) (b : -2147483648 ≤ l ∧ l < 2147483648 ∧ -2147483648 ≤ c ∧ c < 2147483648) :
    f_X4_symbolInLine N o (am_z l) (am_z c) h = some (if l < 0 ∨ c < 0 then am_z 27 else t.2.2.2.2.2 l.toNat c.toNat, h) := by
  obtain ⟨w, hh, row, col, up, L⟩ := t
  obtain ⟨g1, g2, g3, g4, g5⟩ := qc_O1 hO
  obtain ⟨f, d0, d1, d2, d3, d4, d5, d6, d7⟩ := hR
  obtain ⟨a1, a2, a3, a4, a5, a6, a7, a8, a9, a10⟩ := hk
  unfold f_X4_symbolInLine
  simp only [am_z_lit, g1, cond_true, d2, d4, am_z_add]
  simp (disch := omega) only [am_z_lt, am_z_le]
  by_cases h1 : l < 0
  · rw [if_pos h1, if_pos (Or.inl h1)]
  rw [if_neg h1]
  by_cases h2 : (up : Int) + hh ≤ l
  · rw [if_pos h2, a8 _ _ (by omega), ite_self]
  rw [if_neg h2]
  by_cases h3 : c < 0
  · rw [if_pos h3, if_pos (Or.inr h3)]
  rw [if_neg h3, if_neg (show ¬ (l < 0 ∨ c < 0) by omega)]
  by_cases h4 : c < 16
  · rw [if_pos h4]
    obtain ⟨l', rfl⟩ : ∃ q : Nat, l = q := ⟨l.toNat, by omega⟩
    obtain ⟨c', rfl⟩ : ∃ q : Nat, c = q := ⟨c.toNat, by omega⟩
    have e2 : (((f + l') % 46 * 16 : Nat) : Int) + c' = (((f + l') % 46 * 16 + c' : Nat) : Int) := by omega
    have e3 : am_in (am_z (((f + l') % 46 * 16 + c' : Nat) : Int)) 736 = true := am_z_int (by omega) (by omega) (by decide)
    simp only [g2, Option.bind_some, qc_start hO d1 d0 (show l' < 1000 by omega), am_bi_s, am_z_add, e2, g4, e3, cond_true, g3]
    rw [am_z_cl (by omega) (by omega), Int.toNat_natCast, d7 _ _ (by omega) (by omega)]
    rfl
  · rw [if_neg h4, a10 _ _ (by omega)]
theorem qc_symS {h : am_Hp} {t : qc_T} {l c : Int} (hO : qc_O o p) (hR : qc_R o p h t) (hk : qc_OK t) (b : 0 ≤ l ∧ l < 1000 ∧ 0 ≤ c ∧ c < 2147483648) :
    f_X4_symbolOnScreen N o (am_z l) (am_z c) h = some (t.2.2.2.2.2 (t.2.2.2.2.1 + l.toNat) c.toNat, h) := by
  have hR' := hR
  obtain ⟨w, hh, row, col, up, L⟩ := t
  obtain ⟨g1, g2, g3, g4, g5⟩ := qc_O1 hO
  obtain ⟨f, d0, d1, d2, d3, d4, d5, d6, d7⟩ := hR'
  have a7 := hk.2.2.2.2.2.2.1
  unfold f_X4_symbolOnScreen
  simp only [g1, cond_true, d2, am_z_add]
  rw [qc_symL hO hR hk (by omega), am_bi_s, if_neg (by omega)]
  have : ((up : Int) + l).toNat = up + l.toNat := by omega
  simp only [this]
end PLAY
