/-! ===== what a screen of the class does, against rows of symbols ===== -/
section SCR2
variable {N o p : Nat}
abbrev qc_T : Type := Nat × Nat × Nat × Nat × Nat × (Nat → Nat → Int32)
def qc_upN (up : Nat) : Nat := if up < 40 then up + 1 else up
def qc_upL (up : Nat) (L : Nat → Nat → Int32) : Nat → Nat → Int32 := if up < 40 then L else fun l => L (l + 1)
def qc_ups : Nat → Nat → (Nat → Nat → Int32) → Nat × (Nat → Nat → Int32)
  | 0, up, L => (up, L)
  | k + 1, up, L => qc_ups k (qc_upN up) (qc_upL up L)
def qc_cut (m : Nat) (L : Nat → Nat → Int32) : Nat → Nat → Int32 := fun l c => if m ≤ l then am_z 27 else L l c
def qc_nar (up w : Nat) (L : Nat → Nat → Int32) : Nat → Nat → Int32 := fun l c => if up ≤ l ∧ w ≤ c then am_z 27 else L l c
def qc_put (l0 c0 : Nat) (s : Int32) (L : Nat → Nat → Int32) : Nat → Nat → Int32 := fun l c => if l = l0 ∧ c = c0 then s else L l c
def qc_down : qc_T → qc_T := fun (w, hh, row, _, up, L) => if row + 1 < hh then (w, hh, row + 1, 0, up, L) else (w, hh, row, 0, qc_upN up, qc_upL up L)
def qc_typ (s : Int32) : qc_T → qc_T := fun (w, hh, row, col, up, L) =>
  if s.toInt = 28 then qc_down (w, hh, row, col, up, L)
  else if s.toInt = 29 then (w, hh, row, 0, up, L)
  else if s.toInt = 30 then (w, hh, row, col - 1, up, L)
  else if s.toInt = 31 then (w, hh, 0, 0, up, qc_cut up L)
  else if col + 1 = w then qc_down (w, hh, row, col + 1, up, qc_put (up + row) col s L)
  else (w, hh, row, col + 1, up, qc_put (up + row) col s L)
def qc_szs (w' h' : Nat) : qc_T → qc_T := fun (_, _, row, col, up, L) =>
  (w', h', row - (row + 1 - h'), min col (w' - 1), (qc_ups (row + 1 - h') up (qc_nar up w' L)).1, qc_cut ((qc_ups (row + 1 - h') up (qc_nar up w' L)).1 + h') (qc_ups (row + 1 - h') up (qc_nar up w' L)).2)
def qc_beg (w h : Nat) : qc_T := (w, h, 0, 0, 0, fun _ _ => am_z 27)
def qc_play (e : Nat → Int32) (t : qc_T) : qc_T := if e 0 = am_z 1 then qc_szs (e 1).toNatClampNeg (e 2).toNatClampNeg t else qc_typ (e 1) t
def qc_lay (w h : Nat) (ev : Nat → Nat → Int32) : Nat → qc_T
  | 0 => qc_beg w h
  | q + 1 => qc_play (ev q) (qc_lay w h ev q)
def qc_OK : qc_T → Prop := fun (w, hh, row, col, up, L) => 2 ≤ w ∧ w ≤ 16 ∧ 1 ≤ hh ∧ hh ≤ 6 ∧ row < hh ∧ col < w ∧ up ≤ 40 ∧ (∀ l c, up + hh ≤ l → L l c = am_z 27) ∧ (∀ l c, up ≤ l → w ≤ c → L l c = am_z 27) ∧ ∀ l c, 16 ≤ c → L l c = am_z 27
def qc_R (o p : Nat) (h : am_Hp) : qc_T → Prop := fun (w, hh, row, col, up, L) => ∃ f, qc_D o p h f w hh row col up L
def qc_EV (e : Nat → Int32) : Prop := (e 0 = am_z 1 ∧ ∃ w h : Nat, e 1 = am_z w ∧ e 2 = am_z h ∧ 2 ≤ w ∧ w ≤ 16 ∧ 1 ≤ h ∧ h ≤ 6) ∨ (e 0 = am_z 0 ∧ ∃ v : Nat, e 1 = am_z v ∧ 1 ≤ v ∧ v ≤ 31)
theorem qc_send {h : am_Hp} {f w hh row col up : Nat} {L : Nat → Nat → Int32} (hO : qc_O o p) (hD : qc_D o p h f w (hh + 1) row col up L) (hu : up ≤ 40) (hh5 : hh ≤ 5) :
    ∃ h' f', f_X4_sendUppermostRowUp N o h = some ((), h') ∧ qc_D o p h' f' w hh row col (qc_upN up) (qc_upL up L) ∧ qc_fr o p h h' := by
  obtain ⟨d0, d1, d2, d3, d4, d5, d6, d7⟩ := hD
  obtain ⟨g1, g2, g3, g4, g5⟩ := qc_O1 hO
  have e1 : ((hh + 1 : Nat) : Int) - 1 = (hh : Int) := by omega
  by_cases h40 : up < 40
  · refine ⟨am_pi (am_pi h o 2 (am_z ((up + 1 : Nat) : Int))) o 4 (am_z hh), f, ?_, ?_, ?_⟩
    · unfold f_X4_sendUppermostRowUp
      have e2 : (up : Int) + 1 = ((up + 1 : Nat) : Int) := by omega
      simp (disch := first | omega | decide) only [g1, cond_true, d2, am_z_lit, am_z_neg, am_z_add, am_z_sub, am_z_mul, am_z_le, am_z_lt, am_z_eq, am_z_cl, am_z_int, if_pos, if_neg, e2, am_pi_k, d4, e1]
    · unfold qc_D qc_upN qc_upL
      simp (disch := decide) only [am_pi_s, am_pi_k, if_pos h40, qc_pia (Ne.symm g5)]
      exact ⟨d0, d1, trivial, d3, trivial, d5, d6, fun l c h1 h2 => d7 l c (by omega) h2⟩
    · intro a h1 h2
      rw [qc_pia h1, qc_pia h1]
  · have hu : up = 40 := by omega
    subst hu
    refine ⟨am_pi (am_pi h o 1 (am_z (((f + 1) % 46 : Nat) : Int))) o 4 (am_z hh), (f + 1) % 46, ?_, ?_, ?_⟩
    · unfold f_X4_sendUppermostRowUp
      have e2 : ((f : Int) + 1) % 46 = (((f + 1) % 46 : Nat) : Int) := by omega
      have e3 : f_J9_floorMod_7cf53 N (am_z ((f : Int) + 1)) (am_z 46) h = some (am_z (((f + 1) % 46 : Nat) : Int), h) := by
        rw [am_fm (by omega) (by omega) (by decide) (by decide), e2]
      simp (disch := first | omega | decide) only [g1, cond_true, d2, d1, am_z_lit, am_z_neg, am_z_add, am_z_sub, am_z_mul, am_z_le, am_z_lt, am_z_eq, am_z_cl, am_z_int, if_pos, if_neg, am_pi_k, d4, e1, e3, am_bi_s]
    · unfold qc_D qc_upN qc_upL
      simp (disch := decide) only [am_pi_s, am_pi_k, if_neg h40, qc_pia (Ne.symm g5)]
      refine ⟨by omega, trivial, d2, d3, trivial, d5, d6, fun l c h1 h2 => ?_⟩
      have e4 : ((f + 1) % 46 + l) % 46 = (f + (l + 1)) % 46 := by omega
      rw [e4]
      exact d7 (l + 1) c (by omega) h2
    · intro a h1 h2
      rw [qc_pia h1, qc_pia h1]
theorem qc_goDown {h : am_Hp} {f w hh row col up : Nat} {L : Nat → Nat → Int32} (hN : 100 ≤ N) (hO : qc_O o p) (hD : qc_D o p h f w hh row col up L) (hu : up ≤ 40) (hr : row < hh) (hh6 : hh ≤ 6) (hL : ∀ l c, up + hh ≤ l → L l c = am_z 27) :
    ∃ h', f_X4_goDown N o h = some ((), h') ∧ qc_R o p h' (qc_down (w, hh, row, col, up, L)) ∧ qc_fr o p h h' := by
  obtain ⟨d0, d1, d2, d3, d4, d5, d6, d7⟩ := hD
  obtain ⟨g1, g2, g3, g4, g5⟩ := qc_O1 hO
  have hD1 : qc_D o p (am_pi h o 6 (am_z 0)) f w hh row 0 up L := by
    unfold qc_D
    simp (disch := decide) only [am_pi_s, am_pi_k, qc_pia (Ne.symm g5)]
    exact ⟨d0, d1, d2, d3, d4, d5, rfl, d7⟩
  by_cases hlt : row + 1 < hh
  · refine ⟨am_pi (am_pi h o 6 (am_z 0)) o 5 (am_z ((row + 1 : Nat) : Int)), ?_, ?_, ?_⟩
    · unfold f_X4_goDown
      have e2 : (row : Int) + 1 = ((row + 1 : Nat) : Int) := by omega
      simp (disch := first | omega | decide) only [g1, cond_true, d4, d5, am_z_lit, am_z_neg, am_z_add, am_z_sub, am_z_mul, am_z_le, am_z_lt, am_z_eq, am_z_cl, am_z_int, if_pos, if_neg, am_pi_k, e2]
    · unfold qc_down qc_R
      simp only [if_pos hlt]
      refine ⟨f, ?_⟩
      unfold qc_D
      simp (disch := decide) only [am_pi_s, am_pi_k, qc_pia (Ne.symm g5)]
      exact ⟨d0, d1, d2, d3, d4, trivial, rfl, d7⟩
    · intro a h1 h2
      rw [qc_pia h1, qc_pia h1]
  · obtain ⟨hh', rfl⟩ : ∃ q, hh = q + 1 := ⟨hh - 1, by omega⟩
    obtain ⟨h2, f2, b1, b2, b3⟩ := qc_send (N := N) hO hD1 hu (by omega)
    have hb : qc_upN up ≤ 40 ∧ qc_upN up + hh' < 46 ∧ (∀ c, qc_upL up L (qc_upN up + hh') c = am_z 27) := by
      unfold qc_upN qc_upL
      by_cases h40 : up < 40
      · simp only [if_pos h40]
        exact ⟨by omega, by omega, fun c => hL _ _ (by omega)⟩
      · simp only [if_neg h40]
        exact ⟨by omega, by omega, fun c => hL _ _ (by omega)⟩
    obtain ⟨h3, c1, c2, c3⟩ := qc_addRow hN hO b2 hb.2.1 hb.2.2
    refine ⟨h3, ?_, ?_, ?_⟩
    · unfold f_X4_goDown
      simp (disch := first | omega | decide) only [g1, cond_true, d4, d5, am_z_lit, am_z_neg, am_z_add, am_z_sub, am_z_mul, am_z_le, am_z_lt, am_z_eq, am_z_cl, am_z_int, if_pos, if_neg, am_pi_k, b1, am_bi_s, c1]
    · unfold qc_down qc_R
      simp only [if_neg hlt]
      exact ⟨f2, c2⟩
    · refine qc_frt ?_ (qc_frt b3 c3)
      intro a h1 h2
      rw [qc_pia h1]
end SCR2
