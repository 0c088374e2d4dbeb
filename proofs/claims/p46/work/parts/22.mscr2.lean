section MSCR2
variable {N : Nat}
def qm_K (h : am_Hp) (w up : Nat) (L : Nat → Nat → Int32) : Prop :=
  h 193 9 = am_z w ∧ h 193 14 = am_z up ∧ (∀ y c, y < 6 → c < 16 → h 200 (16 * y + c) = L (up + y) c) ∧
  ∀ l, l < up → ∃ q : Nat, q ≤ 16 ∧ h 202 l = am_z q ∧ (∀ c, c < q → h 201 (16 * l + c) = L l c) ∧ ∀ c, q ≤ c → L l c = am_z 27
def qm_R (h : am_Hp) : qc_T → Prop := fun (w, hh, row, col, up, L) => h 193 10 = am_z hh ∧ h 193 11 = am_z row ∧ h 193 12 = am_z col ∧ qm_K h w up L
def qm_fr (h h' : am_Hp) : Prop := (∀ a, a ≠ 193 → a ≠ 200 → a ≠ 201 → a ≠ 202 → h' a = h a) ∧ ∀ k, k ≠ 9 → k ≠ 10 → k ≠ 11 → k ≠ 12 → k ≠ 14 → h' 193 k = h 193 k
theorem qm_fr0 {h : am_Hp} : qm_fr h h := ⟨fun _ _ _ _ _ => rfl, fun _ _ _ _ _ _ => rfl⟩
theorem qm_frt {h h1 h2 : am_Hp} (a : qm_fr h h1) (b : qm_fr h1 h2) : qm_fr h h2 :=
  ⟨fun x y z u v => (b.1 x y z u v).trans (a.1 x y z u v), fun x y z u v w => (b.2 x y z u v w).trans (a.2 x y z u v w)⟩
theorem qm_frp {h : am_Hp} {k : Nat} {v : Int32} (hk : k = 9 ∨ k = 10 ∨ k = 11 ∨ k = 12 ∨ k = 14) : qm_fr h (am_pi h 193 k v) :=
  ⟨fun a y _ _ _ => qc_pia y, fun x y z u v w => am_pi_k (by omega)⟩
theorem qm_frm {A i m : Nat} {g : Nat → Int32} {h : am_Hp} (hA : A = 200 ∨ A = 201 ∨ A = 202) : qm_fr h (qm_map A i m g h) :=
  ⟨fun a y z u v => qm_map_a (by omega), fun x y z u v w => by rw [qm_map_a (by omega)]⟩
theorem qm_frq {A k : Nat} {v : Int32} {h : am_Hp} (hA : A = 200 ∨ A = 201 ∨ A = 202) : qm_fr h (am_pi h A k v) :=
  ⟨fun a y z u v => qc_pia (by omega), fun x y z u v w => by rw [qc_pia (by omega)]⟩
theorem qm_up80 {h : am_Hp} {w up : Nat} {L : Nat → Nat → Int32} (hN : 1000 ≤ N) (hK : qm_K h w up L) (hw : w ≤ 16) (hu : up < 40) (hW : ∀ c, w ≤ c → L up c = am_z 27) (hB : ∀ l c, up + 6 ≤ l → L l c = am_z 27) :
    ∃ h', l_X10_goesUp_80 N N (am_z 0) h = some ((), h') ∧ qm_K h' w (up + 1) L ∧ qm_fr h h' ∧ ∀ k, k ≠ 14 → h' 193 k = h 193 k := by
  obtain ⟨k1, k2, k3, k4⟩ := hK
  have s1 := qm_mv (N := N) (h0 := h) hw hu N 0 h (by omega) (by omega) k2 k1 rfl
  generalize hh1 : am_pi (am_pi (qm_map 201 (16 * up + 0) (16 * up + 16) (fun j => qm_top w h (j - 16 * up)) h) 202 up (am_z w)) 193 14 (am_z ((up + 1 : Nat) : Int)) = h1 at s1
  have e200 : h1 200 = h 200 := by
    subst hh1
    rw [qc_pia (by decide), qc_pia (by decide), qm_map_a (by decide)]
  have s2 := qm_shift (N := N) (h0 := h) N 0 h1 (by omega) (by omega) (fun j _ => by rw [e200])
  have s1' : l_X10_goesUp_80 N N (am_z 0) h = _ := s1
  refine ⟨_, s1'.trans s2, ⟨?_, ?_, fun y c hy hc => ?_, fun l hl => ?_⟩, ?_, fun k hk => ?_⟩
  · rw [qm_map_a (by decide)]
    subst hh1
    rw [am_pi_k (by decide), am_pi_a (by decide), qm_map_a (by decide)]; exact k1
  · rw [qm_map_a (by decide)]
    subst hh1
    rw [am_pi_s]
  · rw [qm_map_p (by omega)]
    by_cases hy5 : y < 5
    · rw [if_pos (by omega)]
      have e : 16 * y + c + 16 = 16 * (y + 1) + c := by omega
      have e2 : up + 1 + y = up + (y + 1) := by omega
      rw [e, k3 _ _ (by omega) hc, e2]
    · rw [if_neg (by omega), hB _ _ (by omega)]
  · rw [qm_map_a (by decide), qm_map_a (by decide)]
    subst hh1
    by_cases hlu : l = up
    · subst hlu
      refine ⟨w, hw, ?_, fun c hc => ?_, hW⟩
      · rw [am_pi_a (by decide), am_pi_s]
      · rw [am_pi_a (by decide), am_pi_a (by decide), qm_map_p (by omega)]
        have e : 16 * l + c - 16 * l = c := by omega
        rw [e]
        unfold qm_top
        rw [if_pos hc]
        have := k3 0 c (by omega) (by omega)
        simpa using this
    · obtain ⟨q, q1, q2, q3, q4⟩ := k4 l (by omega)
      refine ⟨q, q1, ?_, fun c hc => ?_, q4⟩
      · rw [am_pi_a (by decide), am_pi_k hlu, qm_map_a (by decide)]; exact q2
      · rw [am_pi_a (by decide), am_pi_a (by decide), qm_map_n (by omega)]; exact q3 c hc
  · refine qm_frt ?_ (qm_frm (Or.inl rfl))
    subst hh1
    exact qm_frt (qm_frt (qm_frm (Or.inr (Or.inl rfl))) (qm_frq (Or.inr (Or.inr rfl)))) (qm_frp (by omega))
  · rw [qm_map_a (by decide)]
    subst hh1
    rw [am_pi_k hk, am_pi_a (by decide), qm_map_a (by decide)]
theorem qm_goesUp {h : am_Hp} {w up : Nat} {L : Nat → Nat → Int32} (hN : 1000 ≤ N) (hK : qm_K h w up L) (hw : w ≤ 16) (hu : up ≤ 40) (hW : ∀ c, w ≤ c → L up c = am_z 27) (hB : ∀ l c, up + 6 ≤ l → L l c = am_z 27) :
    ∃ h', f_X10_goesUp N h = some ((), h') ∧ qm_K h' w (qc_upN up) (qc_upL up L) ∧ qm_fr h h' ∧ ∀ k, k ≠ 14 → h' 193 k = h 193 k := by
  unfold f_X10_goesUp qc_upN qc_upL
  by_cases h40 : up < 40
  · obtain ⟨h', a1, a2, a3, a4⟩ := qm_up80 (N := N) hN hK hw h40 hW hB
    rw [if_pos h40, if_pos h40]
    refine ⟨h', ?_, a2, a3, a4⟩
    rw [if_neg, am_z_lit, a1]
    rw [hK.2.1, am_z_lit, am_z_eq (by omega) (by omega) (by decide) (by decide)]
    have : (OfNat.ofNat 40 : Int) = 40 := rfl
    omega
  · have hu' : up = 40 := by omega
    subst hu'
    obtain ⟨k1, k2, k3, k4⟩ := hK
    rw [if_neg h40, if_neg h40]
    have s1 := qm_dl1 (N := N) (h0 := h) N 16 h (by omega) (by omega) (by omega) (fun _ _ => rfl)
    generalize hha : qm_map 201 (16 - 16) 624 (fun j => h 201 (j + 16)) h = ha at s1
    have kz : ha 193 14 = am_z 40 := by subst hha; rw [qm_map_a (by decide)]; exact k2
    have s2 := qm_dl2 (N := N) (h0 := ha) kz N 1 ha (by omega) (by omega) (by omega) (fun _ _ => rfl) kz
    generalize hhb : am_pi (qm_map 202 (1 - 1) 39 (fun j => ha 202 (j + 1)) ha) 193 14 (am_z 39) = hb at s2
    have e201 : ∀ j, j < 624 → hb 201 j = h 201 (j + 16) := by
      intro j hj
      subst hhb hha
      rw [am_pi_a (by decide), qm_map_a (by decide), qm_map_p (by omega)]
    have e202 : ∀ j, j < 39 → hb 202 j = h 202 (j + 1) := by
      intro j hj
      subst hhb hha
      rw [am_pi_a (by decide), qm_map_p (by omega), qm_map_a (by decide)]
    have e200 : hb 200 = h 200 := by
      subst hhb hha
      rw [qc_pia (by decide), qm_map_a (by decide), qm_map_a (by decide)]
    have e193 : ∀ k, k ≠ 14 → hb 193 k = h 193 k := by
      intro k hk
      subst hhb hha
      rw [am_pi_k hk, qm_map_a (by decide), qm_map_a (by decide)]
    have e14 : hb 193 14 = am_z ((39 : Nat) : Int) := by subst hhb; rw [am_pi_s]; rfl
    have hfr : qm_fr h hb := by
      subst hhb hha
      exact qm_frt (qm_frt (qm_frm (Or.inr (Or.inl rfl))) (qm_frm (Or.inr (Or.inr rfl)))) (qm_frp (by omega))
    have hKb : qm_K hb w 39 (fun l => L (l + 1)) := by
      refine ⟨by rw [e193 _ (by decide)]; exact k1, e14, fun y c hy hc => ?_, fun l hl => ?_⟩
      · rw [e200, k3 y c hy hc]
        show _ = L (39 + y + 1) c
        congr 1; omega
      · obtain ⟨q, q1, q2, q3, q4⟩ := k4 (l + 1) (by omega)
        refine ⟨q, q1, by rw [e202 _ hl]; exact q2, fun c hc => ?_, q4⟩
        rw [e201 _ (by omega)]
        have := q3 c hc
        have e : 16 * l + c + 16 = 16 * (l + 1) + c := by omega
        rw [e]; exact this
    obtain ⟨h', a1, a2, a3, a4⟩ := qm_up80 (N := N) hN hKb hw (by omega) (fun c hc => hW c hc) (fun l c hl => hB _ _ (by omega))
    refine ⟨h', ?_, a2, qm_frt hfr a3, fun k hk => (a4 k hk).trans (e193 k hk)⟩
    have e0 : h 193 14 = (40 : Int32) := by rw [k2]; rfl
    rw [if_pos e0, am_z_lit]
    have s1' : l_X10_goesUp_12 N N (am_z 16) h = _ := s1
    have s2' : l_X10_goesUp_42 N N (am_z 1) ha = _ := s2
    rw [s1', s2', a1]
theorem qm_goesDown {h : am_Hp} {w hh row col up : Nat} {L : Nat → Nat → Int32} (hN : 1000 ≤ N) (hR : qm_R h (w, hh, row, col, up, L)) (hk : w ≤ 16 ∧ row < hh ∧ hh ≤ 6 ∧ up ≤ 40) (hW : ∀ l c, up ≤ l → w ≤ c → L l c = am_z 27) (hB : ∀ l c, up + hh ≤ l → L l c = am_z 27) :
    ∃ h', f_X10_goesDown N h = some ((), h') ∧ qm_R h' (qc_down (w, hh, row, col, up, L)) ∧ qm_fr h h' := by
  obtain ⟨r1, r2, r3, k1, k2, k3, k4⟩ := hR
  have hK1 : qm_K (am_pi h 193 12 (am_z 0)) w up L := by
    unfold qm_K
    simp (disch := decide) only [am_pi_k, am_pi_a]
    exact ⟨k1, k2, k3, k4⟩
  have e1 : (row : Int) + 1 = ((row + 1 : Nat) : Int) := by omega
  unfold f_X10_goesDown qc_down
  simp (disch := first | omega | decide) only [am_z_lit, am_z_neg, am_z_add, am_z_sub, am_z_mul, am_z_le, am_z_lt, am_z_eq, am_z_cl, am_z_int, am_pi_k, r1, r2, e1]
  by_cases hlt : row + 1 < hh
  · refine ⟨am_pi (am_pi h 193 12 (am_z 0)) 193 11 (am_z ((row + 1 : Nat) : Int)), ?_, ?_, qm_frt (qm_frp (by omega)) (qm_frp (by omega))⟩
    · rw [if_neg (by omega)]
    · rw [if_pos hlt]
      unfold qm_R qm_K
      simp (disch := decide) only [am_pi_k, am_pi_a, am_pi_s]
      exact ⟨r1, trivial, rfl, k1, k2, k3, k4⟩
  · obtain ⟨h', a1, a2, a3, a4⟩ := qm_goesUp (N := N) hN hK1 hk.1 hk.2.2.2 (fun c hc => hW _ c (by omega) hc) (fun l c hl => hB l c (by omega))
    refine ⟨h', ?_, ?_, qm_frt (qm_frp (by omega)) a3⟩
    · rw [if_pos (by omega), a1, am_bi_s]
    · rw [if_neg hlt]
      refine ⟨?_, ?_, ?_, a2⟩
      · rw [a4 _ (by decide), am_pi_k (by decide)]; exact r1
      · rw [a4 _ (by decide), am_pi_k (by decide)]; exact r2
      · rw [a4 _ (by decide), am_pi_s]; rfl
end MSCR2
