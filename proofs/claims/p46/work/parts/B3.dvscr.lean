section DV4
variable {N : Nat}
/-- a screen of the law at `a`: rows at `R`, lines at `Ln`, line `l` is the array `A l` -/
def dW (lo : Nat) (S : dm_S) (a R Ln : Nat) (A : Nat → Nat) (hh up : Nat) (L : Nat → Nat → Int32) : Prop :=
  (dm_ok S 1 a = true ∧ dm_ok S 3 R = true ∧ dm_ok S 3 Ln = true ∧ R ≠ Ln ∧ lo ≤ a ∧ lo ≤ R ∧ lo ≤ Ln) ∧
  (dm_len S R = hh ∧ dm_len S Ln = 40 ∧ dm_g S a 0 = am_z (R : Int) ∧ dm_g S a 4 = am_z (Ln : Int) ∧ dm_g S a 5 = am_z (up : Int)) ∧
  (∀ i, i < hh → dm_g S R i = am_z (A (up + i) : Int)) ∧ (∀ k, k < up → dm_g S Ln k = am_z (A k : Int)) ∧
  (∀ l, l < up + hh → lo ≤ A l ∧ dm_ok S 2 (A l) = true ∧ dm_len S (A l) ≤ 16 ∧ (∀ c, c < dm_len S (A l) → dm_g S (A l) c = L l c) ∧ ∀ c, dm_len S (A l) ≤ c → L l c = am_z 27) ∧
  ∀ l m, l < up + hh → m < up + hh → A l = A m → l = m
/-- the rows have the width -/
def dWw (S : dm_S) (a : Nat) (A : Nat → Nat) (w hh up : Nat) : Prop := dm_g S a 3 = am_z (w : Int) ∧ ∀ l, up ≤ l → l < up + hh → dm_len S (A l) = w
/-- what a step leaves as it was -/
def dvF (lo x y : Nat) (S S' : dm_S) : Prop := dm_h S' = dm_h S ∧ dm_n S ≤ dm_n S' ∧ dm_n S' ≤ dm_n S + x ∧ dm_zz S' ≤ dm_zz S + y ∧ ∀ b, b < lo → dm_k S' b = dm_k S b ∧ dm_g S' b = dm_g S b
theorem dvF_t {lo x y x' y' : Nat} {S S1 S2 : dm_S} (h1 : dvF lo x y S S1) (h2 : dvF lo x' y' S1 S2) : dvF lo (x + x') (y + y') S S2 := by
  obtain ⟨a1, a2, a3, a4, a5⟩ := h1
  obtain ⟨b1, b2, b3, b4, b5⟩ := h2
  exact ⟨b1.trans a1, by omega, by omega, by omega, fun b hb => ⟨(b5 b hb).1.trans (a5 b hb).1, (b5 b hb).2.trans (a5 b hb).2⟩⟩
theorem dvF_m {lo x y x' y' : Nat} {S S1 : dm_S} (h1 : dvF lo x y S S1) (hx : x ≤ x') (hy : y ≤ y') : dvF lo x' y' S S1 := by
  obtain ⟨a1, a2, a3, a4, a5⟩ := h1
  exact ⟨a1, a2, by omega, by omega, a5⟩
theorem dvF_wr {lo a j : Nat} {v : Int32} {S : dm_S} (h : lo ≤ a) : dvF lo 0 0 S (dm_wr S a j v) :=
  ⟨rfl, Nat.le_refl _, Nat.le_refl _, Nat.le_refl _, fun b hb => ⟨rfl, dv_g_w3 (by omega)⟩⟩
theorem dvF_ok {S S' : dm_S} {kd b : Nat} (hn : dm_n S ≤ dm_n S') (hk : dm_k S' b = dm_k S b) (h : dm_ok S kd b = true) : dm_ok S' kd b = true := by
  obtain ⟨k1, k2, k3⟩ := dm_ok_s h
  exact dv_okm (by rw [hk]; exact k1) k2 (by omega)
theorem dvF_len {S S' : dm_S} {b : Nat} (hk : dm_k S' b = dm_k S b) : dm_len S' b = dm_len S b := by unfold dm_len; rw [hk]
theorem dW_ne {lo : Nat} {S : dm_S} {a R Ln : Nat} {A : Nat → Nat} {hh up : Nat} {L : Nat → Nat → Int32} (h : dW lo S a R Ln A hh up L) : a ≠ R ∧ a ≠ Ln ∧ ∀ l, l < up + hh → A l ≠ a ∧ A l ≠ R ∧ A l ≠ Ln ∧ A l < dm_n S := by
  obtain ⟨⟨o1, o3, o4, hne, -, -, -⟩, -, -, -, hA, -⟩ := h
  have h1 := (dm_ok_s o1).1
  have h3 := (dm_ok_s o3).1
  have h4 := (dm_ok_s o4).1
  refine ⟨fun z => by rw [z] at h1; omega, fun z => by rw [z] at h1; omega, fun l hl => ?_⟩
  obtain ⟨-, p2, -⟩ := hA l hl
  obtain ⟨q1, q2, q3⟩ := dm_ok_s p2
  exact ⟨fun z => by rw [z] at q1; omega, fun z => by rw [z] at q1; omega, fun z => by rw [z] at q1; omega, q3⟩
theorem dW_f {lo : Nat} {S : dm_S} {a R Ln : Nat} {A : Nat → Nat} {hh up j : Nat} {v : Int32} {L : Nat → Nat → Int32} (h : dW lo S a R Ln A hh up L) (h0 : j ≠ 0) (h4 : j ≠ 4) (h5 : j ≠ 5) : dW lo (dm_wr S a j v) a R Ln A hh up L := by
  obtain ⟨n1, n2, n3⟩ := dW_ne h
  obtain ⟨f1, ⟨l3, l4, g0, g4, g5⟩, hr, hq, hA, hi⟩ := h
  refine ⟨f1, ⟨l3, l4, by rw [dv_g_w2 (Ne.symm h0)]; exact g0, by rw [dv_g_w2 (Ne.symm h4)]; exact g4, by rw [dv_g_w2 (Ne.symm h5)]; exact g5⟩, fun i hi => by rw [dv_g_w3 (Ne.symm n1)]; exact hr i hi, fun k hk => by rw [dv_g_w3 (Ne.symm n2)]; exact hq k hk, fun l hl => ?_, hi⟩
  obtain ⟨q1, q2, q3, q4, q5⟩ := hA l hl
  exact ⟨q1, q2, q3, fun c hc => by rw [dv_g_w3 (n3 l hl).1]; exact q4 c hc, q5⟩
theorem dW_c {lo : Nat} {S : dm_S} {a R Ln : Nat} {A : Nat → Nat} {hh up : Nat} {L L' : Nat → Nat → Int32} (h : dW lo S a R Ln A hh up L) (e : ∀ l, l < up + hh → L' l = L l) : dW lo S a R Ln A hh up L' := by
  obtain ⟨f1, f2, hr, hq, hA, hi⟩ := h
  refine ⟨f1, f2, hr, hq, fun l hl => ?_, hi⟩
  rw [e l hl]
  exact hA l hl
theorem dv_s {up : Nat} (hup : up ≤ 40) : ∃ s, qc_upN up + s = up + 1 ∧ qc_upN up ≤ 40 ∧ (∀ L : Nat → Nat → Int32, qc_upL up L = fun l => L (l + s)) ∧ ∀ (A : Nat → Nat) k, k < qc_upN up → (if up < 40 then (if k = up then A (up + 0) else A k) else if k < 39 then A (k + 1) else A (up + 0)) = A (k + s) := by
  by_cases h : up < 40
  · have e : qc_upN up = up + 1 := by unfold qc_upN; rw [if_pos h]
    refine ⟨0, by rw [e], by rw [e]; omega, fun L => by unfold qc_upL; rw [if_pos h]; rfl, fun A k hk => ?_⟩
    rw [if_pos h]
    by_cases hk9 : k = up
    · rw [if_pos hk9, hk9]
    · rw [if_neg hk9]; rfl
  · have h9 : up = 40 := by omega
    subst h9
    have e : qc_upN 40 = 40 := rfl
    refine ⟨1, rfl, Nat.le_refl _, fun L => by unfold qc_upL; rw [if_neg h], fun A k hk => ?_⟩
    rw [if_neg h]
    by_cases hk9 : k < 39
    · rw [if_pos hk9]
    · rw [e] at hk
      have e2 : k = 39 := by omega
      rw [if_neg hk9, e2]
/-- the uppermost row goes up -/
theorem dv_Up {lo : Nat} {S : dm_S} {a R Ln : Nat} {A : Nat → Nat} {w hh up : Nat} {L : Nat → Nat → Int32} (hN : 2000 ≤ N) (h : dW lo S a R Ln A hh up L) (hw : dWw S a A w hh up) (w1 : w ≤ 16) (h1 : 1 ≤ hh) (h6 : hh ≤ 6) (hup : up ≤ 40) (h27 : ∀ l c, up + hh ≤ l → L l c = am_z 27) (hlo : 1000 ≤ lo) (hlo2 : lo ≤ dm_n S) (hb : dm_n S + 2000 < dm_bg) :
    ∃ S' A', e_X10_up N a S = some ((), S') ∧ dW lo S' a R Ln A' hh (qc_upN up) (qc_upL up L) ∧ dWw S' a A' w hh (qc_upN up) ∧ dvF lo 1 16 S S' ∧ dm_g S' a 1 = dm_g S a 1 ∧ dm_g S' a 2 = dm_g S a 2 := by
  obtain ⟨n1, n2, n3⟩ := dW_ne h
  obtain ⟨⟨o1, o3, o4, hne, t1, t2, t3⟩, ⟨l3, l4, g0, g4, g5⟩, hr, hq, hA, hi⟩ := h
  obtain ⟨g3, hwd⟩ := hw
  obtain ⟨S', e, f1, f2, f3, f4, f5, f6, f7, f8, f9, f10⟩ := dv_up (N := N) (r := fun i => A (up + i)) (q := A) hN ⟨o1, o3, o4, hne, l3, l4, g0, g3, g4, g5, fun i hi9 => ⟨hr i hi9, (hA (up + i) (by omega)).2.1⟩, fun k hk => ⟨hq k hk, (hA k (by omega)).2.1⟩⟩ (by omega) h1 (by omega) hup (by omega) hb
  obtain ⟨s, s1, s2, s3, s4⟩ := dv_s hup
  have a1 := (dm_ok_s o1).2.2
  have a3 := (dm_ok_s o3).2.2
  have a4 := (dm_ok_s o4).2.2
  have hn : dm_n S ≤ dm_n S' := by omega
  have kA : ∀ l, l < up + hh → dm_k S' (A l) = dm_k S (A l) ∧ dm_g S' (A l) = dm_g S (A l) := fun l hl => by
    obtain ⟨y1, y2, y3, y4⟩ := n3 l hl
    exact ⟨(f4 _ y4).1, (f4 _ y4).2 y1 y2 y3⟩
  have e1 : ∀ l, (fun l => if l + 1 = qc_upN up + hh then dm_n S else A (l + s)) l = if l + 1 = qc_upN up + hh then dm_n S else A (l + s) := fun _ => rfl
  refine ⟨S', fun l => if l + 1 = qc_upN up + hh then dm_n S else A (l + s), e, ⟨⟨dvF_ok hn (f4 a a1).1 o1, dvF_ok hn (f4 R a3).1 o3, dvF_ok hn (f4 Ln a4).1 o4, hne, t1, t2, t3⟩, ⟨(dvF_len (f4 R a3).1).trans l3, (dvF_len (f4 Ln a4).1).trans l4, (f5 0 (by decide)).trans g0, (f5 4 (by decide)).trans g4, f6⟩, fun i hi9 => ?_, fun k hk => ?_, fun l hl => ?_, fun l m hl hm z => ?_⟩, ⟨(f5 3 (by decide)).trans g3, fun l hl hl2 => ?_⟩, ⟨f1, hn, by omega, by omega, fun b hb9 => ⟨(f4 b (by omega)).1, (f4 b (by omega)).2 (by omega) (by omega) (by omega)⟩⟩, f5 1 (by decide), f5 2 (by decide)⟩
  · rw [f7 i hi9, e1]
    by_cases c1 : i + 1 < hh
    · have c2 : ¬ qc_upN up + i + 1 = qc_upN up + hh := by omega
      have c3 : qc_upN up + i + s = up + (i + 1) := by omega
      rw [if_pos c1, if_neg c2, c3]
    · have c2 : qc_upN up + i + 1 = qc_upN up + hh := by omega
      rw [if_neg c1, if_pos c2]
  · have c2 : ¬ k + 1 = qc_upN up + hh := by omega
    rw [f8 k hk, e1, if_neg c2]
    exact congrArg (fun x : Nat => am_z (x : Int)) (s4 A k hk)
  · rw [e1, s3]
    by_cases c1 : l + 1 = qc_upN up + hh
    · have c2 : l + s = up + hh := by omega
      have lw : dm_len S' (dm_n S) = w := by unfold dm_len; rw [f9]
      rw [if_pos c1]
      refine ⟨hlo2, dv_okm (by rw [f9]) (by omega) (by omega), by rw [lw]; exact w1, fun c hc => ?_, fun c hc => h27 _ _ (by omega)⟩
      rw [lw] at hc
      rw [f10 c hc]
      exact (h27 _ _ (by omega)).symm
    · have c2 : l + s < up + hh := by omega
      obtain ⟨q1, q2, q3, q4, q5⟩ := hA (l + s) c2
      obtain ⟨y1, y2⟩ := kA (l + s) c2
      rw [if_neg c1, dvF_len y1, y2]
      exact ⟨q1, dvF_ok hn y1 q2, q3, q4, q5⟩
  · rw [e1, e1] at z
    by_cases c1 : l + 1 = qc_upN up + hh
    · by_cases c2 : m + 1 = qc_upN up + hh
      · omega
      · have c3 := (n3 (m + s) (by omega)).2.2.2
        rw [if_pos c1, if_neg c2] at z
        omega
    · by_cases c2 : m + 1 = qc_upN up + hh
      · have c3 := (n3 (l + s) (by omega)).2.2.2
        rw [if_neg c1, if_pos c2] at z
        omega
      · rw [if_neg c1, if_neg c2] at z
        have := hi (l + s) (m + s) (by omega) (by omega) z
        omega
  · rw [e1]
    by_cases c1 : l + 1 = qc_upN up + hh
    · rw [if_pos c1]; unfold dm_len; rw [f9]
    · have c2 : l + s < up + hh := by omega
      rw [if_neg c1, dvF_len (kA (l + s) c2).1]
      exact hwd _ (by omega) c2
/-- a screen of the law shows a tuple -/
def dV (lo : Nat) (S : dm_S) (a : Nat) : qc_T → Prop := fun (w, hh, row, col, up, L) => ∃ R Ln A, dW lo S a R Ln A hh up L ∧ dWw S a A w hh up ∧ dm_g S a 1 = am_z (row : Int) ∧ dm_g S a 2 = am_z (col : Int)
theorem dWw_f {S : dm_S} {a : Nat} {A : Nat → Nat} {w hh up j : Nat} {v : Int32} (h : dWw S a A w hh up) (h3 : j ≠ 3) : dWw (dm_wr S a j v) a A w hh up := ⟨by rw [dv_g_w2 (Ne.symm h3)]; exact h.1, h.2⟩
theorem dv_Down {lo : Nat} {S : dm_S} {a w hh row col up : Nat} {L : Nat → Nat → Int32} (hN : 2000 ≤ N) (h : dV lo S a (w, hh, row, col, up, L)) (w1 : w ≤ 16) (h1 : row < hh) (h6 : hh ≤ 6) (hup : up ≤ 40) (h27 : ∀ l c, up + hh ≤ l → L l c = am_z 27) (hlo : 1000 ≤ lo) (hlo2 : lo ≤ dm_n S) (hb : dm_n S + 2000 < dm_bg) :
    ∃ S', e_X10_down N a S = some ((), S') ∧ dV lo S' a (qc_down (w, hh, row, col, up, L)) ∧ dvF lo 1 16 S S' := by
  obtain ⟨R, Ln, A, hW, hw, gr, gc⟩ := h
  have o1 := hW.1.1
  have o3 := hW.1.2.1
  have l3 := hW.2.1.1
  have g0 := hW.2.1.2.2.1
  have hR := (dm_ok_s o3).2.2
  have hl := hW.1.2.2.2.2.1
  have hW1 := dW_f (j := 2) (v := (0 : Int32)) hW (by decide) (by decide) (by decide)
  have hw1 := dWw_f (j := 2) (v := (0 : Int32)) hw (by decide)
  unfold e_X10_down
  have m1 : am_z (hh : Int) - (1 : Int32) = am_z ((hh - 1 : Nat) : Int) := dv_m1 (by omega)
  by_cases c1 : row + 1 < hh
  · have c2 : ¬ am_z ((hh - 1 : Nat) : Int) ≤ am_z (row : Int) := by rw [am_z_le (by omega) (by omega) (by omega) (by omega)]; omega
    refine ⟨dm_wr (dm_wr S a 2 (0 : Int32)) a 1 (am_z ((row + 1 : Nat) : Int)), ?_, ?_, ?_⟩
    · simp only [o1, cond_true, dv_ok_wr, dv_g_w2 (show 0 ≠ 2 by decide), dv_g_w2 (show 1 ≠ 2 by decide), g0, dv_nn (show R < dm_bg by omega), if_false, dv_cl (show R < dm_bg by omega), o3, Bool.or_true, dv_len_wr, l3, dv_of, m1, gr, if_neg c2, dv_p1 (show row < 100000 by omega)]
    · have eD : qc_down (w, hh, row, col, up, L) = (w, hh, row + 1, 0, up, L) := if_pos c1
      rw [eD]
      exact ⟨R, Ln, A, dW_f hW1 (by decide) (by decide) (by decide), dWw_f hw1 (by decide), dv_g_w1, by rw [dv_g_w2 (by decide), dv_g_w1]; rfl⟩
    · exact dvF_m (dvF_t (dvF_wr hl) (dvF_wr hl)) (by omega) (by omega)
  · have c2 : am_z ((hh - 1 : Nat) : Int) ≤ am_z (row : Int) := by rw [am_z_le (by omega) (by omega) (by omega) (by omega)]; omega
    obtain ⟨S', A', e, f1, f2, f3, f4, f5⟩ := dv_Up hN hW1 hw1 w1 (by omega) h6 hup h27 hlo hlo2 hb
    refine ⟨S', ?_, ?_, ?_⟩
    · simp only [o1, cond_true, dv_ok_wr, dv_g_w2 (show 0 ≠ 2 by decide), dv_g_w2 (show 1 ≠ 2 by decide), g0, dv_nn (show R < dm_bg by omega), if_false, dv_cl (show R < dm_bg by omega), o3, Bool.or_true, dv_len_wr, l3, dv_of, m1, gr, if_pos c2, e, dv_bi]
    · have eD : qc_down (w, hh, row, col, up, L) = (w, hh, row, 0, qc_upN up, qc_upL up L) := if_neg c1
      rw [eD]
      exact ⟨R, Ln, A', f1, f2, by rw [f4, dv_g_w2 (by decide)]; exact gr, by rw [f5, dv_g_w1]; rfl⟩
    · exact dvF_m (dvF_t (dvF_wr hl) f3) (by omega) (by omega)
end DV4
