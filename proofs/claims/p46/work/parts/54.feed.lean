section FEED
variable {N nS nU : Nat} {hc hm : am_Hp}
theorem qr_buf {hc' hm' : am_Hp} (R : qr_R nS nU hc hm) (f : ∀ a, a ≠ 1 → a ≠ 2 → hc' a = hc a) (g : ∀ a, a ≠ 193 → a ≠ 194 → hm' a = hm a) (g2 : hm' 193 8 = hm 193 8) (b : tB hc' hm') : qr_R nS nU hc' hm' := by
  obtain ⟨n1, n2, -⟩ := qr_n R
  obtain ⟨t, -, S, V, y⟩ := R
  have ep : tp hm' = tp hm := by funext j k; unfold tp; rw [g _ (by decide) (by decide)]
  refine ⟨?_, b, ?_, ?_, ?_⟩
  · unfold tT at t ⊢
    simp (disch := decide) only [f, g]
    exact t
  · rw [g 197 (by decide) (by decide)]
    exact sS_same n1 n2 (fun a p q => f a (by omega) (by omega)) (fun a p q => f a (by omega) (by omega)) S
  · rw [g 197 (by decide) (by decide)]; exact V
  · unfold tH at y ⊢
    rw [ep, f 39 (by decide) (by decide), g2, g 197 (by decide) (by decide)]
    obtain ⟨y1, y2, y3, y4, y5⟩ := y
    exact ⟨y1, y2, y3, fun j hj => ⟨sS_same n1 n2 (fun a p q => f a (by omega) (by omega)) (fun a p q => f a (by omega) (by omega)) (y4 j hj).1, (y4 j hj).2⟩, y5⟩
def fb (x : Int32) (i : Nat) : Int32 := (x >>> (am_z (24 - 8 * i) &&& am_z 31)) &&& am_z 255
theorem fb_r (x : Int32) (i : Nat) : vn (fb x i) 0 255 := by
  unfold fb
  generalize x >>> (am_z (24 - 8 * (i : Int)) &&& am_z 31) = y
  have h1 : y &&& am_z 255 = am_z ((y &&& am_z 255).toBitVec.toNat : Nat) := by
    rw [← am_z_nat]
    refine Int32.toBitVec.inj ?_
    show _ = BitVec.ofNat 32 _
    rw [BitVec.ofNat_toNat, BitVec.setWidth_eq]
  have h2 : (y &&& am_z 255).toBitVec.toNat ≤ 255 := by
    rw [Int32.toBitVec_and, BitVec.toNat_and]
    have : (am_z 255).toBitVec.toNat = 255 := by decide
    rw [this]
    exact Nat.and_le_right
  rw [h1]
  exact vn_z (by omega) (by omega) h2
theorem c_appL {x : Int32} {F : Nat} (hF : F + 4 ≤ 600) : ∀ (k j n : Nat) (h : am_Hp), j + k = 4 → k < n → h 1 1 = am_z ((F + j : Nat) : Int) → ∃ h', l_X7_append_3 N n x (am_z (24 - 8 * (j : Int))) h = some ((), h') ∧ (∀ a, a ≠ 1 → a ≠ 2 → h' a = h a) ∧ (∀ k, k ≠ 1 → h' 1 k = h 1 k) ∧ h' 1 1 = am_z ((F + 4 : Nat) : Int) ∧ (∀ i, (i < F + j ∨ F + 4 ≤ i) → h' 2 i = h 2 i) ∧ ∀ i, j ≤ i → i < 4 → h' 2 (F + i) = fb x i
  | k, j, 0, h, _, hx, _ => by omega
  | 0, j, n + 1, h, e, _, h1 => by
    have e1 : j = 4 := by omega
    subst e1
    refine ⟨h, ?_, fun _ _ _ => rfl, fun _ _ => rfl, h1, fun _ _ => rfl, fun i p q => by omega⟩
    unfold l_X7_append_3
    rw [if_pos (by decide)]
  | k + 1, j, n + 1, h, e, hx, h1 => by
    have z : ¬ (am_z (24 - 8 * (j : Int)) < am_z 0) := by rw [am_z_lt (by omega) (by omega) (by omega) (by omega)]; omega
    have z2 : ¬ (am_z 600 ≤ am_z ((F + j : Nat) : Int)) := by rw [am_z_le (by omega) (by omega) (by omega) (by omega)]; omega
    have i1 : am_in (am_z ((F + j : Nat) : Int)) 600 = true := m_in (by omega) (by decide)
    have e2 : ((F + j : Nat) : Int) + 1 = ((F + (j + 1) : Nat) : Int) := by omega
    have e3 : 24 - 8 * (j : Int) + -8 = 24 - 8 * ((j + 1 : Nat) : Int) := by omega
    have e6 : Int32.ofNat 600 = am_z 600 := am_z_nat 600
    obtain ⟨h', p1, p2, p3, p4, p5, p6⟩ := c_appL hF k (j + 1) n (am_pi (am_pi h 2 (F + j) (fb x j)) 1 1 (am_z ((F + (j + 1) : Nat) : Int))) (by omega) (by omega) (am_pi_s _ _ _ _)
    refine ⟨h', ?_, fun a q1 q2 => by rw [p2 a q1 q2, qc_pia q1, qc_pia q2], fun k hk => by rw [p3 k hk, am_pi_k hk, am_pi_a (by decide)], p4, fun i hi => ?_, fun i q1 q2 => ?_⟩
    · unfold l_X7_append_3
      have e7 : am_pi h 2 (F + j) (fb x j) 1 1 = am_z ((F + j : Nat) : Int) := by rw [am_pi_a (by decide)]; exact h1
      have e8 : (x >>> (am_z (24 - 8 * (j : Int)) &&& am_z 31)) &&& am_z 255 = fb x j := rfl
      simp (disch := omega) only [am_z_lit, am_z_neg, if_neg z, e6, h1, if_neg z2, i1, cond_true, am_z_cl, Int.toNat_natCast, e8, e7, am_z_add, e2, e3]
      exact p1
    · rw [p5 i (by omega), am_pi_a (by decide), am_pi_k (by omega)]
    · by_cases q : i = j
      · subst q
        rw [p5 _ (by omega), am_pi_a (by decide), am_pi_s]
      · exact p6 i (by omega) q2
theorem c_app {x : Int32} {F : Nat} {h : am_Hp} (hN : 1000 ≤ N) (hF : F + 4 ≤ 600) (h1 : h 1 1 = am_z (F : Int)) : ∃ h', f_X7_append N x h = some ((), h') ∧ (∀ a, a ≠ 1 → a ≠ 2 → h' a = h a) ∧ (∀ k, k ≠ 1 → h' 1 k = h 1 k) ∧ h' 1 1 = am_z ((F + 4 : Nat) : Int) ∧ (∀ i, (i < F ∨ F + 4 ≤ i) → h' 2 i = h 2 i) ∧ ∀ i, i < 4 → h' 2 (F + i) = fb x i := by
  obtain ⟨h', p1, p2, p3, p4, p5, p6⟩ := c_appL (N := N) (x := x) hF 4 0 N h (by omega) (by omega) h1
  refine ⟨h', ?_, p2, p3, p4, fun i hi => p5 i (by omega), fun i hi => p6 i (by omega) hi⟩
  unfold f_X7_append
  exact p1
def fsel (a b c d e : Int32) (i : Nat) : Int32 := if i < 4 then a else if i < 8 then b else if i < 12 then c else if i < 16 then d else e
theorem m_feedL {a b c d e : Int32} {F : Nat} (hF : F + 20 ≤ 600) : ∀ (k j n : Nat) (h : am_Hp), j + k = 20 → k < n → h 193 2 = am_z (F : Int) → ∃ h', l_X10_feed_24 N n a b c d e (am_z j) h = some (am_z ((F + 20 : Nat) : Int), h') ∧ (∀ x, x ≠ 193 → x ≠ 194 → h' x = h x) ∧ (∀ k, k ≠ 2 → h' 193 k = h 193 k) ∧ h' 193 2 = am_z ((F + 20 : Nat) : Int) ∧ (∀ i, (i < F + j ∨ F + 20 ≤ i) → h' 194 i = h 194 i) ∧ ∀ i, j ≤ i → i < 20 → h' 194 (F + i) = fb (fsel a b c d e i) (i % 4)
  | k, j, 0, h, _, hx, _ => by omega
  | 0, j, n + 1, h, he, _, h1 => by
    have e1 : j = 20 := by omega
    subst e1
    have e2 : (F : Int) + 20 = ((F + 20 : Nat) : Int) := by omega
    refine ⟨am_pi h 193 2 (am_z ((F + 20 : Nat) : Int)), ?_, fun x p q => qc_pia p, fun k hk => am_pi_k hk, am_pi_s _ _ _ _, fun i _ => by rw [am_pi_a (by decide)], fun i p q => by omega⟩
    unfold l_X10_feed_24
    rw [if_pos (by decide)]
    simp only [am_z_lit, h1, am_z_add, e2, am_pi_s]
  | k + 1, j, n + 1, h, he, hx, h1 => by
    have e2 : (j : Int) + 1 = ((j + 1 : Nat) : Int) := by omega
    have e3 : 24 - 8 * ((j : Int) - (j : Int).tdiv 4 * 4) = 24 - 8 * ((j % 4 : Nat) : Int) := by
      rw [Int.tdiv_eq_ediv_of_nonneg (by omega)]; omega
    have e4 : (F : Int) + j = ((F + j : Nat) : Int) := by omega
    have i1 : am_in (am_z ((F + j : Nat) : Int)) 600 = true := m_in (by omega) (by decide)
    have z4 : ¬ (am_z 4 = am_z 0) := by decide
    have e8 : ∀ x : Int32, (x >>> (am_z (24 - 8 * ((j % 4 : Nat) : Int)) &&& am_z 31)) &&& am_z 255 = fb x (j % 4) := fun _ => rfl
    have ea : (am_z 20 ≤ am_z (j : Int)) = ((20 : Int) ≤ j) := am_z_le (by omega) (by omega) (by omega) (by omega)
    have eb : (am_z 4 ≤ am_z (j : Int)) = ((4 : Int) ≤ j) := am_z_le (by omega) (by omega) (by omega) (by omega)
    have ec : (am_z 8 ≤ am_z (j : Int)) = ((8 : Int) ≤ j) := am_z_le (by omega) (by omega) (by omega) (by omega)
    have ed : (am_z 12 ≤ am_z (j : Int)) = ((12 : Int) ≤ j) := am_z_le (by omega) (by omega) (by omega) (by omega)
    have ef : (am_z 16 ≤ am_z (j : Int)) = ((16 : Int) ≤ j) := am_z_le (by omega) (by omega) (by omega) (by omega)
    have dv : am_z (j : Int) / am_z 4 = am_z ((j : Int).tdiv 4) := am_z_div (by omega) (by omega) (by omega) (by omega)
    obtain ⟨h', p1, p2, p3, p4, p5, p6⟩ := m_feedL hF k (j + 1) n (am_pi h 194 (F + j) (fb (fsel a b c d e j) (j % 4))) (by omega) (by omega) (by rw [am_pi_a (by decide)]; exact h1)
    refine ⟨h', ?_, fun x q1 q2 => by rw [p2 x q1 q2, qc_pia q2], fun k hk => by rw [p3 k hk, am_pi_a (by decide)], p4, fun i hi => ?_, fun i q1 q2 => ?_⟩
    · unfold l_X10_feed_24
      simp (disch := omega) only [am_z_lit, ea, eb, ec, ed, ef, if_neg z4, dv, am_z_mul, am_z_sub, e3, h1, am_z_add, e4, i1, cond_true, am_z_cl, Int.toNat_natCast, e8, e2]
      rw [← p1, if_neg (show ¬ ((20 : Int) ≤ j) by omega)]
      unfold fsel
      by_cases c1 : j < 4
      · rw [if_neg (show ¬ ((4 : Int) ≤ j) by omega), if_pos c1]
      · rw [if_pos (show (4 : Int) ≤ j by omega), if_neg c1]
        by_cases c2 : j < 8
        · rw [if_neg (show ¬ ((8 : Int) ≤ j) by omega), if_pos c2]
        · rw [if_pos (show (8 : Int) ≤ j by omega), if_neg c2]
          by_cases c3 : j < 12
          · rw [if_neg (show ¬ ((12 : Int) ≤ j) by omega), if_pos c3]
          · rw [if_pos (show (12 : Int) ≤ j by omega), if_neg c3]
            by_cases c4 : j < 16
            · rw [if_neg (show ¬ ((16 : Int) ≤ j) by omega), if_pos c4]
            · rw [if_pos (show (16 : Int) ≤ j by omega), if_neg c4]
    · rw [p5 i (by omega), am_pi_k (by omega)]
    · by_cases q : i = j
      · subst q
        rw [p5 _ (by omega), am_pi_s]
      · exact p6 i (by omega) q2
theorem q_feed (hN : 60000 ≤ N) (R : qr_R nS nU hc hm) (a b c d e : Int32) : pD nS nU (f_X9_feed N a b c d e hc) (f_X10_feed N a b c d e hm) hc hm := by
  have R' := R.2.1
  obtain ⟨⟨b1, b2, b3⟩, b4, b5, b6, b7, b8, b9⟩ := R'
  generalize hF : nv (hc 1 1) = F at *
  have e1 : (F : Int) + 20 = ((F + 20 : Nat) : Int) := by omega
  have ec : (am_z ((F + 20 : Nat) : Int) ≤ am_z 600) = (F + 20 ≤ 600) := by
    rw [am_z_le (by omega) (by omega) (by omega) (by omega)]
    refine propext ?_
    omega
  have em : am_pi hm 193 0 (am_z 0) 193 2 = am_z (F : Int) := by rw [am_pi_k (by decide), b4, b1]
  unfold f_X9_feed f_X10_feed
  by_cases q : F + 20 ≤ 600
  · obtain ⟨h1, p1, p2, p3, p4, p5, p6⟩ := c_app (N := N) (x := a) (h := hc) (by omega) (show F + 4 ≤ 600 by omega) b1
    obtain ⟨h2, q1, q2, q3, q4, q5, q6⟩ := c_app (N := N) (x := b) (h := h1) (by omega) (show F + 4 + 4 ≤ 600 by omega) p4
    obtain ⟨h3, r1, r2, r3, r4, r5, r6⟩ := c_app (N := N) (x := c) (h := h2) (by omega) (show F + 4 + 4 + 4 ≤ 600 by omega) q4
    obtain ⟨h4, s1, s2, s3, s4, s5, s6⟩ := c_app (N := N) (x := d) (h := h3) (by omega) (show F + 4 + 4 + 4 + 4 ≤ 600 by omega) r4
    obtain ⟨h5, t1, t2, t3, t4, t5, t6⟩ := c_app (N := N) (x := e) (h := h4) (by omega) (show F + 4 + 4 + 4 + 4 + 4 ≤ 600 by omega) s4
    obtain ⟨m, m1, m2, m3, m4, m5, m6⟩ := m_feedL (N := N) (a := a) (b := b) (c := c) (d := d) (e := e) q 20 0 N (am_pi hm 193 0 (am_z 0)) (by omega) (by omega) em
    have m1' : l_X10_feed_24 N N a b c d e (am_z 0) _ = _ := m1
    have hx : F + 4 + 4 + 4 + 4 + 4 = F + 20 := by omega
    rw [hx] at t4
    have fa : ∀ x, x ≠ 1 → x ≠ 2 → h5 x = hc x := fun x y z => by rw [t2 x y z, s2 x y z, r2 x y z, q2 x y z, p2 x y z]
    have ga : ∀ x, x ≠ 193 → x ≠ 194 → m x = hm x := fun x y z => by rw [m2 x y z, qc_pia y]
    have gk : ∀ k, k ≠ 0 → k ≠ 2 → m 193 k = hm 193 k := fun k y z => by rw [m3 k z, am_pi_k y]
    refine ⟨am_z ((F + 20 : Nat) : Int), h5, m, ?_, ?_, qr_buf R fa ga (gk 8 (by decide) (by decide)) ?_, fun x hx => fa x (by omega) (by omega), fun x hx => ga x (by omega) (by omega)⟩
    · simp only [am_z_lit, b1, am_z_add, e1, ec, if_pos q, p1, q1, r1, s1, t1, am_bi_s, t4]
    · simp only [am_z_lit, em, am_z_add, e1, ec, if_pos q, m1']
    · have z : nv (h5 1 1) = F + 20 := by rw [t4]; exact nv_z (by omega)
      unfold tB
      rw [z, fa 0 (by decide) (by decide), fa 14 (by decide) (by decide), gk 24 (by decide) (by decide), gk 30 (by decide) (by decide), ga 204 (by decide) (by decide)]
      refine ⟨?_, ?_, fun i hi => ?_, b6, b7, b8, b9⟩
      · rw [t4]; exact vn_z (by omega) (by omega) q
      · rw [m4, t4]
      · by_cases z0 : i < F
        · rw [t5 i (by omega), s5 i (by omega), r5 i (by omega), q5 i (by omega), p5 i (by omega), m5 i (by omega), am_pi_a (by decide)]
          exact b5 i z0
        · obtain ⟨j, rfl⟩ : ∃ j, i = F + j := ⟨i - F, by omega⟩
          rw [m6 j (by omega) (by omega)]
          unfold fsel
          have fin : ∀ x : Int32, h5 2 (F + j) = fb x (j % 4) → h5 2 (F + j) = fb x (j % 4) ∧ vn (h5 2 (F + j)) 0 255 := fun x hx => ⟨hx, by rw [hx]; exact fb_r _ _⟩
          by_cases c1 : j < 4
          · rw [if_pos c1]
            refine fin _ ?_
            rw [t5 _ (by omega), s5 _ (by omega), r5 _ (by omega), q5 _ (by omega), p6 j c1, Nat.mod_eq_of_lt c1]
          rw [if_neg c1]
          by_cases c2 : j < 8
          · rw [if_pos c2]
            refine fin _ ?_
            have ej : F + j = F + 4 + (j - 4) := by omega
            have ek : j % 4 = j - 4 := by omega
            rw [ej, t5 _ (by omega), s5 _ (by omega), r5 _ (by omega), q6 (j - 4) (by omega), ek]
          rw [if_neg c2]
          by_cases c3 : j < 12
          · rw [if_pos c3]
            refine fin _ ?_
            have ej : F + j = F + 4 + 4 + (j - 8) := by omega
            have ek : j % 4 = j - 8 := by omega
            rw [ej, t5 _ (by omega), s5 _ (by omega), r6 (j - 8) (by omega), ek]
          rw [if_neg c3]
          by_cases c4 : j < 16
          · rw [if_pos c4]
            refine fin _ ?_
            have ej : F + j = F + 4 + 4 + 4 + (j - 12) := by omega
            have ek : j % 4 = j - 12 := by omega
            rw [ej, t5 _ (by omega), s6 (j - 12) (by omega), ek]
          rw [if_neg c4]
          refine fin _ ?_
          have ej : F + j = F + 4 + 4 + 4 + 4 + (j - 16) := by omega
          have ek : j % 4 = j - 16 := by omega
          rw [ej, t6 (j - 16) (by omega), ek]
  · refine pD_no R (v := am_z (-3)) (w := am_z 0) ?_ ?_
    · simp only [am_z_lit, am_z_neg, b1, am_z_add, e1, ec, if_neg q]
    · simp only [am_z_lit, am_z_neg, em, am_z_add, e1, ec, if_neg q]
end FEED
