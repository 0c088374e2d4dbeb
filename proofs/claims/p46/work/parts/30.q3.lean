section Q3
variable {N nS nU : Nat} {hc hm : am_Hp}
theorem q_namedS (R : qr_R nS nU hc hm) {x : Int32} {h1 : am_Hp} (e1 : h1 195 = hm 195) : ∀ (k i n : Nat), i + k = nS → k < n → ∃ v, l_X8_indexOf_2 N n 15 x (am_z i) hc = some (v, hc) ∧ l_X10_found_2 N n (am_z 0) x (am_z i) h1 = some (v, h1)
  | k, i, 0, _, h => by omega
  | 0, i, n + 1, h, h2 => by
    obtain ⟨n1, n2, n3, n4, n5, n6⟩ := qr_n R
    have i0 : am_in (am_z 0) 20 = true := by decide
    have e : i = nS := by omega
    subst e
    unfold l_X8_indexOf_2 l_X10_found_2
    simp only [am_z_lit, am_z_neg, g_th.1, cond_true, n3, if_true, i0, e1, n5, if_pos (Int32.le_refl _)]
    exact ⟨_, rfl, rfl⟩
  | k + 1, i, n + 1, h, h2 => by
    obtain ⟨n1, n2, n3, n4, n5, n6⟩ := qr_n R
    have i0 : am_in (am_z 0) 20 = true := by decide
    have hi : i < nS := by omega
    have t := (R.1.2.2.2.2.2.2.2.2.2.2.1 i hi).1
    have e3 : (2 : Int) + i = ((2 + i : Nat) : Int) := by omega
    have e4 : (i : Int) + 1 = ((i + 1 : Nat) : Int) := by omega
    unfold l_X8_indexOf_2 l_X10_found_2
    simp (disch := omega) only [am_z_lit, am_z_neg, am_z_add, am_z_nat, am_z_le, g_th.1, cond_true, n3, if_true, i0, e1, n5, g_th.2.2.2.2.1, Option.bind_some, g_th.2.2.2.2.2.2.2.2.2.2.1, g_th.2.2.2.2.2.2.2.2.2.2.2.2.2.2.2.2.1, Bool.true_or, m_in, e3, e4, am_z_cl, Int.toNat_natCast, t]
    simp only [if_neg (show ¬ ((nS : Int) ≤ i) by omega), if_neg (show ¬ (((6 : Nat) : Int) ≤ i) by omega)]
    by_cases q : hm 195 (2 + i) = x
    · simp only [if_pos q]; exact ⟨_, rfl, rfl⟩
    · simp only [if_neg q]; exact q_namedS R e1 k (i + 1) n (by omega) (by omega)
theorem q_namedU (R : qr_R nS nU hc hm) {x y : Int32} (hy : y ≠ am_z 0) {h1 : am_Hp} (e1 : h1 195 = hm 195) : ∀ (k i n : Nat), i + k = nU → k < n → ∃ v, l_X8_indexOf_2 N n 19 x (am_z i) hc = some (v, hc) ∧ l_X10_found_2 N n y x (am_z i) h1 = some (v, h1)
  | k, i, 0, _, h => by omega
  | 0, i, n + 1, h, h2 => by
    obtain ⟨n1, n2, n3, n4, n5, n6⟩ := qr_n R
    have i0 : am_in (am_z 1) 20 = true := by decide
    have e : i = nU := by omega
    subst e
    unfold l_X8_indexOf_2 l_X10_found_2
    simp only [am_z_lit, am_z_neg, g_th.2.1, cond_true, n4, if_neg hy, i0, e1, n6, if_pos (Int32.le_refl _)]
    exact ⟨_, rfl, rfl⟩
  | k + 1, i, n + 1, h, h2 => by
    obtain ⟨n1, n2, n3, n4, n5, n6⟩ := qr_n R
    have i0 : am_in (am_z 1) 20 = true := by decide
    have hi : i < nU := by omega
    have t := R.1.2.2.2.2.2.2.2.2.2.2.2 i hi
    have e3 : (6 : Int) + i = ((6 + i : Nat) : Int) := by omega
    have e4 : (i : Int) + 1 = ((i + 1 : Nat) : Int) := by omega
    unfold l_X8_indexOf_2 l_X10_found_2
    simp (disch := omega) only [am_z_lit, am_z_neg, am_z_add, am_z_nat, am_z_le, g_th.2.1, cond_true, n4, if_neg hy, i0, e1, n6, g_th.2.2.2.2.2.2.2.1, Option.bind_some, g_th.2.2.2.2.2.2.2.2.2.2.2.2.2.1, g_th.2.2.2.2.2.2.2.2.2.2.2.2.2.2.2.2.2.2.2.1, Bool.true_or, m_in, e3, e4, am_z_cl, Int.toNat_natCast, t]
    simp only [if_neg (show ¬ ((nU : Int) ≤ i) by omega), if_neg (show ¬ (((6 : Nat) : Int) ≤ i) by omega)]
    by_cases q : hm 195 (6 + i) = x
    · simp only [if_pos q]; exact ⟨_, rfl, rfl⟩
    · simp only [if_neg q]; exact q_namedU R hy e1 k (i + 1) n (by omega) (by omega)
theorem q_named (hN : 1000 ≤ N) (R : qr_R nS nU hc hm) (y x : Int32) : pN (f_X9_named N y x hc) (f_X10_named N y x hm) hc hm := by
  have hS := (qr_n R).1
  have hU := (qr_n R).2.1
  unfold f_X9_named f_X10_named f_X8_indexOf f_X10_found
  by_cases q : y = am_z 0
  · subst q
    obtain ⟨v, a1, a2⟩ := q_namedS (N := N) R (x := x) (h1 := am_pi hm 193 0 (am_z 0)) (thr_e (by decide)) nS 0 N (by omega) (by omega)
    have a1' : l_X8_indexOf_2 N N 15 x (am_z 0) hc = _ := a1
    have a2' : l_X10_found_2 N N (am_z 0) x (am_z 0) (am_pi hm 193 0 (am_z 0)) = _ := a2
    simp only [am_z_lit, if_true, a1', a2', am_bi_s]
    exact ⟨_, _, _, rfl, rfl, cfr0, mfrp (by omega)⟩
  · obtain ⟨v, a1, a2⟩ := q_namedU (N := N) R (x := x) q (h1 := am_pi hm 193 0 (am_z 0)) (thr_e (by decide)) nU 0 N (by omega) (by omega)
    have a1' : l_X8_indexOf_2 N N 19 x (am_z 0) hc = _ := a1
    have a2' : l_X10_found_2 N N y x (am_z 0) (am_pi hm 193 0 (am_z 0)) = _ := a2
    simp only [am_z_lit, if_neg q, a1', a2', am_bi_s]
    exact ⟨_, _, _, rfl, rfl, cfr0, mfrp (by omega)⟩
-- ---- sizes that are right
def rWin (r : Nat → Int32) (u : Nat) (y : Int32) : Int32 := if y = am_z 0 then r (7 + 8 * u) else r (8 + 8 * u)
abbrev rLive (r : Nat → Int32) (s u : Nat) : Prop := r (9 + 8 * u) = am_z 1 ∧ r (10 + 8 * u) = am_z s
def rMin (r : Nat → Int32) (s : Nat) (y : Int32) : Nat → Nat → Int32 → Int32
  | 0, _, a => a
  | k + 1, u, a => rMin r s y k (u + 1) (if rLive r s u then (if rWin r u y < a then rWin r u y else a) else a)
def rLw (r : Nat → Int32) (s : Nat) (y : Int32) : Nat → Nat → Int32 → Int32 → Int32 × Int32
  | 0, _, l, f => (l, f)
  | k + 1, u, l, f => if rLive r s u ∧ rWin r u y < l then rLw r s y k (u + 1) (rWin r u y) (am_z u) else rLw r s y k (u + 1) l f
theorem rLw_1 {r : Nat → Int32} {s : Nat} {y : Int32} : ∀ (k u : Nat) (l f : Int32), (rLw r s y k u l f).1 = rMin r s y k u l
  | 0, u, l, f => rfl
  | k + 1, u, l, f => by
    unfold rLw rMin
    by_cases q : rLive r s u
    · by_cases q2 : rWin r u y < l
      · rw [if_pos ⟨q, q2⟩, if_pos q, if_pos q2, rLw_1 k]
      · rw [if_neg (fun z => q2 z.2), if_pos q, if_neg q2, rLw_1 k]
    · rw [if_neg (fun z => q z.1), if_neg q, rLw_1 k]
theorem rLw_2 {r : Nat → Int32} {s : Nat} {y l0 : Int32} : ∀ (k u : Nat) (l f : Int32), u + k = nU → ((f = am_z (-1) ∧ l = l0) ∨ ∃ w, w < nU ∧ f = am_z w ∧ l = rWin r w y) → (((rLw r s y k u l f).2 = am_z (-1) ∧ (rLw r s y k u l f).1 = l0) ∨ ∃ w, w < nU ∧ (rLw r s y k u l f).2 = am_z w ∧ (rLw r s y k u l f).1 = rWin r w y)
  | 0, u, l, f, _, h => h
  | k + 1, u, l, f, hk, h => by
    unfold rLw
    by_cases q : rLive r s u ∧ rWin r u y < l
    · rw [if_pos q]
      exact rLw_2 k (u + 1) _ _ (by omega) (Or.inr ⟨u, by omega, rfl, rfl⟩)
    · rw [if_neg q]
      exact rLw_2 k (u + 1) _ _ (by omega) h
theorem c_sizeY {y : Int32} {s : Nat} (R : qr_R nS nU hc hm) (hs : s < nS) : f_X8_sizeOf N 15 (am_z s) y hc = some (if y = am_z 0 then hm 195 (12 + s) else hm 195 (16 + s), hc) := by
  obtain ⟨n1, n2, n3, n4, n5, n6⟩ := qr_n R
  obtain ⟨-, t2, t3, -⟩ := R.1.2.2.2.2.2.2.2.2.2.2.1 s hs
  have i1 : am_in (am_z s) 6 = true := m_in (by omega) (by decide)
  unfold f_X8_sizeOf
  simp (disch := omega) only [am_z_lit, g_th.1, c_has15 n3 n1 hs, am_bi_s, if_neg z_10, cond_true, g_th.2.2.2.2.2.1, g_th.2.2.2.2.2.2.1, Option.bind_some, g_th.2.2.2.2.2.2.2.2.2.2.2.1, g_th.2.2.2.2.2.2.2.2.2.2.2.2.1, i1, g_th.2.2.2.2.2.2.2.2.2.2.2.2.2.2.2.2.2.1, g_th.2.2.2.2.2.2.2.2.2.2.2.2.2.2.2.2.2.2.1, am_z_cl, Int.toNat_natCast, t2, t3]
  split <;> rfl
theorem c_win {y : Int32} {u : Nat} (R : qr_R nS nU hc hm) (hu : u < nU) : f_X5_windowSize N (33 + u) y hc = some (rWin (hm 197) u y, hc) := by
  obtain ⟨b1, b2, -⟩ := qr_U R hu
  have hU := (qr_n R).2.1
  unfold f_X5_windowSize rWin
  simp only [am_z_lit, (g_u u (by omega)).2, cond_true, b1, b2]
  split <;> rfl
theorem c_watches {w : Int32} {s u : Nat} (R : qr_R nS nU hc hm) (hu : u < nU) (hw : w ≠ am_z 0) : f_X5_watches N (33 + u) (am_z s) w hc = some (if hm 197 (9 + 8 * u) = w ∧ hm 197 (10 + 8 * u) = am_z s then am_z 1 else am_z 0, hc) := by
  obtain ⟨b1, b2, b3, b4, -⟩ := qr_U R hu
  have hU := (qr_n R).2.1
  unfold f_X5_watches
  simp only [am_z_lit, (g_u u (by omega)).2, cond_true, b3, am_z_and0, am_z_and1, if_true]
  by_cases q : hm 197 (9 + 8 * u) = w
  · rw [b4 (by rw [q]; exact hw)]
    by_cases q2 : hm 197 (10 + 8 * u) = am_z s
    · rw [if_pos q, if_pos q2, if_pos ⟨q, q2⟩]
    · rw [if_pos q, if_neg q2, if_neg (fun z => q2 z.2)]
  · rw [if_neg q, if_neg (fun z => q z.1)]
theorem c_lwL {y : Int32} {s : Nat} (R : qr_R nS nU hc hm) : ∀ (k u n : Nat) (l f : Int32), u + k = nU → k < n → l_X9_userWithLeastWindow_16 N n (am_z s) y l f (am_z u) hc = some (some (rLw (hm 197) s y k u l f).2, hc)
  | k, u, 0, l, f, _, h => by omega
  | 0, u, n + 1, l, f, h, h2 => by
    obtain ⟨n1, n2, n3, n4, n5, n6⟩ := qr_n R
    have e : u = nU := by omega
    subst e
    unfold l_X9_userWithLeastWindow_16 rLw
    rw [n4, if_pos (Int32.le_refl _)]
  | k + 1, u, n + 1, l, f, h, h2 => by
    obtain ⟨n1, n2, n3, n4, n5, n6⟩ := qr_n R
    have hu : u < nU := by omega
    have hlt : ¬ (am_z nU ≤ am_z u) := by rw [am_z_le (by omega) (by omega) (by omega) (by omega)]; omega
    have e4 : (u : Int) + 1 = ((u + 1 : Nat) : Int) := by omega
    unfold l_X9_userWithLeastWindow_16
    simp only [am_z_lit, n4, if_neg hlt, c_seat n4 n2 hu, am_bt_s, (g_u u (by omega)).2, cond_true, c_watches R hu (show am_z 1 ≠ am_z 0 by decide), am_bi_s, c_win R hu, am_z_add, e4]
    rw [rLw]
    by_cases q : rLive (hm 197) s u
    · rw [if_pos q, if_neg z_10]
      by_cases q2 : rWin (hm 197) u y < l
      · have hle : ¬ (l ≤ rWin (hm 197) u y) := by rw [Int32.le_iff_toInt_le]; rw [Int32.lt_iff_toInt_lt] at q2; omega
        rw [if_neg hle, if_pos (show rLive (hm 197) s u ∧ rWin (hm 197) u y < l from ⟨q, q2⟩)]
        exact c_lwL R k (u + 1) n _ _ (by omega) (by omega)
      · have hle : l ≤ rWin (hm 197) u y := by rw [Int32.le_iff_toInt_le]; rw [Int32.lt_iff_toInt_lt] at q2; omega
        rw [if_pos hle, if_neg (show ¬ (rLive (hm 197) s u ∧ rWin (hm 197) u y < l) from fun z => q2 z.2)]
        exact c_lwL R k (u + 1) n _ _ (by omega) (by omega)
    · rw [if_neg q, if_pos rfl, if_neg (show ¬ (rLive (hm 197) s u ∧ rWin (hm 197) u y < l) from fun z => q z.1)]
      exact c_lwL R k (u + 1) n _ _ (by omega) (by omega)
/-- the size that is right -/
def rRight (hm : am_Hp) (nU s : Nat) (y : Int32) : Int32 := if hm 197 1 = am_z 1 then rMin (hm 197) s y nU 0 (if y = am_z 0 then hm 195 (12 + s) else hm 195 (16 + s)) else (if y = am_z 0 then hm 195 (12 + s) else hm 195 (16 + s))
theorem c_lw {y : Int32} {s : Nat} (hN : 1000 ≤ N) (R : qr_R nS nU hc hm) (hs : s < nS) : f_X9_userWithLeastWindow N (am_z s) y hc = some (some (rLw (hm 197) s y nU 0 (if y = am_z 0 then hm 195 (12 + s) else hm 195 (16 + s)) (am_z (-1))).2, hc) := by
  have hU := (qr_n R).2.1
  have step := c_lwL (N := N) (y := y) (s := s) R nU 0 N (if y = am_z 0 then hm 195 (12 + s) else hm 195 (16 + s)) (am_z (-1)) (by omega) (by omega)
  unfold f_X9_userWithLeastWindow
  simp only [c_sizeY R hs, am_bi_s, am_z_lit, am_z_neg]
  exact step
theorem c_right {y : Int32} {s : Nat} (hN : 1000 ≤ N) (R : qr_R nS nU hc hm) (hs : s < nS) : f_X9_sizeThatIsRight N (am_z s) y hc = some (some (rRight hm nU s y), hc) := by
  obtain ⟨n1, n2, n3, n4, n5, n6⟩ := qr_n R
  have i1 : am_in (am_z 1) 2 = true := by decide
  have e25 : hc 25 1 = hm 197 1 := R.2.2.1.2.2.1
  have v1 := R.2.2.2.1.1
  unfold f_X9_sizeThatIsRight
  simp only [am_z_lit, am_z_neg, i1, cond_true, e25, c_sizeY R hs, am_bi_s, if_true, c_lw hN R hs, am_bt_s]
  by_cases q : hm 197 1 = am_z 0
  · rw [if_pos q]
    unfold rRight
    have hne : ¬ (hm 197 1 = am_z 1) := by rw [q]; decide
    rw [if_neg hne]
  · have q1 : hm 197 1 = am_z 1 := by
      obtain ⟨v1, v2, v3⟩ := v1
      have : nv (hm 197 1) = 0 ∨ nv (hm 197 1) = 1 := by omega
      rcases this with z | z <;> rw [z] at v1
      · exact absurd v1 q
      · exact v1
    rw [if_neg q]
    unfold rRight
    rw [if_pos q1, ← rLw_1 nU 0 _ (am_z (-1))]
    rcases rLw_2 (nU := nU) (r := hm 197) (s := s) (y := y) nU 0 (if y = am_z 0 then hm 195 (12 + s) else hm 195 (16 + s)) (am_z (-1)) (by omega) (Or.inl ⟨rfl, rfl⟩) with ⟨z1, z2⟩ | ⟨w, hw, z1, z2⟩
    · rw [if_pos z1, z2]
    · rw [z1, if_neg (by rw [am_z_eq (by omega) (by omega) (by omega) (by omega)]; omega), c_seat n4 n2 hw]
      simp only [am_bt_s, (g_u w (by omega)).2, cond_true, c_win R hw, am_bi_s, z2]
theorem m_rightL {y : Int32} {s : Nat} {h1 : am_Hp} (n2 : nU ≤ 6) (e1 : h1 195 1 = am_z nU) (hr : h1 197 = hm 197) (h1s : hm 197 1 = am_z 1) : ∀ (k u n : Nat) (a : Int32), u + k = nU → k < n → l_X10_right_22 N n (am_z s) y a (am_z u) h1 = some (rMin (hm 197) s y k u a, h1)
  | k, u, 0, a, _, h => by omega
  | 0, u, n + 1, a, h, h2 => by
    have i1 : am_in (am_z 1) 20 = true := by decide
    have e : u = nU := by omega
    subst e
    unfold l_X10_right_22 rMin
    simp only [am_z_lit, i1, cond_true, e1]
    rw [if_pos (Int32.le_refl _)]
  | k + 1, u, n + 1, a, h, h2 => by
    have i1 : am_in (am_z 1) 20 = true := by decide
    have i2 : am_in (am_z 1) 6071 = true := by decide
    have hu : u < nU := by omega
    have hlt : ¬ (am_z nU ≤ am_z u) := by rw [am_z_le (by omega) (by omega) (by omega) (by omega)]; omega
    have e4 : (u : Int) + 1 = ((u + 1 : Nat) : Int) := by omega
    unfold l_X10_right_22
    rw [rMin]
    simp only [am_z_lit, i1, i2, cond_true, e1, if_neg hlt, hr, h1s, if_true, m_live hr (show u < 6 by omega), am_bi_s, m_u0 hr (show u < 6 by omega), m_u1 hr (show u < 6 by omega), am_z_add, e4]
    by_cases q : rLive (hm 197) s u
    · rw [if_pos q, if_pos q, if_neg z_10]
      unfold rWin
      by_cases qy : y = am_z 0
      · simp only [if_pos qy]
        exact m_rightL n2 e1 hr h1s k (u + 1) n _ (by omega) (by omega)
      · simp only [if_neg qy]
        exact m_rightL n2 e1 hr h1s k (u + 1) n _ (by omega) (by omega)
    · rw [if_neg q, if_neg q, if_pos rfl]
      exact m_rightL n2 e1 hr h1s k (u + 1) n _ (by omega) (by omega)
theorem m_right {y : Int32} {s : Nat} {h1 : am_Hp} (hN : 1000 ≤ N) (n1 : nS ≤ 4) (n2 : nU ≤ 6) (n6 : hm 195 1 = am_z nU) (hs : s < nS) (e1 : h1 195 = hm 195) (hr : h1 197 = hm 197) : f_X10_right N (am_z s) y h1 = some (rRight hm nU s y, h1) := by
  have key : ∀ a, l_X10_right_22 N N (am_z s) y a (am_z 0) h1 = some (if hm 197 1 = am_z 1 then rMin (hm 197) s y nU 0 a else a, h1) := by
    intro a
    by_cases q : hm 197 1 = am_z 1
    · rw [if_pos q]
      have := m_rightL (N := N) (s := s) (y := y) (hm := hm) n2 (by rw [e1]; exact n6) hr q nU 0 N a (by omega) (by omega)
      exact this
    · rw [if_neg q]
      obtain ⟨N', rfl⟩ : ∃ N', N = N' + 1 := ⟨N - 1, by omega⟩
      have i1 : am_in (am_z 1) 20 = true := by decide
      have i2 : am_in (am_z 1) 6071 = true := by decide
      unfold l_X10_right_22
      simp only [am_z_lit, i1, i2, cond_true, hr, if_neg q, ite_self]
  have e3 : (12 : Int) + s = ((12 + s : Nat) : Int) := by omega
  have e4 : (16 : Int) + s = ((16 + s : Nat) : Int) := by omega
  unfold f_X10_right rRight
  simp (disch := omega) only [am_z_lit, am_z_add, e3, e4, m_in, cond_true, am_z_cl, Int.toNat_natCast, key, e1]
  by_cases qy : y = am_z 0
  · simp only [if_pos qy]
  · simp only [if_neg qy]
theorem q_rightSize (hN : 1000 ≤ N) (R : qr_R nS nU hc hm) (x y : Int32) : pT (f_X9_rightSize N x y hc) (f_X10_rightSize N x y hm) hc hm := by
  obtain ⟨n1, n2, n3, n4, n5, n6⟩ := qr_n R
  unfold f_X9_rightSize f_X10_rightSize
  rcases qi x nS with ⟨s, hs, rfl⟩ | ⟨v, rfl, b1, b2, hv⟩
  · simp only [am_z_lit, c_desk n3 n1 hs, am_bt_s, m_sess n5 n1 hs, am_bi_s, m_chk1, if_neg z_10, c_right hN R hs, m_right hN n1 n2 n6 hs (thr_e (by decide)) (thr_e (by decide))]
    exact pT_s rfl rfl rfl
  · refine pT_n ?_ ?_
    · simp only [c_deskn n3 n1 ⟨b1, b2⟩ hv, am_bt_n]
    · simp only [am_z_lit, m_sessn n5 n1 ⟨b1, b2⟩ hv, am_bi_s, m_chk0, if_true]
end Q3
