section ROW
variable {N L : Nat} {B : Nat → Nat}
/-- the token is the word that stands at place k, w letters long, in row a -/
def Wk (B : Nat → Nat) (s e a k w : Nat) : Prop := e = s + w ∧ ∀ j, j < w → am_z (B (s + j)) = am_SC a (k + j)
theorem m_107 {h : am_Hp} {a k w : Nat} {n0 : Int32} {K4 : Nat → Int32 → Int32 → am_Hp → Option (Int32 × am_Hp)} (h1 : 208 ≤ a) (h2 : a < 215) (hl : am_SL a ≤ 100) (hk : k + w < am_SL a) (hn : ∀ i, i < w → am_SC a (k + i) ≠ am_z 32) (hb : am_SC a (k + w) = am_z 32) : ∀ (r i n : Nat), i + r = w → r < n → l_X10_wordOf_107 N K4 n a n0 (am_z ((k + i : Nat) : Int)) h = K4 a (n0 + am_z 1) (am_z ((k + w + 1 : Nat) : Int)) h
  | r, i, 0, _, hx => by omega
  | 0, i, n + 1, hi, _ => by
    have e1 : k + i = k + w := by omega
    have e4 : ((k + w : Nat) : Int) + 1 = ((k + w + 1 : Nat) : Int) := by omega
    unfold l_X10_wordOf_107
    simp only [s_kdg a h1 h2, cond_true, e1, s_atg h1 h2 hk hl, am_bi_s, hb, am_z_lit, if_true, am_z_add, e4]
  | r + 1, i, n + 1, hi, hx => by
    have e4 : ((k + i : Nat) : Int) + 1 = ((k + (i + 1) : Nat) : Int) := by omega
    unfold l_X10_wordOf_107
    simp only [s_kdg a h1 h2, cond_true, s_atg h1 h2 (show k + i < am_SL a by omega) hl, am_bi_s, am_z_lit, if_neg (hn i (by omega)), am_z_add, e4]
    exact m_107 h1 h2 hl hk hn hb r (i + 1) n (by omega) (by omega)
theorem m_22 {h : am_Hp} {s e a k w : Nat} {n0 : Int32} {K4 : Nat → Int32 → Int32 → am_Hp → Option (Int32 × am_Hp)} (b : mB h L B) (he : e ≤ L) (h9 : h 193 19 = am_z s) (h8 : h 193 18 = am_z e) (h1 : 208 ≤ a) (h2 : a < 215) (hl : am_SL a ≤ 100) (hk : k + w < am_SL a) (hn : ∀ i, i < w → am_SC a (k + i) ≠ am_z 32) (hb : am_SC a (k + w) = am_z 32) : ∀ (r i n : Nat), i + r = w → r < n → s + i ≤ e → (∀ j, j < i → am_z (B (s + j)) = am_SC a (k + j)) → (Wk B s e a k w → l_X10_wordOf_22 N K4 n a n0 (am_z k) (am_z i) h = some (n0, h)) ∧ (¬ Wk B s e a k w → l_X10_wordOf_22 N K4 n a n0 (am_z k) (am_z i) h = l_X10_wordOf_107 N K4 N a n0 (am_z k) h)
  | r, i, 0, _, hx, _, _ => by omega
  | 0, i, n + 1, hi, _, hs, hj => by
    have b1 := b.1
    have e1 : i = w := by omega
    subst e1
    have e3 : (k : Int) + i = ((k + i : Nat) : Int) := by omega
    have e5 : (s : Int) + i = ((s + i : Nat) : Int) := by omega
    have ec : (am_z ((s + i : Nat) : Int) = am_z (e : Int)) = (e = s + i) := by
      rw [am_z_eq (by omega) (by omega) (by omega) (by omega)]; refine propext ?_; omega
    unfold l_X10_wordOf_22
    simp only [s_kdg a h1 h2, cond_true, am_z_add, e3, s_atg h1 h2 hk hl, am_bi_s, hb, am_z_lit, if_true, h9, h8, e5, ec]
    by_cases q : e = s + i
    · simp only [if_pos q]
      exact ⟨fun _ => by first | rfl | trivial, fun z => absurd ⟨q, hj⟩ z⟩
    · simp only [if_neg q]
      exact ⟨fun z => absurd z.1 q, fun _ => by first | rfl | trivial⟩
  | r + 1, i, n + 1, hi, hx, hs, hj => by
    have b1 := b.1
    have e3 : (k : Int) + i = ((k + i : Nat) : Int) := by omega
    have e5 : (s : Int) + i = ((s + i : Nat) : Int) := by omega
    have e4 : (i : Int) + 1 = ((i + 1 : Nat) : Int) := by omega
    have nb := hn i (by omega)
    have ec : (am_z (e : Int) ≤ am_z ((s + i : Nat) : Int)) = (e ≤ s + i) := by
      rw [am_z_le (by omega) (by omega) (by omega) (by omega)]; refine propext ?_; omega
    unfold l_X10_wordOf_22
    by_cases q : e ≤ s + i
    · have nw : ¬ Wk B s e a k w := fun z => by have := z.1; omega
      simp only [s_kdg a h1 h2, cond_true, am_z_add, e3, s_atg h1 h2 (show k + i < am_SL a by omega) hl, am_bi_s, am_z_lit, if_neg nb, h9, h8, e5, ec, if_pos q]
      exact ⟨fun z => absurd z nw, fun _ => by first | rfl | trivial⟩
    · have i1 : am_in (am_z ((s + i : Nat) : Int)) 600 = true := m_in (by omega) (by decide)
      simp (disch := omega) only [s_kdg a h1 h2, cond_true, am_z_add, e3, s_atg h1 h2 (show k + i < am_SL a by omega) hl, am_bi_s, am_z_lit, if_neg nb, h9, h8, e5, ec, if_neg q, i1, am_z_cl, Int.toNat_natCast, (b.2.2 (s + i) (by omega)).1, e4]
      by_cases q2 : am_z (B (s + i) : Int) = am_SC a (k + i)
      · simp only [if_pos q2]
        refine m_22 b he h9 h8 h1 h2 hl hk hn hb r (i + 1) n (by omega) (by omega) (by omega) (fun j hj2 => ?_)
        by_cases z : j = i
        · subst z; exact q2
        · exact hj j (by omega)
      · have nw : ¬ Wk B s e a k w := fun z => q2 (z.2 i (by omega))
        simp only [if_neg q2]
        exact ⟨fun z => absurd z nw, fun _ => by first | rfl | trivial⟩
theorem m_w4 {h : am_Hp} {s e a k w m : Nat} {n0 : Int32} (hN : 1000 ≤ N) (b : mB h L B) (hs : s ≤ e) (he : e ≤ L) (h20 : h 193 20 = am_z 0) (h9 : h 193 19 = am_z s) (h8 : h 193 18 = am_z e) (h1 : 208 ≤ a) (h2 : a < 215) (hl : am_SL a ≤ 100) (hk : k + w < am_SL a) (hn : ∀ i, i < w → am_SC a (k + i) ≠ am_z 32) (hb : am_SC a (k + w) = am_z 32) : (Wk B s e a k w → l_X10_wordOf_4 N (m + 1) a n0 (am_z k) h = some (n0, h)) ∧ (¬ Wk B s e a k w → l_X10_wordOf_4 N (m + 1) a n0 (am_z k) h = l_X10_wordOf_4 N m a (n0 + am_z 1) (am_z ((k + w + 1 : Nat) : Int)) h) := by
  have z : ¬ (am_z (am_SL a : Int) ≤ am_z (k : Int)) := by rw [am_z_le (by omega) (by omega) (by omega) (by omega)]; omega
  obtain ⟨r1, r2⟩ := m_22 (N := N) (n0 := n0) (K4 := l_X10_wordOf_4 N m) b he h9 h8 h1 h2 hl hk hn hb w 0 N (by omega) (by omega) (by omega) (fun j hj => by omega)
  have r3 := m_107 (N := N) (h := h) (n0 := n0) (K4 := l_X10_wordOf_4 N m) h1 h2 hl hk hn hb w 0 N (by omega) (by omega)
  rw [l_X10_wordOf_4]
  unfold g_SLEN
  simp only [am_z_lit, h20, if_true, s_kdg a h1 h2, cond_true, am_bi_s, am_z_nat, if_neg z]
  refine ⟨fun w => r1 w, fun w => ?_⟩
  exact (r2 w).trans r3
theorem m_w4e {h : am_Hp} {a m : Nat} {n0 : Int32} (h20 : h 193 20 = am_z 0) (h1 : 208 ≤ a) (h2 : a < 215) : l_X10_wordOf_4 N (m + 1) a n0 (am_z (am_SL a : Int)) h = some (am_z (-1), h) := by
  rw [l_X10_wordOf_4]
  unfold g_SLEN
  simp only [am_z_lit, am_z_neg, h20, if_true, s_kdg a h1 h2, cond_true, am_bi_s, am_z_nat, if_pos (Int32.le_refl _)]
theorem Wk_is {s e a k w c : Nat} (hw : am_SL c = w) (hc : ∀ i, i < w → am_SC a (k + i) = am_SC c i) : Wk B s e a k w ↔ isW B s e c := by
  unfold Wk isW
  rw [hw]
  exact ⟨fun z => ⟨z.1, fun i hi => (z.2 i hi).trans (hc i hi)⟩, fun z => ⟨z.1, fun i hi => (z.2 i hi).trans (hc i hi).symm⟩⟩
/-- which word begins a statement -/
theorem m_word3 {h : am_Hp} {s e : Nat} (hN : 1000 ≤ N) (b : mB h L B) (hs : s ≤ e) (he : e ≤ L) (h20 : h 193 20 = am_z 0) (h9 : h 193 19 = am_z s) (h8 : h 193 18 = am_z e) :
    (isW B s e 208 → f_X10_wordOf N 213 h = some (am_z 0, h)) ∧ (¬ isW B s e 208 → isW B s e 209 → f_X10_wordOf N 213 h = some (am_z 1, h)) ∧ (¬ isW B s e 208 → ¬ isW B s e 209 → isW B s e 210 → f_X10_wordOf N 213 h = some (am_z 2, h)) ∧ (¬ isW B s e 208 → ¬ isW B s e 209 → ¬ isW B s e 210 → f_X10_wordOf N 213 h = some (am_z (-1), h)) := by
  obtain ⟨l1, l2, l3, l4, l5, l6, l7⟩ := s_len
  obtain ⟨k1, k2, k3, k4, k5, k6, k7, k8, k9, k10⟩ := s_chr
  obtain ⟨m, hm⟩ : ∃ m, N = m + 4 := ⟨N - 4, by omega⟩
  have w1 := m_w4 (N := N) (a := 213) (k := 0) (w := 7) (m := m + 3) (n0 := am_z 0) hN b hs he h20 h9 h8 (by omega) (by omega) (by omega) (by omega) (fun i hi => by rw [Nat.zero_add, (k1 i hi).1]; exact (k1 i hi).2) k6
  have w2 := m_w4 (N := N) (a := 213) (k := 8) (w := 4) (m := m + 2) (n0 := am_z 1) hN b hs he h20 h9 h8 (by omega) (by omega) (by omega) (by omega) (fun i hi => by rw [(k2 i hi).1]; exact (k2 i hi).2) k7
  have w3 := m_w4 (N := N) (a := 213) (k := 13) (w := 3) (m := m + 1) (n0 := am_z 2) hN b hs he h20 h9 h8 (by omega) (by omega) (by omega) (by omega) (fun i hi => by rw [(k3 i hi).1]; exact (k3 i hi).2) k8
  have w4 := m_w4e (N := N) (h := h) (a := 213) (m := m) (n0 := am_z 3) h20 (by omega) (by omega)
  rw [l6] at w4
  rw [Wk_is (c := 208) l1 (fun i hi => by rw [Nat.zero_add]; exact (k1 i hi).1)] at w1
  rw [Wk_is (c := 209) l2 (fun i hi => (k2 i hi).1)] at w2
  rw [Wk_is (c := 210) l3 (fun i hi => (k3 i hi).1)] at w3
  have f0 : f_X10_wordOf N 213 h = l_X10_wordOf_4 N (m + 3 + 1) 213 (am_z 0) (am_z ((0 : Nat) : Int)) h := by
    unfold f_X10_wordOf
    rw [← hm]
    rfl
  have s1 : ¬ isW B s e 208 → f_X10_wordOf N 213 h = l_X10_wordOf_4 N (m + 2 + 1) 213 (am_z 1) (am_z ((8 : Nat) : Int)) h := fun z => f0.trans (w1.2 z)
  have s2 : ¬ isW B s e 208 → ¬ isW B s e 209 → f_X10_wordOf N 213 h = l_X10_wordOf_4 N (m + 1 + 1) 213 (am_z 2) (am_z ((13 : Nat) : Int)) h := fun z y => (s1 z).trans (w2.2 y)
  have s3 : ¬ isW B s e 208 → ¬ isW B s e 209 → ¬ isW B s e 210 → f_X10_wordOf N 213 h = l_X10_wordOf_4 N (m + 1) 213 (am_z 3) (am_z ((17 : Nat) : Int)) h := fun z y x => (s2 z y).trans (w3.2 x)
  exact ⟨fun z => f0.trans (w1.1 z), fun z y => (s1 z).trans (w2.1 y), fun z y x => (s2 z y).trans (w3.1 x), fun z y x => (s3 z y x).trans w4⟩
theorem m_word2 {h : am_Hp} {s e : Nat} (hN : 1000 ≤ N) (b : mB h L B) (hs : s ≤ e) (he : e ≤ L) (h20 : h 193 20 = am_z 0) (h9 : h 193 19 = am_z s) (h8 : h 193 18 = am_z e) :
    (isW B s e 211 → f_X10_wordOf N 214 h = some (am_z 0, h)) ∧ (¬ isW B s e 211 → isW B s e 212 → f_X10_wordOf N 214 h = some (am_z 1, h)) ∧ (¬ isW B s e 211 → ¬ isW B s e 212 → f_X10_wordOf N 214 h = some (am_z (-1), h)) := by
  obtain ⟨l1, l2, l3, l4, l5, l6, l7⟩ := s_len
  obtain ⟨k1, k2, k3, k4, k5, k6, k7, k8, k9, k10⟩ := s_chr
  obtain ⟨m, hm⟩ : ∃ m, N = m + 4 := ⟨N - 4, by omega⟩
  have w1 := m_w4 (N := N) (a := 214) (k := 0) (w := 4) (m := m + 3) (n0 := am_z 0) hN b hs he h20 h9 h8 (by omega) (by omega) (by omega) (by omega) (fun i hi => by rw [Nat.zero_add, (k4 i hi).1]; exact (k4 i hi).2) k9
  have w2 := m_w4 (N := N) (a := 214) (k := 5) (w := 6) (m := m + 2) (n0 := am_z 1) hN b hs he h20 h9 h8 (by omega) (by omega) (by omega) (by omega) (fun i hi => by rw [(k5 i hi).1]; exact (k5 i hi).2) k10
  have w4 := m_w4e (N := N) (h := h) (a := 214) (m := m + 1) (n0 := am_z 2) h20 (by omega) (by omega)
  rw [l7] at w4
  rw [Wk_is (c := 211) l4 (fun i hi => by rw [Nat.zero_add]; exact (k4 i hi).1)] at w1
  rw [Wk_is (c := 212) l5 (fun i hi => (k5 i hi).1)] at w2
  have f0 : f_X10_wordOf N 214 h = l_X10_wordOf_4 N (m + 3 + 1) 214 (am_z 0) (am_z ((0 : Nat) : Int)) h := by
    unfold f_X10_wordOf
    rw [← hm]
    rfl
  have s1 : ¬ isW B s e 211 → f_X10_wordOf N 214 h = l_X10_wordOf_4 N (m + 2 + 1) 214 (am_z 1) (am_z ((5 : Nat) : Int)) h := fun z => f0.trans (w1.2 z)
  have s2 : ¬ isW B s e 211 → ¬ isW B s e 212 → f_X10_wordOf N 214 h = l_X10_wordOf_4 N (m + 1 + 1) 214 (am_z 2) (am_z ((12 : Nat) : Int)) h := fun z y => (s1 z).trans (w2.2 y)
  exact ⟨fun z => f0.trans (w1.1 z), fun z y => (s1 z).trans (w2.1 y), fun z y => (s2 z y).trans w4⟩
theorem m_wordn {h : am_Hp} {a : Nat} (hN : 1000 ≤ N) (h20 : h 193 20 ≠ am_z 0) : f_X10_wordOf N a h = some (am_z (-1), h) := by
  obtain ⟨m, hm⟩ : ∃ m, N = m + 1 := ⟨N - 1, by omega⟩
  have f0 : f_X10_wordOf N a h = l_X10_wordOf_4 N (m + 1) a (am_z 0) (am_z 0) h := by
    unfold f_X10_wordOf
    rw [← hm]
    rfl
  rw [f0, l_X10_wordOf_4]
  simp only [am_z_lit, am_z_neg, if_neg h20]
-- ---- names where one stands
theorem m_nm0 {h : am_Hp} {s e : Nat} (hN : 1000 ≤ N) (b : mB h L B) (hs : s ≤ e) (he : e ≤ L) (h20 : h 193 20 = am_z 0) (h9 : h 193 19 = am_z s) (h8 : h 193 18 = am_z e) (h2 : h 193 22 = am_z 0) (h6 : e ≤ s + 6) : f_X10_nameHere N h = some (lt5 B s e 6, h) := by
  have b1 := b.1
  have e3 : (e : Int) - s = ((e - s : Nat) : Int) := by omega
  have z : am_z ((e - s : Nat) : Int) ≤ am_z 6 := by rw [am_z_le (by omega) (by omega) (by omega) (by omega)]; omega
  have r := m_nmL (N := N) b he h9 h8 h2 hs 6 0 N (by omega) (by omega)
  have r' : l_X10_nameHere_36 N N (am_z 0) (am_z 0) h = _ := r
  unfold f_X10_nameHere
  simp only [am_z_lit, h20, if_true, h8, h9, am_z_sub, e3, if_pos z, m_f1, am_bi_s, r']
theorem m_nmS {h : am_Hp} {s e : Nat} (hN : 1000 ≤ N) (b : mB h L B) (hs : s ≤ e) (he : e ≤ L) (h9 : h 193 19 = am_z s) (h8 : h 193 18 = am_z e) (h2 : h 193 22 = am_z 0) (h6 : h 193 20 ≠ am_z 0 ∨ s + 6 < e) : f_X10_nameHere N h = some (am_z 0, eS (am_z (-11)) h) := by
  have b1 := b.1
  have e3 : (e : Int) - s = ((e - s : Nat) : Int) := by omega
  have n0 := eS_2 (h := h) (c := am_z (-11)) (by decide)
  have r := m_nmE (N := N) (x := am_z 0) n0 N (by omega)
  unfold f_X10_nameHere
  by_cases q : h 193 20 = am_z 0
  · have z : ¬ (am_z ((e - s : Nat) : Int) ≤ am_z 6) := by
      rw [am_z_le (by omega) (by omega) (by omega) (by omega)]
      rcases h6 with w | w
      · exact absurd q w
      · omega
    simp only [am_z_lit, am_z_neg, q, if_true, h8, h9, am_z_sub, e3, if_neg z, m_f2 h2, am_bi_s, r]
  · simp only [am_z_lit, am_z_neg, if_neg q, m_f2 h2, am_bi_s, r]
theorem m_nmX {h : am_Hp} (hN : 1000 ≤ N) (h2 : h 193 22 ≠ am_z 0) : f_X10_nameHere N h = some (am_z 0, h) := by
  have r := m_nmE (N := N) (x := am_z 0) h2 N (by omega)
  unfold f_X10_nameHere
  simp only [am_z_lit, m_f0 h2, am_bi_s, r, ite_self]
end ROW
