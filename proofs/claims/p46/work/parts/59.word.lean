/-! ===== numbers, names, words of the text ===== -/
section WORD
variable {N L : Nat} {B : Nat → Nat}
/-- the class's value: never more than 1000 -/
def cv (B : Nat → Nat) (s : Nat) : Nat → Nat
  | 0 => 0
  | n + 1 => min (cv B s n * 10 + B (s + n) - 48) 1000
theorem cv_mv {s : Nat} : ∀ n, (∀ i, s ≤ i → i < s + n → 48 ≤ B i ∧ B i ≤ 57) → cv B s n = min (mv B s n) 1000 ∧ mv B s n ≤ 1000009
  | 0, _ => ⟨rfl, Nat.zero_le _⟩
  | n + 1, h => by
    obtain ⟨a1, a2⟩ := cv_mv n (fun i p q => h i p (by omega))
    have d := h (s + n) (by omega) (by omega)
    rw [cv, mv, a1]
    by_cases q : mv B s n ≤ 100000
    · rw [if_pos q]; omega
    · rw [if_neg q]; omega
theorem c_numL {h : am_Hp} {s e : Nat} (b : cB h L B) (he : e ≤ L) (h5 : h 1 5 = am_z e) (hd : ∀ i, s ≤ i → i < e → 48 ≤ B i ∧ B i ≤ 57) : ∀ (k j n : Nat), s + j + k = e → k < n → l_X7_number_7 N n (am_z (cv B s j)) (am_z ((s + j : Nat) : Int)) h = some (am_z (cv B s (e - s)), h)
  | k, j, 0, _, hx => by omega
  | 0, j, n + 1, hj, _ => by
    have e1 : s + j = e := by omega
    have e2 : e - s = j := by omega
    unfold l_X7_number_7
    rw [h5, e1, if_pos (Int32.le_refl _), e2]
  | k + 1, j, n + 1, hj, hx => by
    have b1 := b.1
    have z : ¬ (am_z e ≤ am_z ((s + j : Nat) : Int)) := by rw [am_z_le (by omega) (by omega) (by omega) (by omega)]; omega
    have d := hd (s + j) (by omega) (by omega)
    have hc := (cv_mv (B := B) (s := s) j (fun i p q => hd i p (by omega))).1
    have e4 : ((s + j : Nat) : Int) + 1 = ((s + (j + 1) : Nat) : Int) := by omega
    have e5 : (cv B s j : Int) * 10 + (B (s + j) : Int) - 48 = ((cv B s j * 10 + B (s + j) - 48 : Nat) : Int) := by omega
    have e6 : (if am_z 1000 < am_z ((cv B s j * 10 + B (s + j) - 48 : Nat) : Int) then am_z 1000 else am_z ((cv B s j * 10 + B (s + j) - 48 : Nat) : Int)) = am_z ((cv B s (j + 1) : Nat) : Int) := by
      rw [cv]
      by_cases q : 1000 < cv B s j * 10 + B (s + j) - 48
      · rw [if_pos (by rw [am_z_lt (by omega) (by omega) (by omega) (by omega)]; omega)]; exact congrArg am_z (by omega)
      · rw [if_neg (by rw [am_z_lt (by omega) (by omega) (by omega) (by omega)]; omega)]; exact congrArg am_z (by omega)
    unfold l_X7_number_7
    simp only [h5, if_neg z, c_byte b (show s + j < L by omega), am_bi_s, am_z_lit, am_z_mul, am_z_add, am_z_sub, e5, e6, e4]
    exact c_numL b he h5 hd k (j + 1) n (by omega) (by omega)
theorem c_num {h : am_Hp} {s e : Nat} (hN : 1000 ≤ N) (b : cB h L B) (hs : s ≤ e) (he : e ≤ L) (h4 : h 1 4 = am_z s) (h5 : h 1 5 = am_z e) (hd : ∀ i, s ≤ i → i < e → 48 ≤ B i ∧ B i ≤ 57) : f_X7_number N h = some (am_z ((min (mv B s (e - s)) 1000 : Nat) : Int), h) := by
  have b1 := b.1
  have r := c_numL (N := N) b he h5 hd (e - s) 0 N (by omega) (by omega)
  rw [(cv_mv (B := B) (s := s) (e - s) (fun i p q => hd i p (by omega))).1] at r
  unfold f_X7_number
  rw [h4]
  exact r
-- ---- names
def lt5 (B : Nat → Nat) (s e : Nat) : Nat → Int32
  | 0 => am_z 0
  | n + 1 => if s + n < e then (lt5 B s e n <<< (am_z 5 &&& am_z 31)) ||| (am_z (B (s + n)) - am_z 97 + am_z 1) else lt5 B s e n <<< (am_z 5 &&& am_z 31)
theorem c_letL {h : am_Hp} {s e : Nat} (b : cB h L B) (he : e ≤ L) (h4 : h 1 4 = am_z s) (h5 : h 1 5 = am_z e) (hs : s ≤ e) : ∀ (k j n : Nat), j + k = 6 → k < n → l_X7_letters_4 N n (lt5 B s e j) (am_z j) h = some (lt5 B s e 6, h)
  | k, j, 0, _, hx => by omega
  | 0, j, n + 1, hj, _ => by
    have e1 : j = 6 := by omega
    subst e1
    unfold l_X7_letters_4
    rw [if_pos (by decide)]
  | k + 1, j, n + 1, hj, hx => by
    have b1 := b.1
    have z : ¬ (am_z 6 ≤ am_z (j : Int)) := by rw [am_z_le (by omega) (by omega) (by omega) (by omega)]; omega
    have e3 : (s : Int) + j = ((s + j : Nat) : Int) := by omega
    have e4 : (j : Int) + 1 = ((j + 1 : Nat) : Int) := by omega
    have ih := c_letL b he h4 h5 hs k (j + 1) n (by omega) (by omega)
    unfold l_X7_letters_4
    by_cases q : s + j < e
    · have z2 : ¬ (am_z e ≤ am_z ((s + j : Nat) : Int)) := by rw [am_z_le (by omega) (by omega) (by omega) (by omega)]; omega
      simp only [am_z_lit, if_neg z, h4, h5, am_z_add, e3, if_neg z2, c_byte b (show s + j < L by omega), am_bi_s, e4]
      rw [lt5, if_pos q] at ih
      exact ih
    · have z2 : am_z e ≤ am_z ((s + j : Nat) : Int) := by rw [am_z_le (by omega) (by omega) (by omega) (by omega)]; omega
      simp only [am_z_lit, if_neg z, h4, h5, am_z_add, e3, if_pos z2, e4]
      rw [lt5, if_neg q] at ih
      exact ih
theorem c_let {h : am_Hp} {s e : Nat} (hN : 1000 ≤ N) (b : cB h L B) (he : e ≤ L) (h4 : h 1 4 = am_z s) (h5 : h 1 5 = am_z e) (hs : s ≤ e) : f_X7_letters N h = some (lt5 B s e 6, h) := by
  unfold f_X7_letters
  exact c_letL b he h4 h5 hs 6 0 N (by omega) (by omega)
theorem m_nmL {h : am_Hp} {s e : Nat} (b : mB h L B) (he : e ≤ L) (h9 : h 193 19 = am_z s) (h8 : h 193 18 = am_z e) (h2 : h 193 22 = am_z 0) (hs : s ≤ e) : ∀ (k j n : Nat), j + k = 6 → k < n → l_X10_nameHere_36 N n (lt5 B s e j) (am_z j) h = some (lt5 B s e 6, h)
  | k, j, 0, _, hx => by omega
  | 0, j, n + 1, hj, _ => by
    have e1 : j = 6 := by omega
    subst e1
    unfold l_X10_nameHere_36
    rw [if_pos (by decide)]
  | k + 1, j, n + 1, hj, hx => by
    have b1 := b.1
    have z : ¬ (am_z 6 ≤ am_z (j : Int)) := by rw [am_z_le (by omega) (by omega) (by omega) (by omega)]; omega
    have e3 : (s : Int) + j = ((s + j : Nat) : Int) := by omega
    have e4 : (j : Int) + 1 = ((j + 1 : Nat) : Int) := by omega
    have ih := m_nmL b he h9 h8 h2 hs k (j + 1) n (by omega) (by omega)
    unfold l_X10_nameHere_36
    by_cases q : s + j < e
    · have z2 : ¬ (am_z e ≤ am_z ((s + j : Nat) : Int)) := by rw [am_z_le (by omega) (by omega) (by omega) (by omega)]; omega
      have i1 : am_in (am_z ((s + j : Nat) : Int)) 600 = true := m_in (by omega) (by decide)
      simp (disch := omega) only [am_z_lit, if_neg z, h2, if_true, h9, h8, am_z_add, e3, if_neg z2, i1, cond_true, am_z_cl, Int.toNat_natCast, (b.2.2 (s + j) (by omega)).1, e4]
      rw [lt5, if_pos q] at ih
      exact ih
    · have z2 : am_z e ≤ am_z ((s + j : Nat) : Int) := by rw [am_z_le (by omega) (by omega) (by omega) (by omega)]; omega
      have o0 : ∀ x : Int32, x ||| am_z 0 = x := fun x => Int32.or_zero
      simp only [am_z_lit, if_neg z, h2, if_true, h9, h8, am_z_add, e3, if_pos z2, e4, o0]
      rw [lt5, if_neg q] at ih
      exact ih
theorem m_nmE {h : am_Hp} {x : Int32} (h2 : h 193 22 ≠ am_z 0) : ∀ n, 1 ≤ n → l_X10_nameHere_36 N n x (am_z 0) h = some (x, h)
  | 0, hn => by omega
  | n + 1, _ => by
    have z : ¬ (am_z 6 ≤ am_z 0) := by decide
    unfold l_X10_nameHere_36
    simp only [am_z_lit, if_neg z, if_neg h2]
-- ---- what fails
def eS (c : Int32) (h : am_Hp) : am_Hp := am_pi (am_pi h 193 22 c) 193 23 (h 193 19)
theorem m_f0 {h : am_Hp} {x : Int32} (h2 : h 193 22 ≠ am_z 0) {c : Int32} : f_X10_failsIf N x c h = some ((), h) := by
  unfold f_X10_failsIf
  simp only [am_z_lit, if_neg h2]
theorem m_f1 {h : am_Hp} {c : Int32} : f_X10_failsIf N (am_z 0) c h = some ((), h) := by
  unfold f_X10_failsIf
  simp only [am_z_lit, if_true, ite_self]
theorem m_f2 {h : am_Hp} {c : Int32} (h2 : h 193 22 = am_z 0) : f_X10_failsIf N (am_z 1) c h = some ((), eS c h) := by
  unfold f_X10_failsIf eS
  simp (disch := decide) only [am_z_lit, h2, if_true, if_neg z_10, am_pi_k]
theorem eS_2 {h : am_Hp} {c : Int32} (hc : c ≠ am_z 0) : eS c h 193 22 ≠ am_z 0 := by
  unfold eS
  rw [am_pi_k (by decide), am_pi_s]; exact hc
theorem m_g0 {h : am_Hp} (h2 : h 193 22 = am_z 0) {h' : am_Hp} (e : f_X10_next N h = some ((), h')) : f_X10_goOn N h = some ((), h') := by
  unfold f_X10_goOn
  simp only [am_z_lit, h2, if_true, e, am_bi_s]
theorem m_g1 {h : am_Hp} (h2 : h 193 22 ≠ am_z 0) : f_X10_goOn N h = some ((), h) := by
  unfold f_X10_goOn
  simp only [am_z_lit, if_neg h2]
theorem m_intE {h : am_Hp} {lo hi : Int32} (h2 : h 193 22 ≠ am_z 0) : f_X10_integer N lo hi h = some (lo, h) := by
  unfold f_X10_integer
  simp only [am_z_lit, m_f0 h2, am_bi_s, if_neg h2, m_g1 h2, ite_self]
theorem m_intS {h : am_Hp} {lo hi : Int32} (h2 : h 193 22 = am_z 0) (ht : h 193 20 ≠ am_z 1) : f_X10_integer N lo hi h = some (lo, eS (am_z (-11)) h) := by
  have z := eS_2 (h := h) (c := am_z (-11)) (by decide)
  unfold f_X10_integer
  simp only [am_z_lit, am_z_neg, if_neg ht, m_f2 h2, m_f1, am_bi_s, m_f0 z, if_neg z, m_g1 z, ite_self]
theorem m_intR {h : am_Hp} {lo hi m : Nat} (h2 : h 193 22 = am_z 0) (ht : h 193 20 = am_z 1) (hv : h 193 21 = am_z m) (hm : m ≤ 1000009) (hlo : lo ≤ 1000) (hhi : hi ≤ 1000) (hr : ¬ (lo ≤ m ∧ m ≤ hi)) : f_X10_integer N (am_z lo) (am_z hi) h = some (am_z lo, eS (am_z (-12)) h) := by
  have z := eS_2 (h := h) (c := am_z (-12)) (by decide)
  have ea : (am_z (m : Int) < am_z lo) = (m < lo) := by rw [am_z_lt (by omega) (by omega) (by omega) (by omega)]; refine propext ?_; omega
  have eb : (am_z (m : Int) ≤ am_z hi) = (m ≤ hi) := by rw [am_z_le (by omega) (by omega) (by omega) (by omega)]; refine propext ?_; omega
  unfold f_X10_integer
  simp only [am_z_lit, am_z_neg, ht, if_true, m_f1, am_bi_s, hv, ea, eb, m_f2 h2, if_neg z, m_g1 z]
  by_cases q : m < lo
  · rw [if_pos q]
  · rw [if_neg q, if_neg (by omega)]
theorem m_int0 {h h' : am_Hp} {lo hi m : Nat} (h2 : h 193 22 = am_z 0) (ht : h 193 20 = am_z 1) (hv : h 193 21 = am_z m) (hm : m ≤ 1000009) (hlo : lo ≤ 1000) (hhi : hi ≤ 1000) (hr : lo ≤ m ∧ m ≤ hi) (e : f_X10_next N h = some ((), h')) : f_X10_integer N (am_z lo) (am_z hi) h = some (am_z m, h') := by
  have ea : (am_z (m : Int) < am_z lo) = (m < lo) := by rw [am_z_lt (by omega) (by omega) (by omega) (by omega)]; refine propext ?_; omega
  have eb : (am_z (m : Int) ≤ am_z hi) = (m ≤ hi) := by rw [am_z_le (by omega) (by omega) (by omega) (by omega)]; refine propext ?_; omega
  unfold f_X10_integer
  simp only [am_z_lit, am_z_neg, ht, if_true, m_f1, am_bi_s, hv, ea, eb, h2, m_g0 h2 e]
  rw [if_neg (by omega), if_pos (by omega)]
-- ---- words
theorem s_kd : ∀ a, 208 ≤ a → a < 213 → Nat.beq (am_kd a).1 6 = true := by
  have key : ∀ i, i < 5 → Nat.beq (am_kd (208 + i)).1 6 = true := by decide +kernel
  intro a h1 h2
  have := key (a - 208) (by omega)
  rwa [show 208 + (a - 208) = a by omega] at this
theorem s_kdg (a : Nat) (h1 : 208 ≤ a) (h2 : a < 215) : gm_s a = true := by
  unfold gm_s
  rw [Bool.and_eq_true, Nat.blt_eq, Nat.blt_eq]
  omega
theorem s_len : am_SL 208 = 7 ∧ am_SL 209 = 4 ∧ am_SL 210 = 3 ∧ am_SL 211 = 4 ∧ am_SL 212 = 6 ∧ am_SL 213 = 17 ∧ am_SL 214 = 12 := by
  unfold am_SL am_stL
  decide +kernel
theorem s_chr : (∀ i, i < 7 → am_SC 213 i = am_SC 208 i ∧ am_SC 208 i ≠ am_z 32) ∧ (∀ i, i < 4 → am_SC 213 (8 + i) = am_SC 209 i ∧ am_SC 209 i ≠ am_z 32) ∧ (∀ i, i < 3 → am_SC 213 (13 + i) = am_SC 210 i ∧ am_SC 210 i ≠ am_z 32) ∧ (∀ i, i < 4 → am_SC 214 i = am_SC 211 i ∧ am_SC 211 i ≠ am_z 32) ∧ (∀ i, i < 6 → am_SC 214 (5 + i) = am_SC 212 i ∧ am_SC 212 i ≠ am_z 32) ∧ am_SC 213 7 = am_z 32 ∧ am_SC 213 12 = am_z 32 ∧ am_SC 213 16 = am_z 32 ∧ am_SC 214 4 = am_z 32 ∧ am_SC 214 11 = am_z 32 := by
  unfold am_SC am_sbyt am_stL am_s0
  decide +kernel
theorem s_at {a i : Nat} {h : am_Hp} (h1 : 208 ≤ a) (h2 : a < 213) (hi : i < am_SL a) (hl : am_SL a ≤ 100) : f_SCHR N a (am_z i) h = some (am_SC a i, h) := by
  have i1 : am_in (am_z (i : Int)) (am_SL a) = true := m_in hi (by omega)
  unfold f_SCHR
  simp (disch := omega) only [s_kd a h1 h2, i1, Bool.and_self, cond_true, am_z_cl, Int.toNat_natCast]
/-- the token is the word that text a holds -/
theorem s_atg {a i : Nat} {h : am_Hp} (h1 : 208 ≤ a) (h2 : a < 215) (hi : i < am_SL a) (hl : am_SL a ≤ 100) : g_SCHR N a (am_z i) h = some (am_SC a i, h) := by
  have i1 : am_in (am_z (i : Int)) (am_SL a) = true := m_in hi (by omega)
  unfold g_SCHR
  simp (disch := omega) only [s_kdg a h1 h2, i1, Bool.and_self, cond_true, am_z_cl, Int.toNat_natCast]
/-- the token is the word that text a holds -/
def isW (B : Nat → Nat) (s e a : Nat) : Prop := e = s + am_SL a ∧ ∀ i, i < am_SL a → am_z (B (s + i)) = am_SC a i
theorem c_isWL {h : am_Hp} {s e a : Nat} (b : cB h L B) (he : e ≤ L) (h4 : h 1 4 = am_z s) (h1 : 208 ≤ a) (h2 : a < 213) (hl : am_SL a ≤ 100) (hw : e = s + am_SL a) : ∀ (k j n : Nat), j + k = am_SL a → k < n → ((∀ i, j ≤ i → i < am_SL a → am_z (B (s + i)) = am_SC a i) → l_X7_isWord_23 N n a (am_z j) h = some (am_z 1, h)) ∧ (¬ (∀ i, j ≤ i → i < am_SL a → am_z (B (s + i)) = am_SC a i) → l_X7_isWord_23 N n a (am_z j) h = some (am_z 0, h))
  | k, j, 0, _, hx => by omega
  | 0, j, n + 1, hj, _ => by
    have e1 : j = am_SL a := by omega
    unfold l_X7_isWord_23 f_SLEN
    simp only [s_kd a h1 h2, cond_true, am_bi_s, am_z_nat, e1, if_pos (Int32.le_refl _), am_z_lit, am_z_and1, if_true]
    exact ⟨fun _ => by first | rfl | trivial, fun z => absurd (fun i p q => by omega) z⟩
  | k + 1, j, n + 1, hj, hx => by
    have b1 := b.1
    have z : ¬ (am_z (am_SL a : Int) ≤ am_z (j : Int)) := by rw [am_z_le (by omega) (by omega) (by omega) (by omega)]; omega
    have e3 : (s : Int) + j = ((s + j : Nat) : Int) := by omega
    have e4 : (j : Int) + 1 = ((j + 1 : Nat) : Int) := by omega
    obtain ⟨ih1, ih2⟩ := c_isWL b he h4 h1 h2 hl hw k (j + 1) n (by omega) (by omega)
    unfold l_X7_isWord_23 f_SLEN
    simp only [s_kd a h1 h2, cond_true, am_bi_s, am_z_nat, if_neg z, h4, am_z_add, e3, c_byte b (show s + j < L by omega), s_at h1 h2 (show j < am_SL a by omega) hl, am_z_lit, e4, am_z_and0, if_true]
    by_cases q : am_z (B (s + j) : Int) = am_SC a j
    · simp only [if_pos q]
      refine ⟨fun w => ih1 (fun i p r => w i (by omega) r), fun w => ih2 (fun y => w (fun i p r => ?_))⟩
      by_cases z : i = j
      · subst z; exact q
      · exact y i (by omega) r
    · simp only [if_neg q]
      exact ⟨fun w => absurd (w j (Nat.le_refl _) (by omega)) q, fun _ => trivial⟩
theorem c_isW {h : am_Hp} {s e a : Nat} (hN : 1000 ≤ N) (b : cB h L B) (hs : s ≤ e) (he : e ≤ L) (h3 : h 1 3 = am_z 1) (h4 : h 1 4 = am_z s) (h5 : h 1 5 = am_z e) (h1 : 208 ≤ a) (h2 : a < 213) (hl : am_SL a ≤ 100) : (isW B s e a → f_X7_isWord N a h = some (am_z 1, h)) ∧ (¬ isW B s e a → f_X7_isWord N a h = some (am_z 0, h)) := by
  have b1 := b.1
  have e3 : (e : Int) - s = ((e - s : Nat) : Int) := by omega
  have ec : (am_z ((e - s : Nat) : Int) = am_z (am_SL a : Int)) = (e = s + am_SL a) := by
    rw [am_z_eq (by omega) (by omega) (by omega) (by omega)]; refine propext ?_; omega
  unfold f_X7_isWord f_X7_tokenLength f_SLEN
  simp only [am_z_lit, h3, if_true, h4, h5, am_z_sub, e3, am_bi_s, s_kd a h1 h2, cond_true, am_z_nat, ec, am_z_and0]
  by_cases q : e = s + am_SL a
  · obtain ⟨r1, r2⟩ := c_isWL (N := N) b he h4 h1 h2 hl q (am_SL a) 0 N (by omega) (by omega)
    simp only [if_pos q]
    refine ⟨fun w => r1 (fun i _ p => w.2 i p), fun w => r2 (fun y => w ⟨q, fun i p => y i (Nat.zero_le _) p⟩)⟩
  · simp only [if_neg q]
    exact ⟨fun w => absurd w.1 q, fun _ => trivial⟩
theorem c_isW0 {h : am_Hp} {a : Nat} (h3 : h 1 3 ≠ am_z 1) : f_X7_isWord N a h = some (am_z 0, h) := by
  unfold f_X7_isWord
  simp only [am_z_lit, if_neg h3, am_z_and0, if_true]
end WORD
