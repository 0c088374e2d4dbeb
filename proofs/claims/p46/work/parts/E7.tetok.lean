section TE7
variable {N L : Nat} {B : Nat → Nat} {h : am_Hp}
theorem te_scW : ∀ (d k p : Nat), (∀ i, p ≤ i → i < p + d → B i = 32) → d ≤ k → (d < k → ¬ (B (p + d) = 32 ∨ B (p + d) = 10)) → scW B k p = p + d
  | 0, 0, p, _, _, _ => rfl
  | 0, k + 1, p, _, _, h => by
    have h9 : ¬ (B p = 32 ∨ B p = 10) := h (by omega)
    rw [scW, if_neg h9]
    rfl
  | d + 1, 0, p, _, h, _ => by omega
  | d + 1, k + 1, p, h1, h2, h3 => by
    rw [scW, if_pos (Or.inl (h1 p (by omega) (by omega))), te_scW d k (p + 1) (fun i a b => h1 i (by omega) (by omega)) (by omega) (fun z => by
      have := h3 (by omega)
      rwa [show p + (d + 1) = p + 1 + d by omega] at this)]
    omega
theorem te_scE {K : Nat} : ∀ (d k e : Nat), (∀ i, e ≤ i → i < e + d → kd (B i) = K) → d ≤ k → (d < k → ¬ kd (B (e + d)) = K) → scE B K k e = e + d
  | 0, 0, e, _, _, _ => rfl
  | 0, k + 1, e, _, _, h => by
    have h9 : ¬ kd (B e) = K := h (by omega)
    rw [scE, if_neg h9]
    rfl
  | d + 1, 0, e, _, h, _ => by omega
  | d + 1, k + 1, e, h1, h2, h3 => by
    rw [scE, if_pos (h1 e (by omega) (by omega)), te_scE d k (e + 1) (fun i a b => h1 i (by omega) (by omega)) (by omega) (fun z => by
      have := h3 (by omega)
      rwa [show e + (d + 1) = e + 1 + d by omega] at this)]
    omega
theorem te_k32 : kd 32 = 4 ∧ kd 10 = 4 ∧ kd 59 = 3 := by decide
theorem te_tk {p d n K : Nat} (hp : p + d + n ≤ L) (hd : ∀ i, p ≤ i → i < p + d → B i = 32) (hK : K = 1 ∨ K = 2) (hn : 1 ≤ n) (hk : ∀ i, p + d ≤ i → i < p + d + n → kd (B i) = K) (he : p + d + n < L → ¬ kd (B (p + d + n)) = K) : tkS B L p = p + d ∧ tkK B L p = K ∧ tkE B L p = p + d + n := by
  have k0 := hk (p + d) (Nat.le_refl _) (by omega)
  have nsp : ¬ (B (p + d) = 32 ∨ B (p + d) = 10) := by
    intro z
    rcases z with z | z <;> rw [z] at k0
    · rw [te_k32.1] at k0; omega
    · rw [te_k32.2.1] at k0; omega
  have s : tkS B L p = p + d := te_scW d (L - p) p hd (by omega) (fun _ => nsp)
  have k : tkK B L p = K := by
    unfold tkK
    rw [s, if_pos (by omega), k0]
  refine ⟨s, k, ?_⟩
  unfold tkE
  rw [k, s, if_neg (by omega), if_pos (by omega)]
  exact te_scE n (L - (p + d)) (p + d) hk (by omega) (fun z => he (by omega))
theorem te_tk3 {p d : Nat} (hp : p + d < L) (hd : ∀ i, p ≤ i → i < p + d → B i = 32) (h59 : B (p + d) = 59) : tkS B L p = p + d ∧ tkK B L p = 3 ∧ tkE B L p = p + d + 1 := by
  have s : tkS B L p = p + d := te_scW d (L - p) p hd (by omega) (fun _ => by rw [h59]; decide)
  have k : tkK B L p = 3 := by
    unfold tkK
    rw [s, if_pos hp, h59]
    exact te_k32.2.2
  refine ⟨s, k, ?_⟩
  unfold tkE
  rw [k, s, if_neg (by decide), if_neg (by decide)]
theorem te_tk0 : tkK B L L = 0 := by
  unfold tkK tkS
  rw [Nat.sub_self, scW, if_neg (by omega)]
/-- what the class holds when it has read the token behind p -/
def te_J (h : am_Hp) (L : Nat) (B : Nat → Nat) (p : Nat) : Prop := cB h L B ∧ h 1 4 = am_z ((tkS B L p : Nat) : Int) ∧ h 1 3 = am_z ((tkK B L p : Nat) : Int) ∧ h 1 5 = am_z ((tkE B L p : Nat) : Int)
theorem te_adv {p : Nat} (hN : 1000 ≤ N) (b : cB h L B) (hp : p ≤ L) (h5 : h 1 5 = am_z (p : Int)) : ∃ h', f_X7_advance N h = some ((), h') ∧ te_J h' L B p ∧ ∀ a, a ≠ 1 → h' a = h a := by
  refine ⟨_, c_adv hN b hp h5, ⟨cB_p (by decide) (cB_p (by decide) (cB_p (by decide) b)), ?_, ?_, am_pi_s _ _ _ _⟩, fun a ha => by rw [qc_pia ha, qc_pia ha, qc_pia ha]⟩
  · rw [am_pi_k (by decide), am_pi_k (by decide), am_pi_s]
  · rw [am_pi_k (by decide), am_pi_s]
theorem te_cBp {x k : Nat} {v : Int32} (h1 : x ≠ 1) (h2 : x ≠ 2) (b : cB h L B) : cB (am_pi h x k v) L B :=
  ⟨b.1, by rw [am_pi_a (Ne.symm h1)]; exact b.2.1, fun i hi => by rw [am_pi_a (Ne.symm h2)]; exact b.2.2 i hi⟩
theorem te_dk {x : Nat} (hx : x < 100) : ∀ j, j < (te_d x).length → 48 ≤ (te_d x).getD j 0 ∧ (te_d x).getD j 0 ≤ 57 := by
  intro j hj
  unfold te_d at hj ⊢
  by_cases h : x < 10
  · rw [if_pos h] at hj ⊢
    have : j = 0 := by
      have : [48 + x].length = 1 := rfl
      omega
    subst this
    show 48 ≤ 48 + x ∧ 48 + x ≤ 57
    omega
  · rw [if_neg h] at hj ⊢
    have : [48 + x / 10, 48 + x % 10].length = 2 := rfl
    rcases (show j = 0 ∨ j = 1 by omega) with rfl | rfl
    · show 48 ≤ 48 + x / 10 ∧ 48 + x / 10 ≤ 57
      omega
    · show 48 ≤ 48 + x % 10 ∧ 48 + x % 10 ≤ 57
      omega
theorem te_kd2 {b : Nat} (h1 : 48 ≤ b) (h2 : b ≤ 57) : kd b = 2 := by
  unfold kd
  rw [if_neg (by omega), if_pos ⟨h1, h2⟩]
theorem te_dm {x s : Nat} (hx : x < 100) (hB : ∀ j, j < (te_d x).length → B (s + j) = (te_d x).getD j 0) : mv B s (te_d x).length = x := by
  unfold te_d at hB ⊢
  by_cases h : x < 10
  · rw [if_pos h] at hB ⊢
    have b0 : B (s + 0) = 48 + x := hB 0 Nat.zero_lt_one
    show mv B s 1 = x
    rw [mv, mv, if_pos (by decide), b0]
    omega
  · rw [if_neg h] at hB ⊢
    have b0 : B (s + 0) = 48 + x / 10 := hB 0 (Nat.succ_pos 1)
    have b1 : B (s + 1) = 48 + x % 10 := hB 1 (Nat.lt_succ_self 1)
    have m1 : mv B s 1 = x / 10 := by
      rw [mv, mv, if_pos (by decide), b0]
      omega
    show mv B s 2 = x
    rw [mv, m1, if_pos (by omega), b1]
    omega
/-- a number is read -/
theorem te_rdn {p s x lo hi : Nat} (hN : 1000 ≤ N) (b : cB h L B) (h5 : h 1 5 = am_z (p : Int)) (es : s = p + 1) (hsp : B p = 32) (hx : x < 100) (hB : ∀ j, j < (te_d x).length → B (s + j) = (te_d x).getD j 0) (hend : B (s + (te_d x).length) = 32 ∨ B (s + (te_d x).length) = 59) (hL : s + (te_d x).length < L) (h1 : lo ≤ x) (h2 : x ≤ hi) (h3 : hi < 1000) :
    ∃ h', f_X1_readNumber N (am_z (lo : Int)) (am_z (hi : Int)) h = some (am_z 0, h') ∧ cB h' L B ∧ h' 1 4 = am_z (s : Int) ∧ h' 1 5 = am_z ((s + (te_d x).length : Nat) : Int) ∧ (∀ a, a ≠ 1 → h' a = h a) ∧ ∀ g, cB g L B → g 1 4 = am_z (s : Int) → g 1 5 = am_z ((s + (te_d x).length : Nat) : Int) → f_X7_number N g = some (am_z (x : Int), g) := by
  subst es
  have dl := te_dl (x := x)
  have dk := te_dk hx
  have hmv := te_dm hx hB
  have hdig : ∀ i, p + 1 ≤ i → i < p + 1 + (te_d x).length → 48 ≤ B i ∧ B i ≤ 57 := fun i a c => by
    have := hB (i - (p + 1)) (by omega)
    rw [show p + 1 + (i - (p + 1)) = i by omega] at this
    rw [this]
    exact dk _ (by omega)
  obtain ⟨t1, t2, t3⟩ := te_tk (B := B) (L := L) (p := p) (d := 1) (n := (te_d x).length) (K := 2) (by omega) (fun i a c => by rw [show i = p by omega]; exact hsp) (Or.inr rfl) dl.1 (fun i a c => te_kd2 (hdig i a c).1 (hdig i a c).2) (fun _ z => by
    rcases hend with e | e <;> rw [e] at z
    · rw [te_k32.1] at z; omega
    · rw [te_k32.2.2] at z; omega)
  obtain ⟨h', A, ⟨J1, J2, J3, J4⟩, f⟩ := te_adv (h := h) hN b (show p ≤ L by omega) h5
  rw [t1] at J2
  rw [t2] at J3
  rw [t3] at J4
  have num : ∀ g, cB g L B → g 1 4 = am_z ((p + 1 : Nat) : Int) → g 1 5 = am_z ((p + 1 + (te_d x).length : Nat) : Int) → f_X7_number N g = some (am_z (x : Int), g) := fun g q1 q2 q3 => by
    have q := c_num (N := N) (h := g) (s := p + 1) (e := p + 1 + (te_d x).length) hN q1 (by omega) (by omega) q2 q3 hdig
    rw [Nat.add_sub_cancel_left, hmv, show min x 1000 = x by omega] at q
    exact q
  have n1 := num h' J1 J2 J4
  have J3' : h' 1 3 = (2 : Int32) := J3
  have c1 : ¬ (am_z (x : Int) < am_z (lo : Int)) := te_lti (by omega) (by omega) (by omega) (by omega) (by omega)
  have c2 : am_z (x : Int) ≤ am_z (hi : Int) := te_lej (by omega) (by omega) (by omega) (by omega) (by omega)
  refine ⟨h', ?_, J1, J2, J4, f, num⟩
  unfold f_X1_readNumber
  rw [A, am_bi_s, if_pos J3', n1, am_bi_s, if_neg c1, n1, am_bi_s, if_pos c2]
  rfl
-- ---- names
theorem te_lt5c {B' : Nat → Nat} {s e s' e' : Nat} : ∀ n, (∀ j, j < n → (s + j < e ↔ s' + j < e') ∧ (s + j < e → B (s + j) = B' (s' + j))) → lt5 B s e n = lt5 B' s' e' n
  | 0, _ => rfl
  | n + 1, hh => by
    obtain ⟨h1, h2⟩ := hh n (by omega)
    rw [lt5, lt5, te_lt5c n (fun j hj => hh j (by omega))]
    by_cases q : s + n < e
    · rw [if_pos q, if_pos (h1.mp q), h2 q]
    · rw [if_neg q, if_neg (fun z => q (h1.mpr z))]
def te_nm (c i : Nat) : Int32 := lt5 (fun j => if j = 0 then c else 97 + i) 0 2 6
theorem te_nmd : ∀ i, i < 6 → ∀ j, j < i → te_nm 115 j ≠ te_nm 115 i ∧ te_nm 117 j ≠ te_nm 117 i := by decide +kernel
theorem te_lt5 {s c i : Nat} (h0 : B s = c) (h1 : B (s + 1) = 97 + i) : lt5 B s (s + 2) 6 = te_nm c i := by
  refine te_lt5c 6 (fun j hj => ⟨by omega, fun q => ?_⟩)
  rcases (show j = 0 ∨ j = 1 by omega) with rfl | rfl
  · exact h0
  · exact h1
theorem te_fidx {V : Nat → Int32} {x : Int32} : ∀ n j, (∀ k, j ≤ k → k < j + n → V k ≠ x) → fIdx V x n j = am_z (-1)
  | 0, j, _ => rfl
  | n + 1, j, hh => by
    rw [fIdx, if_neg (hh j (Nat.le_refl _) (by omega))]
    exact te_fidx n (j + 1) (fun k a b => hh k (by omega) (by omega))
/-- how a declaration lies behind its first word -/
def te_sh (B : Nat → Nat) (q c i w t : Nat) : Prop := B q = 32 ∧ B (q + 1) = c ∧ B (q + 2) = 97 + i ∧ B (q + 3) = 32 ∧ (∀ j, j < (te_d w).length → B (q + 4 + j) = (te_d w).getD j 0) ∧ B (q + 4 + (te_d w).length) = 32 ∧ (∀ j, j < (te_d t).length → B (q + 4 + (te_d w).length + 1 + j) = (te_d t).getD j 0) ∧ B (q + 4 + (te_d w).length + 1 + (te_d t).length) = 59
theorem te_decl {T a most q c i w t : Nat} (hN : 1000 ≤ N) (hT : tO T) (b : cB h L B) (h5 : h 1 5 = am_z (q : Int)) (hS : te_sh B q c i w t) (hL : q + 4 + (te_d w).length + 1 + (te_d t).length < L) (hc : 97 ≤ c ∧ c ≤ 122) (hi : i < 20) (hw : 2 ≤ w ∧ w ≤ 16) (ht : 1 ≤ t ∧ t ≤ 6) (h0 : h T 0 = am_z (most : Int)) (h4 : h T 4 = am_z (a : Int)) (ha : a < most) (hm : most ≤ 6) (hV : ∀ k, k < a → h (T + 1) k = te_nm c k) (hd : ∀ k, k < a → te_nm c k ≠ te_nm c i) :
    ∃ h', f_X1_readDeclaration N T h = some (am_z 0, h') ∧ cB h' L B ∧ h' 1 5 = am_z ((q + 4 + (te_d w).length + 1 + (te_d t).length : Nat) : Int) ∧ h' T 4 = am_z ((a + 1 : Nat) : Int) ∧ (∀ k, k ≠ 4 → h' T k = h T k) ∧ (∀ k, h' (T + 1) k = if k = a then te_nm c i else h (T + 1) k) ∧ ∀ x, x ≠ 1 → ¬ (T ≤ x ∧ x ≤ T + 3) → h' x = h x := by
  obtain ⟨s0, s1, s2, s3, s4, s5, s6, s7⟩ := hS
  have b1 := b.1
  obtain ⟨g8, gg1, gg2, gg3, gi1, gi2, gi3, gl1, gl2, gl3⟩ := tO_f hT
  have kl : ∀ y, 97 ≤ y → y ≤ 122 → kd y = 1 := fun y p1 p2 => by unfold kd; rw [if_pos ⟨p1, p2⟩]
  obtain ⟨t1, t2, t3⟩ := te_tk (B := B) (L := L) (p := q) (d := 1) (n := 2) (K := 1) (by omega) (fun i a c => by rw [show i = q by omega]; exact s0) (Or.inl rfl) (by decide) (fun j p1 p2 => by
    rcases (show j = q + 1 ∨ j = q + 2 by omega) with rfl | rfl
    · rw [s1]; exact kl _ hc.1 hc.2
    · rw [s2]; exact kl _ (by omega) (by omega)) (fun _ z => by
    rw [show q + 1 + 2 = q + 3 from rfl, s3, te_k32.1] at z
    omega)
  obtain ⟨g1, A1, ⟨J1, J2, J3, J4⟩, f1⟩ := te_adv (h := h) hN b (show q ≤ L by omega) h5
  rw [t1] at J2
  rw [t2] at J3
  rw [t3] at J4
  have zk : g1 1 3 = am_z 1 := J3
  have cl := c_let (N := N) (h := g1) (s := q + 1) (e := q + 1 + 2) hN J1 (by omega) J2 J4 (by omega)
  rw [te_lt5 (s := q + 1) (c := c) (i := i) s1 s2] at cl
  have hT1 : T ≠ 1 ∧ T + 1 ≠ 1 := by rcases hT with rfl | rfl | rfl | rfl <;> decide
  have cx : f_X8_indexOf N T (te_nm c i) g1 = some (fIdx (te_nm c) (te_nm c i) a 0, g1) := c_idxL (N := N) (a := a) hT (by omega) (by rw [f1 T hT1.1]; exact h4) (fun k hk => by rw [f1 (T + 1) hT1.2]; exact hV k hk) a 0 N (by omega) (by omega)
  rw [te_fidx a 0 (fun k _ p2 => hd k (by omega))] at cx
  obtain ⟨g2, A2, c2, d4, d5, f2, num2⟩ := te_rdn (N := N) (h := g1) (p := q + 3) (s := q + 4) (x := w) (lo := 2) (hi := 16) hN J1 J4 rfl s3 (by omega) s4 (Or.inl s5) (by omega) hw.1 hw.2 (by decide)
  obtain ⟨g3, A3, c3, d34, d35, f3, num3⟩ := te_rdn (N := N) (h := g2) (p := q + 4 + (te_d w).length) (s := q + 4 + (te_d w).length + 1) (x := t) (lo := 1) (hi := 6) hN c2 d5 rfl s5 (by omega) s6 (Or.inr s7) (by omega) ht.1 ht.2 (by decide)
  have n2 := num2 g2 c2 d4 d5
  have n3 := num3 g3 c3 d34 d35
  have A2' : f_X1_readNumber N (am_z 2) (am_z 16) g1 = some (am_z 0, g2) := A2
  have A3' : f_X1_readNumber N (am_z 1) (am_z 6) g2 = some (am_z 0, g3) := A3
  have c3a : ∀ x, x ≠ 1 → g3 x = h x := fun x hx => by rw [f3 x hx, f2 x hx, f1 x hx]
  have ad := c_add (N := N) (h := g3) (x := te_nm c i) (w := am_z (w : Int)) (t := am_z (t : Int)) (most := most) hT (by rw [c3a _ hT1.1]; exact h0) (by rw [c3a _ hT1.1]; exact h4) ha hm
  have e3 : ((q + 1 + 2 : Nat) : Int) - ((q + 1 : Nat) : Int) = 2 := by omega
  have z6 : am_z 2 ≤ am_z 6 := by decide
  have nTa : ∀ x, x = 1 ∨ x = 2 → x ≠ T ∧ x ≠ T + 1 ∧ x ≠ T + 2 ∧ x ≠ T + 3 := fun x hx => by
    rcases hT with rfl | rfl | rfl | rfl <;> omega
  have n1 := nTa 1 (Or.inl rfl)
  have n22 := nTa 2 (Or.inr rfl)
  refine ⟨am_pi (am_pi (am_pi (am_pi g3 (T + 1) a (te_nm c i)) (T + 2) a (am_z (w : Int))) (T + 3) a (am_z (t : Int))) T 4 (am_z ((a + 1 : Nat) : Int)), ?_, te_cBp (Ne.symm n1.1) (Ne.symm n22.1) (te_cBp (Ne.symm n1.2.2.2) (Ne.symm n22.2.2.2) (te_cBp (Ne.symm n1.2.2.1) (Ne.symm n22.2.2.1) (te_cBp (Ne.symm n1.2.1) (Ne.symm n22.2.1) c3))), ?_, am_pi_s _ _ _ _, fun k hk => ?_, fun k => ?_, fun x hx hx2 => ?_⟩
  · unfold f_X1_readDeclaration f_X7_tokenLength
    simp only [g8, cond_true, c_full (most := most) hT h0 h4 (by omega) hm, if_neg (show ¬ a = most by omega), am_bi_s, am_z_lit, am_z_neg, if_true, A1, zk, J2, J4, am_z_sub, e3, if_pos z6, cl, cx, A2', n2, A3', n3, ad]
  · rw [am_pi_a n1.1, am_pi_a n1.2.2.2, am_pi_a n1.2.2.1, am_pi_a n1.2.1]
    exact d35
  · rw [am_pi_k hk, am_pi_a (by omega), am_pi_a (by omega), am_pi_a (by omega), c3a _ hT1.1]
  · rw [am_pi_a (by omega), am_pi_a (by omega), am_pi_a (by omega), am_pi_ap, c3a _ hT1.2]
    by_cases q9 : k = a
    · rw [if_pos ⟨rfl, q9⟩, if_pos q9]
    · rw [if_neg (fun z => q9 z.2), if_neg q9]
  · rw [qc_pia (by omega), qc_pia (by omega), qc_pia (by omega), qc_pia (by omega)]
    exact c3a x hx
end TE7
