section TE8
variable {N L : Nat} {B : Nat → Nat} {h : am_Hp}
def te_seg (B : Nat → Nat) (p : Nat) (xs : List Nat) : Prop := ∀ j, j < xs.length → B (p + j) = xs.getD j 0
theorem te_segA {p : Nat} {xs ys : List Nat} (hh : te_seg B p (xs ++ ys)) : te_seg B p xs ∧ te_seg B (p + xs.length) ys := by
  refine ⟨fun j hj => ?_, fun j hj => ?_⟩
  · rw [hh j (by rw [List.length_append]; omega), te_gaL hj]
  · have := hh (xs.length + j) (by rw [List.length_append]; omega)
    rw [te_gaR (by omega), Nat.add_sub_cancel_left] at this
    rw [← this, Nat.add_assoc]
theorem te_wd : (∀ j, j < 7 → am_SC 208 j = am_z (((te_C 5).getD j 0 : Nat) : Int) ∧ kd ((te_C 5).getD j 0) = 1) ∧ (∀ j, j < 4 → am_SC 209 j = am_z (((te_C 6).getD j 0 : Nat) : Int) ∧ kd ((te_C 6).getD j 0) = 1) ∧ (∀ j, j < 3 → am_SC 210 j = am_z (((te_C 3).getD j 0 : Nat) : Int) ∧ kd ((te_C 3).getD j 0) = 1 ∧ am_SC 210 j = am_z (((te_C 7).getD j 0 : Nat) : Int) ∧ kd ((te_C 7).getD j 0) = 1) ∧ (∀ j, j < 4 → am_SC 211 j = am_z (((te_C 3).getD (4 + j) 0 : Nat) : Int) ∧ kd ((te_C 3).getD (4 + j) 0) = 1) ∧ (∀ j, j < 6 → am_SC 212 j = am_z (((te_C 7).getD (4 + j) 0 : Nat) : Int) ∧ kd ((te_C 7).getD (4 + j) 0) = 1) := by decide +kernel
theorem te_sp : (te_C 5).getD 7 0 = 32 ∧ (te_C 6).getD 4 0 = 32 ∧ (te_C 3).getD 3 0 = 32 ∧ (te_C 3).getD 8 0 = 32 ∧ (te_C 7).getD 3 0 = 32 ∧ (te_C 7).getD 10 0 = 32 ∧ (te_C 0).getD 0 0 = 32 ∧ (te_C 4).getD 0 0 = 59 := by decide
/-- the draft while the text is read -/
def te_D (a b g0 g1 : Nat) (h : am_Hp) : Prop := (h 15 0 = am_z 4 ∧ h 19 0 = am_z 6) ∧ h 4 0 = am_z 4 ∧ h 8 0 = am_z 6 ∧ h 4 4 = am_z (a : Int) ∧ h 8 4 = am_z (b : Int) ∧ h 13 0 = am_z (g0 : Int) ∧ h 13 1 = am_z (g1 : Int) ∧ (∀ k, k < a → h 5 k = te_nm 115 k) ∧ ∀ k, k < b → h 9 k = te_nm 117 k
theorem te_D_fr {a b g0 g1 : Nat} {h' : am_Hp} (f : ∀ x, x ≠ 1 → h' x = h x) (D : te_D a b g0 g1 h) : te_D a b g0 g1 h' := by
  unfold te_D at D ⊢
  rw [f 4 (by decide), f 5 (by decide), f 8 (by decide), f 9 (by decide), f 13 (by decide), f 15 (by decide), f 19 (by decide)]
  exact D
theorem te_shape {k c i w t p wl : Nat} (hk : (te_C k).length = wl + 1) (hsp : (te_C k).getD wl 0 = 32) (hs : te_seg B p (te_st k [c] i w t)) : te_sh B (p + wl) c i w t ∧ te_seg B p (te_C k) ∧ (te_st k [c] i w t).length = wl + 4 + (te_d w).length + 1 + (te_d t).length + 1 := by
  obtain ⟨y0, y1, y2, y3, y4, y5, y6, y7⟩ := te_sp
  obtain ⟨z0, z1, z2, z3, z4, z5, z6, z7⟩ := te_Cl
  have hl : (te_st k [c] i w t).length = wl + 4 + (te_d w).length + 1 + (te_d t).length + 1 := by
    unfold te_st
    simp only [List.length_append, List.length_cons, List.length_nil]
    omega
  unfold te_st at hs
  obtain ⟨s1, hs⟩ := te_segA hs
  obtain ⟨s2, hs⟩ := te_segA hs
  obtain ⟨s3, hs⟩ := te_segA hs
  obtain ⟨s4, hs⟩ := te_segA hs
  obtain ⟨s5, hs⟩ := te_segA hs
  obtain ⟨s6, s7⟩ := te_segA hs
  have l2 : ([c] ++ [97 + i]).length = 2 := rfl
  rw [hk, l2] at s3 s4 s5 s6 s7
  rw [hk] at s2
  rw [z0] at s4 s5 s6 s7
  have a0 := s1 wl (by omega)
  have a1 := s2 0 (by rw [l2]; decide)
  have a2 := s2 1 (by rw [l2]; decide)
  have a3 := s3 0 (by omega)
  have a5 := s5 0 (by omega)
  have a7 := s7 0 (by omega)
  refine ⟨⟨by rw [a0, hsp], ?_, ?_, ?_, fun j hj => ?_, ?_, fun j hj => ?_, ?_⟩, s1, hl⟩
  · exact a1
  · exact a2
  · rw [y6] at a3; exact a3
  · have := s4 j hj
    rwa [show p + (wl + 1) + 2 + 1 + j = p + wl + 4 + j by omega] at this
  · rw [y6] at a5
    rwa [show p + (wl + 1) + 2 + 1 + (te_d w).length + 0 = p + wl + 4 + (te_d w).length by omega] at a5
  · have := s6 j hj
    rwa [show p + (wl + 1) + 2 + 1 + (te_d w).length + 1 + j = p + wl + 4 + (te_d w).length + 1 + j by omega] at this
  · rw [y7] at a7
    rwa [show p + (wl + 1) + 2 + 1 + (te_d w).length + 1 + (te_d t).length + 0 = p + wl + 4 + (te_d w).length + 1 + (te_d t).length by omega] at a7
/-- the first word of a statement -/
theorem te_fst {p wl : Nat} (hL : p + wl < L) (h1 : 1 ≤ wl) (hk : ∀ j, j < wl → kd (B (p + j)) = 1) (hsp : B (p + wl) = 32) (J : te_J h L B p) : tkK B L p = 1 ∧ h 1 3 = am_z 1 ∧ h 1 4 = am_z (p : Int) ∧ h 1 5 = am_z ((p + wl : Nat) : Int) := by
  obtain ⟨t1, t2, t3⟩ := te_tk (B := B) (L := L) (p := p) (d := 0) (n := wl) (K := 1) (by omega) (fun i a c => by omega) (Or.inl rfl) h1 (fun j a c => by
    have := hk (j - p) (by omega)
    rwa [show p + (j - p) = j by omega] at this) (fun _ z => by
    rw [show p + 0 + wl = p + wl from rfl, hsp, te_k32.1] at z
    omega)
  obtain ⟨J1, J2, J3, J4⟩ := J
  rw [t1] at J2
  rw [t2] at J3
  rw [t3] at J4
  exact ⟨t2, J3, J2, J4⟩
theorem te_cTk {q : Nat} (hN : 1000 ≤ N) (b : cB h L B) (h5 : h 1 5 = am_z (q : Int)) (hq : q < L) (h59 : B q = 59) : ∃ h', cT N (am_z 0) h = some (am_z 0, h') ∧ cB h' L B ∧ h' 1 5 = am_z ((q + 1 : Nat) : Int) ∧ ∀ a, a ≠ 1 → h' a = h a := by
  obtain ⟨t1, t2, t3⟩ := te_tk3 (B := B) (L := L) (p := q) (d := 0) hq (fun i a c => by omega) h59
  obtain ⟨h', A, ⟨J1, J2, J3, J4⟩, f⟩ := te_adv (h := h) hN b (show q ≤ L by omega) h5
  rw [t2] at J3
  rw [t3] at J4
  have J3' : h' 1 3 = am_z 3 := J3
  refine ⟨h', ?_, J1, J4, f⟩
  unfold cT
  rw [if_pos rfl, A, am_bi_s, if_pos J3']
theorem te_stS {a b g0 g1 p w t : Nat} (hN : 1000 ≤ N) (J : te_J h L B p) (D : te_D a b g0 g1 h) (ha : a < 4) (hs : te_seg B p (te_st 5 [115] a w t)) (hL : p + (te_st 5 [115] a w t).length ≤ L) (hw : 2 ≤ w ∧ w ≤ 16) (ht : 1 ≤ t ∧ t ≤ 6) :
    ∃ h', f_X1_readStatement N h = some (am_z 0, h') ∧ cB h' L B ∧ h' 1 5 = am_z ((p + (te_st 5 [115] a w t).length : Nat) : Int) ∧ te_D (a + 1) b g0 g1 h' ∧ tkK B L p = 1 := by
  obtain ⟨W1, W2, W3, W4, W5⟩ := te_wd
  obtain ⟨z0, z1, z2, z3, z4, z5, z6, z7⟩ := te_Cl
  obtain ⟨sh, s1, hl⟩ := te_shape (wl := 7) z5 te_sp.1 hs
  rw [hl] at hL ⊢
  have b1 := J.1.1
  obtain ⟨k1, c3, c4, c5⟩ := te_fst (wl := 7) (by omega) (by decide) (fun j hj => by rw [s1 j (by omega)]; exact (W1 j hj).2) sh.1 J
  obtain ⟨⟨ea, eb⟩, e1, e2, e3, e4, e5, e6, e7, e8⟩ := D
  have y1 := (c_isW (N := N) (B := B) (h := h) (s := p) (e := p + 7) (a := 208) hN J.1 (by omega) (by omega) c3 c4 c5 (by decide) (by decide) (by rw [s_len.1]; decide)).1 ⟨by rw [s_len.1], fun j hj => by
    rw [s_len.1] at hj
    rw [s1 j (by omega), (W1 j hj).1]⟩
  obtain ⟨h1, r1, r2, r3, r4, r5, r6, r7⟩ := te_decl (N := N) (T := 4) (a := a) (most := 4) (q := p + 7) (c := 115) (i := a) (w := w) (t := t) hN (by unfold tO; decide) J.1 c5 sh (by omega) (by decide) (by omega) hw ht e1 e3 ha (by decide) e7 (fun k hk => (te_nmd a (by omega) k hk).1)
  obtain ⟨h2, q1, q2, q3, q4⟩ := te_cTk (N := N) hN r2 r3 (by omega) sh.2.2.2.2.2.2.2
  refine ⟨h2, by rw [cs_0 y1 r1]; exact q1, q2, ?_, ?_, k1⟩
  · rw [q3]
    congr 2
    omega
  · refine te_D_fr q4 ⟨⟨by rw [r7 15 (by decide) (by decide)]; exact ea, by rw [r7 19 (by decide) (by decide)]; exact eb⟩, ?_, ?_, r4, ?_, ?_, ?_, fun k hk => ?_, fun k hk => ?_⟩
    · rw [r5 0 (by decide)]; exact e1
    · rw [r7 8 (by decide) (by decide)]; exact e2
    · rw [r7 8 (by decide) (by decide)]; exact e4
    · rw [r7 13 (by decide) (by decide)]; exact e5
    · rw [r7 13 (by decide) (by decide)]; exact e6
    · have := r6 k
      by_cases q : k = a
      · rw [if_pos q] at this
        rw [q] at this ⊢
        exact this
      · rw [if_neg q] at this
        exact this.trans (e7 k (by omega))
    · rw [r7 9 (by decide) (by decide)]; exact e8 k hk
theorem te_stU {a b g0 g1 p w t : Nat} (hN : 1000 ≤ N) (J : te_J h L B p) (D : te_D a b g0 g1 h) (hb : b < 6) (hs : te_seg B p (te_st 6 [117] b w t)) (hL : p + (te_st 6 [117] b w t).length ≤ L) (hw : 2 ≤ w ∧ w ≤ 16) (ht : 1 ≤ t ∧ t ≤ 6) :
    ∃ h', f_X1_readStatement N h = some (am_z 0, h') ∧ cB h' L B ∧ h' 1 5 = am_z ((p + (te_st 6 [117] b w t).length : Nat) : Int) ∧ te_D a (b + 1) g0 g1 h' ∧ tkK B L p = 1 := by
  obtain ⟨W1, W2, W3, W4, W5⟩ := te_wd
  obtain ⟨z0, z1, z2, z3, z4, z5, z6, z7⟩ := te_Cl
  obtain ⟨sh, s1, hl⟩ := te_shape (wl := 4) z6 te_sp.2.1 hs
  rw [hl] at hL ⊢
  have b1 := J.1.1
  obtain ⟨k1, c3, c4, c5⟩ := te_fst (wl := 4) (by omega) (by decide) (fun j hj => by rw [s1 j (by omega)]; exact (W2 j hj).2) sh.1 J
  obtain ⟨⟨ea, eb⟩, e1, e2, e3, e4, e5, e6, e7, e8⟩ := D
  have y1 := (c_isW (N := N) (B := B) (h := h) (s := p) (e := p + 4) (a := 208) hN J.1 (by omega) (by omega) c3 c4 c5 (by decide) (by decide) (by rw [s_len.1]; decide)).2 (fun z => by
    have := z.1
    rw [s_len.1] at this
    omega)
  have y2 := (c_isW (N := N) (B := B) (h := h) (s := p) (e := p + 4) (a := 209) hN J.1 (by omega) (by omega) c3 c4 c5 (by decide) (by decide) (by rw [s_len.2.1]; decide)).1 ⟨by rw [s_len.2.1], fun j hj => by
    rw [s_len.2.1] at hj
    rw [s1 j (by omega), (W2 j hj).1]⟩
  obtain ⟨h1, r1, r2, r3, r4, r5, r6, r7⟩ := te_decl (N := N) (T := 8) (a := b) (most := 6) (q := p + 4) (c := 117) (i := b) (w := w) (t := t) hN (by unfold tO; decide) J.1 c5 sh (by omega) (by decide) (by omega) hw ht e2 e4 hb (by decide) e8 (fun k hk => (te_nmd b (by omega) k hk).2)
  obtain ⟨h2, q1, q2, q3, q4⟩ := te_cTk (N := N) hN r2 r3 (by omega) sh.2.2.2.2.2.2.2
  refine ⟨h2, by rw [cs_1 y1 y2 r1]; exact q1, q2, ?_, ?_, k1⟩
  · rw [q3]
    congr 2
    omega
  · refine te_D_fr q4 ⟨⟨by rw [r7 15 (by decide) (by decide)]; exact ea, by rw [r7 19 (by decide) (by decide)]; exact eb⟩, ?_, ?_, ?_, r4, ?_, ?_, fun k hk => ?_, fun k hk => ?_⟩
    · rw [r7 4 (by decide) (by decide)]; exact e1
    · rw [r5 0 (by decide)]; exact e2
    · rw [r7 4 (by decide) (by decide)]; exact e3
    · rw [r7 13 (by decide) (by decide)]; exact e5
    · rw [r7 13 (by decide) (by decide)]; exact e6
    · rw [r7 5 (by decide) (by decide)]; exact e7 k hk
    · have := r6 k
      by_cases q : k = b
      · rw [if_pos q] at this
        rw [q] at this ⊢
        exact this
      · rw [if_neg q] at this
        exact this.trans (e8 k (by omega))
/-- a statement that sets something: 3 wait, 7 shrink -/
theorem te_stG {a b g0 g1 p x k : Nat} (hN : 1000 ≤ N) (J : te_J h L B p) (D : te_D a b g0 g1 h) (hk : (k = 3 ∧ g0 = 0 ∧ 1 ≤ x ∧ x ≤ 12) ∨ (k = 7 ∧ g1 = 0 ∧ x ≤ 1)) (hs : te_seg B p (te_C k ++ (te_d x ++ te_C 4))) (hL : p + (te_C k ++ (te_d x ++ te_C 4)).length ≤ L) :
    ∃ h', f_X1_readStatement N h = some (am_z 0, h') ∧ cB h' L B ∧ h' 1 5 = am_z ((p + (te_C k ++ (te_d x ++ te_C 4)).length : Nat) : Int) ∧ te_D a b (if k = 3 then 1 else g0) (if k = 3 then g1 else 1) h' ∧ tkK B L p = 1 := by
  obtain ⟨W1, W2, W3, W4, W5⟩ := te_wd
  obtain ⟨z0, z1, z2, z3, z4, z5, z6, z7⟩ := te_Cl
  obtain ⟨y0, y1, y2, y3, y4, y5, y6, y7⟩ := te_sp
  obtain ⟨sl1, sl2, sl3, sl4, sl5, -⟩ := s_len
  have dl := te_dl (x := x)
  obtain ⟨s1, hs⟩ := te_segA hs
  obtain ⟨s2, s3⟩ := te_segA hs
  have a3 := s3 0 (by omega)
  rw [y7, Nat.add_zero] at a3
  have hx : x < 100 := by omega
  have i0 : am_in (am_z 0) 2 = true := by decide
  have i1 : am_in (am_z 1) 2 = true := by decide
  have x0 : am_sx 206 0 = am_z 1 ∧ am_sx 207 0 = am_z 99 ∧ am_sx 206 1 = am_z 0 ∧ am_sx 207 1 = am_z 1 := by decide
  obtain ⟨x1, x2, x3, x4⟩ := x0
  rw [List.length_append, List.length_append, z4] at hL ⊢
  have kl3 : (te_C k).length = 9 ∧ k = 3 ∨ (te_C k).length = 11 ∧ k = 7 := by
    rcases hk with ⟨rfl, -⟩ | ⟨rfl, -⟩
    · exact Or.inl ⟨z3, rfl⟩
    · exact Or.inr ⟨z7, rfl⟩
  have hb3 : B (p + 3) = 32 := by
    rw [s1 3 (by omega)]
    rcases kl3 with ⟨-, rfl⟩ | ⟨-, rfl⟩
    · exact y2
    · exact y4
  have hw3 : ∀ j, j < 3 → am_z ((B (p + j) : Nat) : Int) = am_SC 210 j ∧ kd (B (p + j)) = 1 := by
    intro j hj
    rw [s1 j (by omega)]
    rcases kl3 with ⟨-, rfl⟩ | ⟨-, rfl⟩
    · exact ⟨(W3 j hj).1.symm, (W3 j hj).2.1⟩
    · exact ⟨(W3 j hj).2.2.1.symm, (W3 j hj).2.2.2⟩
  obtain ⟨k1, c3, c4, c5⟩ := te_fst (wl := 3) (by omega) (by decide) (fun j hj => (hw3 j hj).2) hb3 J
  obtain ⟨⟨ea, eb⟩, e1, e2, e3, e4, e5, e6, e7, e8⟩ := D
  have v1 := (c_isW (N := N) (B := B) (h := h) (s := p) (e := p + 3) (a := 208) hN J.1 (by omega) (by omega) c3 c4 c5 (by decide) (by decide) (by rw [sl1]; decide)).2 (fun z => by
    have := z.1
    rw [sl1] at this
    omega)
  have v2 := (c_isW (N := N) (B := B) (h := h) (s := p) (e := p + 3) (a := 209) hN J.1 (by omega) (by omega) c3 c4 c5 (by decide) (by decide) (by rw [sl2]; decide)).2 (fun z => by
    have := z.1
    rw [sl2] at this
    omega)
  have v3 := (c_isW (N := N) (B := B) (h := h) (s := p) (e := p + 3) (a := 210) hN J.1 (by omega) (by omega) c3 c4 c5 (by decide) (by decide) (by rw [sl3]; decide)).1 ⟨by rw [sl3], fun j hj => by
    rw [sl3] at hj
    exact (hw3 j hj).1⟩
  -- the name of the setting
  obtain ⟨g, A, J2, f⟩ := te_adv (h := h) hN J.1 (show p + 3 ≤ L by omega) c5
  have key : ∀ n : Nat, 4 + n + 1 = (te_C k).length → 1 ≤ n → (∀ j, j < n → kd ((te_C k).getD (4 + j) 0) = 1) → (te_C k).getD (4 + n) 0 = 32 → (∀ j, j < n → B (p + 4 + j) = (te_C k).getD (4 + j) 0) ∧ g 1 3 = am_z 1 ∧ g 1 4 = am_z ((p + 4 : Nat) : Int) ∧ g 1 5 = am_z ((p + 4 + n : Nat) : Int) ∧ B (p + 4 + n) = 32 := by
    intro n hn h1 hkk hsp
    have hB : ∀ j, j < n + 1 → B (p + 4 + j) = (te_C k).getD (4 + j) 0 := fun j hj => by
      rw [Nat.add_assoc]
      exact s1 (4 + j) (by omega)
    obtain ⟨t1, t2, t3⟩ := te_tk (B := B) (L := L) (p := p + 3) (d := 1) (n := n) (K := 1) (by omega) (fun i a c => by rw [show i = p + 3 by omega]; exact hb3) (Or.inl rfl) h1 (fun j q1 q2 => by
      have := hB (j - (p + 4)) (by omega)
      rw [show p + 4 + (j - (p + 4)) = j by omega] at this
      rw [this]
      exact hkk _ (by omega)) (fun _ z => by
      rw [show p + 3 + 1 + n = p + 4 + n from rfl, hB n (by omega), hsp, te_k32.1] at z
      omega)
    obtain ⟨-, J22, J23, J24⟩ := J2
    rw [t1] at J22
    rw [t2] at J23
    rw [t3] at J24
    exact ⟨fun j hj => hB j (by omega), J23, J22, J24, by rw [hB n (by omega), hsp]⟩
  have b1 := J.1.1
  rcases hk with ⟨rfl, rfl, hx1, hx2⟩ | ⟨rfl, rfl, hx2⟩
  · rw [z3] at s2 a3 hL ⊢
    obtain ⟨n1, n3, n4, n5, n6⟩ := key 4 z3.symm (by decide) (fun j hj => (W4 j hj).2) y3
    have v4 := (c_isW (N := N) (B := B) (h := g) (s := p + 4) (e := p + 4 + 4) (a := 211) hN J2.1 (by omega) (by omega) n3 n4 n5 (by decide) (by decide) (by rw [sl4]; decide)).1 ⟨by rw [sl4], fun j hj => by
      rw [sl4] at hj
      rw [n1 j hj, (W4 j hj).1]⟩
    obtain ⟨g2, R, d1, d2, d3, f2, num⟩ := te_rdn (N := N) (h := g) (p := p + 4 + 4) (s := p + 9) (x := x) (lo := 1) (hi := 99) hN J2.1 n5 rfl n6 hx s2 (Or.inr a3) (by omega) hx1 (by omega) (by decide)
    have R' : f_X1_readNumber N (am_z 1) (am_z 99) g = some (am_z 0, g2) := R
    have n7 := num (am_pi g2 13 0 (am_z 1)) (te_cBp (by decide) (by decide) d1) (by rw [am_pi_a (by decide)]; exact d2) (by rw [am_pi_a (by decide)]; exact d3)
    have e5' : g 13 0 = am_z 0 := by rw [f 13 (by decide)]; exact e5
    have rs : f_X1_readSetting N h = some (am_z 0, am_pi (am_pi g2 13 0 (am_z 1)) 12 0 (am_z (x : Int))) := by
      unfold f_X1_readSetting
      simp only [A, am_bi_s, v4, am_z_lit, if_neg z_10, i0, cond_true, e5', if_true, x1, x2, R', am_z_and1, n7]
    obtain ⟨h2, q1, q2, q3, q4⟩ := te_cTk (N := N) (h := am_pi (am_pi g2 13 0 (am_z 1)) 12 0 (am_z (x : Int))) (q := p + 9 + (te_d x).length) hN (te_cBp (by decide) (by decide) (te_cBp (by decide) (by decide) d1)) (by rw [am_pi_a (by decide), am_pi_a (by decide)]; exact d3) (by omega) a3
    have ga : ∀ y, y ≠ 1 → y ≠ 12 → y ≠ 13 → h2 y = h y := fun y p1 p2 p3 => by rw [q4 y p1, qc_pia p2, qc_pia p3, f2 y p1, f y p1]
    refine ⟨h2, by rw [cs_2 v1 v2 v3 rs]; exact q1, q2, ?_, ⟨⟨by rw [ga 15 (by decide) (by decide) (by decide)]; exact ea, by rw [ga 19 (by decide) (by decide) (by decide)]; exact eb⟩, ?_, ?_, ?_, ?_, ?_, ?_, fun k hk => ?_, fun k hk => ?_⟩, k1⟩
    · rw [q3]
      congr 2
      omega
    · rw [ga 4 (by decide) (by decide) (by decide)]; exact e1
    · rw [ga 8 (by decide) (by decide) (by decide)]; exact e2
    · rw [ga 4 (by decide) (by decide) (by decide)]; exact e3
    · rw [ga 8 (by decide) (by decide) (by decide)]; exact e4
    · rw [q4 13 (by decide), am_pi_a (by decide), am_pi_s]; rfl
    · rw [q4 13 (by decide), am_pi_a (by decide), am_pi_k (by decide), f2 13 (by decide), f 13 (by decide)]; exact e6
    · rw [ga 5 (by decide) (by decide) (by decide)]; exact e7 k hk
    · rw [ga 9 (by decide) (by decide) (by decide)]; exact e8 k hk
  · rw [z7] at s2 a3 hL ⊢
    obtain ⟨n1, n3, n4, n5, n6⟩ := key 6 z7.symm (by decide) (fun j hj => (W5 j hj).2) y5
    have v4 := (c_isW (N := N) (B := B) (h := g) (s := p + 4) (e := p + 4 + 6) (a := 211) hN J2.1 (by omega) (by omega) n3 n4 n5 (by decide) (by decide) (by rw [sl4]; decide)).2 (fun z => by
      have := z.1
      rw [sl4] at this
      omega)
    have v5 := (c_isW (N := N) (B := B) (h := g) (s := p + 4) (e := p + 4 + 6) (a := 212) hN J2.1 (by omega) (by omega) n3 n4 n5 (by decide) (by decide) (by rw [sl5]; decide)).1 ⟨by rw [sl5], fun j hj => by
      rw [sl5] at hj
      rw [n1 j hj, (W5 j hj).1]⟩
    obtain ⟨g2, R, d1, d2, d3, f2, num⟩ := te_rdn (N := N) (h := g) (p := p + 4 + 6) (s := p + 11) (x := x) (lo := 0) (hi := 1) hN J2.1 n5 rfl n6 hx s2 (Or.inr a3) (by omega) (by omega) hx2 (by decide)
    have R' : f_X1_readNumber N (am_z 0) (am_z 1) g = some (am_z 0, g2) := R
    have n7 := num (am_pi g2 13 1 (am_z 1)) (te_cBp (by decide) (by decide) d1) (by rw [am_pi_a (by decide)]; exact d2) (by rw [am_pi_a (by decide)]; exact d3)
    have e6' : g 13 1 = am_z 0 := by rw [f 13 (by decide)]; exact e6
    have rs : f_X1_readSetting N h = some (am_z 0, am_pi (am_pi g2 13 1 (am_z 1)) 12 1 (am_z (x : Int))) := by
      unfold f_X1_readSetting
      simp only [A, am_bi_s, v4, v5, am_z_lit, if_neg z_10, i1, cond_true, e6', if_true, x3, x4, R', am_z_and1, n7]
    obtain ⟨h2, q1, q2, q3, q4⟩ := te_cTk (N := N) (h := am_pi (am_pi g2 13 1 (am_z 1)) 12 1 (am_z (x : Int))) (q := p + 11 + (te_d x).length) hN (te_cBp (by decide) (by decide) (te_cBp (by decide) (by decide) d1)) (by rw [am_pi_a (by decide), am_pi_a (by decide)]; exact d3) (by omega) a3
    have ga : ∀ y, y ≠ 1 → y ≠ 12 → y ≠ 13 → h2 y = h y := fun y p1 p2 p3 => by rw [q4 y p1, qc_pia p2, qc_pia p3, f2 y p1, f y p1]
    refine ⟨h2, by rw [cs_2 v1 v2 v3 rs]; exact q1, q2, ?_, ⟨⟨by rw [ga 15 (by decide) (by decide) (by decide)]; exact ea, by rw [ga 19 (by decide) (by decide) (by decide)]; exact eb⟩, ?_, ?_, ?_, ?_, ?_, ?_, fun k hk => ?_, fun k hk => ?_⟩, k1⟩
    · rw [q3]
      congr 2
      omega
    · rw [ga 4 (by decide) (by decide) (by decide)]; exact e1
    · rw [ga 8 (by decide) (by decide) (by decide)]; exact e2
    · rw [ga 4 (by decide) (by decide) (by decide)]; exact e3
    · rw [ga 8 (by decide) (by decide) (by decide)]; exact e4
    · rw [q4 13 (by decide), am_pi_a (by decide), am_pi_k (by decide), f2 13 (by decide), f 13 (by decide)]; exact e5
    · rw [q4 13 (by decide), am_pi_a (by decide), am_pi_s]; rfl
    · rw [ga 5 (by decide) (by decide) (by decide)]; exact e7 k hk
    · rw [ga 9 (by decide) (by decide) (by decide)]; exact e8 k hk
-- ---- the loop over the statements
theorem te_step {p p' q n : Nat} {h' : am_Hp} (hN : 1000 ≤ N) (J : te_J h L B p) (hk : tkK B L p = 1) (hq : q < 600) (hst : f_X1_readStatement N h = some (am_z 0, h')) (b' : cB h' L B) (h5 : h' 1 5 = am_z (p' : Int)) (hp : p' ≤ L) : ∃ h3, l_X1_read_6 N (n + 1) (am_z (q : Int)) h = l_X1_read_6 N n (am_z ((q + 1 : Nat) : Int)) h3 ∧ te_J h3 L B p' ∧ ∀ a, a ≠ 1 → h3 a = h' a := by
  obtain ⟨h3, A, J3, f⟩ := te_adv (h := h') hN b' hp h5
  refine ⟨h3, ?_, J3, f⟩
  have c1 : ¬ (am_z 600 ≤ am_z (q : Int)) := te_lei (by omega) (by omega) (by omega) (by omega) (by omega)
  have c2 : h 1 3 = am_z 1 := by rw [J.2.2.1, hk]; rfl
  have e : am_z (q : Int) + am_z 1 = am_z ((q + 1 : Nat) : Int) := am_z_add _ _
  rw [l_X1_read_6]
  simp only [am_z_lit, if_neg c1, c2, if_neg z_10, hst, am_bi_s, if_true, A, e]
theorem te_lpS {b g0 g1 : Nat} {W : Nat → Nat × Nat} (hN : 1000 ≤ N) (hW : ∀ i, 2 ≤ (W i).1 ∧ (W i).1 ≤ 10 ∧ 1 ≤ (W i).2 ∧ (W i).2 ≤ 4) : ∀ (k i q n p : Nat) (h : am_Hp), i + k ≤ 4 → q + k ≤ 600 → te_J h L B p → te_D i b g0 g1 h → te_seg B p (te_ls 5 [115] W i k) → p + (te_ls 5 [115] W i k).length ≤ L →
    ∃ h', l_X1_read_6 N (n + k) (am_z (q : Int)) h = l_X1_read_6 N n (am_z ((q + k : Nat) : Int)) h' ∧ te_J h' L B (p + (te_ls 5 [115] W i k).length) ∧ te_D (i + k) b g0 g1 h'
  | 0, i, q, n, p, h, _, _, J, D, _, _ => ⟨h, rfl, J, D⟩
  | k + 1, i, q, n, p, h, h1, h2, J, D, hs, hL => by
    obtain ⟨w1, w2, w3, w4⟩ := hW i
    rw [te_ls] at hs hL ⊢
    rw [List.length_append] at hL ⊢
    obtain ⟨s1, s2⟩ := te_segA hs
    obtain ⟨hh, r1, r2, r3, r4, r5⟩ := te_stS (N := N) hN J D (by omega) s1 (by omega) ⟨w1, by omega⟩ ⟨w3, by omega⟩
    obtain ⟨h3, u1, u2, u3⟩ := te_step (N := N) (n := n + k) (q := q) hN J r5 (by omega) r1 r2 r3 (by omega)
    obtain ⟨h4, x1, x2, x3⟩ := te_lpS hN hW k (i + 1) (q + 1) n (p + (te_st 5 [115] i (W i).1 (W i).2).length) h3 (by omega) (by omega) u2 (te_D_fr u3 r4) s2 (by omega)
    refine ⟨h4, ?_, ?_, ?_⟩
    · show l_X1_read_6 N (n + k + 1) _ _ = _
      rw [u1, x1, show q + 1 + k = q + (k + 1) by omega]
    · rw [← Nat.add_assoc]; exact x2
    · rw [show i + (k + 1) = i + 1 + k by omega]; exact x3
theorem te_lpU {a g0 g1 : Nat} {W : Nat → Nat × Nat} (hN : 1000 ≤ N) (hW : ∀ i, 2 ≤ (W i).1 ∧ (W i).1 ≤ 10 ∧ 1 ≤ (W i).2 ∧ (W i).2 ≤ 4) : ∀ (k i q n p : Nat) (h : am_Hp), i + k ≤ 6 → q + k ≤ 600 → te_J h L B p → te_D a i g0 g1 h → te_seg B p (te_ls 6 [117] W i k) → p + (te_ls 6 [117] W i k).length ≤ L →
    ∃ h', l_X1_read_6 N (n + k) (am_z (q : Int)) h = l_X1_read_6 N n (am_z ((q + k : Nat) : Int)) h' ∧ te_J h' L B (p + (te_ls 6 [117] W i k).length) ∧ te_D a (i + k) g0 g1 h'
  | 0, i, q, n, p, h, _, _, J, D, _, _ => ⟨h, rfl, J, D⟩
  | k + 1, i, q, n, p, h, h1, h2, J, D, hs, hL => by
    obtain ⟨w1, w2, w3, w4⟩ := hW i
    rw [te_ls] at hs hL ⊢
    rw [List.length_append] at hL ⊢
    obtain ⟨s1, s2⟩ := te_segA hs
    obtain ⟨hh, r1, r2, r3, r4, r5⟩ := te_stU (N := N) hN J D (by omega) s1 (by omega) ⟨w1, by omega⟩ ⟨w3, by omega⟩
    obtain ⟨h3, u1, u2, u3⟩ := te_step (N := N) (n := n + k) (q := q) hN J r5 (by omega) r1 r2 r3 (by omega)
    obtain ⟨h4, x1, x2, x3⟩ := te_lpU hN hW k (i + 1) (q + 1) n (p + (te_st 6 [117] i (W i).1 (W i).2).length) h3 (by omega) (by omega) u2 (te_D_fr u3 r4) s2 (by omega)
    refine ⟨h4, ?_, ?_, ?_⟩
    · show l_X1_read_6 N (n + k + 1) _ _ = _
      rw [u1, x1, show q + 1 + k = q + (k + 1) by omega]
    · rw [← Nat.add_assoc]; exact x2
    · rw [show i + (k + 1) = i + 1 + k by omega]; exact x3
theorem te_read {k z nS nU : Nat} {W V : Nat → Nat × Nat} (hN : 1000 ≤ N) (h1 : 1 ≤ k ∧ k ≤ 12 ∧ z ≤ 1 ∧ nS ≤ 4 ∧ nU ≤ 6) (hW : ∀ i, 2 ≤ (W i).1 ∧ (W i).1 ≤ 10 ∧ 1 ≤ (W i).2 ∧ (W i).2 ≤ 4) (hV : ∀ i, 2 ≤ (V i).1 ∧ (V i).1 ≤ 10 ∧ 1 ≤ (V i).2 ∧ (V i).2 ≤ 4) (hL : L = (te_txt k W nS V nU z).length) (hs : te_seg B 0 (te_txt k W nS V nU z)) (J : te_J h L B 0) (D : te_D 0 0 0 0 h) :
    ∃ h', l_X1_read_6 N N (am_z 0) h = some (am_z ((2 + nS + nU : Nat) : Int), h') ∧ te_D nS nU 1 1 h' := by
  obtain ⟨k1, k2, k3, k4, k5⟩ := h1
  unfold te_txt at hs hL
  have hL2 : ∀ (a b c d : List Nat), (a ++ (b ++ (c ++ d))).length = a.length + (b.length + (c.length + d.length)) := fun a b c d => by
    rw [List.length_append, List.length_append, List.length_append]
  rw [hL2] at hL
  obtain ⟨s1, hs⟩ := te_segA hs
  obtain ⟨s2, hs⟩ := te_segA hs
  obtain ⟨s3, s4⟩ := te_segA hs
  rw [Nat.zero_add] at s2 s3 s4
  -- the first
  obtain ⟨g1, r1, r2, r3, r4, r5⟩ := te_stG (N := N) (k := 3) (x := k) hN J D (Or.inl ⟨rfl, rfl, k1, k2⟩) s1 (by omega)
  rw [Nat.zero_add] at r3
  obtain ⟨g2, u1, u2, u3⟩ := te_step (N := N) (n := N - 1) (q := 0) hN J r5 (by decide) r1 r2 r3 (by omega)
  have D2 : te_D 0 0 1 0 g2 := te_D_fr u3 r4
  -- the sessions
  obtain ⟨g3, x1, x2, x3⟩ := te_lpS (N := N) (b := 0) (g0 := 1) (g1 := 0) hN hW nS 0 1 (N - 1 - nS) _ g2 (by omega) (by omega) u2 D2 s2 (by omega)
  rw [Nat.zero_add] at x3
  obtain ⟨g4, y1, y2, y3⟩ := te_lpU (N := N) (a := nS) (g0 := 1) (g1 := 0) hN hV nU 0 (1 + nS) (N - 1 - nS - nU) _ g3 (by omega) (by omega) x2 x3 s3 (by omega)
  rw [Nat.zero_add] at y3
  -- the last
  obtain ⟨g5, v1, v2, v3, v4, v5⟩ := te_stG (N := N) (k := 7) (x := z) hN y2 y3 (Or.inr ⟨rfl, rfl, k3⟩) s4 (by omega)
  obtain ⟨g6, w1, w2, w3⟩ := te_step (N := N) (n := N - 1 - nS - nU - 1) (q := 1 + nS + nU) hN y2 v5 (by omega) v1 v2 v3 (by omega)
  have eL : (te_C 3 ++ (te_d k ++ te_C 4)).length + (te_ls 5 [115] W 0 nS).length + (te_ls 6 [117] V 0 nU).length + (te_C 7 ++ (te_d z ++ te_C 4)).length = L := by omega
  rw [eL] at w2
  have D6 : te_D nS nU 1 1 g6 := te_D_fr w3 v4
  refine ⟨g6, ?_, D6⟩
  have e1 : l_X1_read_6 N N (am_z 0) h = l_X1_read_6 N (N - 1) (am_z 1) g2 := by
    have := u1
    rw [show N - 1 + 1 = N by omega] at this
    exact this
  have e2 : l_X1_read_6 N (N - 1) (am_z 1) g2 = l_X1_read_6 N (N - 1 - nS) (am_z ((1 + nS : Nat) : Int)) g3 := by
    have := x1
    rw [show N - 1 - nS + nS = N - 1 by omega] at this
    exact this
  have e3 : l_X1_read_6 N (N - 1 - nS) (am_z ((1 + nS : Nat) : Int)) g3 = l_X1_read_6 N (N - 1 - nS - nU) (am_z ((1 + nS + nU : Nat) : Int)) g4 := by
    have := y1
    rw [show N - 1 - nS - nU + nU = N - 1 - nS by omega] at this
    exact this
  have e4 : l_X1_read_6 N (N - 1 - nS - nU) (am_z ((1 + nS + nU : Nat) : Int)) g4 = l_X1_read_6 N (N - 1 - nS - nU - 1) (am_z ((1 + nS + nU + 1 : Nat) : Int)) g6 := by
    have := w1
    rw [show N - 1 - nS - nU - 1 + 1 = N - 1 - nS - nU by omega] at this
    exact this
  obtain ⟨m, hm⟩ : ∃ m, N - 1 - nS - nU - 1 = m + 1 := ⟨N - 1 - nS - nU - 1 - 1, by omega⟩
  rw [e1, e2, e3, e4, hm, l_X1_read_6]
  have c1 : ¬ (am_z 600 ≤ am_z ((1 + nS + nU + 1 : Nat) : Int)) := te_lei (by omega) (by omega) (by omega) (by omega) (by omega)
  have c2 : g6 1 3 = am_z 0 := by rw [w2.2.2.1, te_tk0]; rfl
  simp only [am_z_lit, if_neg c1, c2, if_true]
  rw [show 1 + nS + nU + 1 = 2 + nS + nU by omega]
/-- the class's load of the law's text -/
theorem te_load {k z nS nU nS0 nU0 F : Nat} {W V : Nat → Nat × Nat} {hc hm : am_Hp} (hN : 60000 ≤ N) (R : qr_R nS0 nU0 hc hm) (h1 : 1 ≤ k ∧ k ≤ 12 ∧ z ≤ 1 ∧ nS ≤ 4 ∧ nU ≤ 6) (hW : ∀ i, 2 ≤ (W i).1 ∧ (W i).1 ≤ 10 ∧ 1 ≤ (W i).2 ∧ (W i).2 ≤ 4) (hV : ∀ i, 2 ≤ (V i).1 ∧ (V i).1 ≤ 10 ∧ 1 ≤ (V i).2 ∧ (V i).2 ≤ 4) (hL : L = (te_txt k W nS V nU z).length) (hF : hc 1 1 = am_z (F : Int)) (hLF : L ≤ F) (hF6 : F ≤ 600) (hby : ∀ x ∈ te_txt k W nS V nU z, x < 128) (hb : ∀ i, i < L → hc 2 i = am_z (((te_txt k W nS V nU z).getD i 0 : Nat) : Int)) :
    ∃ hc' hm', f_X9_load N (am_z (L : Int)) hc = some (am_z ((2 + nS + nU : Nat) : Int), hc') ∧ qr_R nS nU hc' hm' := by
  obtain ⟨nS', nU', v, hc', hm', q1, -, q3, -⟩ := q_load hN R (am_z (L : Int))
  have hN1 : 1000 ≤ N := by omega
  obtain ⟨t1, t2, t3, t4, t5, t6, -⟩ := R.1
  have bc0 : cB (am_pi (am_pi (am_pi hc 1 2 (am_z (L : Int))) 1 4 (am_z 0)) 1 5 (am_z 0)) L (fun i => (te_txt k W nS V nU z).getD i 0) := by
    refine ⟨by omega, by rw [am_pi_k (by decide), am_pi_k (by decide), am_pi_s], fun i hi => ⟨?_, ?_⟩⟩
    · rw [am_pi_a (by decide), am_pi_a (by decide), am_pi_a (by decide)]
      exact hb i hi
    · show (te_txt k W nS V nU z).getD i 0 ≤ 255
      have := te_by hby i
      omega
  obtain ⟨g1, A, J1, f1⟩ := te_adv (N := N) hN1 bc0 (Nat.zero_le _) (am_pi_s _ _ _ _)
  have f1' : ∀ a, a ≠ 1 → g1 a = hc a := fun a ha => by rw [f1 a ha, qc_pia ha, qc_pia ha, qc_pia ha]
  obtain ⟨g2, r1, r2, r3, r4, r5, r6, r7, r8, r9, r10⟩ := c_drs (N := N) (h := g1) hN1
  have J2 : te_J g2 L (fun i => (te_txt k W nS V nU z).getD i 0) 0 := by
    have e1 := r2 1 (by decide) (by decide) (by decide) (by decide)
    have e2 := r2 2 (by decide) (by decide) (by decide) (by decide)
    obtain ⟨⟨j1, j2, j3⟩, j4, j5, j6⟩ := J1
    exact ⟨⟨j1, by rw [e1]; exact j2, fun i hi => by rw [e2]; exact j3 i hi⟩, by rw [e1]; exact j4, by rw [e1]; exact j5, by rw [e1]; exact j6⟩
  have D2 : te_D 0 0 0 0 g2 := ⟨⟨by rw [r2 15 (by decide) (by decide) (by decide) (by decide), f1' 15 (by decide)]; exact t3, by rw [r2 19 (by decide) (by decide) (by decide) (by decide), f1' 19 (by decide)]; exact t4⟩, by rw [r3 0 (by decide), f1' 4 (by decide)]; exact t5, by rw [r4 0 (by decide), f1' 8 (by decide)]; exact t6, r5, r6, r9, r10, fun k hk => absurd hk (Nat.not_lt_zero _), fun k hk => absurd hk (Nat.not_lt_zero _)⟩
  obtain ⟨g3, x1, D3⟩ := te_read (N := N) hN1 h1 hW hV hL (fun j hj => by rw [Nat.zero_add]) J2 D2
  -- what lies outside the draft
  have e0 : ¬ (am_z (L : Int) < am_z 0) := te_lti (by omega) (by omega) (by omega) (by omega) (by omega)
  have e1 : am_z (L : Int) ≤ am_z (F : Int) := te_lej (by omega) (by omega) (by omega) (by omega) (by omega)
  have z : am_z 0 ≤ am_z ((2 + nS + nU : Nat) : Int) := te_lej (by omega) (by omega) (by omega) (by omega) (by omega)
  obtain ⟨d0, d1, d2, d3, d4, d5, d6, d7, d8⟩ := D3
  have hR : ∃ h9, f_X9_load N (am_z (L : Int)) hc = some (am_z ((2 + nS + nU : Nat) : Int), h9) := by
    cases hg : f_X9_load N (am_z (L : Int)) hc with
    | none => rw [hg] at q1; cases q1
    | some y =>
      refine ⟨y.2, ?_⟩
      have hg2 := hg
      unfold f_X9_load f_X7_open f_X1_read at hg2
      simp only [am_z_lit, am_z_neg, if_neg e0, hF, if_pos e1, A, am_bi_s, r1, x1, if_pos z] at hg2
      generalize am_pi (am_pi g3 1 1 (am_z 0)) 0 2 (am_z (-1)) = h5 at hg2
      cases c1 : f_X8_copyFrom N 15 4 h5 with
      | none => rw [c1] at hg2; cases hg2
      | some y1 =>
        rw [c1] at hg2
        obtain ⟨y1a, y1⟩ := y1
        rw [am_bi_s] at hg2
        cases c2 : f_X8_copyFrom N 19 8 y1 with
        | none => rw [c2] at hg2; cases hg2
        | some y2 =>
          rw [c2] at hg2
          obtain ⟨y2a, y2⟩ := y2
          rw [am_bi_s] at hg2
          cases c3 : f_X6_restart N 24 19 12 y2 with
          | none => rw [c3] at hg2; cases hg2
          | some y3 =>
            rw [c3] at hg2
            obtain ⟨y3a, y3⟩ := y3
            rw [am_bi_s] at hg2
            unfold f_X2_forget at hg2
            simp only [am_bi_s] at hg2
            cases hg2
            rfl
  obtain ⟨h9, e9⟩ := hR
  rw [e9] at q1
  have e10 : h9 = hc' := (Prod.mk.inj (Option.some.inj q1)).2
  have e11 : f_X9_load N (am_z (L : Int)) hc = some (am_z ((2 + nS + nU : Nat) : Int), hc') := by rw [← e10]; exact e9
  -- how many there are
  have hcnt : hc' 15 4 = am_z (nS : Int) ∧ hc' 19 4 = am_z (nU : Int) := by
    have H5 : ∀ a, a ≠ 0 → a ≠ 1 → am_pi (am_pi g3 1 1 (am_z 0)) 0 2 (am_z (-1)) a = g3 a := fun a p q => by rw [qc_pia p, qc_pia q]
    have hfr : g3 15 0 = am_z 4 ∧ g3 19 0 = am_z 6 := d0
    obtain ⟨h6, a1, a2, a3, a4, a5⟩ := c_cpT (N := N) (T := 15) (T' := 4) (a := nS) (most := 4) (h := am_pi (am_pi g3 1 1 (am_z 0)) 0 2 (am_z (-1))) hN1 (by unfold tO; decide) (by unfold tO; decide) (by decide) h1.2.2.2.1 (by decide) (by rw [H5 15 (by decide) (by decide)]; exact hfr.1) (by rw [H5 4 (by decide) (by decide)]; exact d3)
    obtain ⟨h7, p1, p2, p3, p4, p5⟩ := c_cpT (N := N) (T := 19) (T' := 8) (a := nU) (most := 6) (h := h6) hN1 (by unfold tO; decide) (by unfold tO; decide) (by decide) h1.2.2.2.2 (by decide) (by rw [a3 19 (by decide) (by decide), H5 19 (by decide) (by decide)]; exact hfr.2) (by rw [a3 8 (by decide) (by decide), H5 8 (by decide) (by decide)]; exact d4)
    obtain ⟨h8, s1, s2, -⟩ := c_restart (N := N) (h := h7) (b := nU) hN1 p2 h1.2.2.2.2
    have e12 : f_X9_load N (am_z (L : Int)) hc = some (am_z ((2 + nS + nU : Nat) : Int), am_pi h8 39 2 (am_z 0)) := by
      unfold f_X9_load f_X7_open f_X1_read
      simp only [am_z_lit, am_z_neg, if_neg e0, hF, if_pos e1, A, am_bi_s, r1, x1, if_pos z, a1, p1, s1]
      unfold f_X2_forget
      simp only [am_bi_s, am_z_lit]
    rw [e11] at e12
    have e13 := (Prod.mk.inj (Option.some.inj e12)).2
    refine ⟨?_, ?_⟩
    · rw [e13, am_pi_a (by decide), s2 15 (by decide), p3 15 (by decide) (by decide)]; exact a2
    · rw [e13, am_pi_a (by decide), s2 19 (by decide)]; exact p2
  obtain ⟨u1, u2, -, -, -, -, u7, u8, -⟩ := q3.1
  have en : nS' = nS := by
    have := u7.symm.trans hcnt.1
    rw [am_z_eq (by omega) (by omega) (by omega) (by omega)] at this
    omega
  have eu : nU' = nU := by
    have := u8.symm.trans hcnt.2
    rw [am_z_eq (by omega) (by omega) (by omega) (by omega)] at this
    omega
  subst en
  subst eu
  exact ⟨hc', hm', e11, q3⟩
end TE8
