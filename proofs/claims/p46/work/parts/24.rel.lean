/-! ===== what binds the class's objects to the model's arrays ===== -/
section REL
def nv (x : Int32) : Nat := x.toNatClampNeg
def vn (x : Int32) (lo hi : Nat) : Prop := x = am_z (nv x) ∧ lo ≤ nv x ∧ nv x ≤ hi
theorem nv_z {n : Nat} (h : n < 2147483648) : nv (am_z n) = n := by
  unfold nv
  rw [am_z_cl (by omega) (by omega), Int.toNat_natCast]
theorem vn_z {n lo hi : Nat} (h : n < 2147483648) (h1 : lo ≤ n) (h2 : n ≤ hi) : vn (am_z n) lo hi := by
  unfold vn
  rw [nv_z h]
  exact ⟨rfl, h1, h2⟩
/-- who has or asks for control of session s: nobody, or a user who watches it live -/
def vP (r : Nat → Int32) (nU s : Nat) (x : Int32) : Prop := x = am_z (-1) ∨ ∃ u, u < nU ∧ x = am_z u ∧ r (9 + 8 * u) = am_z 1 ∧ r (10 + 8 * u) = am_z s
def vD (r : Nat → Int32) (nU s : Nat) : Prop := vn (r (55 + 1504 * s)) 0 300 ∧ vP r nU s (r (56 + 1504 * s)) ∧ vP r nU s (r (57 + 1504 * s))
def vE (r : Nat → Int32) (s : Nat) : Prop := ∀ e, e < nv (r (55 + 1504 * s)) → qc_EV (fun k => r (59 + 1504 * s + 5 * e + k)) ∧ (r (59 + 1504 * s + 5 * e) = am_z 1 → r (63 + 1504 * s + 5 * e) = am_z (-1))
def vU (r : Nat → Int32) (nS u : Nat) : Prop := vn (r (7 + 8 * u)) 2 16 ∧ vn (r (8 + 8 * u)) 1 6 ∧ vn (r (9 + 8 * u)) 0 3 ∧
  (r (9 + 8 * u) ≠ am_z 0 → vn (r (10 + 8 * u)) 0 3 ∧ nv (r (10 + 8 * u)) < nS) ∧
  (r (9 + 8 * u) = am_z 2 ∨ r (9 + 8 * u) = am_z 3 → vn (r (11 + 8 * u)) 0 (nv (r (55 + 1504 * nv (r (10 + 8 * u)))))) ∧
  (r (9 + 8 * u) = am_z 3 → vn (r (13 + 8 * u)) 10 1000) ∧ (r (9 + 8 * u) ≠ am_z 3 → r (13 + 8 * u) = am_z 0) ∧ vn (r (14 + 8 * u)) 0 40
def vV (nS nU : Nat) (r : Nat → Int32) : Prop := vn (r 1) 0 1 ∧ (∀ s, s < nS → vD r nU s ∧ vE r s) ∧ ∀ u, u < nU → vU r nS u
/-- a State of the class (its object has number b) holds what a row of the model holds -/
def sD (hc : am_Hp) (b s : Nat) (r : Nat → Int32) : Prop := hc (b + 5 + s) 0 = r (55 + 1504 * s) ∧ hc (b + 5 + s) 1 = r (56 + 1504 * s) ∧ hc (b + 5 + s) 2 = r (57 + 1504 * s) ∧ (r (57 + 1504 * s) ≠ am_z (-1) → hc (b + 5 + s) 3 = r (58 + 1504 * s))
def sE (hc : am_Hp) (s : Nat) (r : Nat → Int32) : Prop := ∀ e, e < nv (r (55 + 1504 * s)) → ∀ k, k < 5 → rc_e hc s e k = r (59 + 1504 * s + 5 * e + k)
def sU (hc : am_Hp) (b u : Nat) (r : Nat → Int32) : Prop := hc (b + 9 + u) 0 = r (7 + 8 * u) ∧ hc (b + 9 + u) 1 = r (8 + 8 * u) ∧ hc (b + 9 + u) 2 = r (9 + 8 * u) ∧
  (r (9 + 8 * u) ≠ am_z 0 → hc (b + 9 + u) 3 = r (10 + 8 * u)) ∧ (r (9 + 8 * u) = am_z 2 ∨ r (9 + 8 * u) = am_z 3 → hc (b + 9 + u) 4 = r (11 + 8 * u)) ∧
  (r (9 + 8 * u) = am_z 3 → hc (b + 9 + u) 5 = r (12 + 8 * u) ∧ hc (b + 9 + u) 6 = r (13 + 8 * u)) ∧ hc (b + 9 + u) 7 = r (14 + 8 * u)
def sS (nS nU : Nat) (hc : am_Hp) (b : Nat) (r : Nat → Int32) : Prop := hc b 0 = r 2 ∧ hc (b + 1) 0 = r 0 ∧ hc (b + 1) 1 = r 1 ∧ (∀ k, k < 4 → hc (b + 2) k = r (3 + k)) ∧ (∀ s, s < nS → sD hc b s r ∧ sE hc s r) ∧ ∀ u, u < nU → sU hc b u r
/-- the names and first sizes, told at the latest load -/
def tT (nS nU : Nat) (hc hm : am_Hp) : Prop := nS ≤ 4 ∧ nU ≤ 6 ∧ hc 15 0 = am_z 4 ∧ hc 19 0 = am_z 6 ∧ hc 4 0 = am_z 4 ∧ hc 8 0 = am_z 6 ∧ hc 15 4 = am_z nS ∧ hc 19 4 = am_z nU ∧ hm 195 0 = am_z nS ∧ hm 195 1 = am_z nU ∧
  (∀ i, i < nS → hc 16 i = hm 195 (2 + i) ∧ hc 17 i = hm 195 (12 + i) ∧ hc 18 i = hm 195 (16 + i) ∧ vn (hm 195 (12 + i)) 2 16 ∧ vn (hm 195 (16 + i)) 1 6) ∧ ∀ i, i < nU → hc 20 i = hm 195 (6 + i)
/-- the bytes fed, and what was written -/
def tB (hc hm : am_Hp) : Prop := vn (hc 1 1) 0 600 ∧ hm 193 2 = hc 1 1 ∧ (∀ i, i < nv (hc 1 1) → hc 2 i = hm 194 i ∧ vn (hc 2 i) 0 255) ∧ hc 0 2 = hm 193 24 ∧ vn (hc 0 4) 0 102 ∧ hm 193 30 = hc 0 4 ∧ ∀ i, i < nv (hc 0 4) → hc 14 i = hm 204 i
/-- the states ahead of the latest changes -/
def tp (hm : am_Hp) (j : Nat) : Nat → Int32 := fun k => hm 199 (6071 * j + k)
def tH (nS nU : Nat) (hc hm : am_Hp) : Prop := vn (hc 39 1) 0 7 ∧ vn (hc 39 2) 0 8 ∧ hm 193 8 = hc 39 2 ∧
  (∀ j, j < nv (hc 39 2) → sS nS nU hc (41 + 15 * ((nv (hc 39 1) + 8 - nv (hc 39 2) + j) % 8)) (tp hm j) ∧ vV nS nU (tp hm j)) ∧
  (∀ j s, j < nv (hc 39 2) → s < nS → nv (tp hm j (55 + 1504 * s)) ≤ nv (hm 197 (55 + 1504 * s))) ∧
  ∀ i j s, i ≤ j → j < nv (hc 39 2) → s < nS → nv (tp hm i (55 + 1504 * s)) ≤ nv (tp hm j (55 + 1504 * s))
def qr_R (nS nU : Nat) (hc hm : am_Hp) : Prop := tT nS nU hc hm ∧ tB hc hm ∧ sS nS nU hc 24 (hm 197) ∧ vV nS nU (hm 197) ∧ tH nS nU hc hm
/-- nothing but screens has changed -/
def cfr (h h' : am_Hp) : Prop := ∀ a, a ≠ 161 → a ≠ 162 → a ≠ 163 → a ≠ 164 → h' a = h a
def mfr (h h' : am_Hp) : Prop := (∀ a, a ≠ 193 → a ≠ 200 → a ≠ 201 → a ≠ 202 → a ≠ 203 → h' a = h a) ∧ ∀ k, k ≠ 0 → k ≠ 9 → k ≠ 10 → k ≠ 11 → k ≠ 12 → k ≠ 14 → k ≠ 27 → h' 193 k = h 193 k
theorem cfr0 {h : am_Hp} : cfr h h := fun _ _ _ _ _ => rfl
theorem cfrt {h h1 h2 : am_Hp} (a : cfr h h1) (b : cfr h1 h2) : cfr h h2 := fun x p q r s => (b x p q r s).trans (a x p q r s)
theorem cfrs {o p : Nat} {h h' : am_Hp} (hO : qc_O o p) (a : qc_fr o p h h') : cfr h h' := by
  intro x h1 h2 h3 h4
  refine a x ?_ ?_ <;> rcases hO with ⟨rfl, rfl⟩ | ⟨rfl, rfl⟩ <;> assumption
theorem mfr0 {h : am_Hp} : mfr h h := ⟨fun _ _ _ _ _ _ => rfl, fun _ _ _ _ _ _ _ _ => rfl⟩
theorem mfrt {h h1 h2 : am_Hp} (a : mfr h h1) (b : mfr h1 h2) : mfr h h2 := ⟨fun x p q r s t => (b.1 x p q r s t).trans (a.1 x p q r s t), fun k p q r s t u v => (b.2 k p q r s t u v).trans (a.2 k p q r s t u v)⟩
theorem mfrs {h h' : am_Hp} (a : qm_fr h h') : mfr h h' := ⟨fun x p q r s _ => a.1 x p q r s, fun k _ p q r s t _ => a.2 k p q r s t⟩
theorem mfrp {h : am_Hp} {k : Nat} {v : Int32} (hk : k = 0 ∨ k = 9 ∨ k = 10 ∨ k = 11 ∨ k = 12 ∨ k = 14 ∨ k = 27) : mfr h (am_pi h 193 k v) :=
  ⟨fun a y _ _ _ _ => qc_pia y, fun x y z u v w p q => am_pi_k (by omega)⟩
theorem mfrq {h : am_Hp} {A k : Nat} {v : Int32} (hA : A = 200 ∨ A = 201 ∨ A = 202 ∨ A = 203) : mfr h (am_pi h A k v) :=
  ⟨fun a y _ _ _ _ => qc_pia (by omega), fun x y z u v w p q => by rw [qc_pia (by omega)]⟩
/-- the relation reads only these -/
theorem sS_c {nS nU b : Nat} {hc hc' : am_Hp} {r : Nat → Int32} (hS : nS ≤ 4) (hU : nU ≤ 6) (hb : b + 15 ≤ 161) (f : cfr hc hc') (h : sS nS nU hc b r) : sS nS nU hc' b r := by
  obtain ⟨a1, a2, a3, a4, a5, a6⟩ := h
  have e : ∀ x, x < 161 → hc' x = hc x := fun x hx => f x (by omega) (by omega) (by omega) (by omega)
  have e2 : ∀ x, 164 < x → hc' x = hc x := fun x hx => f x (by omega) (by omega) (by omega) (by omega)
  refine ⟨by rw [e _ (by omega)]; exact a1, by rw [e _ (by omega)]; exact a2, by rw [e _ (by omega)]; exact a3, fun k hk => by rw [e _ (by omega)]; exact a4 k hk, fun s hs => ?_, fun u hu => ?_⟩
  · obtain ⟨b1, b2⟩ := a5 s hs
    refine ⟨?_, fun x hx k hk => ?_⟩
    · unfold sD
      rw [e _ (by omega)]; exact b1
    · unfold rc_e
      rw [e2 _ (by omega)]; exact b2 x hx k hk
  · unfold sU
    rw [e _ (by omega)]; exact a6 u hu
theorem qr_fr {nS nU : Nat} {hc hc' hm hm' : am_Hp} (f : cfr hc hc') (g : mfr hm hm') (h : qr_R nS nU hc hm) : qr_R nS nU hc' hm' := by
  obtain ⟨t, b, s, v, y⟩ := h
  have e : ∀ x, x < 161 → hc' x = hc x := fun x hx => f x (by omega) (by omega) (by omega) (by omega)
  have m1 : hm' 195 = hm 195 := g.1 _ (by decide) (by decide) (by decide) (by decide) (by decide)
  have m2 : hm' 197 = hm 197 := g.1 _ (by decide) (by decide) (by decide) (by decide) (by decide)
  have m3 : hm' 194 = hm 194 := g.1 _ (by decide) (by decide) (by decide) (by decide) (by decide)
  have m4 : hm' 199 = hm 199 := g.1 _ (by decide) (by decide) (by decide) (by decide) (by decide)
  have m5 : hm' 204 = hm 204 := g.1 _ (by decide) (by decide) (by decide) (by decide) (by decide)
  have n1 : hm' 193 2 = hm 193 2 := g.2 _ (by decide) (by decide) (by decide) (by decide) (by decide) (by decide) (by decide)
  have n2 : hm' 193 8 = hm 193 8 := g.2 _ (by decide) (by decide) (by decide) (by decide) (by decide) (by decide) (by decide)
  have n3 : hm' 193 24 = hm 193 24 := g.2 _ (by decide) (by decide) (by decide) (by decide) (by decide) (by decide) (by decide)
  have n4 : hm' 193 30 = hm 193 30 := g.2 _ (by decide) (by decide) (by decide) (by decide) (by decide) (by decide) (by decide)
  have hS := t.1
  have hU := t.2.1
  have ep : tp hm' = tp hm := by funext j k; unfold tp; rw [m4]
  refine ⟨?_, ?_, ?_, ?_, ?_⟩
  · unfold tT at t ⊢
    simp (disch := decide) only [e, m1]
    exact t
  · unfold tB at b ⊢
    simp (disch := decide) only [e, m3, m5, n1, n3, n4]
    exact b
  · rw [m2]; exact sS_c hS hU (by decide) f s
  · rw [m2]; exact v
  · unfold tH at y ⊢
    simp (disch := decide) only [e, n2, m2, ep]
    obtain ⟨y1, y2, y3, y4, y5⟩ := y
    refine ⟨y1, y2, y3, fun j hj => ⟨sS_c hS hU (by omega) f (y4 j hj).1, (y4 j hj).2⟩, y5⟩
end REL
