section LAWE
variable {p : Program} {l : Launch} {e : Env} {s : State} {m : MethodId} {args : Array Value} {below : List Frame} {meth : Method} {c : Code} {Q : State → Prop}
variable {al : Nat → Nat} {dC : Nat → ClassId} {dI : Nat → Nat → Nat} {aC : Nat → ClassId} {aV : Nat → Nat} {x0 b L out outD : Nat} {xs : Nat → Int32} {cL cD : ClassId}
variable {H : Heap} {locs : List Loc} {cells slots : Nat} {ls : Array Slot}
/-- what comes behind a case -/
def lw_K (p : Program) (l : Launch) (e : Env) (s : State) (m : MethodId) (args : Array Value) (below : List Frame) (meth : Method) (c : Code) (Q : State → Prop) (al : Nat → Nat) (dC : Nat → ClassId) (dI : Nat → Nat → Nat) (aC : Nat → ClassId) (x0 b out outD : Nat) (cL cD : ClassId) (n cells slots : Nat) : Prop :=
  ∀ (H2 : Heap) (locs2 : List Loc) (ls2 : Array Slot) (h2 : am_Hp) (nS nU : Nat) (fL : Nat → Int64) (fD : Nat → UInt64), lv_has ls2 8 (lw_base al b out outD n) → lw_H al dC dI aC out outD cL cD h2 fL fD H2 → va_S (fun q => x0 ≤ q) s.heap H2 locs2 → qr_R nS nU h2 h2 → W p l e room_1 s m args below meth c H2 locs2 (cells + 1) (slots + 6) Q (F0 m 2421 ls2 [])
theorem lw_c1 {pc ixX midX ixM midM n : Nat} {qs : List (Nat × Bool)} {h : am_Hp} {fL : Nat → Int64} {fD : Nat → UInt64} {fX : Option (Int32 × am_Hp)} {fM : am_Hp → Option (Int32 × am_Hp)} (X : lw_X p s m args c al dC dI aC aV x0 b L out outD xs cL cD) (hok : lc_ok pc qs ixX midX ixM midM = true) (hn : 6 * n + 6 ≤ L)
    (hl : lv_has ls 8 (lw_base al b out outD n)) (hH : lw_H al dC dI aC out outD cL cD h fL fD H) (hS : va_S (fun q => x0 ≤ q) s.heap H locs) (hc : cells + 1 ≤ 601024 ∧ slots + 6 ≤ 7293034)
    (hE : ∃ nS' nU' v h1 h2, fX = some (v, h1) ∧ fM h1 = some (v, h2) ∧ qr_R nS' nU' h2 h2) (mX : ∀ r, fX = some r → am_Met l al dC dI aC aV midX (.ref 0 :: la_vs xs n qs) h (am_oi r.1) r.2) (mM : ∀ h1 r, fM h1 = some r → am_Met l al dC dI aC aV midM (.ref 193 :: la_vs xs n qs) h1 (am_oi r.1) r.2)
    (K : lw_K p l e s m args below meth c Q al dC dI aC x0 b out outD cL cD n cells slots) : W p l e room_1 s m args below meth c H locs cells slots Q (F0 m pc ls []) := by
  obtain ⟨nS', nU', v, h1, h2, e1, e2, R2⟩ := hE
  exact lw_simple (v := v) (h1 := h1) (h2 := h2) X hok hn hl hH hS ⟨by omega, by omega⟩ (mX (v, h1) e1) (mM h1 (v, h2) e2) (fun H2 locs2 hH2 hS2 => W.widen (k := cells + 1) (n := slots + 6) (by omega) (by omega) (K H2 locs2 ls h2 nS' nU' fL fD hl hH2 hS2 R2))
theorem lw_c2 {pc ixX midX ixM midM n : Nat} {qs : List (Nat × Bool)} {h : am_Hp} {fL : Nat → Int64} {fD : Nat → UInt64} {fX : Option (Option Int32 × am_Hp)} {fM : am_Hp → Option (Int32 × am_Hp)} (X : lw_X p s m args c al dC dI aC aV x0 b L out outD xs cL cD) (hok : lc_ok pc qs ixX midX ixM midM = true) (hn : 6 * n + 6 ≤ L)
    (hl : lv_has ls 8 (lw_base al b out outD n)) (hH : lw_H al dC dI aC out outD cL cD h fL fD H) (hS : va_S (fun q => x0 ≤ q) s.heap H locs) (hc : cells + 1 ≤ 601024 ∧ slots + 6 ≤ 7293034)
    (hE : ∃ nS' nU' v h1 h2, fX = some (some v, h1) ∧ fM h1 = some (v, h2) ∧ qr_R nS' nU' h2 h2) (mX : ∀ r, fX = some r → am_Met l al dC dI aC aV midX (.ref 0 :: la_vs xs n qs) h (am_ot am_oi r.1) r.2) (mM : ∀ h1 r, fM h1 = some r → am_Met l al dC dI aC aV midM (.ref 193 :: la_vs xs n qs) h1 (am_oi r.1) r.2)
    (K : lw_K p l e s m args below meth c Q al dC dI aC x0 b out outD cL cD n cells slots) : W p l e room_1 s m args below meth c H locs cells slots Q (F0 m pc ls []) := by
  obtain ⟨nS', nU', v, h1, h2, e1, e2, R2⟩ := hE
  exact lw_simple (v := v) (h1 := h1) (h2 := h2) X hok hn hl hH hS ⟨by omega, by omega⟩ (show am_Met l al dC dI aC aV midX (.ref 0 :: la_vs xs n qs) h (some (some (.int v))) h1 from mX (some v, h1) e1) (mM h1 (v, h2) e2) (fun H2 locs2 hH2 hS2 => W.widen (k := cells + 1) (n := slots + 6) (by omega) (by omega) (K H2 locs2 ls h2 nS' nU' fL fD hl hH2 hS2 R2))
theorem lw_thrown (N : Nat) (h : am_Hp) : f_X10_thrown N h = some (h 193 0, h) := by
  unfold f_X10_thrown
  first
    | rfl
    | simp [show am_isO 193 10 = true by decide]
theorem lw_c3 {pc ixH ixM midM n nL : Nat} {qs : List (Nat × Bool)} {y : MethodName} {cc : ByteArray} {hh : List (Nat × Nat × Nat × Nat)} {h : am_Hp} {fL : Nat → Int64} {fD : Nat → UInt64} {fX : Option (Option Int32 × am_Hp)} {fM : am_Hp → Option (Int32 × am_Hp)} (hy : am_Hy l al) (N : Nat) (X : lw_X p s m args c al dC dI aC aV x0 b L out outD xs cL cD)
    (hok : le_ok pc qs ixH ixM midM = true) (hok2 : le_tail (la_end (la_end (pc + 1) qs + 7) qs + 3) = true) (hcw : lh_cw y cc nL ixH qs.length hh = true) (hn : 6 * n + 6 ≤ L)
    (hl : lv_has ls 8 (lw_base al b out outD n)) (hH : lw_H al dC dI aC out outD cL cD h fL fD H) (hS : va_S (fun q => x0 ≤ q) s.heap H locs) (hc : cells + 1 ≤ 601024 ∧ slots + 6 ≤ 7293034)
    (hE : ∃ nS' nU' o v h1 h2, fX = some (o, h1) ∧ fM h1 = some (v, h2) ∧ qr_R nS' nU' h2 h2 ∧ ((o = none ∧ h2 193 0 = am_z 1) ∨ (o = some v ∧ h2 193 0 = am_z 0))) (mX : ∀ r, fX = some r → lh_Met l al dC dI aC aV x0 out cL .long y cc nL hh (la_vs xs n qs) h (am_ot am_oi r.1) r.2) (mM : ∀ h1 r, fM h1 = some r → am_Met l al dC dI aC aV midM (.ref 193 :: la_vs xs n qs) h1 (am_oi r.1) r.2)
    (K : lw_K p l e s m args below meth c Q al dC dI aC x0 b out outD cL cD n cells slots) : W p l e room_1 s m args below meth c H locs cells slots Q (F0 m pc ls []) := by
  obtain ⟨nS', nU', o, v, h1, h2, e1, e2, R2, hr⟩ := hE
  refine lw_exc (r := h2 193 0) (ov := o) (vM := v) (h1 := h1) (h2 := h2) hy N X hok hok2 hcw hn hl hH hS hc (mX (o, h1) e1) (mM h1 (v, h2) e2) (lw_thrown N h2) ?_ (fun H2 locs2 ls2 fL2 hl2 hH2 hS2 => K H2 locs2 ls2 h2 nS' nU' fL2 fD hl2 hH2 hS2 R2)
  rcases hr with ⟨z1, z2⟩ | ⟨z1, z2⟩
  · exact Or.inl ⟨z1, by rw [z2]; decide⟩
  · exact Or.inr ⟨z1, by rw [z2]; decide⟩
end LAWE
