section LAWB
variable {p : Program} {l : Launch} {e : Env} {s : State} {m : MethodId} {args : Array Value} {below : List Frame} {meth : Method} {c : Code} {Q : State → Prop}
variable {al : Nat → Nat} {dC : Nat → ClassId} {dI : Nat → Nat → Nat} {aC : Nat → ClassId} {aV : Nat → Nat} {x0 b L out outD : Nat} {xs : Nat → Int32} {cL cD : ClassId}
variable {H : Heap} {locs : List Loc} {cells slots : Nat} {ls : Array Slot}
def lw_base (al : Nat → Nat) (b out outD n : Nat) : List (Nat × Value) := [(0, .ref b), (1, .ref (al 0)), (2, .ref (al 193)), (3, .ref out), (4, .ref outD), (5, .int (Int32.ofNat (6 * n)))]
/-- where the law stands for good -/
def lw_X (p : Program) (s : State) (m : MethodId) (args : Array Value) (c : Code) (al : Nat → Nat) (dC : Nat → ClassId) (dI : Nat → Nat → Nat) (aC : Nat → ClassId) (aV : Nat → Nat) (x0 b L out outD : Nat) (xs : Nat → Int32) (cL cD : ClassId) : Prop :=
  lw_C p s m args c al dC dI aC aV x0 code 8 lw_L ∧ va_X b L xs s s.heap ∧ b < x0 ∧ x0 ≤ s.heap.size ∧ L ≤ 3072 ∧ x0 + 205 ≤ out ∧ x0 + 205 ≤ outD ∧ out ≠ outD ∧ va_K (dC, dI) vwCl [(cL, .long)] s ∧ va_K (dC, dI) vwCl [(cD, .double)] s ∧ va_Nw (.castable lw_io lw_io) s
def lw_H (al : Nat → Nat) (dC : Nat → ClassId) (dI : Nat → Nat → Nat) (aC : Nat → ClassId) (out outD : Nat) (cL cD : ClassId) (h : am_Hp) (fL : Nat → Int64) (fD : Nat → UInt64) (H : Heap) : Prop :=
  va_P (dC, dI) vwCl (am_W al aC h) H ∧ va_P (dC, dI) vwCl [(out, .inl (cL, (1, .inr (.inl fL))))] H ∧ va_P (dC, dI) vwCl [(outD, .inl (cD, (1, .inr (.inr (.inr (.inl fD))))))] H
def lc_rm (mid : Nat) : Bool := Nat.ble (am_fr mid + 1) 13 && Nat.ble (8 + (am_ml mid + 11) + am_lo mid) 488
def lc_ok (pc : Nat) (qs : List (Nat × Bool)) (ixX midX ixM midM : Nat) : Bool :=
  decide (decode code pc = .ok (.aload_n 1, 1)) && la_ok code (pc + 1) qs && decide (decode code (la_end (pc + 1) qs) = .ok (.invokevirtual ixX, 3)) && decide (decode code (la_end (pc + 1) qs + 3) = .ok (.aload_n 2, 1)) && la_ok code (la_end (pc + 1) qs + 4) qs &&
  decide (decode code (la_end (la_end (pc + 1) qs + 4) qs) = .ok (.invokevirtual ixM, 3)) && decide (decode code (la_end (la_end (pc + 1) qs + 4) qs + 3) = .ok (.if_icmp .eq (2421 - ((la_end (la_end (pc + 1) qs + 4) qs + 3 : Nat) : Int)), 3)) &&
  lw_ok lw_L ixX midX qs.length && lw_ok lw_L ixM midM qs.length && am_isO 0 (am_ow midX) && am_isO 193 (am_ow midM) && lc_rm midX && lc_rm midM
theorem la_vs_map {n : Nat} {qs : List (Nat × Bool)} : (la_vs xs n qs).map (am_rl al) = la_vs xs n qs := by
  unfold la_vs
  rw [List.map_map]
  rfl
theorem la_vs_len {n : Nat} {qs : List (Nat × Bool)} : (la_vs xs n qs).length = qs.length := by simp [la_vs]
set_option maxHeartbeats 2000000 in
theorem lw_simple {pc ixX midX ixM midM n : Nat} {qs : List (Nat × Bool)} {v : Int32} {h h1 h2 : am_Hp} {fL : Nat → Int64} {fD : Nat → UInt64} (X : lw_X p s m args c al dC dI aC aV x0 b L out outD xs cL cD) (hok : lc_ok pc qs ixX midX ixM midM = true) (hn : 6 * n + 6 ≤ L)
    (hl : lv_has ls 8 (lw_base al b out outD n)) (hH : lw_H al dC dI aC out outD cL cD h fL fD H) (hS : va_S (fun q => x0 ≤ q) s.heap H locs) (hc : cells ≤ 601024 ∧ slots ≤ 7293034)
    (hX : am_Met l al dC dI aC aV midX (.ref 0 :: la_vs xs n qs) h (some (some (.int v))) h1) (hM : am_Met l al dC dI aC aV midM (.ref 193 :: la_vs xs n qs) h1 (some (some (.int v))) h2)
    (kk : ∀ (H2 : Heap) (locs2 : List Loc), lw_H al dC dI aC out outD cL cD h2 fL fD H2 → va_S (fun q => x0 ≤ q) s.heap H2 locs2 → W p l e room_1 s m args below meth c H2 locs2 cells slots Q (F0 m 2421 ls [])) :
    W p l e room_1 s m args below meth c H locs cells slots Q (F0 m pc ls []) := by
  obtain ⟨C, hXb, hbl, hx0, hL, ho, hoD, hne, hKL, hKD, hcast⟩ := X
  have C' := C
  obtain ⟨hx, hb, hml, hown, hts, hK, hF, hal⟩ := C
  obtain ⟨hP, hO, hOD⟩ := hH
  unfold lc_ok at hok
  simp only [Bool.and_eq_true, decide_eq_true_eq] at hok
  obtain ⟨⟨⟨⟨⟨⟨⟨⟨⟨⟨⟨⟨d0, d1⟩, d2⟩, d3⟩, d4⟩, d5⟩, d6⟩, w1⟩, w2⟩, w3⟩, w4⟩, w5⟩, w6⟩ := hok
  simp only [lc_rm, Bool.and_eq_true] at w5 w6
  refine lv_aload_n hx hb (i := 1) d0 rfl (lv_at hl 1 rfl) ?_
  refine la_push hx hb hXb hbl hx0 hS hn hL (lv_at hl 0 rfl) (lv_at hl 5 rfl) qs (pc + 1) [.ref (al 0)] d1 ?_
  have r1 := lw_call (p := p) (l := l) (e := e) (R := room_1) (below := below) (meth := meth) (Q := Q) (cells := cells) (slots := slots) (rest := []) (as := la_vs xs n qs) (n := qs.length) C' w1 hX la_vs_len w3 hl.1 hP hS (Nat.le_of_ble_eq_true w5.1) (Nat.le_of_ble_eq_true w5.2) hc (Nat.zero_le _) d2
  rw [la_vs_map] at r1
  refine r1 (fun H1 locs1 hP1 hS1 hz1 hq1 => ?_)
  refine lv_aload_n hx hb (i := 2) d3 rfl (lv_at hl 2 rfl) ?_
  refine la_push hx hb hXb hbl hx0 hS1 hn hL (lv_at hl 0 rfl) (lv_at hl 5 rfl) qs _ [.ref (al 193), .int v] d4 ?_
  have r2 := lw_call (p := p) (l := l) (e := e) (R := room_1) (below := below) (meth := meth) (Q := Q) (cells := cells) (slots := slots) (rest := [.int v]) (as := la_vs xs n qs) (n := qs.length) C' w2 hM la_vs_len w4 hl.1 hP1 hS1 (Nat.le_of_ble_eq_true w6.1) (Nat.le_of_ble_eq_true w6.2) hc (by show 1 + 0 ≤ 8; omega) d5
  rw [la_vs_map] at r2
  refine r2 (fun H2 locs2 hP2 hS2 hz2 hq2 => ?_)
  refine lv_icmp_eq hx hb (tgt := 2421) d6 (by omega) (fun _ => ?_) (fun z => absurd rfl z)
  exact kk H2 locs2 ⟨hP2, lh_P_at hal ho (lh_P_at hal ho hO hq1) hq2, lh_P_at hal hoD (lh_P_at hal hoD hOD hq1) hq2⟩ hS2
end LAWB
