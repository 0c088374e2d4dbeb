section FL2
variable {p : Program} {l : Launch} {e : Env} {R : Room} {s : State} {m : MethodId} {args : Array Value} {below : List Frame} {meth : Method} {c : Code} {Q : State → Prop}
variable {al : Nat → Nat} {dC : Nat → ClassId} {dI : Nat → Nat → Nat} {aC : Nat → ClassId} {aV : Nat → Nat} {x0 : Nat} {X : tm_X}
variable {pc cells slots : Nat} {ls : Array Slot} {H : Heap} {locs : List Loc} {rest : List Value} {h hm : am_Hp} {nS nU N : Nat}
def fl_words : Bool := fw_sok 229 fc_y 1 && fw_sok 37 (tm_y 1) (tm_na 1) && fw_sok 43 (tm_y 0) (tm_na 0) && fw_vok 102 59 1 && fw_vok 108 60 2 && fw_sok 233 (dm_y 7) (dm_na 7) && fw_sok 237 (dm_y 8) (dm_na 8) && fw_sok 241 (dm_y 9) (dm_na 9) && fw_sok 245 (am_y 108) 2
set_option maxRecDepth 1000000 in
theorem fl_words_ok : fl_words = true := by decide +kernel
def fl_code1 : Bool :=
  decide (decode code 0 = .ok (.aload_n 0, 1)) && decide (decode code 1 = .ok (.invokestatic 229, 3)) && decide (decode code 4 = .ok (.astore_n 1, 1)) && decide (decode code 5 = .ok (.aload_n 1, 1)) && decide (decode code 6 = .ok (.ifnonnull 5, 3)) && decide (decode code 11 = .ok (.iconst 0, 1)) && decide (decode code 12 = .ok (.istore_n 2, 1)) && decide (decode code 13 = .ok (.iload_n 2, 1)) && decide (decode code 14 = .ok (.bipush 30, 2)) && decide (decode code 16 = .ok (.if_icmp .ge 131, 3)) &&
  decide (decode code 19 = .ok (.aload_n 0, 1)) && decide (decode code 20 = .ok (.iconst 4, 1)) && decide (decode code 21 = .ok (.iload_n 2, 1)) && decide (decode code 22 = .ok (.iadd, 1)) && decide (decode code 23 = .ok (.invokestatic 37, 3)) && decide (decode code 26 = .ok (.istore_n 3, 1)) && decide (decode code 27 = .ok (.iload_n 3, 1)) && decide (decode code 28 = .ok (.bipush 8, 2)) && decide (decode code 30 = .ok (.idiv, 1)) && decide (decode code 31 = .ok (.aload_n 1, 1))
def fl_code2 : Bool :=
  decide (decode code 32 = .ok (.iconst 0, 1)) && decide (decode code 33 = .ok (.invokevirtual 102, 3)) && decide (decode code 36 = .ok (.invokestatic 43, 3)) && decide (decode code 39 = .ok (.istore 4, 2)) && decide (decode code 41 = .ok (.aload_n 1, 1)) && decide (decode code 42 = .ok (.iload 4, 2)) && decide (decode code 44 = .ok (.iconst 2, 1)) && decide (decode code 45 = .ok (.invokevirtual 108, 3)) && decide (decode code 48 = .ok (.istore 5, 2)) && decide (decode code 50 = .ok (.aload_n 1, 1)) &&
  decide (decode code 51 = .ok (.iload 4, 2)) && decide (decode code 53 = .ok (.iload 5, 2)) && decide (decode code 55 = .ok (.invokestatic 233, 3)) && decide (decode code 58 = .ok (.ifCond .eq 76, 3)) && decide (decode code 61 = .ok (.iload_n 2, 1)) && decide (decode code 62 = .ok (.iconst 3, 1)) && decide (decode code 63 = .ok (.irem, 1)) && decide (decode code 64 = .ok (.ifCond .ne 23, 3)) && decide (decode code 67 = .ok (.aload_n 1, 1)) && decide (decode code 68 = .ok (.iload 4, 2))
def fl_code3 : Bool :=
  decide (decode code 70 = .ok (.iload_n 3, 1)) && decide (decode code 71 = .ok (.bipush 64, 2)) && decide (decode code 73 = .ok (.idiv, 1)) && decide (decode code 74 = .ok (.iload 5, 2)) && decide (decode code 76 = .ok (.iconst 1, 1)) && decide (decode code 77 = .ok (.iadd, 1)) && decide (decode code 78 = .ok (.invokestatic 43, 3)) && decide (decode code 81 = .ok (.invokestatic 233, 3)) && decide (decode code 84 = .ok (.ifCond .eq 50, 3)) && decide (decode code 87 = .ok (.aload_n 1, 1)) &&
  decide (decode code 88 = .ok (.iload_n 3, 1)) && decide (decode code 89 = .ok (.bipush 32, 2)) && decide (decode code 91 = .ok (.idiv, 1)) && decide (decode code 92 = .ok (.aload_n 1, 1)) && decide (decode code 93 = .ok (.iconst 1, 1)) && decide (decode code 94 = .ok (.invokevirtual 102, 3)) && decide (decode code 97 = .ok (.invokestatic 43, 3)) && decide (decode code 100 = .ok (.invokestatic 237, 3)) && decide (decode code 103 = .ok (.ifCond .eq 31, 3)) && decide (decode code 106 = .ok (.iload_n 2, 1))
def fl_code4 : Bool :=
  decide (decode code 107 = .ok (.iconst 4, 1)) && decide (decode code 108 = .ok (.irem, 1)) && decide (decode code 109 = .ok (.ifCond .ne 27, 3)) && decide (decode code 112 = .ok (.aload_n 1, 1)) && decide (decode code 113 = .ok (.iload 4, 2)) && decide (decode code 115 = .ok (.iload_n 3, 1)) && decide (decode code 116 = .ok (.bipush 64, 2)) && decide (decode code 118 = .ok (.idiv, 1)) && decide (decode code 119 = .ok (.iload 5, 2)) && decide (decode code 121 = .ok (.iconst 1, 1)) &&
  decide (decode code 122 = .ok (.iadd, 1)) && decide (decode code 123 = .ok (.invokestatic 43, 3)) && decide (decode code 126 = .ok (.iload 5, 2)) && decide (decode code 128 = .ok (.invokestatic 241, 3)) && decide (decode code 131 = .ok (.ifCond .ne 5, 3)) && decide (decode code 136 = .ok (.aload_n 1, 1)) && decide (decode code 137 = .ok (.iload_n 3, 1)) && decide (decode code 138 = .ok (.invokestatic 245, 3)) && decide (decode code 141 = .ok (.iinc 2 1, 3)) && decide (decode code 144 = .ok (.goto (-131), 3)) &&
  decide (decode code 147 = .ok (.iconst 1, 1)) && decide (decode code 148 = .ok (.ireturn, 1))
theorem fl_code_ok : fl_code1 = true ∧ fl_code2 = true ∧ fl_code3 = true ∧ fl_code4 = true := by decide +kernel
theorem fl_bg : dm_bg = 2147483648 := rfl
theorem fl_n0 : dm_n (fw_S0 h) = 1000 := rfl
theorem fl_z0 : dm_zz (fw_S0 h) = 0 := rfl
/-- in(x, n) -/
theorem fl_in {x : Int32} {n : Nat} (C : fw_C p s m args c al dC dI aC aV x0 X code 6) (hy : am_Hy l al) (h1 : 0 < n) (h2 : n < 100000) (hnl : ls.size = 6) (hP : va_P (dC, dI) vwCl (am_W al aC h) H) (hS : va_S (fun q => x0 ≤ q) s.heap H locs) (hR : 14 ≤ R.frames ∧ 500 ≤ R.locals) (hf : cells ≤ R.cells ∧ slots ≤ R.slots) (hW : (rest.map fun v => v.category).sum ≤ 8) (hdg : decode code pc = .ok (.invokestatic 43, 3))
    (kk : ∀ (r : Nat) (H1 : Heap) (locs1 : List Loc), r < n → va_P (dC, dI) vwCl (am_W al aC h) H1 → va_S (fun q => x0 ≤ q) s.heap H1 locs1 → W p l e R s m args below meth c H1 locs1 cells slots Q (F0 m (pc + 3) ls (.int (am_z (r : Int)) :: rest))) :
    W p l e R s m args below meth c H locs cells slots Q (F0 m pc ls (.int (am_z (n : Int)) :: .int x :: rest)) := by
  have hal := C.2.2.2.2.2.2.2.2.2
  have hsz := fw_size hal hP
  have hw := fl_words_ok
  unfold fl_words at hw
  simp only [Bool.and_eq_true] at hw
  obtain ⟨r, hr, er⟩ := te_in (X := X) (N := 60000) x h1 h2
  have hA : dm_Al al x0 H.size := ⟨hal, hsz⟩
  refine fw_tm (mid := 0) (x1 := H.size) (as := [.int x, .int (am_z (n : Int))]) (S := fw_S0 h) (S' := fw_S0 h) C (by decide) hw.1.1.1.1.1.1.2 (em_T_in hy hA X 60000 x (am_z (n : Int)) (fw_S0 h) (am_z (r : Int), fw_S0 h) (er _)) (Nat.le_refl 1000) rfl hnl (by rw [fl_n0, Nat.sub_self, Nat.add_zero]) (by rw [fw_tW0]; exact hP) hS (by show 0 + 1 ≤ _; omega) (by show 8 + (2 + 11) + 0 ≤ _; omega) (by rw [Nat.sub_self, Nat.sub_self]; exact hf) hW hdg (fun H1 locs1 z1 P1 S1 => ?_)
  rw [Nat.sub_self, Nat.sub_self]
  rw [fw_tW0] at P1
  exact kk r H1 locs1 hr P1 S1
/-- cell(s, k) -/
theorem fl_cell {k : Nat} (C : fw_C p s m args c al dC dI aC aV x0 X code 6) (hy : am_Hy l al) (hX : X.1 < 2147483648) (hk : k < 1000) (hnl : ls.size = 6) (hP : va_P (dC, dI) vwCl (am_W al aC h) H) (hS : va_S (fun q => x0 ≤ q) s.heap H locs) (hR : 14 ≤ R.frames ∧ 500 ≤ R.locals) (hf : cells ≤ R.cells ∧ slots ≤ R.slots) (hW : (rest.map fun v => v.category).sum ≤ 8) (hdg : decode code pc = .ok (.invokestatic 37, 3))
    (kk : ∀ (x : Int32) (H1 : Heap) (locs1 : List Loc), va_P (dC, dI) vwCl (am_W al aC h) H1 → va_S (fun q => x0 ≤ q) s.heap H1 locs1 → W p l e R s m args below meth c H1 locs1 cells slots Q (F0 m (pc + 3) ls (.int x :: rest))) :
    W p l e R s m args below meth c H locs cells slots Q (F0 m pc ls (.int (am_z (k : Int)) :: .ref (al 950) :: rest)) := by
  have hal := C.2.2.2.2.2.2.2.2.2
  have hsz := fw_size hal hP
  have hw := fl_words_ok
  unfold fl_words at hw
  simp only [Bool.and_eq_true] at hw
  have hA : dm_Al al x0 H.size := ⟨hal, hsz⟩
  refine fw_tm (mid := 1) (x1 := H.size) (as := [.ref 950, .int (am_z (k : Int))]) (S := fw_S0 h) (S' := fw_S0 h) C (by decide) hw.1.1.1.1.1.1.1.2 (em_T_cell hy hA X 60000 950 (am_z (k : Int)) (fw_S0 h) (_, fw_S0 h) (te_cell hX hk _)) (Nat.le_refl 1000) rfl hnl (by rw [fl_n0, Nat.sub_self, Nat.add_zero]) (by rw [fw_tW0]; exact hP) hS (by show 0 + 1 ≤ _; omega) (by show 8 + (2 + 11) + 0 ≤ _; omega) (by rw [Nat.sub_self, Nat.sub_self]; exact hf) hW hdg (fun H1 locs1 z1 P1 S1 => ?_)
  rw [Nat.sub_self, Nat.sub_self]
  rw [fw_tW0] at P1
  exact kk _ H1 locs1 P1 S1
/-- isDrawn(o, se, q) -/
theorem fl_drawn {se q : Nat} (C : fw_C p s m args c al dC dI aC aV x0 X code 6) (hy : am_Hy l al) (Rr : qr_R nS nU h hm) (hs : se < nS) (hq : q ≤ nv (hm 197 (55 + 1504 * se))) (hnl : ls.size = 6) (hP : va_P (dC, dI) vwCl (am_W al aC h) H) (hS : va_S (fun q => x0 ≤ q) s.heap H locs) (hR : 14 ≤ R.frames ∧ 500 ≤ R.locals) (hf : cells + 3909 ≤ R.cells ∧ slots + 59548 ≤ R.slots) (hW : (rest.map fun v => v.category).sum ≤ 8) (hdg : decode code pc = .ok (.invokestatic 233, 3))
    (kk : ∀ (h1 : am_Hp) (H1 : Heap) (locs1 : List Loc) (c1 s1 : Nat), qr_R nS nU h1 hm → va_P (dC, dI) vwCl (am_W al aC h1) H1 → va_S (fun q => x0 ≤ q) s.heap H1 locs1 → c1 ≤ cells + 3909 → s1 ≤ slots + 59548 → W p l e R s m args below meth c H1 locs1 c1 s1 Q (F0 m (pc + 3) ls (.int 1 :: rest))) :
    W p l e R s m args below meth c H locs cells slots Q (F0 m pc ls (.int (am_z (q : Int)) :: .int (am_z (se : Int)) :: .ref (al 0) :: rest)) := by
  have hal := C.2.2.2.2.2.2.2.2.2
  have hsz := fw_size hal hP
  have hw := fl_words_ok
  unfold fl_words at hw
  simp only [Bool.and_eq_true] at hw
  have hA : dm_Al al x0 H.size := ⟨hal, hsz⟩
  have hb := fl_bg
  obtain ⟨S', e1, R1, d1, d2, d3⟩ := dw_isDrawn (N := 60000) (S := fw_S0 h) (h0 := h) (by omega) ⟨Rr, cF0⟩ hs hq (Nat.le_refl 1000) (by rw [fl_n0]; omega)
  rw [fl_n0] at d1 d2
  rw [fl_z0] at d3
  refine fw_dm (mid := 7) (x1 := H.size) (as := [.ref 0, .int (am_z (se : Int)), .int (am_z (q : Int))]) (S := fw_S0 h) (S' := S') C (by decide) hw.1.1.1.2 (em_L_isDrawn hy hA 60000 (am_z (se : Int)) (am_z (q : Int)) (fw_S0 h) ((1 : Int32), S') e1) (Nat.le_refl 1000) rfl hnl (by rw [fl_n0, Nat.sub_self, Nat.add_zero]) (by rw [fw_dW0]; exact hP) hS (by show 11 + 1 ≤ _; omega) (by show 8 + (7 + 11) + 260 ≤ _; omega) (by rw [fl_n0, fl_z0]; omega) hW hdg (fun H1 locs1 z1 P1 S1 => ?_)
  rw [fl_n0, fl_z0]
  exact kk (dm_h S') H1 locs1 _ _ R1.1 (dm_PC P1) S1 (by omega) (by omega)
/-- isUnlike(o, se, a, b) -/
theorem fl_unlike {se q q' : Nat} (C : fw_C p s m args c al dC dI aC aV x0 X code 6) (hy : am_Hy l al) (Rr : qr_R nS nU h hm) (hs : se < nS) (hq : q ≤ nv (hm 197 (55 + 1504 * se))) (hq' : q' ≤ nv (hm 197 (55 + 1504 * se))) (hnl : ls.size = 6) (hP : va_P (dC, dI) vwCl (am_W al aC h) H) (hS : va_S (fun q => x0 ≤ q) s.heap H locs) (hR : 14 ≤ R.frames ∧ 500 ≤ R.locals) (hf : cells + 7818 ≤ R.cells ∧ slots + 119096 ≤ R.slots) (hW : (rest.map fun v => v.category).sum ≤ 8) (hdg : decode code pc = .ok (.invokestatic 241, 3))
    (kk : ∀ (h1 : am_Hp) (H1 : Heap) (locs1 : List Loc) (c1 s1 : Nat), qr_R nS nU h1 hm → va_P (dC, dI) vwCl (am_W al aC h1) H1 → va_S (fun q => x0 ≤ q) s.heap H1 locs1 → c1 ≤ cells + 7818 → s1 ≤ slots + 119096 → W p l e R s m args below meth c H1 locs1 c1 s1 Q (F0 m (pc + 3) ls (.int 1 :: rest))) :
    W p l e R s m args below meth c H locs cells slots Q (F0 m pc ls (.int (am_z (q' : Int)) :: .int (am_z (q : Int)) :: .int (am_z (se : Int)) :: .ref (al 0) :: rest)) := by
  have hal := C.2.2.2.2.2.2.2.2.2
  have hsz := fw_size hal hP
  have hw := fl_words_ok
  unfold fl_words at hw
  simp only [Bool.and_eq_true] at hw
  have hA : dm_Al al x0 H.size := ⟨hal, hsz⟩
  have hb := fl_bg
  obtain ⟨S', e1, R1, d1, d2, d3⟩ := dw_isUnlike (N := 60000) (S := fw_S0 h) (h0 := h) (by omega) ⟨Rr, cF0⟩ hs hq hq' (Nat.le_refl 1000) (by rw [fl_n0]; omega)
  rw [fl_n0] at d1 d2
  rw [fl_z0] at d3
  refine fw_dm (mid := 9) (x1 := H.size) (as := [.ref 0, .int (am_z (se : Int)), .int (am_z (q : Int)), .int (am_z (q' : Int))]) (S := fw_S0 h) (S' := S') C (by decide) hw.1.2 (em_L_isUnlike hy hA 60000 (am_z (se : Int)) (am_z (q : Int)) (am_z (q' : Int)) (fw_S0 h) ((1 : Int32), S') e1) (Nat.le_refl 1000) rfl hnl (by rw [fl_n0, Nat.sub_self, Nat.add_zero]) (by rw [fw_dW0]; exact hP) hS (by show 11 + 1 ≤ _; omega) (by show 8 + (9 + 11) + 260 ≤ _; omega) (by rw [fl_n0, fl_z0]; omega) hW hdg (fun H1 locs1 z1 P1 S1 => ?_)
  rw [fl_n0, fl_z0]
  exact kk (dm_h S') H1 locs1 _ _ R1.1 (dm_PC P1) S1 (by omega) (by omega)
/-- isSeen(o, u) -/
theorem fl_seen {u : Nat} (C : fw_C p s m args c al dC dI aC aV x0 X code 6) (hy : am_Hy l al) (Rr : qr_R nS nU h hm) (hu : u < nU) (hnl : ls.size = 6) (hP : va_P (dC, dI) vwCl (am_W al aC h) H) (hS : va_S (fun q => x0 ≤ q) s.heap H locs) (hR : 14 ≤ R.frames ∧ 500 ≤ R.locals) (hf : cells + 4005 ≤ R.cells ∧ slots + 59548 ≤ R.slots) (hW : (rest.map fun v => v.category).sum ≤ 8) (hdg : decode code pc = .ok (.invokestatic 237, 3))
    (kk : ∀ (h1 hm1 : am_Hp) (H1 : Heap) (locs1 : List Loc) (c1 s1 : Nat), qr_R nS nU h1 hm1 → hm1 197 = hm 197 → va_P (dC, dI) vwCl (am_W al aC h1) H1 → va_S (fun q => x0 ≤ q) s.heap H1 locs1 → c1 ≤ cells + 4005 → s1 ≤ slots + 59548 → W p l e R s m args below meth c H1 locs1 c1 s1 Q (F0 m (pc + 3) ls (.int 1 :: rest))) :
    W p l e R s m args below meth c H locs cells slots Q (F0 m pc ls (.int (am_z (u : Int)) :: .ref (al 0) :: rest)) := by
  have hal := C.2.2.2.2.2.2.2.2.2
  have hsz := fw_size hal hP
  have hw := fl_words_ok
  unfold fl_words at hw
  simp only [Bool.and_eq_true] at hw
  have hA : dm_Al al x0 H.size := ⟨hal, hsz⟩
  have hb := fl_bg
  obtain ⟨S', hm1, e1, R1, -, k1, d1, d2, d3⟩ := dw_isSeen (N := 60000) (S := fw_S0 h) (h0 := h) (by omega) ⟨Rr, cF0⟩ hu (Nat.le_refl 1000) (by rw [fl_n0]; omega)
  rw [fl_n0] at d1 d2
  rw [fl_z0] at d3
  refine fw_dm (mid := 8) (x1 := H.size) (as := [.ref 0, .int (am_z (u : Int))]) (S := fw_S0 h) (S' := S') C (by decide) hw.1.1.2 (em_L_isSeen hy hA 60000 (am_z (u : Int)) (fw_S0 h) ((1 : Int32), S') e1) (Nat.le_refl 1000) rfl hnl (by rw [fl_n0, Nat.sub_self, Nat.add_zero]) (by rw [fw_dW0]; exact hP) hS (by show 11 + 1 ≤ _; omega) (by show 8 + (12 + 11) + 260 ≤ _; omega) (by rw [fl_n0, fl_z0]; omega) hW hdg (fun H1 locs1 z1 P1 S1 => ?_)
  rw [fl_n0, fl_z0]
  exact kk (dm_h S') hm1 H1 locs1 _ _ R1.1 k1 (dm_PC P1) S1 (by omega) (by omega)
/-- count(0), count(1) -/
theorem fl_count {w : Int32} {n : Nat} (C : fw_C p s m args c al dC dI aC aV x0 X code 6) (hy : am_Hy l al) (hq : f_X9_count 60000 w h = some (some (am_z (n : Int)), h)) (hnl : ls.size = 6) (hP : va_P (dC, dI) vwCl (am_W al aC h) H) (hS : va_S (fun q => x0 ≤ q) s.heap H locs) (hR : 14 ≤ R.frames ∧ 500 ≤ R.locals) (hf : cells ≤ R.cells ∧ slots ≤ R.slots) (hW : (rest.map fun v => v.category).sum ≤ 8) (hdg : decode code pc = .ok (.invokevirtual 102, 3))
    (kk : ∀ (H1 : Heap) (locs1 : List Loc), va_P (dC, dI) vwCl (am_W al aC h) H1 → va_S (fun q => x0 ≤ q) s.heap H1 locs1 → W p l e R s m args below meth c H1 locs1 cells slots Q (F0 m (pc + 3) ls (.int (am_z (n : Int)) :: rest))) :
    W p l e R s m args below meth c H locs cells slots Q (F0 m pc ls (.int w :: .ref (al 0) :: rest)) := by
  have hw := fl_words_ok
  unfold fl_words at hw
  simp only [Bool.and_eq_true] at hw
  exact fw_am (mid := 59) (b := 0) (as := [.int w]) (h := h) (h' := h) (v := some (.int (am_z (n : Int)))) (n := 1) C hw.1.1.1.1.1.2 (m_X9_count hy 60000 w h (some (am_z (n : Int)), h) hq) rfl (by decide) hnl hP hS (by show 8 + 1 ≤ _; omega) (by show 8 + (2 + 11) + 143 ≤ _; omega) hf hW hdg (fun H1 locs1 P1 S1 _ _ => kk H1 locs1 P1 S1)
/-- session(se, 2) -/
theorem fl_sess {se n : Nat} {w : Int32} (C : fw_C p s m args c al dC dI aC aV x0 X code 6) (hy : am_Hy l al) (hq : f_X9_session 60000 (am_z (se : Int)) w h = some (some (am_z (n : Int)), h)) (hnl : ls.size = 6) (hP : va_P (dC, dI) vwCl (am_W al aC h) H) (hS : va_S (fun q => x0 ≤ q) s.heap H locs) (hR : 14 ≤ R.frames ∧ 500 ≤ R.locals) (hf : cells ≤ R.cells ∧ slots ≤ R.slots) (hW : (rest.map fun v => v.category).sum ≤ 8) (hdg : decode code pc = .ok (.invokevirtual 108, 3))
    (kk : ∀ (H1 : Heap) (locs1 : List Loc), va_P (dC, dI) vwCl (am_W al aC h) H1 → va_S (fun q => x0 ≤ q) s.heap H1 locs1 → W p l e R s m args below meth c H1 locs1 cells slots Q (F0 m (pc + 3) ls (.int (am_z (n : Int)) :: rest))) :
    W p l e R s m args below meth c H locs cells slots Q (F0 m pc ls (.int w :: .int (am_z (se : Int)) :: .ref (al 0) :: rest)) := by
  have hw := fl_words_ok
  unfold fl_words at hw
  simp only [Bool.and_eq_true] at hw
  exact fw_am (mid := 60) (b := 0) (as := [.int (am_z (se : Int)), .int w]) (h := h) (h' := h) (v := some (.int (am_z (n : Int)))) (n := 2) C hw.1.1.1.1.2 (m_X9_session hy 60000 (am_z (se : Int)) w h (some (am_z (n : Int)), h) hq) rfl (by decide) hnl hP hS (by show 7 + 1 ≤ _; omega) (by show 8 + (4 + 11) + 121 ≤ _; omega) hf hW hdg (fun H1 locs1 P1 S1 _ _ => kk H1 locs1 P1 S1)
/-- changes(o, x) -/
theorem fl_chg {x : Int32} (C : fw_C p s m args c al dC dI aC aV x0 X code 6) (hy : am_Hy l al) (Rr : qr_R nS nU h hm) (h1 : 0 < nS) (h2 : 0 < nU) (hnl : ls.size = 6) (hP : va_P (dC, dI) vwCl (am_W al aC h) H) (hS : va_S (fun q => x0 ≤ q) s.heap H locs) (hR : 14 ≤ R.frames ∧ 500 ≤ R.locals) (hf : cells ≤ R.cells ∧ slots ≤ R.slots) (hW : (rest.map fun v => v.category).sum ≤ 8) (hdg : decode code pc = .ok (.invokestatic 245, 3))
    (kk : ∀ (h1 hm1 : am_Hp) (H1 : Heap) (locs1 : List Loc), qr_R nS nU h1 hm1 → va_P (dC, dI) vwCl (am_W al aC h1) H1 → va_S (fun q => x0 ≤ q) s.heap H1 locs1 → W p l e R s m args below meth c H1 locs1 cells slots Q (F0 m (pc + 3) ls rest)) :
    W p l e R s m args below meth c H locs cells slots Q (F0 m pc ls (.int x :: .ref (al 0) :: rest)) := by
  have hw := fl_words_ok
  unfold fl_words at hw
  simp only [Bool.and_eq_true] at hw
  obtain ⟨g1, hm1, e1, R1⟩ := dvc_changes (N := 60000) (h0 := h) (Nat.le_refl _) ⟨Rr, cF0⟩ h1 h2 x
  exact fw_amS (mid := 108) (as := [.ref 0, .int x]) (h := h) (h' := g1) (v := none) (n := 2) C (by decide) hw.2 (m_L_changes hy 60000 x h (some (), g1) e1) rfl hnl hP hS (by show 11 + 1 ≤ _; omega) (by show 8 + (5 + 11) + 222 ≤ _; omega) hf hW hdg (fun H1 locs1 P1 S1 => kk g1 hm1 H1 locs1 R1.1 P1 S1)
end FL2
