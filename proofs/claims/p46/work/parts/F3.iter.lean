section FL3
variable {p : Program} {l : Launch} {e : Env} {R : Room} {s : State} {m : MethodId} {args : Array Value} {below : List Frame} {meth : Method} {c : Code} {Q : State → Prop}
variable {al : Nat → Nat} {dC : Nat → ClassId} {dI : Nat → Nat → Nat} {aC : Nat → ClassId} {aV : Nat → Nat} {x0 : Nat} {X : tm_X}
variable {cells slots : Nat} {ls : Array Slot} {H : Heap} {locs : List Loc} {h hm : am_Hp} {nS nU : Nat} {C0 Z0 i se n : Nat} {x : Int32}
/-- how many screens are drawn ahead of step i -/
def fl_scr (i : Nat) : Nat := 2 * i + (i + 2) / 3 + 2 * ((i + 3) / 4)
theorem fl_scr1 : fl_scr (i + 1) = fl_scr i + 2 + (if i % 3 = 0 then 1 else 0) + (if i % 4 = 0 then 2 else 0) := by
  unfold fl_scr
  have a1 : (i + 1 + 3) / 4 = i / 4 + 1 := by omega
  have a2 : (i + 1 + 2) / 3 = i / 3 + 1 := by omega
  have a3 : i % 4 = 0 → (i + 3) / 4 = i / 4 := fun z => by omega
  have a4 : ¬ i % 4 = 0 → (i + 3) / 4 = i / 4 + 1 := fun z => by omega
  have a5 : i % 3 = 0 → (i + 2) / 3 = i / 3 := fun z => by omega
  have a6 : ¬ i % 3 = 0 → (i + 2) / 3 = i / 3 + 1 := fun z => by omega
  rw [a1, a2]
  by_cases h3 : i % 3 = 0
  · rw [if_pos h3, a5 h3]
    by_cases h4 : i % 4 = 0
    · rw [if_pos h4, a3 h4]
      omega
    · rw [if_neg h4, a4 h4]
      omega
  · rw [if_neg h3, a6 h3]
    by_cases h4 : i % 4 = 0
    · rw [if_pos h4, a3 h4]
      omega
    · rw [if_neg h4, a4 h4]
      omega
theorem fl_scr30 (hi : i ≤ 30) : fl_scr i ≤ 86 := by
  unfold fl_scr
  omega
def fl_hd (al : Nat → Nat) (i : Nat) : List (Nat × Value) := [(2, .int (am_z (i : Int))), (1, .ref (al 0)), (0, .ref (al 950))]
def fl_lv (al : Nat → Nat) (i : Nat) (x : Int32) (se n : Nat) : List (Nat × Value) := [(5, .int (am_z (n : Int))), (4, .int (am_z (se : Int))), (3, .int x), (2, .int (am_z (i : Int))), (1, .ref (al 0)), (0, .ref (al 950))]
/-- where the next step begins -/
def fl_K (p : Program) (l : Launch) (e : Env) (R : Room) (s : State) (m : MethodId) (args : Array Value) (below : List Frame) (meth : Method) (c : Code) (Q : State → Prop) (al : Nat → Nat) (dC : Nat → ClassId) (dI : Nat → Nat → Nat) (aC : Nat → ClassId) (x0 nS nU C0 Z0 i : Nat) : Prop :=
  ∀ (h1 hm1 : am_Hp) (H1 : Heap) (locs1 : List Loc) (ls1 : Array Slot) (c1 s1 : Nat), qr_R nS nU h1 hm1 → va_P (dC, dI) vwCl (am_W al aC h1) H1 → va_S (fun q => x0 ≤ q) s.heap H1 locs1 → lv_has ls1 6 (fl_hd al i) → c1 ≤ C0 + 4005 * fl_scr i → s1 ≤ Z0 + 59548 * fl_scr i → W p l e R s m args below meth c H1 locs1 c1 s1 Q (F0 m 13 ls1 [])
theorem fl_rem (i k : Nat) (hi : i < 100) (hk : 0 < k) (hk2 : k < 100) : am_z (i : Int) - am_z (i : Int) / am_z (k : Int) * am_z (k : Int) = am_z ((i % k : Nat) : Int) := by
  rw [am_z_div (by omega) (by omega) (by omega) (by omega), am_z_mul, am_z_sub]
  have e3 : ((i % k : Nat) : Int) = (i : Int) % (k : Int) := rfl
  rw [e3, Int.tdiv_eq_ediv_of_nonneg (by omega), Int.emod_def, Int.mul_comm]
theorem fl_t136 (C : fw_C p s m args c al dC dI aC aV x0 X code 6) (hy : am_Hy l al) (Rr : qr_R nS nU h hm) (h1 : 0 < nS) (h2 : 0 < nU) (hl : lv_has ls 6 (fl_lv al i x se n)) (hP : va_P (dC, dI) vwCl (am_W al aC h) H) (hS : va_S (fun q => x0 ≤ q) s.heap H locs) (hR : 14 ≤ R.frames ∧ 500 ≤ R.locals) (hRc : C0 + 4005 * 86 ≤ R.cells ∧ Z0 + 59548 * 86 ≤ R.slots) (hi : i < 30)
    (hc : cells ≤ C0 + 4005 * fl_scr (i + 1)) (hz : slots ≤ Z0 + 59548 * fl_scr (i + 1)) (kk : fl_K p l e R s m args below meth c Q al dC dI aC x0 nS nU C0 Z0 (i + 1)) : W p l e R s m args below meth c H locs cells slots Q (F0 m 136 ls []) := by
  have hx := C.1
  have hb := C.2.1
  have hd := fl_code_ok.2.2.2
  unfold fl_code4 at hd
  simp only [Bool.and_eq_true, decide_eq_true_eq] at hd
  obtain ⟨⟨⟨⟨⟨⟨⟨⟨⟨⟨⟨⟨⟨⟨⟨⟨⟨⟨⟨⟨⟨d107, d108⟩, d109⟩, d112⟩, d113⟩, d115⟩, d116⟩, d118⟩, d119⟩, d121⟩, d122⟩, d123⟩, d126⟩, d128⟩, d131⟩, d136⟩, d137⟩, d138⟩, d141⟩, d144⟩, d147⟩, d148⟩ := hd
  have s30 := fl_scr30 (i := i + 1) (by omega)
  refine lv_aload_n (i := 1) hx hb d136 rfl (lv_at hl 4 rfl) ?_
  refine lv_iload_n (i := 3) hx hb d137 rfl (lv_at hl 2 rfl) ?_
  refine fl_chg C hy Rr h1 h2 hl.1 hP hS hR (by omega) (Nat.le_of_ble_eq_true rfl) d138 (fun g1 hm1 H1 locs1 R1 P1 S1 => ?_)
  refine lv_iinc (i := 2) (k := 3) (v := am_z ((i + 1 : Nat) : Int)) (lv' := [(2, .int (am_z ((i + 1 : Nat) : Int))), (5, .int (am_z (n : Int))), (4, .int (am_z (se : Int))), (3, .int x), (1, .ref (al 0)), (0, .ref (al 950))]) hx hb d141 hl rfl (te_p1 i) (by decide) rfl (fun ls1 hl1 => ?_)
  refine lv_goto (tgt := 13) hx hb d144 (by decide) ?_
  exact kk g1 hm1 H1 locs1 ls1 _ _ R1 P1 S1 (lv_sub hl1 [0, 4, 5] rfl) hc hz
theorem fl_t106 (C : fw_C p s m args c al dC dI aC aV x0 X code 6) (hy : am_Hy l al) (Rr : qr_R nS nU h hm) (h1 : 0 < nS) (h2 : 0 < nU) (hse : se < nS) (hn : n = nv (hm 197 (55 + 1504 * se))) (hn3 : n ≤ 300) (hl : lv_has ls 6 (fl_lv al i x se n)) (hP : va_P (dC, dI) vwCl (am_W al aC h) H) (hS : va_S (fun q => x0 ≤ q) s.heap H locs) (hR : 14 ≤ R.frames ∧ 500 ≤ R.locals) (hRc : C0 + 4005 * 86 ≤ R.cells ∧ Z0 + 59548 * 86 ≤ R.slots) (hi : i < 30)
    (hc : cells ≤ C0 + 4005 * (fl_scr i + 2 + (if i % 3 = 0 then 1 else 0))) (hz : slots ≤ Z0 + 59548 * (fl_scr i + 2 + (if i % 3 = 0 then 1 else 0))) (kk : fl_K p l e R s m args below meth c Q al dC dI aC x0 nS nU C0 Z0 (i + 1)) : W p l e R s m args below meth c H locs cells slots Q (F0 m 106 ls []) := by
  have hx := C.1
  have hb := C.2.1
  have hd3 := fl_code_ok.2.2.1
  unfold fl_code3 at hd3
  simp only [Bool.and_eq_true, decide_eq_true_eq] at hd3
  have d106 := hd3.2
  have hd := fl_code_ok.2.2.2
  unfold fl_code4 at hd
  simp only [Bool.and_eq_true, decide_eq_true_eq] at hd
  obtain ⟨⟨⟨⟨⟨⟨⟨⟨⟨⟨⟨⟨⟨⟨⟨⟨⟨⟨⟨⟨⟨d107, d108⟩, d109⟩, d112⟩, d113⟩, d115⟩, d116⟩, d118⟩, d119⟩, d121⟩, d122⟩, d123⟩, d126⟩, d128⟩, d131⟩, d136⟩, d137⟩, d138⟩, d141⟩, d144⟩, d147⟩, d148⟩ := hd
  have s30 := fl_scr30 (i := i + 1) (by omega)
  have s1 := fl_scr1 (i := i)
  generalize (if i % 3 = 0 then 1 else 0) = b3 at hc hz s1
  refine lv_iload_n (i := 2) hx hb d106 rfl (lv_at hl 3 rfl) ?_
  refine lv_iconst hx hb (v := am_z ((4 : Nat) : Int)) d107 rfl ?_
  refine lv_irem hx hb d108 (by decide) ?_
  rw [fl_rem i 4 (by omega) (by decide) (by decide)]
  refine lv_if_ne (tgt := 136) hx hb d109 (by decide) (fun hne => ?_) (fun he => ?_)
  · have h4 : ¬ i % 4 = 0 := fun z => hne (by rw [z]; rfl)
    rw [if_neg h4] at s1
    exact fl_t136 C hy Rr h1 h2 hl hP hS hR hRc hi (by omega) (by omega) kk
  · have h4 : i % 4 = 0 := by
      have he : am_z ((i % 4 : Nat) : Int) = am_z 0 := he
      rw [am_z_eq (by omega) (by omega) (by omega) (by omega)] at he
      omega
    rw [if_pos h4] at s1
    refine lv_aload_n (i := 1) hx hb d112 rfl (lv_at hl 4 rfl) ?_
    refine lv_iload (i := 4) hx hb d113 (lv_at hl 1 rfl) ?_
    refine lv_iload_n (i := 3) hx hb d115 rfl (lv_at hl 2 rfl) ?_
    refine lv_bipush hx hb (v := am_z 64) d116 (by decide) ?_
    refine lv_idiv hx hb d118 (by decide) ?_
    refine lv_iload (i := 5) hx hb d119 (lv_at hl 0 rfl) ?_
    refine lv_iconst hx hb (v := (1 : Int32)) d121 rfl ?_
    refine lv_iadd hx hb d122 ?_
    rw [te_p1 n]
    refine fl_in C hy (Nat.succ_pos n) (by omega) hl.1 hP hS hR (by omega) (Nat.le_of_ble_eq_true rfl) d123 (fun r H1 locs1 hr P1 S1 => ?_)
    refine lv_iload (i := 5) hx hb d126 (lv_at hl 0 rfl) ?_
    refine fl_unlike C hy Rr hse (by omega) (by omega) hl.1 P1 S1 hR (by omega) (Nat.le_of_ble_eq_true rfl) d128 (fun g2 H2 locs2 c2 s2 R2 P2 S2 hc2 hs2 => ?_)
    refine lv_if_ne (tgt := 136) hx hb d131 (by decide) (fun _ => ?_) (fun z => absurd z (by decide))
    exact fl_t136 C hy R2 h1 h2 hl P2 S2 hR hRc hi (by omega) (by omega) kk
theorem fl_t87 (C : fw_C p s m args c al dC dI aC aV x0 X code 6) (hy : am_Hy l al) (Rr : qr_R nS nU h hm) (h1 : 0 < nS) (h2 : 0 < nU) (hse : se < nS) (hn : n = nv (hm 197 (55 + 1504 * se))) (hn3 : n ≤ 300) (hl : lv_has ls 6 (fl_lv al i x se n)) (hP : va_P (dC, dI) vwCl (am_W al aC h) H) (hS : va_S (fun q => x0 ≤ q) s.heap H locs) (hR : 14 ≤ R.frames ∧ 500 ≤ R.locals) (hRc : C0 + 4005 * 86 ≤ R.cells ∧ Z0 + 59548 * 86 ≤ R.slots) (hi : i < 30)
    (hc : cells ≤ C0 + 4005 * (fl_scr i + 1 + (if i % 3 = 0 then 1 else 0))) (hz : slots ≤ Z0 + 59548 * (fl_scr i + 1 + (if i % 3 = 0 then 1 else 0))) (kk : fl_K p l e R s m args below meth c Q al dC dI aC x0 nS nU C0 Z0 (i + 1)) : W p l e R s m args below meth c H locs cells slots Q (F0 m 87 ls []) := by
  have hx := C.1
  have hb := C.2.1
  have hd := fl_code_ok.2.2.1
  unfold fl_code3 at hd
  simp only [Bool.and_eq_true, decide_eq_true_eq] at hd
  obtain ⟨⟨⟨⟨⟨⟨⟨⟨⟨⟨⟨⟨⟨⟨⟨⟨⟨⟨⟨d70, d71⟩, d73⟩, d74⟩, d76⟩, d77⟩, d78⟩, d81⟩, d84⟩, d87⟩, d88⟩, d89⟩, d91⟩, d92⟩, d93⟩, d94⟩, d97⟩, d100⟩, d103⟩, d106⟩ := hd
  have s30 := fl_scr30 (i := i + 1) (by omega)
  have s1 := fl_scr1 (i := i)
  have u6 : nU ≤ 6 := Rr.1.2.1
  refine lv_aload_n (i := 1) hx hb d87 rfl (lv_at hl 4 rfl) ?_
  refine lv_iload_n (i := 3) hx hb d88 rfl (lv_at hl 2 rfl) ?_
  refine lv_bipush hx hb (v := am_z 32) d89 (by decide) ?_
  refine lv_idiv hx hb d91 (by decide) ?_
  refine lv_aload_n (i := 1) hx hb d92 rfl (lv_at hl 4 rfl) ?_
  refine lv_iconst hx hb (v := (1 : Int32)) d93 rfl ?_
  refine fl_count C hy (dva_count Rr).2 hl.1 hP hS hR (by omega) (Nat.le_of_ble_eq_true rfl) d94 (fun H1 locs1 P1 S1 => ?_)
  refine fl_in C hy h2 (by omega) hl.1 P1 S1 hR (by omega) (Nat.le_of_ble_eq_true rfl) d97 (fun u H2 locs2 hu P2 S2 => ?_)
  refine fl_seen C hy Rr hu hl.1 P2 S2 hR (by omega) (Nat.le_of_ble_eq_true rfl) d100 (fun g3 hm3 H3 locs3 c3 s3 R3 k3 P3 S3 hc3 hs3 => ?_)
  refine lv_if_eq (tgt := 134) hx hb d103 (by decide) (fun z => absurd z (by decide)) (fun _ => ?_)
  exact fl_t106 C hy R3 h1 h2 hse (by rw [k3]; exact hn) hn3 hl P3 S3 hR hRc hi (by omega) (by omega) kk
theorem fl_t61 (C : fw_C p s m args c al dC dI aC aV x0 X code 6) (hy : am_Hy l al) (Rr : qr_R nS nU h hm) (h1 : 0 < nS) (h2 : 0 < nU) (hse : se < nS) (hn : n = nv (hm 197 (55 + 1504 * se))) (hn3 : n ≤ 300) (hl : lv_has ls 6 (fl_lv al i x se n)) (hP : va_P (dC, dI) vwCl (am_W al aC h) H) (hS : va_S (fun q => x0 ≤ q) s.heap H locs) (hR : 14 ≤ R.frames ∧ 500 ≤ R.locals) (hRc : C0 + 4005 * 86 ≤ R.cells ∧ Z0 + 59548 * 86 ≤ R.slots) (hi : i < 30)
    (hc : cells ≤ C0 + 4005 * (fl_scr i + 1)) (hz : slots ≤ Z0 + 59548 * (fl_scr i + 1)) (kk : fl_K p l e R s m args below meth c Q al dC dI aC x0 nS nU C0 Z0 (i + 1)) : W p l e R s m args below meth c H locs cells slots Q (F0 m 61 ls []) := by
  have hx := C.1
  have hb := C.2.1
  have hd2 := fl_code_ok.2.1
  unfold fl_code2 at hd2
  simp only [Bool.and_eq_true, decide_eq_true_eq] at hd2
  obtain ⟨⟨⟨⟨⟨⟨⟨⟨⟨⟨⟨⟨⟨⟨⟨⟨⟨⟨⟨d32, d33⟩, d36⟩, d39⟩, d41⟩, d42⟩, d44⟩, d45⟩, d48⟩, d50⟩, d51⟩, d53⟩, d55⟩, d58⟩, d61⟩, d62⟩, d63⟩, d64⟩, d67⟩, d68⟩ := hd2
  have hd := fl_code_ok.2.2.1
  unfold fl_code3 at hd
  simp only [Bool.and_eq_true, decide_eq_true_eq] at hd
  obtain ⟨⟨⟨⟨⟨⟨⟨⟨⟨⟨⟨⟨⟨⟨⟨⟨⟨⟨⟨d70, d71⟩, d73⟩, d74⟩, d76⟩, d77⟩, d78⟩, d81⟩, d84⟩, d87⟩, d88⟩, d89⟩, d91⟩, d92⟩, d93⟩, d94⟩, d97⟩, d100⟩, d103⟩, d106⟩ := hd
  have s30 := fl_scr30 (i := i + 1) (by omega)
  have s1 := fl_scr1 (i := i)
  refine lv_iload_n (i := 2) hx hb d61 rfl (lv_at hl 3 rfl) ?_
  refine lv_iconst hx hb (v := am_z ((3 : Nat) : Int)) d62 rfl ?_
  refine lv_irem hx hb d63 (by decide) ?_
  rw [fl_rem i 3 (by omega) (by decide) (by decide)]
  refine lv_if_ne (tgt := 87) hx hb d64 (by decide) (fun hne => ?_) (fun he => ?_)
  · have h4 : ¬ i % 3 = 0 := fun z => hne (by rw [z]; rfl)
    exact fl_t87 C hy Rr h1 h2 hse hn hn3 hl hP hS hR hRc hi (by rw [if_neg h4]; exact hc) (by rw [if_neg h4]; exact hz) kk
  · have h4 : i % 3 = 0 := by
      have he : am_z ((i % 3 : Nat) : Int) = am_z 0 := he
      rw [am_z_eq (by omega) (by omega) (by omega) (by omega)] at he
      omega
    rw [if_pos h4] at s1
    refine lv_aload_n (i := 1) hx hb d67 rfl (lv_at hl 4 rfl) ?_
    refine lv_iload (i := 4) hx hb d68 (lv_at hl 1 rfl) ?_
    refine lv_iload_n (i := 3) hx hb d70 rfl (lv_at hl 2 rfl) ?_
    refine lv_bipush hx hb (v := am_z 64) d71 (by decide) ?_
    refine lv_idiv hx hb d73 (by decide) ?_
    refine lv_iload (i := 5) hx hb d74 (lv_at hl 0 rfl) ?_
    refine lv_iconst hx hb (v := (1 : Int32)) d76 rfl ?_
    refine lv_iadd hx hb d77 ?_
    rw [te_p1 n]
    refine fl_in C hy (Nat.succ_pos n) (by omega) hl.1 hP hS hR (by omega) (Nat.le_of_ble_eq_true rfl) d78 (fun r H1 locs1 hr P1 S1 => ?_)
    refine fl_drawn C hy Rr hse (by omega) hl.1 P1 S1 hR (by omega) (Nat.le_of_ble_eq_true rfl) d81 (fun g2 H2 locs2 c2 s2 R2 P2 S2 hc2 hs2 => ?_)
    refine lv_if_eq (tgt := 134) hx hb d84 (by decide) (fun z => absurd z (by decide)) (fun _ => ?_)
    have k1 : ∀ A, A = fl_scr i + 1 + 1 → c2 ≤ C0 + 4005 * A := fun A hA => by
      obtain ⟨D, hD⟩ : ∃ D, D = fl_scr i + 1 := ⟨_, rfl⟩
      rw [← hD] at hc hA
      omega
    have k2 : ∀ A, A = fl_scr i + 1 + 1 → s2 ≤ Z0 + 59548 * A := fun A hA => by
      obtain ⟨D, hD⟩ : ∃ D, D = fl_scr i + 1 := ⟨_, rfl⟩
      rw [← hD] at hz hA
      omega
    exact fl_t87 C hy R2 h1 h2 hse hn hn3 hl P2 S2 hR hRc hi (by rw [if_pos h4]; exact k1 _ rfl) (by rw [if_pos h4]; exact k2 _ rfl) kk
/-- one step of the law -/
theorem fl_iter (C : fw_C p s m args c al dC dI aC aV x0 X code 6) (hy : am_Hy l al) (hX : X.1 < 2147483648) (Rr : qr_R nS nU h hm) (h1 : 0 < nS) (h2 : 0 < nU) (hl : lv_has ls 6 (fl_hd al i)) (hP : va_P (dC, dI) vwCl (am_W al aC h) H) (hS : va_S (fun q => x0 ≤ q) s.heap H locs) (hR : 14 ≤ R.frames ∧ 500 ≤ R.locals) (hRc : C0 + 4005 * 86 ≤ R.cells ∧ Z0 + 59548 * 86 ≤ R.slots) (hi : i < 30)
    (hc : cells ≤ C0 + 4005 * fl_scr i) (hz : slots ≤ Z0 + 59548 * fl_scr i) (kk : fl_K p l e R s m args below meth c Q al dC dI aC x0 nS nU C0 Z0 (i + 1)) : W p l e R s m args below meth c H locs cells slots Q (F0 m 13 ls []) := by
  have hx := C.1
  have hb := C.2.1
  have hd1 := fl_code_ok.1
  unfold fl_code1 at hd1
  simp only [Bool.and_eq_true, decide_eq_true_eq] at hd1
  obtain ⟨⟨⟨⟨⟨⟨⟨⟨⟨⟨⟨⟨⟨⟨⟨⟨⟨⟨⟨d0, d1⟩, d4⟩, d5⟩, d6⟩, d11⟩, d12⟩, d13⟩, d14⟩, d16⟩, d19⟩, d20⟩, d21⟩, d22⟩, d23⟩, d26⟩, d27⟩, d28⟩, d30⟩, d31⟩ := hd1
  have hd2 := fl_code_ok.2.1
  unfold fl_code2 at hd2
  simp only [Bool.and_eq_true, decide_eq_true_eq] at hd2
  obtain ⟨⟨⟨⟨⟨⟨⟨⟨⟨⟨⟨⟨⟨⟨⟨⟨⟨⟨⟨d32, d33⟩, d36⟩, d39⟩, d41⟩, d42⟩, d44⟩, d45⟩, d48⟩, d50⟩, d51⟩, d53⟩, d55⟩, d58⟩, d61⟩, d62⟩, d63⟩, d64⟩, d67⟩, d68⟩ := hd2
  have s30 := fl_scr30 (i := i + 1) (by omega)
  have s1 := fl_scr1 (i := i)
  have s4 : nS ≤ 4 := Rr.1.1
  refine lv_iload_n (i := 2) hx hb d13 rfl (lv_at hl 0 rfl) ?_
  refine lv_bipush hx hb (v := am_z 30) d14 (by decide) ?_
  refine lv_icmp_ge (tgt := 147) hx hb d16 (by decide) (fun z => absurd z (te_lei (by omega) (by omega) (by omega) (by omega) (by omega))) (fun _ => ?_)
  refine lv_aload_n (i := 0) hx hb d19 rfl (lv_at hl 2 rfl) ?_
  refine lv_iconst hx hb (v := am_z ((4 : Nat) : Int)) d20 rfl ?_
  refine lv_iload_n (i := 2) hx hb d21 rfl (lv_at hl 0 rfl) ?_
  refine lv_iadd hx hb d22 ?_
  have e4 : am_z ((4 : Nat) : Int) + am_z (i : Int) = am_z ((4 + i : Nat) : Int) := am_z_add _ _
  rw [e4]
  refine fl_cell C hy hX (by omega) hl.1 hP hS hR (by omega) (Nat.le_of_ble_eq_true rfl) d23 (fun x H1 locs1 P1 S1 => ?_)
  refine lv_istore_n (i := 3) (lv' := [(3, .int x), (2, .int (am_z (i : Int))), (1, .ref (al 0)), (0, .ref (al 950))]) hx hb d26 rfl hl (by decide) rfl (fun ls1 hl1 => ?_)
  refine lv_iload_n (i := 3) hx hb d27 rfl (lv_at hl1 0 rfl) ?_
  refine lv_bipush hx hb (v := am_z 8) d28 (by decide) ?_
  refine lv_idiv hx hb d30 (by decide) ?_
  refine lv_aload_n (i := 1) hx hb d31 rfl (lv_at hl1 2 rfl) ?_
  refine lv_iconst hx hb (v := (0 : Int32)) d32 rfl ?_
  refine fl_count C hy (dva_count Rr).1 hl1.1 P1 S1 hR (by omega) (Nat.le_of_ble_eq_true rfl) d33 (fun H2 locs2 P2 S2 => ?_)
  refine fl_in C hy h1 (by omega) hl1.1 P2 S2 hR (by omega) (Nat.le_of_ble_eq_true rfl) d36 (fun se H3 locs3 hse P3 S3 => ?_)
  refine lv_istore (i := 4) (lv' := [(4, .int (am_z (se : Int))), (3, .int x), (2, .int (am_z (i : Int))), (1, .ref (al 0)), (0, .ref (al 950))]) hx hb d39 hl1 (by decide) rfl (fun ls2 hl2 => ?_)
  refine lv_aload_n (i := 1) hx hb d41 rfl (lv_at hl2 3 rfl) ?_
  refine lv_iload (i := 4) hx hb d42 (lv_at hl2 0 rfl) ?_
  refine lv_iconst hx hb (v := (2 : Int32)) d44 rfl ?_
  obtain ⟨n1, -, n3⟩ := (Rr.2.2.2.1.2.1 se hse).1.1
  have hq := dva_session2 (N := 60000) Rr hse
  obtain ⟨n, hn⟩ : ∃ n, n = nv (hm 197 (55 + 1504 * se)) := ⟨_, rfl⟩
  rw [n1, ← hn] at hq
  refine fl_sess C hy hq hl2.1 P3 S3 hR (by omega) (Nat.le_of_ble_eq_true rfl) d45 (fun H4 locs4 P4 S4 => ?_)
  refine lv_istore (i := 5) (lv' := fl_lv al i x se n) hx hb d48 hl2 (by decide) rfl (fun ls3 hl3 => ?_)
  refine lv_aload_n (i := 1) hx hb d50 rfl (lv_at hl3 4 rfl) ?_
  refine lv_iload (i := 4) hx hb d51 (lv_at hl3 1 rfl) ?_
  refine lv_iload (i := 5) hx hb d53 (lv_at hl3 0 rfl) ?_
  refine fl_drawn C hy Rr hse (by omega) hl3.1 P4 S4 hR (by omega) (Nat.le_of_ble_eq_true rfl) d55 (fun g5 H5 locs5 c5 s5 R5 P5 S5 hc5 hs5 => ?_)
  refine lv_if_eq (tgt := 134) hx hb d58 (by decide) (fun z => absurd z (by decide)) (fun _ => ?_)
  have k1 : ∀ A, A = fl_scr i + 1 → c5 ≤ C0 + 4005 * A := fun A hA => by omega
  have k2 : ∀ A, A = fl_scr i + 1 → s5 ≤ Z0 + 59548 * A := fun A hA => by omega
  exact fl_t61 C hy R5 h1 h2 hse hn (by omega) hl3 P5 S5 hR hRc hi (k1 _ rfl) (k2 _ rfl) kk
/-- the law's loop -/
theorem fl_loop (C : fw_C p s m args c al dC dI aC aV x0 X code 6) (hy : am_Hy l al) (hX : X.1 < 2147483648) (h1 : 0 < nS) (h2 : 0 < nU) (hR : 14 ≤ R.frames ∧ 500 ≤ R.locals) (hRc : C0 + 4005 * 86 ≤ R.cells ∧ Z0 + 59548 * 86 ≤ R.slots)
    (kk : ∀ (H1 : Heap) (locs1 : List Loc) (ls1 : Array Slot) (c1 s1 : Nat), va_S (fun q => x0 ≤ q) s.heap H1 locs1 → c1 ≤ C0 + 4005 * 86 → s1 ≤ Z0 + 59548 * 86 → W p l e R s m args below meth c H1 locs1 c1 s1 Q (F0 m 147 ls1 [])) :
    ∀ (k i : Nat), i + k = 30 → fl_K p l e R s m args below meth c Q al dC dI aC x0 nS nU C0 Z0 i
  | 0, i, hi => by
    intro g1 hm1 H1 locs1 ls1 c1 s1 R1 P1 S1 hl1 hc1 hs1
    have hx := C.1
    have hb := C.2.1
    have hd1 := fl_code_ok.1
    unfold fl_code1 at hd1
    simp only [Bool.and_eq_true, decide_eq_true_eq] at hd1
    obtain ⟨⟨⟨⟨⟨⟨⟨⟨⟨⟨⟨⟨⟨⟨⟨⟨⟨⟨⟨d0, d1⟩, d4⟩, d5⟩, d6⟩, d11⟩, d12⟩, d13⟩, d14⟩, d16⟩, d19⟩, d20⟩, d21⟩, d22⟩, d23⟩, d26⟩, d27⟩, d28⟩, d30⟩, d31⟩ := hd1
    have s30 := fl_scr30 (i := i) (by omega)
    refine lv_iload_n (i := 2) hx hb d13 rfl (lv_at hl1 0 rfl) ?_
    refine lv_bipush hx hb (v := am_z 30) d14 (by decide) ?_
    refine lv_icmp_ge (tgt := 147) hx hb d16 (by decide) (fun _ => ?_) (fun z => absurd (te_lej (by omega) (by omega) (by omega) (by omega) (by omega)) z)
    exact kk H1 locs1 ls1 c1 s1 S1 (by omega) (by omega)
  | k + 1, i, hi => by
    intro g1 hm1 H1 locs1 ls1 c1 s1 R1 P1 S1 hl1 hc1 hs1
    exact fl_iter C hy hX R1 h1 h2 hl1 P1 S1 hR hRc (by omega) hc1 hs1 (fl_loop C hy hX h1 h2 hR hRc kk k (i + 1) (by omega))
end FL3
