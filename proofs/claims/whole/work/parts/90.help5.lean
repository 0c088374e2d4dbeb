section LHELP4
variable {l : Launch} {al : Nat → Nat} {dC : Nat → ClassId} {dI : Nat → Nat → Nat} {aC : Nat → ClassId} {aV : Nat → Nat} {x0 out : Nat} {cO : ClassId}
theorem lh_ov (v : Option Int32) : am_ot am_oi v = none ∨ ∃ x, am_ot am_oi v = some (some (.int x)) := by
  cases v with
  | none => exact Or.inl rfl
  | some x => exact Or.inr ⟨x, rfl⟩
theorem lh_ovf (v : Option UInt32) : am_ot am_of v = none ∨ ∃ x, am_ot am_of v = some (some (.float x)) := by
  cases v with
  | none => exact Or.inl rfl
  | some x => exact Or.inr ⟨x, rfl⟩
theorem lh_nef {x : Option UInt32} (hne : ∀ v, x = some v → vf_n64 (FP.f2d v)) : ∀ v, am_ot am_of x = some (some (.float v)) → vf_n64 (FP.f2d v) := by
  intro v hv
  cases x with
  | none => cases hv
  | some w => cases hv; exact hne _ rfl
set_option maxHeartbeats 1000000 in
theorem lh_session (hy : am_Hy l al) (N : Nat) (hal : ∀ k, k < 205 → al k = x0 + k) (ho : x0 + 205 ≤ out) (i1 : Int32) (i2 : Int32) (h : am_Hp) (r : Option Int32 × am_Hp) (hf : f_X9_session N i1 i2 h = some r) : lh_Met l al dC dI aC aV x0 out cO .long ⟨lw_L, "session", "(LSharedConsole;II[J)I"⟩ method_3_code 5 [(0, 10, 13, 13)] [.int i1, .int i2] h (am_ot am_oi r.1) r.2 :=
  lh_met (pc := 5) (ix := 7) (mid := 68) (n := 2) (la := 2) (ct := 13) rfl hal ho rfl (by decide +kernel) (m_X9_session hy N i1 i2 h r hf) (lh_ov r.1) rfl (by decide +kernel) (by decide) (by decide) (by decide) (by decide +kernel) (by decide +kernel) (Nat.le_of_ble_eq_true rfl)
    (fun p e R s m args below meth c Q H ls hx hb hl kk => by
      refine lv_aload_n hx hb (k := 3) (i := 3) (show decode method_3_code 0 = _ by decide +kernel) rfl (lv_at hl 3 rfl) ?_
      refine lv_iconst hx hb (n := 0) (v := 0) (show decode method_3_code 1 = _ by decide +kernel) rfl ?_
      refine lv_aload_n hx hb (k := 0) (i := 0) (show decode method_3_code 2 = _ by decide +kernel) rfl (lv_at hl 0 rfl) ?_
      refine lv_iload_n hx hb (k := 1) (i := 1) (show decode method_3_code 3 = _ by decide +kernel) rfl (lv_at hl 1 rfl) ?_
      refine lv_iload_n hx hb (k := 2) (i := 2) (show decode method_3_code 4 = _ by decide +kernel) rfl (lv_at hl 2 rfl) ?_
      exact kk)
    (fun p e R s m args below meth c Q H locs cells slots ls q hx hb hl kk => lv_astore hx hb (i := 4) (show decode method_3_code 13 = _ by decide +kernel) hl (by decide) rfl (fun ls9 _ => kk ls9))
set_option maxHeartbeats 1000000 in
theorem lh_event (hy : am_Hy l al) (N : Nat) (hal : ∀ k, k < 205 → al k = x0 + k) (ho : x0 + 205 ≤ out) (i1 : Int32) (i2 : Int32) (i3 : Int32) (h : am_Hp) (r : Option Int32 × am_Hp) (hf : f_X9_event N i1 i2 i3 h = some r) : lh_Met l al dC dI aC aV x0 out cO .long ⟨lw_L, "event", "(LSharedConsole;III[J)I"⟩ method_4_code 6 [(0, 12, 15, 13)] [.int i1, .int i2, .int i3] h (am_ot am_oi r.1) r.2 :=
  lh_met (pc := 7) (ix := 15) (mid := 69) (n := 3) (la := 2) (ct := 13) rfl hal ho rfl (by decide +kernel) (m_X9_event hy N i1 i2 i3 h r hf) (lh_ov r.1) rfl (by decide +kernel) (by decide) (by decide) (by decide) (by decide +kernel) (by decide +kernel) (Nat.le_of_ble_eq_true rfl)
    (fun p e R s m args below meth c Q H ls hx hb hl kk => by
      refine lv_aload hx hb (i := 4) (show decode method_4_code 0 = _ by decide +kernel) (lv_at hl 4 rfl) ?_
      refine lv_iconst hx hb (n := 0) (v := 0) (show decode method_4_code 2 = _ by decide +kernel) rfl ?_
      refine lv_aload_n hx hb (k := 0) (i := 0) (show decode method_4_code 3 = _ by decide +kernel) rfl (lv_at hl 0 rfl) ?_
      refine lv_iload_n hx hb (k := 1) (i := 1) (show decode method_4_code 4 = _ by decide +kernel) rfl (lv_at hl 1 rfl) ?_
      refine lv_iload_n hx hb (k := 2) (i := 2) (show decode method_4_code 5 = _ by decide +kernel) rfl (lv_at hl 2 rfl) ?_
      refine lv_iload_n hx hb (k := 3) (i := 3) (show decode method_4_code 6 = _ by decide +kernel) rfl (lv_at hl 3 rfl) ?_
      exact kk)
    (fun p e R s m args below meth c Q H locs cells slots ls q hx hb hl kk => lv_astore hx hb (i := 5) (show decode method_4_code 15 = _ by decide +kernel) hl (by decide) rfl (fun ls9 _ => kk ls9))
set_option maxHeartbeats 1000000 in
theorem lh_screen (hy : am_Hy l al) (N : Nat) (hal : ∀ k, k < 205 → al k = x0 + k) (ho : x0 + 205 ≤ out) (i1 : Int32) (i2 : Int32) (i3 : Int32) (h : am_Hp) (r : Option Int32 × am_Hp) (hf : f_X9_screen N i1 i2 i3 h = some r) : lh_Met l al dC dI aC aV x0 out cO .long ⟨lw_L, "screen", "(LSharedConsole;III[J)I"⟩ method_5_code 6 [(0, 12, 15, 13)] [.int i1, .int i2, .int i3] h (am_ot am_oi r.1) r.2 :=
  lh_met (pc := 7) (ix := 19) (mid := 70) (n := 3) (la := 2) (ct := 13) rfl hal ho rfl (by decide +kernel) (m_X9_screen hy N i1 i2 i3 h r hf) (lh_ov r.1) rfl (by decide +kernel) (by decide) (by decide) (by decide) (by decide +kernel) (by decide +kernel) (Nat.le_of_ble_eq_true rfl)
    (fun p e R s m args below meth c Q H ls hx hb hl kk => by
      refine lv_aload hx hb (i := 4) (show decode method_5_code 0 = _ by decide +kernel) (lv_at hl 4 rfl) ?_
      refine lv_iconst hx hb (n := 0) (v := 0) (show decode method_5_code 2 = _ by decide +kernel) rfl ?_
      refine lv_aload_n hx hb (k := 0) (i := 0) (show decode method_5_code 3 = _ by decide +kernel) rfl (lv_at hl 0 rfl) ?_
      refine lv_iload_n hx hb (k := 1) (i := 1) (show decode method_5_code 4 = _ by decide +kernel) rfl (lv_at hl 1 rfl) ?_
      refine lv_iload_n hx hb (k := 2) (i := 2) (show decode method_5_code 5 = _ by decide +kernel) rfl (lv_at hl 2 rfl) ?_
      refine lv_iload_n hx hb (k := 3) (i := 3) (show decode method_5_code 6 = _ by decide +kernel) rfl (lv_at hl 3 rfl) ?_
      exact kk)
    (fun p e R s m args below meth c Q H locs cells slots ls q hx hb hl kk => lv_astore hx hb (i := 5) (show decode method_5_code 15 = _ by decide +kernel) hl (by decide) rfl (fun ls9 _ => kk ls9))
set_option maxHeartbeats 1000000 in
theorem lh_at (hy : am_Hy l al) (N : Nat) (hal : ∀ k, k < 205 → al k = x0 + k) (ho : x0 + 205 ≤ out) (i1 : Int32) (i2 : Int32) (i3 : Int32) (i4 : Int32) (h : am_Hp) (r : Option Int32 × am_Hp) (hf : f_X9_at N i1 i2 i3 i4 h = some r) : lh_Met l al dC dI aC aV x0 out cO .long ⟨lw_L, "at", "(LSharedConsole;IIII[J)I"⟩ method_6_code 7 [(0, 14, 17, 13)] [.int i1, .int i2, .int i3, .int i4] h (am_ot am_oi r.1) r.2 :=
  lh_met (pc := 9) (ix := 22) (mid := 71) (n := 4) (la := 2) (ct := 13) rfl hal ho rfl (by decide +kernel) (m_X9_at hy N i1 i2 i3 i4 h r hf) (lh_ov r.1) rfl (by decide +kernel) (by decide) (by decide) (by decide) (by decide +kernel) (by decide +kernel) (Nat.le_of_ble_eq_true rfl)
    (fun p e R s m args below meth c Q H ls hx hb hl kk => by
      refine lv_aload hx hb (i := 5) (show decode method_6_code 0 = _ by decide +kernel) (lv_at hl 5 rfl) ?_
      refine lv_iconst hx hb (n := 0) (v := 0) (show decode method_6_code 2 = _ by decide +kernel) rfl ?_
      refine lv_aload_n hx hb (k := 0) (i := 0) (show decode method_6_code 3 = _ by decide +kernel) rfl (lv_at hl 0 rfl) ?_
      refine lv_iload_n hx hb (k := 1) (i := 1) (show decode method_6_code 4 = _ by decide +kernel) rfl (lv_at hl 1 rfl) ?_
      refine lv_iload_n hx hb (k := 2) (i := 2) (show decode method_6_code 5 = _ by decide +kernel) rfl (lv_at hl 2 rfl) ?_
      refine lv_iload_n hx hb (k := 3) (i := 3) (show decode method_6_code 6 = _ by decide +kernel) rfl (lv_at hl 3 rfl) ?_
      refine lv_iload hx hb (i := 4) (show decode method_6_code 7 = _ by decide +kernel) (lv_at hl 4 rfl) ?_
      exact kk)
    (fun p e R s m args below meth c Q H locs cells slots ls q hx hb hl kk => lv_astore hx hb (i := 6) (show decode method_6_code 17 = _ by decide +kernel) hl (by decide) rfl (fun ls9 _ => kk ls9))
set_option maxHeartbeats 1000000 in
theorem lh_above (hy : am_Hy l al) (N : Nat) (hal : ∀ k, k < 205 → al k = x0 + k) (ho : x0 + 205 ≤ out) (i1 : Int32) (i2 : Int32) (i3 : Int32) (i4 : Int32) (h : am_Hp) (r : Option Int32 × am_Hp) (hf : f_X9_above N i1 i2 i3 i4 h = some r) : lh_Met l al dC dI aC aV x0 out cO .long ⟨lw_L, "above", "(LSharedConsole;IIII[J)I"⟩ method_7_code 7 [(0, 14, 17, 13)] [.int i1, .int i2, .int i3, .int i4] h (am_ot am_oi r.1) r.2 :=
  lh_met (pc := 9) (ix := 26) (mid := 72) (n := 4) (la := 2) (ct := 13) rfl hal ho rfl (by decide +kernel) (m_X9_above hy N i1 i2 i3 i4 h r hf) (lh_ov r.1) rfl (by decide +kernel) (by decide) (by decide) (by decide) (by decide +kernel) (by decide +kernel) (Nat.le_of_ble_eq_true rfl)
    (fun p e R s m args below meth c Q H ls hx hb hl kk => by
      refine lv_aload hx hb (i := 5) (show decode method_7_code 0 = _ by decide +kernel) (lv_at hl 5 rfl) ?_
      refine lv_iconst hx hb (n := 0) (v := 0) (show decode method_7_code 2 = _ by decide +kernel) rfl ?_
      refine lv_aload_n hx hb (k := 0) (i := 0) (show decode method_7_code 3 = _ by decide +kernel) rfl (lv_at hl 0 rfl) ?_
      refine lv_iload_n hx hb (k := 1) (i := 1) (show decode method_7_code 4 = _ by decide +kernel) rfl (lv_at hl 1 rfl) ?_
      refine lv_iload_n hx hb (k := 2) (i := 2) (show decode method_7_code 5 = _ by decide +kernel) rfl (lv_at hl 2 rfl) ?_
      refine lv_iload_n hx hb (k := 3) (i := 3) (show decode method_7_code 6 = _ by decide +kernel) rfl (lv_at hl 3 rfl) ?_
      refine lv_iload hx hb (i := 4) (show decode method_7_code 7 = _ by decide +kernel) (lv_at hl 4 rfl) ?_
      exact kk)
    (fun p e R s m args below meth c Q H locs cells slots ls q hx hb hl kk => lv_astore hx hb (i := 6) (show decode method_7_code 17 = _ by decide +kernel) hl (by decide) rfl (fun ls9 _ => kk ls9))
set_option maxHeartbeats 1000000 in
theorem lh_user (hy : am_Hy l al) (N : Nat) (hal : ∀ k, k < 205 → al k = x0 + k) (ho : x0 + 205 ≤ out) (i1 : Int32) (i2 : Int32) (h : am_Hp) (r : Option Int32 × am_Hp) (hf : f_X9_user N i1 i2 h = some r) : lh_Met l al dC dI aC aV x0 out cO .long ⟨lw_L, "user", "(LSharedConsole;II[J)I"⟩ method_8_code 5 [(0, 10, 13, 13)] [.int i1, .int i2] h (am_ot am_oi r.1) r.2 :=
  lh_met (pc := 5) (ix := 29) (mid := 73) (n := 2) (la := 2) (ct := 13) rfl hal ho rfl (by decide +kernel) (m_X9_user hy N i1 i2 h r hf) (lh_ov r.1) rfl (by decide +kernel) (by decide) (by decide) (by decide) (by decide +kernel) (by decide +kernel) (Nat.le_of_ble_eq_true rfl)
    (fun p e R s m args below meth c Q H ls hx hb hl kk => by
      refine lv_aload_n hx hb (k := 3) (i := 3) (show decode method_8_code 0 = _ by decide +kernel) rfl (lv_at hl 3 rfl) ?_
      refine lv_iconst hx hb (n := 0) (v := 0) (show decode method_8_code 1 = _ by decide +kernel) rfl ?_
      refine lv_aload_n hx hb (k := 0) (i := 0) (show decode method_8_code 2 = _ by decide +kernel) rfl (lv_at hl 0 rfl) ?_
      refine lv_iload_n hx hb (k := 1) (i := 1) (show decode method_8_code 3 = _ by decide +kernel) rfl (lv_at hl 1 rfl) ?_
      refine lv_iload_n hx hb (k := 2) (i := 2) (show decode method_8_code 4 = _ by decide +kernel) rfl (lv_at hl 2 rfl) ?_
      exact kk)
    (fun p e R s m args below meth c Q H locs cells slots ls q hx hb hl kk => lv_astore hx hb (i := 4) (show decode method_8_code 13 = _ by decide +kernel) hl (by decide) rfl (fun ls9 _ => kk ls9))
set_option maxHeartbeats 1000000 in
theorem lh_shown (hy : am_Hy l al) (N : Nat) (hal : ∀ k, k < 205 → al k = x0 + k) (ho : x0 + 205 ≤ out) (i1 : Int32) (i2 : Int32) (i3 : Int32) (h : am_Hp) (r : Option Int32 × am_Hp) (hf : f_X9_shown N i1 i2 i3 h = some r) : lh_Met l al dC dI aC aV x0 out cO .long ⟨lw_L, "shown", "(LSharedConsole;III[J)I"⟩ method_9_code 6 [(0, 12, 15, 13)] [.int i1, .int i2, .int i3] h (am_ot am_oi r.1) r.2 :=
  lh_met (pc := 7) (ix := 32) (mid := 74) (n := 3) (la := 2) (ct := 13) rfl hal ho rfl (by decide +kernel) (m_X9_shown hy N i1 i2 i3 h r hf) (lh_ov r.1) rfl (by decide +kernel) (by decide) (by decide) (by decide) (by decide +kernel) (by decide +kernel) (Nat.le_of_ble_eq_true rfl)
    (fun p e R s m args below meth c Q H ls hx hb hl kk => by
      refine lv_aload hx hb (i := 4) (show decode method_9_code 0 = _ by decide +kernel) (lv_at hl 4 rfl) ?_
      refine lv_iconst hx hb (n := 0) (v := 0) (show decode method_9_code 2 = _ by decide +kernel) rfl ?_
      refine lv_aload_n hx hb (k := 0) (i := 0) (show decode method_9_code 3 = _ by decide +kernel) rfl (lv_at hl 0 rfl) ?_
      refine lv_iload_n hx hb (k := 1) (i := 1) (show decode method_9_code 4 = _ by decide +kernel) rfl (lv_at hl 1 rfl) ?_
      refine lv_iload_n hx hb (k := 2) (i := 2) (show decode method_9_code 5 = _ by decide +kernel) rfl (lv_at hl 2 rfl) ?_
      refine lv_iload_n hx hb (k := 3) (i := 3) (show decode method_9_code 6 = _ by decide +kernel) rfl (lv_at hl 3 rfl) ?_
      exact kk)
    (fun p e R s m args below meth c Q H locs cells slots ls q hx hb hl kk => lv_astore hx hb (i := 5) (show decode method_9_code 15 = _ by decide +kernel) hl (by decide) rfl (fun ls9 _ => kk ls9))
set_option maxHeartbeats 1000000 in
theorem lh_cursorRow (hy : am_Hy l al) (N : Nat) (hal : ∀ k, k < 205 → al k = x0 + k) (ho : x0 + 205 ≤ out) (i1 : Int32) (h : am_Hp) (r : Option Int32 × am_Hp) (hf : f_X9_cursorRow N i1 h = some r) : lh_Met l al dC dI aC aV x0 out cO .long ⟨lw_L, "cursorRow", "(LSharedConsole;I[J)I"⟩ method_10_code 4 [(0, 9, 12, 13)] [.int i1] h (am_ot am_oi r.1) r.2 :=
  lh_met (pc := 4) (ix := 35) (mid := 75) (n := 1) (la := 1) (ct := 13) rfl hal ho rfl (by decide +kernel) (m_X9_cursorRow hy N i1 h r hf) (lh_ov r.1) rfl (by decide +kernel) (by decide) (by decide) (by decide) (by decide +kernel) (by decide +kernel) (Nat.le_of_ble_eq_true rfl)
    (fun p e R s m args below meth c Q H ls hx hb hl kk => by
      refine lv_aload_n hx hb (k := 2) (i := 2) (show decode method_10_code 0 = _ by decide +kernel) rfl (lv_at hl 2 rfl) ?_
      refine lv_iconst hx hb (n := 0) (v := 0) (show decode method_10_code 1 = _ by decide +kernel) rfl ?_
      refine lv_aload_n hx hb (k := 0) (i := 0) (show decode method_10_code 2 = _ by decide +kernel) rfl (lv_at hl 0 rfl) ?_
      refine lv_iload_n hx hb (k := 1) (i := 1) (show decode method_10_code 3 = _ by decide +kernel) rfl (lv_at hl 1 rfl) ?_
      exact kk)
    (fun p e R s m args below meth c Q H locs cells slots ls q hx hb hl kk => lv_astore_n hx hb (k := 3) (i := 3) (show decode method_10_code 12 = _ by decide +kernel) rfl hl (by decide) rfl (fun ls9 _ => kk ls9))
set_option maxHeartbeats 1000000 in
theorem lh_watchers (hy : am_Hy l al) (N : Nat) (hal : ∀ k, k < 205 → al k = x0 + k) (ho : x0 + 205 ≤ out) (i1 : Int32) (i2 : Int32) (h : am_Hp) (r : Option Int32 × am_Hp) (hf : f_X9_watchers N i1 i2 h = some r) : lh_Met l al dC dI aC aV x0 out cO .long ⟨lw_L, "watchers", "(LSharedConsole;II[J)I"⟩ method_11_code 5 [(0, 10, 13, 13)] [.int i1, .int i2] h (am_ot am_oi r.1) r.2 :=
  lh_met (pc := 5) (ix := 39) (mid := 76) (n := 2) (la := 2) (ct := 13) rfl hal ho rfl (by decide +kernel) (m_X9_watchers hy N i1 i2 h r hf) (lh_ov r.1) rfl (by decide +kernel) (by decide) (by decide) (by decide) (by decide +kernel) (by decide +kernel) (Nat.le_of_ble_eq_true rfl)
    (fun p e R s m args below meth c Q H ls hx hb hl kk => by
      refine lv_aload_n hx hb (k := 3) (i := 3) (show decode method_11_code 0 = _ by decide +kernel) rfl (lv_at hl 3 rfl) ?_
      refine lv_iconst hx hb (n := 0) (v := 0) (show decode method_11_code 1 = _ by decide +kernel) rfl ?_
      refine lv_aload_n hx hb (k := 0) (i := 0) (show decode method_11_code 2 = _ by decide +kernel) rfl (lv_at hl 0 rfl) ?_
      refine lv_iload_n hx hb (k := 1) (i := 1) (show decode method_11_code 3 = _ by decide +kernel) rfl (lv_at hl 1 rfl) ?_
      refine lv_iload_n hx hb (k := 2) (i := 2) (show decode method_11_code 4 = _ by decide +kernel) rfl (lv_at hl 2 rfl) ?_
      exact kk)
    (fun p e R s m args below meth c Q H locs cells slots ls q hx hb hl kk => lv_astore hx hb (i := 4) (show decode method_11_code 13 = _ by decide +kernel) hl (by decide) rfl (fun ls9 _ => kk ls9))
set_option maxHeartbeats 1000000 in
theorem lh_rightSize (hy : am_Hy l al) (N : Nat) (hal : ∀ k, k < 205 → al k = x0 + k) (ho : x0 + 205 ≤ out) (i1 : Int32) (i2 : Int32) (h : am_Hp) (r : Option Int32 × am_Hp) (hf : f_X9_rightSize N i1 i2 h = some r) : lh_Met l al dC dI aC aV x0 out cO .long ⟨lw_L, "rightSize", "(LSharedConsole;IZ[J)I"⟩ method_12_code 5 [(0, 10, 13, 13)] [.int i1, .int i2] h (am_ot am_oi r.1) r.2 :=
  lh_met (pc := 5) (ix := 42) (mid := 77) (n := 2) (la := 2) (ct := 13) rfl hal ho rfl (by decide +kernel) (m_X9_rightSize hy N i1 i2 h r hf) (lh_ov r.1) rfl (by decide +kernel) (by decide) (by decide) (by decide) (by decide +kernel) (by decide +kernel) (Nat.le_of_ble_eq_true rfl)
    (fun p e R s m args below meth c Q H ls hx hb hl kk => by
      refine lv_aload_n hx hb (k := 3) (i := 3) (show decode method_12_code 0 = _ by decide +kernel) rfl (lv_at hl 3 rfl) ?_
      refine lv_iconst hx hb (n := 0) (v := 0) (show decode method_12_code 1 = _ by decide +kernel) rfl ?_
      refine lv_aload_n hx hb (k := 0) (i := 0) (show decode method_12_code 2 = _ by decide +kernel) rfl (lv_at hl 0 rfl) ?_
      refine lv_iload_n hx hb (k := 1) (i := 1) (show decode method_12_code 3 = _ by decide +kernel) rfl (lv_at hl 1 rfl) ?_
      refine lv_iload_n hx hb (k := 2) (i := 2) (show decode method_12_code 4 = _ by decide +kernel) rfl (lv_at hl 2 rfl) ?_
      exact kk)
    (fun p e R s m args below meth c Q H locs cells slots ls q hx hb hl kk => lv_astore hx hb (i := 4) (show decode method_12_code 13 = _ by decide +kernel) hl (by decide) rfl (fun ls9 _ => kk ls9))
set_option maxHeartbeats 1000000 in
theorem lh_narrowest (hy : am_Hy l al) (N : Nat) (hal : ∀ k, k < 205 → al k = x0 + k) (ho : x0 + 205 ≤ out) (i1 : Int32) (i2 : Int32) (h : am_Hp) (r : Option Int32 × am_Hp) (hf : f_X9_narrowest N i1 i2 h = some r) : lh_Met l al dC dI aC aV x0 out cO .long ⟨lw_L, "narrowest", "(LSharedConsole;IZ[J)I"⟩ method_13_code 5 [(0, 10, 13, 13)] [.int i1, .int i2] h (am_ot am_oi r.1) r.2 :=
  lh_met (pc := 5) (ix := 46) (mid := 78) (n := 2) (la := 2) (ct := 13) rfl hal ho rfl (by decide +kernel) (m_X9_narrowest hy N i1 i2 h r hf) (lh_ov r.1) rfl (by decide +kernel) (by decide) (by decide) (by decide) (by decide +kernel) (by decide +kernel) (Nat.le_of_ble_eq_true rfl)
    (fun p e R s m args below meth c Q H ls hx hb hl kk => by
      refine lv_aload_n hx hb (k := 3) (i := 3) (show decode method_13_code 0 = _ by decide +kernel) rfl (lv_at hl 3 rfl) ?_
      refine lv_iconst hx hb (n := 0) (v := 0) (show decode method_13_code 1 = _ by decide +kernel) rfl ?_
      refine lv_aload_n hx hb (k := 0) (i := 0) (show decode method_13_code 2 = _ by decide +kernel) rfl (lv_at hl 0 rfl) ?_
      refine lv_iload_n hx hb (k := 1) (i := 1) (show decode method_13_code 3 = _ by decide +kernel) rfl (lv_at hl 1 rfl) ?_
      refine lv_iload_n hx hb (k := 2) (i := 2) (show decode method_13_code 4 = _ by decide +kernel) rfl (lv_at hl 2 rfl) ?_
      exact kk)
    (fun p e R s m args below meth c Q H locs cells slots ls q hx hb hl kk => lv_astore hx hb (i := 4) (show decode method_13_code 13 = _ by decide +kernel) hl (by decide) rfl (fun ls9 _ => kk ls9))
set_option maxHeartbeats 1000000 in
theorem lh_whyNot (hy : am_Hy l al) (N : Nat) (hal : ∀ k, k < 205 → al k = x0 + k) (ho : x0 + 205 ≤ out) (i1 : Int32) (h : am_Hp) (r : Option Int32 × am_Hp) (hf : f_X9_whyNot N i1 h = some r) : lh_Met l al dC dI aC aV x0 out cO .long ⟨lw_L, "whyNot", "(LSharedConsole;I[J)I"⟩ method_14_code 4 [(0, 9, 12, 13)] [.int i1] h (am_ot am_oi r.1) r.2 :=
  lh_met (pc := 4) (ix := 49) (mid := 79) (n := 1) (la := 1) (ct := 13) rfl hal ho rfl (by decide +kernel) (m_X9_whyNot hy N i1 h r hf) (lh_ov r.1) rfl (by decide +kernel) (by decide) (by decide) (by decide) (by decide +kernel) (by decide +kernel) (Nat.le_of_ble_eq_true rfl)
    (fun p e R s m args below meth c Q H ls hx hb hl kk => by
      refine lv_aload_n hx hb (k := 2) (i := 2) (show decode method_14_code 0 = _ by decide +kernel) rfl (lv_at hl 2 rfl) ?_
      refine lv_iconst hx hb (n := 0) (v := 0) (show decode method_14_code 1 = _ by decide +kernel) rfl ?_
      refine lv_aload_n hx hb (k := 0) (i := 0) (show decode method_14_code 2 = _ by decide +kernel) rfl (lv_at hl 0 rfl) ?_
      refine lv_iload_n hx hb (k := 1) (i := 1) (show decode method_14_code 3 = _ by decide +kernel) rfl (lv_at hl 1 rfl) ?_
      exact kk)
    (fun p e R s m args below meth c Q H locs cells slots ls q hx hb hl kk => lv_astore_n hx hb (k := 3) (i := 3) (show decode method_14_code 12 = _ by decide +kernel) rfl hl (by decide) rfl (fun ls9 _ => kk ls9))
set_option maxHeartbeats 1000000 in
theorem lh_grantedAt (hy : am_Hy l al) (N : Nat) (hal : ∀ k, k < 205 → al k = x0 + k) (ho : x0 + 205 ≤ out) (i1 : Int32) (h : am_Hp) (r : Option Int32 × am_Hp) (hf : f_X9_grantedAt N i1 h = some r) : lh_Met l al dC dI aC aV x0 out cO .long ⟨lw_L, "grantedAt", "(LSharedConsole;I[J)I"⟩ method_15_code 4 [(0, 9, 12, 13)] [.int i1] h (am_ot am_oi r.1) r.2 :=
  lh_met (pc := 4) (ix := 52) (mid := 80) (n := 1) (la := 1) (ct := 13) rfl hal ho rfl (by decide +kernel) (m_X9_grantedAt hy N i1 h r hf) (lh_ov r.1) rfl (by decide +kernel) (by decide) (by decide) (by decide) (by decide +kernel) (by decide +kernel) (Nat.le_of_ble_eq_true rfl)
    (fun p e R s m args below meth c Q H ls hx hb hl kk => by
      refine lv_aload_n hx hb (k := 2) (i := 2) (show decode method_15_code 0 = _ by decide +kernel) rfl (lv_at hl 2 rfl) ?_
      refine lv_iconst hx hb (n := 0) (v := 0) (show decode method_15_code 1 = _ by decide +kernel) rfl ?_
      refine lv_aload_n hx hb (k := 0) (i := 0) (show decode method_15_code 2 = _ by decide +kernel) rfl (lv_at hl 0 rfl) ?_
      refine lv_iload_n hx hb (k := 1) (i := 1) (show decode method_15_code 3 = _ by decide +kernel) rfl (lv_at hl 1 rfl) ?_
      exact kk)
    (fun p e R s m args below meth c Q H locs cells slots ls q hx hb hl kk => lv_astore_n hx hb (k := 3) (i := 3) (show decode method_15_code 12 = _ by decide +kernel) rfl hl (by decide) rfl (fun ls9 _ => kk ls9))
set_option maxHeartbeats 1000000 in
theorem lh_reachedAt (hy : am_Hy l al) (N : Nat) (hal : ∀ k, k < 205 → al k = x0 + k) (ho : x0 + 205 ≤ out) (i1 : Int32) (i2 : Int32) (h : am_Hp) (r : Option Int32 × am_Hp) (hf : f_X9_reachedAt N i1 i2 h = some r) : lh_Met l al dC dI aC aV x0 out cO .long ⟨lw_L, "reachedAt", "(LSharedConsole;II[J)I"⟩ method_16_code 5 [(0, 10, 13, 13)] [.int i1, .int i2] h (am_ot am_oi r.1) r.2 :=
  lh_met (pc := 5) (ix := 55) (mid := 81) (n := 2) (la := 2) (ct := 13) rfl hal ho rfl (by decide +kernel) (m_X9_reachedAt hy N i1 i2 h r hf) (lh_ov r.1) rfl (by decide +kernel) (by decide) (by decide) (by decide) (by decide +kernel) (by decide +kernel) (Nat.le_of_ble_eq_true rfl)
    (fun p e R s m args below meth c Q H ls hx hb hl kk => by
      refine lv_aload_n hx hb (k := 3) (i := 3) (show decode method_16_code 0 = _ by decide +kernel) rfl (lv_at hl 3 rfl) ?_
      refine lv_iconst hx hb (n := 0) (v := 0) (show decode method_16_code 1 = _ by decide +kernel) rfl ?_
      refine lv_aload_n hx hb (k := 0) (i := 0) (show decode method_16_code 2 = _ by decide +kernel) rfl (lv_at hl 0 rfl) ?_
      refine lv_iload_n hx hb (k := 1) (i := 1) (show decode method_16_code 3 = _ by decide +kernel) rfl (lv_at hl 1 rfl) ?_
      refine lv_iload_n hx hb (k := 2) (i := 2) (show decode method_16_code 4 = _ by decide +kernel) rfl (lv_at hl 2 rfl) ?_
      exact kk)
    (fun p e R s m args below meth c Q H locs cells slots ls q hx hb hl kk => lv_astore hx hb (i := 4) (show decode method_16_code 13 = _ by decide +kernel) hl (by decide) rfl (fun ls9 _ => kk ls9))
set_option maxHeartbeats 1000000 in
theorem lh_behind (hy : am_Hy l al) (N : Nat) (hal : ∀ k, k < 205 → al k = x0 + k) (ho : x0 + 205 ≤ out) (i1 : Int32) (h : am_Hp) (r : Option Int32 × am_Hp) (hf : f_X9_behind N i1 h = some r) : lh_Met l al dC dI aC aV x0 out cO .long ⟨lw_L, "behind", "(LSharedConsole;I[J)I"⟩ method_17_code 4 [(0, 9, 12, 13)] [.int i1] h (am_ot am_oi r.1) r.2 :=
  lh_met (pc := 4) (ix := 58) (mid := 82) (n := 1) (la := 1) (ct := 13) rfl hal ho rfl (by decide +kernel) (m_X9_behind hy N i1 h r hf) (lh_ov r.1) rfl (by decide +kernel) (by decide) (by decide) (by decide) (by decide +kernel) (by decide +kernel) (Nat.le_of_ble_eq_true rfl)
    (fun p e R s m args below meth c Q H ls hx hb hl kk => by
      refine lv_aload_n hx hb (k := 2) (i := 2) (show decode method_17_code 0 = _ by decide +kernel) rfl (lv_at hl 2 rfl) ?_
      refine lv_iconst hx hb (n := 0) (v := 0) (show decode method_17_code 1 = _ by decide +kernel) rfl ?_
      refine lv_aload_n hx hb (k := 0) (i := 0) (show decode method_17_code 2 = _ by decide +kernel) rfl (lv_at hl 0 rfl) ?_
      refine lv_iload_n hx hb (k := 1) (i := 1) (show decode method_17_code 3 = _ by decide +kernel) rfl (lv_at hl 1 rfl) ?_
      exact kk)
    (fun p e R s m args below meth c Q H locs cells slots ls q hx hb hl kk => lv_astore_n hx hb (k := 3) (i := 3) (show decode method_17_code 12 = _ by decide +kernel) rfl hl (by decide) rfl (fun ls9 _ => kk ls9))
set_option maxHeartbeats 1000000 in
theorem lh_firstShowing (hy : am_Hy l al) (N : Nat) (hal : ∀ k, k < 205 → al k = x0 + k) (ho : x0 + 205 ≤ out) (i1 : Int32) (i2 : Int32) (h : am_Hp) (r : Option Int32 × am_Hp) (hf : f_X9_firstShowing N i1 i2 h = some r) : lh_Met l al dC dI aC aV x0 out cO .long ⟨lw_L, "firstShowing", "(LSharedConsole;II[J)I"⟩ method_18_code 5 [(0, 10, 13, 13)] [.int i1, .int i2] h (am_ot am_oi r.1) r.2 :=
  lh_met (pc := 5) (ix := 61) (mid := 83) (n := 2) (la := 2) (ct := 13) rfl hal ho rfl (by decide +kernel) (m_X9_firstShowing hy N i1 i2 h r hf) (lh_ov r.1) rfl (by decide +kernel) (by decide) (by decide) (by decide) (by decide +kernel) (by decide +kernel) (Nat.le_of_ble_eq_true rfl)
    (fun p e R s m args below meth c Q H ls hx hb hl kk => by
      refine lv_aload_n hx hb (k := 3) (i := 3) (show decode method_18_code 0 = _ by decide +kernel) rfl (lv_at hl 3 rfl) ?_
      refine lv_iconst hx hb (n := 0) (v := 0) (show decode method_18_code 1 = _ by decide +kernel) rfl ?_
      refine lv_aload_n hx hb (k := 0) (i := 0) (show decode method_18_code 2 = _ by decide +kernel) rfl (lv_at hl 0 rfl) ?_
      refine lv_iload_n hx hb (k := 1) (i := 1) (show decode method_18_code 3 = _ by decide +kernel) rfl (lv_at hl 1 rfl) ?_
      refine lv_iload_n hx hb (k := 2) (i := 2) (show decode method_18_code 4 = _ by decide +kernel) rfl (lv_at hl 2 rfl) ?_
      exact kk)
    (fun p e R s m args below meth c Q H locs cells slots ls q hx hb hl kk => lv_astore hx hb (i := 4) (show decode method_18_code 13 = _ by decide +kernel) hl (by decide) rfl (fun ls9 _ => kk ls9))
set_option maxHeartbeats 1000000 in
theorem lh_firstDifference (hy : am_Hy l al) (N : Nat) (hal : ∀ k, k < 205 → al k = x0 + k) (ho : x0 + 205 ≤ out) (i1 : Int32) (i2 : Int32) (i3 : Int32) (h : am_Hp) (r : Option Int32 × am_Hp) (hf : f_X9_firstDifference N i1 i2 i3 h = some r) : lh_Met l al dC dI aC aV x0 out cO .long ⟨lw_L, "firstDifference", "(LSharedConsole;III[J)I"⟩ method_19_code 6 [(0, 12, 15, 13)] [.int i1, .int i2, .int i3] h (am_ot am_oi r.1) r.2 :=
  lh_met (pc := 7) (ix := 64) (mid := 84) (n := 3) (la := 2) (ct := 13) rfl hal ho rfl (by decide +kernel) (m_X9_firstDifference hy N i1 i2 i3 h r hf) (lh_ov r.1) rfl (by decide +kernel) (by decide) (by decide) (by decide) (by decide +kernel) (by decide +kernel) (Nat.le_of_ble_eq_true rfl)
    (fun p e R s m args below meth c Q H ls hx hb hl kk => by
      refine lv_aload hx hb (i := 4) (show decode method_19_code 0 = _ by decide +kernel) (lv_at hl 4 rfl) ?_
      refine lv_iconst hx hb (n := 0) (v := 0) (show decode method_19_code 2 = _ by decide +kernel) rfl ?_
      refine lv_aload_n hx hb (k := 0) (i := 0) (show decode method_19_code 3 = _ by decide +kernel) rfl (lv_at hl 0 rfl) ?_
      refine lv_iload_n hx hb (k := 1) (i := 1) (show decode method_19_code 4 = _ by decide +kernel) rfl (lv_at hl 1 rfl) ?_
      refine lv_iload_n hx hb (k := 2) (i := 2) (show decode method_19_code 5 = _ by decide +kernel) rfl (lv_at hl 2 rfl) ?_
      refine lv_iload_n hx hb (k := 3) (i := 3) (show decode method_19_code 6 = _ by decide +kernel) rfl (lv_at hl 3 rfl) ?_
      exact kk)
    (fun p e R s m args below meth c Q H locs cells slots ls q hx hb hl kk => lv_astore hx hb (i := 5) (show decode method_19_code 15 = _ by decide +kernel) hl (by decide) rfl (fun ls9 _ => kk ls9))
set_option maxHeartbeats 1000000 in
theorem lh_fullness (hy : am_Hy l al) (N : Nat) (hal : ∀ k, k < 205 → al k = x0 + k) (ho : x0 + 205 ≤ out) (i1 : Int32) (i2 : Int32) (h : am_Hp) (r : Option UInt32 × am_Hp) (hf : f_X9_fullness N i1 i2 h = some r) (hne : ∀ v, r.1 = some v → vf_n64 (FP.f2d v)) : lh_Met l al dC dI aC aV x0 out cO .double ⟨lw_L, "fullness", "(LSharedConsole;II[D)I"⟩ method_20_code 5 [(0, 10, 13, 13)] [.int i1, .int i2] h (am_ot am_of r.1) r.2 :=
  lh_metD (pc := 5) (ix := 67) (mid := 85) (n := 2) (la := 2) (ct := 13) rfl hal ho rfl (by decide +kernel) (m_X9_fullness hy N i1 i2 h r hf) (lh_ovf r.1) (lh_nef hne) rfl (by decide +kernel) (by decide) (by decide) (by decide) (by decide +kernel) (by decide +kernel) (Nat.le_of_ble_eq_true rfl)
    (fun p e R s m args below meth c Q H ls hx hb hl kk => by
      refine lv_aload_n hx hb (k := 3) (i := 3) (show decode method_20_code 0 = _ by decide +kernel) rfl (lv_at hl 3 rfl) ?_
      refine lv_iconst hx hb (n := 0) (v := 0) (show decode method_20_code 1 = _ by decide +kernel) rfl ?_
      refine lv_aload_n hx hb (k := 0) (i := 0) (show decode method_20_code 2 = _ by decide +kernel) rfl (lv_at hl 0 rfl) ?_
      refine lv_iload_n hx hb (k := 1) (i := 1) (show decode method_20_code 3 = _ by decide +kernel) rfl (lv_at hl 1 rfl) ?_
      refine lv_iload_n hx hb (k := 2) (i := 2) (show decode method_20_code 4 = _ by decide +kernel) rfl (lv_at hl 2 rfl) ?_
      exact kk)
    (fun p e R s m args below meth c Q H locs cells slots ls q hx hb hl kk => lv_astore hx hb (i := 4) (show decode method_20_code 13 = _ by decide +kernel) hl (by decide) rfl (fun ls9 _ => kk ls9))
set_option maxHeartbeats 1000000 in
theorem lh_typedBy (hy : am_Hy l al) (N : Nat) (hal : ∀ k, k < 205 → al k = x0 + k) (ho : x0 + 205 ≤ out) (i1 : Int32) (h : am_Hp) (r : Option Int32 × am_Hp) (hf : f_X9_typedBy N i1 h = some r) : lh_Met l al dC dI aC aV x0 out cO .long ⟨lw_L, "typedBy", "(LSharedConsole;I[J)I"⟩ method_21_code 4 [(0, 9, 12, 13)] [.int i1] h (am_ot am_oi r.1) r.2 :=
  lh_met (pc := 4) (ix := 71) (mid := 86) (n := 1) (la := 1) (ct := 13) rfl hal ho rfl (by decide +kernel) (m_X9_typedBy hy N i1 h r hf) (lh_ov r.1) rfl (by decide +kernel) (by decide) (by decide) (by decide) (by decide +kernel) (by decide +kernel) (Nat.le_of_ble_eq_true rfl)
    (fun p e R s m args below meth c Q H ls hx hb hl kk => by
      refine lv_aload_n hx hb (k := 2) (i := 2) (show decode method_21_code 0 = _ by decide +kernel) rfl (lv_at hl 2 rfl) ?_
      refine lv_iconst hx hb (n := 0) (v := 0) (show decode method_21_code 1 = _ by decide +kernel) rfl ?_
      refine lv_aload_n hx hb (k := 0) (i := 0) (show decode method_21_code 2 = _ by decide +kernel) rfl (lv_at hl 0 rfl) ?_
      refine lv_iload_n hx hb (k := 1) (i := 1) (show decode method_21_code 3 = _ by decide +kernel) rfl (lv_at hl 1 rfl) ?_
      exact kk)
    (fun p e R s m args below meth c Q H locs cells slots ls q hx hb hl kk => lv_astore_n hx hb (k := 3) (i := 3) (show decode method_21_code 12 = _ by decide +kernel) rfl hl (by decide) rfl (fun ls9 _ => kk ls9))
set_option maxHeartbeats 1000000 in
theorem lh_write (hy : am_Hy l al) (N : Nat) (hal : ∀ k, k < 205 → al k = x0 + k) (ho : x0 + 205 ≤ out) (i1 : Int32) (h : am_Hp) (r : Option Int32 × am_Hp) (hf : f_X9_write N i1 h = some r) : lh_Met l al dC dI aC aV x0 out cO .long ⟨lw_L, "write", "(LSharedConsole;I[J)I"⟩ method_22_code 4 [(0, 9, 12, 13)] [.int i1] h (am_ot am_oi r.1) r.2 :=
  lh_met (pc := 4) (ix := 74) (mid := 102) (n := 1) (la := 1) (ct := 13) rfl hal ho rfl (by decide +kernel) (m_X9_write hy N i1 h r hf) (lh_ov r.1) rfl (by decide +kernel) (by decide) (by decide) (by decide) (by decide +kernel) (by decide +kernel) (Nat.le_of_ble_eq_true rfl)
    (fun p e R s m args below meth c Q H ls hx hb hl kk => by
      refine lv_aload_n hx hb (k := 2) (i := 2) (show decode method_22_code 0 = _ by decide +kernel) rfl (lv_at hl 2 rfl) ?_
      refine lv_iconst hx hb (n := 0) (v := 0) (show decode method_22_code 1 = _ by decide +kernel) rfl ?_
      refine lv_aload_n hx hb (k := 0) (i := 0) (show decode method_22_code 2 = _ by decide +kernel) rfl (lv_at hl 0 rfl) ?_
      refine lv_iload_n hx hb (k := 1) (i := 1) (show decode method_22_code 3 = _ by decide +kernel) rfl (lv_at hl 1 rfl) ?_
      exact kk)
    (fun p e R s m args below meth c Q H locs cells slots ls q hx hb hl kk => lv_astore_n hx hb (k := 3) (i := 3) (show decode method_22_code 12 = _ by decide +kernel) rfl hl (by decide) rfl (fun ls9 _ => kk ls9))
end LHELP4
