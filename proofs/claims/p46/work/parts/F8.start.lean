section FST
def fs_words : Bool := fw_sok 229 fc_y 1 && cn_inT (.code fc_y fc_cc 3 (some fc_rt))
theorem fs_words_ok : fs_words = true := by decide +kernel
theorem fs_G (h : cn_inT (.code fc_y fc_cc 3 (some fc_rt)) = true) : GoodIn am_AT fc_ws := am_AT_sub (fun w hw => by
  rcases List.mem_cons.mp hw with rfl | hw
  · exact cn_inT_spec h
  · exact hw)
theorem fs_yn : fc_y.cls ≠ "java/lang/invoke/MethodHandle" ∧ fc_y.cls ≠ "java/lang/invoke/VarHandle" := by decide +kernel
theorem fs_hy {l : Launch} {al : Nat → Nat} {x0 : Nat} (hl : l.flags = flags0) (hal : ∀ k, k < 205 → al k = x0 + k) : am_Hy l al := by
  refine ⟨?_, fun i j hi hj hij => ?_⟩
  · unfold Launch.stackTraces
    rw [hl]
    decide
  · have hi : i < 205 := Nat.lt_of_lt_of_le hi (by decide)
    have hj : j < 205 := Nat.lt_of_lt_of_le hj (by decide)
    rw [hal i hi, hal j hj] at hij
    omega
theorem fs_room : 14 + 1 ≤ room_1.frames ∧ 8 + (3 + 11) + 550 ≤ room_1.locals ∧ 893 + 4005 * 86 ≤ room_1.cells ∧ 759200 + 59548 * 86 ≤ room_1.slots := by decide
end FST
set_option maxHeartbeats 8000000 in
/-- from the entry, for every script of at most 260 ints, the law comes to its end with true -/
theorem whole_start {p : Program} {e : Env} {s : State} {m : MethodId} {below : List Frame} {meth : Method} {c : Code} (l : Launch) (hflags : l.flags = flags0) {b L : Nat} {xs : Nat → Int32} (hL : L ≤ 260) (C0 : lw_At p s m meth c b L xs) : W p l e room_1 s m #[Value.ref b] below meth c s.heap [] 0 0 (lw_Z below #[Value.ref b] s) (entryFrame m ([Value.ref b] : List Value).toArray 6) := by
  obtain ⟨hx, hb, hrt, hml, hown, hts0, hX, hbl, hlocks, hgv⟩ := C0
  obtain ⟨al, aV, dC, dI, aC, hal, eb, hK, hF, hX2, hNB, hNB2⟩ := lg_given (X := ((L, xs) : tm_X)) hX hbl hts0 (flat_of_before _ hgv)
  subst eb
  have hy := fs_hy (al := al) hflags hal
  have hts : ∀ w ∈ am_AT, w.before #[Value.ref (al 950)] s = true := fun w hw => hts0 w (List.mem_filter.mp hw).1
  obtain ⟨x0, hx0⟩ : ∃ x0, s.heap.size = x0 := ⟨_, rfl⟩
  rw [hx0] at hal hF hX2
  have hal3 : ∀ k, k < 193 → al k = x0 + k := fun k hk => hal k (by omega)
  have C : fw_C p s m #[Value.ref (al 950)] c al dC dI aC aV x0 ((L, xs) : tm_X) code 6 := ⟨hx, hb, hml, hown, hts, hK, hF, hX2, hNB, hal3⟩
  have hw := fs_words_ok
  unfold fs_words fw_sok at hw
  simp only [Bool.and_eq_true] at hw
  obtain ⟨⟨⟨⟨w1, w2⟩, w3⟩, w4⟩, w5⟩ := hw
  have w4 := of_decide_eq_true w4
  obtain ⟨r1, r2, r3, r4⟩ := fs_room
  have hd1 := fl_code_ok.1
  unfold fl_code1 at hd1
  simp only [Bool.and_eq_true, decide_eq_true_eq] at hd1
  obtain ⟨⟨⟨⟨⟨⟨⟨⟨⟨⟨⟨⟨⟨⟨⟨⟨⟨⟨⟨d0, d1⟩, d4⟩, d5⟩, d6⟩, d11⟩, d12⟩, -⟩, -⟩, -⟩, -⟩, -⟩, -⟩, -⟩, -⟩, -⟩, -⟩, -⟩, -⟩, -⟩ := hd1
  have hd4 := fl_code_ok.2.2.2
  unfold fl_code4 at hd4
  simp only [Bool.and_eq_true, decide_eq_true_eq] at hd4
  obtain ⟨⟨-, d147⟩, d148⟩ := hd4
  rw [lg_entry_eq]
  have hl := lv_entry ([Value.ref (al 950)] : List Value) (n := 6) (Nat.le_of_ble_eq_true rfl)
  generalize (lg_sl ([Value.ref (al 950)] : List Value) ++ List.replicate (6 - (lg_sl ([Value.ref (al 950)] : List Value)).length) Slot.unset).toArray = ls at hl ⊢
  have hl0 : lv_has ls 6 [(0, .ref (al 950))] := hl
  refine lv_aload_n (i := 0) hx hb d0 rfl (lv_at hl0 0 rfl) ?_
  have e00 : al 0 = x0 := by rw [hal 0 (by decide), Nat.add_zero]
  have hPre : ∀ U : State, U.heap = s.heap → s.WarmedH U.vm → va_Pc [.ref (al 950)] (fc_P al dC dI aC aV x0 ((L, xs) : tm_X)) ([.ref (al 950)] : List Value).toArray U := fun U hU hW =>
    ⟨rfl, by rw [hU]; exact hx0, va_K.moved hW.alike hK, by rw [hU]; exact am_fx_kept hF hW (Nat.le_refl _) (fun _ _ _ => rfl) (fun q _ z => z) (fun q z => z), by rw [hU]; exact tm_fx_kept hX2 hW (Nat.le_refl _) (fun _ _ _ => rfl) (fun q z => z), fun w hw => dm_NB_warm hW hw (hNB w hw), fun w hw => cn_NB_warm hW hw (hNB2 w hw)⟩
  have hr : va_Run p l e room_1 s m #[Value.ref (al 950)] below meth c s.heap [] 0 0 893 759200 (F0 m 1 ls (([.ref (al 950)] : List Value).reverse ++ ([] : List Value))) [] (fc_Q al dC dI aC x0 ([.ref (al 950)] : List Value).toArray) (fun q => x0 ≤ q) :=
    va_runS (cc := code) (nL := 6) (Ts := am_AT) (own := RL) (bytes := fc_cc) (maxL := 3) (ret := some fc_rt) (ws := fc_ws) (rm := fc_rm) (n := 1) (index := 229) (As := [.ref (al 950)]) ⟨hx, hb, hml, hown, hts⟩ (fc_met hy hal3 (by show L < 2147483648; omega))
      ⟨callB_of _ hts (fs_G w5) rfl rfl rfl (hts _ (dm_inT_spec w3)) (hts _ (dm_inT_spec w1)) ⟨fs_yn.1, fs_yn.2, w4⟩ ⟨r1, r2⟩, hts _ (dm_inT_spec w2)⟩ ⟨fc_blind, hPre⟩ rfl rfl hl0.1 rfl (by show 2 * 0 + 0 ≤ 8; omega) d1 ⟨by omega, by omega⟩
  intro T hT X9
  obtain ⟨v2, st₀, t, T', Lc, h00, X', hLc, e1, e2, ⟨nS, nU, h1, hm1, o1, o2, R1, q1, q3, q4⟩, stp⟩ := hr T hT X9
  obtain ⟨k1, k2, k3⟩ := vx_keep (A0 := fun q => x0 ≤ q) h00 e1 (va_S.rf (A := fun q => x0 ≤ q)) (fun q _ z => z) (fun q z => z) hLc q4
  cases Outcome.returned.inj q1
  have key : W p l e room_1 s m #[Value.ref (al 950)] below meth c T'.heap ([] ++ Lc) (0 + 893) (0 + 759200) (lw_Z below #[Value.ref (al 950)] s) (F0 m 4 ls [.ref x0]) := by
    refine lv_astore_n (i := 1) (lv' := [(1, .ref x0), (0, .ref (al 950))]) hx hb d4 rfl hl0 (by decide) rfl (fun ls2 hl2 => ?_)
    refine lv_aload_n (i := 1) hx hb d5 rfl (lv_at hl2 0 rfl) ?_
    refine lv_ifnonnull (tgt := 11) hx hb d6 (by decide) ?_
    refine lv_iconst hx hb (v := 0) d11 rfl ?_
    refine lv_istore_n (i := 2) (lv' := [(2, .int 0), (1, .ref x0), (0, .ref (al 950))]) hx hb d12 rfl hl2 (by decide) rfl (fun ls3 hl3 => ?_)
    rw [← e00] at hl3
    exact fl_loop (C0 := 893) (Z0 := 759200) C hy (by show L < 2147483648; omega) o1 o2 ⟨by omega, by omega⟩ ⟨r3, r4⟩ (fun H2 locs2 ls4 c1 s1 S2 b1 b2 => by
      refine lv_iconst hx hb (v := 1) d147 rfl ?_
      refine W.widen (k := room_1.cells) (n := room_1.slots) (by omega) (by omega) ?_
      refine va_forget (fun q hq => by rw [hx0]; exact S2.2.2 q hq) ?_
      refine W.base ?_
      exact lw_ret (Drawn.sameBut.refl s.drawn lw_cs) hx hb hrt hlocks d148)
      30 0 rfl h1 hm1 T'.heap ([] ++ Lc) ls3 (0 + 893) (0 + 759200) R1 (by rw [e1]; exact q3) k3 hl3 (by omega) (by omega)
  obtain ⟨t2, a1, b1⟩ := key T' rfl X'
  exact ⟨t2, stp t2 a1, b1⟩
