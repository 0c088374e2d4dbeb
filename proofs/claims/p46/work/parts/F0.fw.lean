/-! ===== calls out of the law's own body and out of its console() ===== -/
section FW0
variable {p : Program} {l : Launch} {e : Env} {R : Room} {s : State} {m : MethodId} {args : Array Value} {below : List Frame} {meth : Method} {c : Code} {Q : State → Prop}
variable {al : Nat → Nat} {dC : Nat → ClassId} {dI : Nat → Nat → Nat} {aC : Nat → ClassId} {aV : Nat → Nat} {x0 x1 : Nat} {X : tm_X}
variable {cc : ByteArray} {nL pc ix mid b : Nat} {ls : Array Slot} {H : Heap} {locs : List Loc} {cells slots : Nat} {as rest : List Value} {S S' : dm_S} {v : Option Value} {h h' : am_Hp}
/-- where the law calls: the machine, the words, what lies outside -/
def fw_C (p : Program) (s : State) (m : MethodId) (args : Array Value) (c : Code) (al : Nat → Nat) (dC : Nat → ClassId) (dI : Nat → Nat → Nat) (aC : Nat → ClassId) (aV : Nat → Nat) (x0 : Nat) (X : tm_X) (cc : ByteArray) (nL : Nat) : Prop :=
  p.tables.exec = Jvm.exec ∧ c.code = cc ∧ c.maxLocals = nL ∧ s.vm.findClass RL = some m.cls ∧ (∀ w ∈ am_AT, w.before args s = true) ∧ va_K (dC, dI) vwCl (tm_tys aC) s ∧ am_Fx al aV (fun q => x0 ≤ q) s s.heap ∧ tm_Fx al X (fun q => x0 ≤ q) s s.heap ∧ (∀ w ∈ dm_NB, va_Nw w s) ∧ ∀ k, k < 193 → al k = x0 + k
def fw_S0 (h : am_Hp) : dm_S := (h, (fun _ => (0, 0, 0)), (fun _ _ => 0), 1000, 0)
theorem fw_tW0 : tm_W al aC x1 (fw_S0 h) = am_W al aC h := by
  unfold tm_W tm_D
  show am_W al aC h ++ (List.range (1000 - 1000)).map _ = _
  rw [Nat.sub_self, List.range_zero, List.map_nil, List.append_nil]
theorem fw_dW0 : dm_W al aC x1 (fw_S0 h) = am_W al aC h := by
  unfold dm_W dm_D
  show am_W al aC h ++ (List.range (1000 - 1000)).map _ = _
  rw [Nat.sub_self, List.range_zero, List.map_nil, List.append_nil]
theorem fw_A (hal : ∀ k, k < 193 → al k = x0 + k) (hx : x0 ≤ H.size) : ∀ q, am_A al H.size q → x0 ≤ q := by
  intro q z
  rcases z with ⟨k, h1, rfl⟩ | z
  · have h1 : k < 193 := h1
    rw [hal k h1]
    omega
  · omega
theorem fw_size {D : va_G} {cl : List vw_C} (hal : ∀ k, k < 193 → al k = x0 + k) (hP : va_P D cl (am_W al aC h) H) : x0 + 193 ≤ H.size := by
  have h1 : al 192 < H.size := (hP 192 _ (am_W_get (by decide))).lt
  rw [hal 192 (by decide)] at h1
  omega
def fw_sok (ix : Nat) (y : MethodName) (n : Nat) : Bool := dm_inT (.methodLink RL ix y) && dm_inT (.static y) && dm_inT (.initialized y.cls) && decide ((parseMethodDescriptor y.desc).map (fun d => d.parameters.length) = some n)
set_option maxHeartbeats 2000000 in
/-- a call of a static method of the texts -/
theorem fw_tm (C : fw_C p s m args c al dC dI aC aV x0 X cc nL) (hmid : mid < 46) (hok : fw_sok ix (tm_y mid) (tm_na mid) = true) (hM : tm_Met l al dC dI aC aV x0 x1 X mid as S v S') (hn : 1000 ≤ dm_n S) (hln : as.length = tm_na mid) (hnl : ls.size = nL) (hz : H.size = x1 + (dm_n S - 1000))
    (hP : va_P (dC, dI) vwCl (tm_W al aC x1 S) H) (hS : va_S (fun q => x0 ≤ q) s.heap H locs) (hfr : tm_fr mid + 1 ≤ R.frames) (hlo : 8 + (tm_ml mid + 11) + tm_lo mid ≤ R.locals) (hf : cells + (dm_n S' - dm_n S) ≤ R.cells ∧ slots + (dm_zz S' - dm_zz S) ≤ R.slots) (hW : (rest.map fun v => v.category).sum ≤ 8) (hdg : decode cc pc = .ok (.invokestatic ix, 3))
    (kk : ∀ (H1 : Heap) (locs1 : List Loc), H1.size = x1 + (dm_n S' - 1000) → va_P (dC, dI) vwCl (tm_W al aC x1 S') H1 → va_S (fun q => x0 ≤ q) s.heap H1 locs1 → W p l e R s m args below meth c H1 locs1 (cells + (dm_n S' - dm_n S)) (slots + (dm_zz S' - dm_zz S)) Q (F0 m (pc + 3) ls ((v.map (am_rl (dm_al al x1))).toList ++ rest))) :
    W p l e R s m args below meth c H locs cells slots Q (F0 m pc ls ((as.map (am_rl (dm_al al x1))).reverse ++ rest)) := by
  obtain ⟨hx, hb, hml, hown, hts, hK, hF, hX, hNB, hal⟩ := C
  obtain ⟨f1, f2, hM⟩ := hM hn
  unfold fw_sok at hok
  simp only [Bool.and_eq_true] at hok
  obtain ⟨⟨⟨w1, w2⟩, w3⟩, w4⟩ := hok
  have w4 := of_decide_eq_true w4
  obtain ⟨n1, n2⟩ := tm_md_spec hmid
  have hPre : ∀ U : State, U.heap = H → s.WarmedH U.vm → va_Pc (as.map (am_rl (dm_al al x1))) (tm_P al dC dI aC aV x0 x1 X S) (as.map (am_rl (dm_al al x1))).toArray U := fun U hU hW =>
    ⟨rfl, by rw [hU]; exact hz, by rw [hU]; exact hP, va_K.moved hW.alike hK, by rw [hU]; exact am_fx_kept hF hW hS.1 hS.2.1 (fun q _ z => z) (fun q z => z), by rw [hU]; exact tm_fx_kept hX hW hS.1 hS.2.1 (fun q z => z)⟩
  have hr : va_Run p l e R s m args below meth c H locs cells slots (dm_n S' - dm_n S) (dm_zz S' - dm_zz S) (F0 m pc ls ((as.map (am_rl (dm_al al x1))).reverse ++ rest)) rest (tm_Q al dC dI aC x0 x1 v S' (as.map (am_rl (dm_al al x1))).toArray) (fun q => x0 ≤ q) :=
    va_runS (cc := cc) (nL := nL) (Ts := am_AT) (own := RL) (bytes := tm_cc mid) (maxL := tm_ml mid) (ret := tm_re mid) (ws := tm_ws mid) (rm := tm_rm mid (dm_n S' - dm_n S) (dm_zz S' - dm_zz S)) (n := tm_na mid) (index := ix) (As := as.map (am_rl (dm_al al x1))) ⟨hx, hb, hml, hown, hts⟩ hM
      ⟨callB_of _ hts (tm_wsG hmid) rfl rfl rfl (hts _ (dm_inT_spec w3)) (hts _ (dm_inT_spec w1)) ⟨n1, n2, w4⟩ ⟨hfr, hlo⟩, hts _ (dm_inT_spec w2)⟩ ⟨tm_blind, hPre⟩ rfl (by rw [List.length_map]; exact hln) hnl rfl (by show 2 * 0 + _ ≤ 8; omega) hdg hf
  intro T hT X9
  obtain ⟨v2, st₀, t, T', L, h00, X', hL, e1, e2, ⟨q1, q2, q3, q4⟩, stp⟩ := hr T hT X9
  obtain ⟨k1, k2, k3⟩ := vx_keep (A0 := fun q => x0 ≤ q) h00 e1 hS (fun q _ z => z) (fun q z => z) hL q4
  cases Outcome.returned.inj q1
  obtain ⟨t2, a1, b1⟩ := kk T'.heap (locs ++ L) (by rw [e1]; exact q2) (by rw [e1]; exact q3) k3 T' rfl X'
  exact ⟨t2, stp t2 a1, b1⟩
set_option maxHeartbeats 2000000 in
/-- the length of a string of the law's own -/
theorem fw_len {a : Nat} (C : fw_C p s m args c al dC dI aC aV x0 X cc nL) (hok : (dm_inT (.methodLink RL ix (tm_y 27)) && dm_inT (.instanceMethod (tm_y 27)) && dm_inT (.selects RJ0 (tm_y 27) (tm_y 27)) && dm_inT (.initialized RJ0)) = true) (hM : tm_Met l al dC dI aC aV x0 x1 X 27 [.ref a] S v S') (hn : 1000 ≤ dm_n S) (ha : dm_ok S 5 a = true) (hnl : ls.size = nL) (hz : H.size = x1 + (dm_n S - 1000))
    (hP : va_P (dC, dI) vwCl (tm_W al aC x1 S) H) (hS : va_S (fun q => x0 ≤ q) s.heap H locs) (hfr : tm_fr 27 + 1 ≤ R.frames) (hlo : 8 + (tm_ml 27 + 11) + tm_lo 27 ≤ R.locals) (hf : cells + (dm_n S' - dm_n S) ≤ R.cells ∧ slots + (dm_zz S' - dm_zz S) ≤ R.slots) (hW : (rest.map fun v => v.category).sum ≤ 8) (hdg : decode cc pc = .ok (.invokevirtual ix, 3))
    (kk : ∀ (H1 : Heap) (locs1 : List Loc), H1.size = x1 + (dm_n S' - 1000) → va_P (dC, dI) vwCl (tm_W al aC x1 S') H1 → va_S (fun q => x0 ≤ q) s.heap H1 locs1 → W p l e R s m args below meth c H1 locs1 (cells + (dm_n S' - dm_n S)) (slots + (dm_zz S' - dm_zz S)) Q (F0 m (pc + 3) ls ((v.map (am_rl (dm_al al x1))).toList ++ rest))) :
    W p l e R s m args below meth c H locs cells slots Q (F0 m pc ls (.ref (dm_al al x1 a) :: rest)) := by
  obtain ⟨hx, hb, hml, hown, hts, hK, hF, hX, hNB, hal⟩ := C
  obtain ⟨f1, f2, hM⟩ := hM hn
  simp only [Bool.and_eq_true] at hok
  obtain ⟨⟨⟨w1, w2⟩, w3⟩, w4⟩ := hok
  obtain ⟨n1, n2⟩ := tm_md_spec (m := 27) (by decide)
  have w5 : (parseMethodDescriptor (tm_y 27).desc).map (fun d => d.parameters.length) = some 0 := by decide +kernel
  have hcell : ∃ cellB : Cell, H[dm_al al x1 a]? = some cellB ∧ cellB.vm.isStatics = false ∧ s.vm.findClass RJ0 = some cellB.cls := by
    obtain ⟨k1, k2, k3⟩ := dm_ok_s ha
    have he := tm_get (al := al) (aC := aC) (x1 := x1) k2 k3
    rw [tm_c5 k1] at he
    exact va_recv hK hP (tm_cl (Or.inl rfl)) he
  have hPre : ∀ U : State, U.heap = H → s.WarmedH U.vm → va_Pc (([.ref a] : List Value).map (am_rl (dm_al al x1))) (tm_P al dC dI aC aV x0 x1 X S) (([.ref a] : List Value).map (am_rl (dm_al al x1))).toArray U := fun U hU hW =>
    ⟨rfl, by rw [hU]; exact hz, by rw [hU]; exact hP, va_K.moved hW.alike hK, by rw [hU]; exact am_fx_kept hF hW hS.1 hS.2.1 (fun q _ z => z) (fun q z => z), by rw [hU]; exact tm_fx_kept hX hW hS.1 hS.2.1 (fun q z => z)⟩
  have hB := callB_of (R := R) (s := s) (args := args) (own := RL) (index := ix) (y := tm_y 27) (bytes := tm_cc 27) (maxL := tm_ml 27) (ret := tm_re 27) (ws := tm_ws 27) (ws' := am_AT) (rm := tm_rm 27 (dm_n S' - dm_n S) (dm_zz S' - dm_zz S)) 0 hts (tm_wsG (by decide)) rfl rfl rfl (hts _ (dm_inT_spec w4)) (hts _ (dm_inT_spec w1)) ⟨n1, n2, w5⟩ ⟨hfr, hlo⟩
  have hr : va_Run p l e R s m args below meth c H locs cells slots (dm_n S' - dm_n S) (dm_zz S' - dm_zz S) (F0 m pc ls (.ref (dm_al al x1 a) :: rest)) rest (tm_Q al dC dI aC x0 x1 v S' (([.ref a] : List Value).map (am_rl (dm_al al x1))).toArray) (fun q => x0 ≤ q) :=
    va_runV (C := RJ0) (Ts := am_AT) (own := RL) (cc := cc) (nL := nL) (As := []) (b := dm_al al x1 a) ⟨hx, hb, hml, hown, hts⟩ hM ⟨hB, hts _ (dm_inT_spec w2), hts _ (dm_inT_spec w3)⟩ ⟨tm_blind, hcell, hPre⟩ rfl rfl hnl rfl (by show 2 * 0 + _ ≤ 8; omega) hdg hf
  intro T hT X9
  obtain ⟨v2, st₀, t, T', L, h00, X', hL, e1, e2, ⟨q1, q2, q3, q4⟩, stp⟩ := hr T hT X9
  obtain ⟨k1, k2, k3⟩ := vx_keep (A0 := fun q => x0 ≤ q) h00 e1 hS (fun q _ z => z) (fun q z => z) hL q4
  cases Outcome.returned.inj q1
  obtain ⟨t2, a1, b1⟩ := kk T'.heap (locs ++ L) (by rw [e1]; exact q2) (by rw [e1]; exact q3) k3 T' rfl X'
  exact ⟨t2, stp t2 a1, b1⟩
set_option maxHeartbeats 2000000 in
/-- a call of a static method of the screens -/
theorem fw_dm (C : fw_C p s m args c al dC dI aC aV x0 X cc nL) (hmid : mid < 10) (hok : fw_sok ix (dm_y mid) (dm_na mid) = true) (hM : dm_Met l al dC dI aC aV x0 x1 mid as S v S') (hn : 1000 ≤ dm_n S) (hln : as.length = dm_na mid) (hnl : ls.size = nL) (hz : H.size = x1 + (dm_n S - 1000))
    (hP : va_P (dC, dI) vwCl (dm_W al aC x1 S) H) (hS : va_S (fun q => x0 ≤ q) s.heap H locs) (hfr : dm_fr mid + 1 ≤ R.frames) (hlo : 8 + (dm_ml mid + 11) + dm_lo mid ≤ R.locals) (hf : cells + (dm_n S' - dm_n S) ≤ R.cells ∧ slots + (dm_zz S' - dm_zz S) ≤ R.slots) (hW : (rest.map fun v => v.category).sum ≤ 8) (hdg : decode cc pc = .ok (.invokestatic ix, 3))
    (kk : ∀ (H1 : Heap) (locs1 : List Loc), H1.size = x1 + (dm_n S' - 1000) → va_P (dC, dI) vwCl (dm_W al aC x1 S') H1 → va_S (fun q => x0 ≤ q) s.heap H1 locs1 → W p l e R s m args below meth c H1 locs1 (cells + (dm_n S' - dm_n S)) (slots + (dm_zz S' - dm_zz S)) Q (F0 m (pc + 3) ls ((v.map (am_rl (dm_al al x1))).toList ++ rest))) :
    W p l e R s m args below meth c H locs cells slots Q (F0 m pc ls ((as.map (am_rl (dm_al al x1))).reverse ++ rest)) := by
  obtain ⟨hx, hb, hml, hown, hts, hK9, hF, hX, hNB, hal⟩ := C
  have hK := tm_K hK9
  obtain ⟨f1, f2, hM⟩ := hM hn
  unfold fw_sok at hok
  simp only [Bool.and_eq_true] at hok
  obtain ⟨⟨⟨w1, w2⟩, w3⟩, w4⟩ := hok
  have w4 := of_decide_eq_true w4
  obtain ⟨n1, n2, n9, n3, n4⟩ := dm_md_spec hmid
  have hPre : ∀ U : State, U.heap = H → s.WarmedH U.vm → va_Pc (as.map (am_rl (dm_al al x1))) (dm_P al dC dI aC aV x0 x1 S) (as.map (am_rl (dm_al al x1))).toArray U := fun U hU hW =>
    ⟨rfl, by rw [hU]; exact hz, by rw [hU]; exact hP, va_K.moved hW.alike hK, by rw [hU]; exact am_fx_kept hF hW hS.1 hS.2.1 (fun q _ z => z) (fun q z => z), fun w hw => dm_NB_warm hW hw (hNB w hw)⟩
  have hr : va_Run p l e R s m args below meth c H locs cells slots (dm_n S' - dm_n S) (dm_zz S' - dm_zz S) (F0 m pc ls ((as.map (am_rl (dm_al al x1))).reverse ++ rest)) rest (dm_Q al dC dI aC x0 x1 v S' (as.map (am_rl (dm_al al x1))).toArray) (fun q => x0 ≤ q) :=
    va_runS (cc := cc) (nL := nL) (Ts := am_AT) (own := RL) (bytes := dm_cc mid) (maxL := dm_ml mid) (ret := dm_re mid) (ws := dm_ws mid) (rm := dm_rm mid (dm_n S' - dm_n S) (dm_zz S' - dm_zz S)) (n := dm_na mid) (index := ix) (As := as.map (am_rl (dm_al al x1))) ⟨hx, hb, hml, hown, hts⟩ hM
      ⟨callB_of _ hts (dm_wsG hmid) rfl rfl rfl (hts _ (dm_inT_spec w3)) (hts _ (dm_inT_spec w1)) ⟨n3, n4, w4⟩ ⟨hfr, hlo⟩, hts _ (dm_inT_spec w2)⟩ ⟨dm_blind, hPre⟩ rfl (by rw [List.length_map]; exact hln) hnl rfl (by show 2 * 0 + _ ≤ 8; omega) hdg hf
  intro T hT X9
  obtain ⟨v2, st₀, t, T', L, h00, X', hL, e1, e2, ⟨q1, q2, q3, q4⟩, stp⟩ := hr T hT X9
  obtain ⟨k1, k2, k3⟩ := vx_keep (A0 := fun q => x0 ≤ q) h00 e1 hS (fun q _ z => z) (fun q z => z) hL q4
  cases Outcome.returned.inj q1
  obtain ⟨t2, a1, b1⟩ := kk T'.heap (locs ++ L) (by rw [e1]; exact q2) (by rw [e1]; exact q3) k3 T' rfl X'
  exact ⟨t2, stp t2 a1, b1⟩
theorem fw_sz {g : JFrame} (k : H.size ≤ s.heap.size + cells → W p l e R s m args below meth c H locs cells slots Q g) : W p l e R s m args below meth c H locs cells slots Q g := by
  intro T hT X9
  have h3 := X9.heapSize
  rw [hT] at h3
  exact k h3 T hT X9
/-- the words of a call of the class -/
def fw_vok (ix mid n : Nat) : Bool := Nat.blt mid 109 && dm_inT (.methodLink RL ix (am_y mid)) && dm_inT (.instanceMethod (am_y mid)) && dm_inT (.selects (am_y mid).cls (am_y mid) (am_y mid)) && dm_inT (.initialized (am_y mid).cls) && decide ((parseMethodDescriptor (am_y mid).desc).map (fun d => d.parameters.length) = some n)
set_option maxHeartbeats 2000000 in
/-- a call of a method of the class that returns -/
theorem fw_am {n : Nat} (C : fw_C p s m args c al dC dI aC aV x0 X cc nL) (hok : fw_vok ix mid n = true) (hM : am_Met l al dC dI aC aV mid (.ref b :: as) h (some v) h') (hln : as.length = n) (hb9 : am_isO b (am_ow mid) = true) (hnl : ls.size = nL)
    (hP : va_P (dC, dI) vwCl (am_W al aC h) H) (hS : va_S (fun q => x0 ≤ q) s.heap H locs) (hfr : am_fr mid + 1 ≤ R.frames) (hlo : 8 + (am_ml mid + 11) + am_lo mid ≤ R.locals) (hf : cells ≤ R.cells ∧ slots ≤ R.slots) (hW : (rest.map fun v => v.category).sum ≤ 8) (hdg : decode cc pc = .ok (.invokevirtual ix, 3))
    (kk : ∀ (H1 : Heap) (locs1 : List Loc), va_P (dC, dI) vwCl (am_W al aC h') H1 → va_S (fun q => x0 ≤ q) s.heap H1 locs1 → H.size ≤ H1.size → (∀ q : Nat, q < H.size → ¬ am_A al H.size q → H1[q]? = H[q]?) → W p l e R s m args below meth c H1 locs1 cells slots Q (F0 m (pc + 3) ls ((v.map (am_rl al)).toList ++ rest))) :
    W p l e R s m args below meth c H locs cells slots Q (F0 m pc ls ((as.map (am_rl al)).reverse ++ .ref (al b) :: rest)) := by
  obtain ⟨hx, hb, hml, hown, hts, hK9, hF, hX, hNB, hal⟩ := C
  have hK := tm_K hK9
  unfold fw_vok at hok
  simp only [Bool.and_eq_true] at hok
  obtain ⟨⟨⟨⟨⟨w0, w1⟩, w2⟩, w3⟩, w4⟩, w5⟩ := hok
  have w0 := Nat.blt_eq.mp w0
  have w5 := of_decide_eq_true w5
  obtain ⟨n1, n2, n3, n4, -⟩ := am_md_spec w0
  have hx0 := fw_size hal hP
  have hPre : ∀ U : State, U.heap = H → s.WarmedH U.vm → va_Pc ((.ref b :: as).map (am_rl al)) (fun U => U.heap.size = H.size ∧ am_B al dC dI aC h U ∧ am_Fx al aV (am_A al H.size) U U.heap) (.ref (al b) :: as.map (am_rl al)).toArray U := fun U hU hW =>
    ⟨rfl, by rw [hU], ⟨by rw [hU]; exact hP, va_K.moved hW.alike hK⟩, by rw [hU]; exact am_fx_kept hF hW hS.1 hS.2.1 (fun q _ z => fw_A hal (by omega) q z) (fun q z => fw_A hal (by omega) q z)⟩
  have hws : GoodIn am_AT (am_ws mid) := am_AT_sub (fun w hw => by
    rcases List.mem_cons.mp hw with rfl | hw
    · exact n1
    · exact hw)
  have hcell : ∃ cellB : Cell, H[al b]? = some cellB ∧ cellB.vm.isStatics = false ∧ s.vm.findClass (am_y mid).cls = some cellB.cls := by
    obtain ⟨g1, g2, g3, -⟩ := am_cell_o (al := al) (aC := aC) (h := h) hb9
    have he := am_W_get (al := al) (aC := aC) (h := h) g2
    rw [g1] at he
    have := va_recv hK hP (am_cl_spec g3).2 he
    rw [n2]
    exact this
  have hA := fw_A (H := H) hal (by omega)
  have hr : vx_Run p l e R s m args below meth c H locs cells slots 0 0 (F0 m pc ls ((as.map (am_rl al)).reverse ++ .ref (al b) :: rest)) rest (am_Q al dC dI aC (some v) h' (am_A al H.size) (.ref (al b) :: as.map (am_rl al)).toArray) (am_X al dC dI aC (some v) h' (am_A al H.size)) (am_A al H.size) :=
    vx_runV (cc := cc) (nL := nL) (Ts := am_AT) (own := RL) (C := (am_y mid).cls) (bytes := am_cc mid) (maxL := am_ml mid) (ret := am_re mid) (ws := am_ws mid) (rm := am_rm mid (some v)) (n := n) (index := ix) (As := as.map (am_rl al)) (b := al b) ⟨hx, hb, hml, hown, hts⟩ (hM H.size) (cwV _ hts (fun w hw => by
      rcases List.mem_append.mp hw with hw | hw
      · simp only [List.mem_cons, List.not_mem_nil, or_false] at hw
        rcases hw with rfl | rfl | rfl | rfl
        · exact ⟨dm_inT_spec w1, am_AT_good (dm_inT_spec w1)⟩
        · exact ⟨dm_inT_spec w2, am_AT_good (dm_inT_spec w2)⟩
        · exact ⟨dm_inT_spec w3, am_AT_good (dm_inT_spec w3)⟩
        · exact ⟨dm_inT_spec w4, am_AT_good (dm_inT_spec w4)⟩
      · exact hws w hw) rfl rfl rfl ⟨rfl, n3, n4, w5⟩ ⟨hfr, hlo⟩) ⟨am_blind, hcell, hPre⟩ rfl (by rw [List.length_map]; exact hln) hnl rfl (by show 2 * 0 + _ ≤ 8; omega) hdg hf
  intro T hT X9
  rcases hr T hT X9 with ⟨v2, st₀, t, T', L, h00, X', hL, e1, e2, ⟨v', q1, q2, ⟨q3, q4⟩, q5⟩, stp⟩ | ⟨q, st₀, t, T', L, E, ce, h00, X', hL, e1, e2, ⟨q1, q2, ⟨q3, q4⟩, q5⟩, hce, hcv, hcl, stp⟩
  · obtain ⟨k1, k2, k3⟩ := vx_keep h00 e1 hS (fun q _ z => hA q z) (fun q z => hA q z) hL q5
    cases q1
    cases Outcome.returned.inj q2
    obtain ⟨t2, a1, b1⟩ := kk T'.heap (locs ++ L) (by rw [e1]; exact q3) k3 k1 k2 T' rfl X'
    exact ⟨t2, stp t2 a1, b1⟩
  · cases q1
set_option maxHeartbeats 2000000 in
/-- a call of one of the law's own that works on the class alone -/
theorem fw_amS {n : Nat} (C : fw_C p s m args c al dC dI aC aV x0 X cc nL) (hmid : mid < 109) (hok : fw_sok ix (am_y mid) n = true) (hM : am_Met l al dC dI aC aV mid as h (some v) h') (hln : as.length = n) (hnl : ls.size = nL)
    (hP : va_P (dC, dI) vwCl (am_W al aC h) H) (hS : va_S (fun q => x0 ≤ q) s.heap H locs) (hfr : am_fr mid + 1 ≤ R.frames) (hlo : 8 + (am_ml mid + 11) + am_lo mid ≤ R.locals) (hf : cells ≤ R.cells ∧ slots ≤ R.slots) (hW : (rest.map fun v => v.category).sum ≤ 8) (hdg : decode cc pc = .ok (.invokestatic ix, 3))
    (kk : ∀ (H1 : Heap) (locs1 : List Loc), va_P (dC, dI) vwCl (am_W al aC h') H1 → va_S (fun q => x0 ≤ q) s.heap H1 locs1 → W p l e R s m args below meth c H1 locs1 cells slots Q (F0 m (pc + 3) ls ((v.map (am_rl al)).toList ++ rest))) :
    W p l e R s m args below meth c H locs cells slots Q (F0 m pc ls ((as.map (am_rl al)).reverse ++ rest)) := by
  obtain ⟨hx, hb, hml, hown, hts, hK9, hF, hX, hNB, hal⟩ := C
  have hK := tm_K hK9
  unfold fw_sok at hok
  simp only [Bool.and_eq_true] at hok
  obtain ⟨⟨⟨w1, w2⟩, w3⟩, w4⟩ := hok
  have w4 := of_decide_eq_true w4
  obtain ⟨n1, n2, n3, n4, -⟩ := am_md_spec hmid
  have hx0 := fw_size hal hP
  have hPre : ∀ U : State, U.heap = H → s.WarmedH U.vm → va_Pc (as.map (am_rl al)) (fun U => U.heap.size = H.size ∧ am_B al dC dI aC h U ∧ am_Fx al aV (am_A al H.size) U U.heap) (as.map (am_rl al)).toArray U := fun U hU hW =>
    ⟨rfl, by rw [hU], ⟨by rw [hU]; exact hP, va_K.moved hW.alike hK⟩, by rw [hU]; exact am_fx_kept hF hW hS.1 hS.2.1 (fun q _ z => fw_A hal (by omega) q z) (fun q z => fw_A hal (by omega) q z)⟩
  have hws : GoodIn am_AT (am_ws mid) := am_AT_sub (fun w hw => by
    rcases List.mem_cons.mp hw with rfl | hw
    · exact n1
    · exact hw)
  have hA := fw_A (H := H) hal (by omega)
  have hr : vx_Run p l e R s m args below meth c H locs cells slots 0 0 (F0 m pc ls ((as.map (am_rl al)).reverse ++ rest)) rest (am_Q al dC dI aC (some v) h' (am_A al H.size) (as.map (am_rl al)).toArray) (am_X al dC dI aC (some v) h' (am_A al H.size)) (am_A al H.size) :=
    vx_runS (cc := cc) (nL := nL) (Ts := am_AT) (own := RL) (bytes := am_cc mid) (maxL := am_ml mid) (ret := am_re mid) (ws := am_ws mid) (rm := am_rm mid (some v)) (n := n) (index := ix) (As := as.map (am_rl al)) ⟨hx, hb, hml, hown, hts⟩ (hM H.size) ⟨callB_of _ hts hws rfl rfl rfl (hts _ (dm_inT_spec w3)) (hts _ (dm_inT_spec w1)) ⟨n3, n4, w4⟩ ⟨hfr, hlo⟩, hts _ (dm_inT_spec w2)⟩ ⟨am_blind, hPre⟩ rfl (by rw [List.length_map]; exact hln) hnl rfl (by show 2 * 0 + _ ≤ 8; omega) hdg hf
  intro T hT X9
  rcases hr T hT X9 with ⟨v2, st₀, t, T', L, h00, X', hL, e1, e2, ⟨v', q1, q2, ⟨q3, q4⟩, q5⟩, stp⟩ | ⟨q, st₀, t, T', L, E, ce, h00, X', hL, e1, e2, ⟨q1, q2, ⟨q3, q4⟩, q5⟩, hce, hcv, hcl, stp⟩
  · obtain ⟨k1, k2, k3⟩ := vx_keep h00 e1 hS (fun q _ z => hA q z) (fun q z => hA q z) hL q5
    cases q1
    cases Outcome.returned.inj q2
    obtain ⟨t2, a1, b1⟩ := kk T'.heap (locs ++ L) (by rw [e1]; exact q3) k3 T' rfl X'
    exact ⟨t2, stp t2 a1, b1⟩
  · cases q1
end FW0
