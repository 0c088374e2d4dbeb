section LWCALL
variable {p : Program} {l : Launch} {e : Env} {R : Room} {s : State} {m : MethodId} {args : Array Value} {below : List Frame} {meth : Method} {c : Code} {Q : State → Prop}
variable {al : Nat → Nat} {dC : Nat → ClassId} {dI : Nat → Nat → Nat} {aC : Nat → ClassId} {aV : Nat → Nat} {x0 : Nat}
variable {cc : ByteArray} {nL pc ix mid b : Nat} {own : String} {ls : Array Slot} {H : Heap} {locs : List Loc} {cells slots : Nat} {as rest : List Value} {h h' : am_Hp}
/-- the words of a call of a method of either side -/
def lw_ok (own : String) (ix mid n : Nat) : Bool := Nat.blt mid 228 && cn_inT (.methodLink own ix (am_y mid)) && cn_inT (.instanceMethod (am_y mid)) && cn_inT (.selects (am_y mid).cls (am_y mid) (am_y mid)) && cn_inT (.initialized (am_y mid).cls) && decide ((parseMethodDescriptor (am_y mid).desc).map (fun d => d.parameters.length) = some n)
/-- where a method of either side is called: the words, the world, the frame -/
def lw_C (p : Program) (s : State) (m : MethodId) (args : Array Value) (c : Code) (al : Nat → Nat) (dC : Nat → ClassId) (dI : Nat → Nat → Nat) (aC : Nat → ClassId) (aV : Nat → Nat) (x0 : Nat) (cc : ByteArray) (nL : Nat) (own : String) : Prop :=
  p.tables.exec = Jvm.exec ∧ c.code = cc ∧ c.maxLocals = nL ∧ s.vm.findClass own = some m.cls ∧ (∀ w ∈ am_AT, w.before args s = true) ∧ va_K (dC, dI) vwCl (am_tys aC) s ∧ am_Fx al aV (fun q => x0 ≤ q) s s.heap ∧ (∀ k, k < 205 → al k = x0 + k)
theorem lw_A {H : Heap} (hal : ∀ k, k < 205 → al k = x0 + k) (hx : x0 ≤ H.size) : ∀ q, am_A al H.size q → x0 ≤ q := by
  intro q z
  rcases z with ⟨k, h1, rfl⟩ | z
  · have h1 : k < 205 := h1
    rw [hal k h1]
    omega
  · omega
theorem lw_size {h : am_Hp} {D : va_G} {cl : List vw_C} (hal : ∀ k, k < 205 → al k = x0 + k) (hP : va_P D cl (am_W al aC h) H) : x0 + 205 ≤ H.size := by
  have h1 : al 204 < H.size := (hP 204 _ (am_W_get (by decide))).lt
  rw [hal 204 (by decide)] at h1
  omega
set_option maxHeartbeats 2000000 in
theorem lw_run {o : am_Out} {n : Nat} (C : lw_C p s m args c al dC dI aC aV x0 cc nL own) (hok : lw_ok own ix mid n = true) (hM : am_Met l al dC dI aC aV mid (.ref b :: as) h o h') (hln : as.length = n) (hb9 : am_isO b (am_ow mid) = true) (hnl : ls.size = nL)
    (hP : va_P (dC, dI) vwCl (am_W al aC h) H) (hS : va_S (fun q => x0 ≤ q) s.heap H locs) (hfr : am_fr mid + 1 ≤ R.frames) (hlo : 8 + (am_ml mid + 11) + am_lo mid ≤ R.locals) (hf : cells + am_mc o ≤ R.cells ∧ slots + am_ms o ≤ R.slots) (hW : (rest.map fun v => v.category).sum ≤ 8) (hdg : decode cc pc = .ok (.invokevirtual ix, 3)) :
    vx_Run p l e R s m args below meth c H locs cells slots (am_mc o) (am_ms o) (F0 m pc ls ((as.map (am_rl al)).reverse ++ .ref (al b) :: rest)) rest (am_Q al dC dI aC o h' (am_A al H.size) (.ref (al b) :: as.map (am_rl al)).toArray) (am_X al dC dI aC o h' (am_A al H.size)) (am_A al H.size) := by
  obtain ⟨hx, hb, hml, hown, hts, hK, hF, hal⟩ := C
  unfold lw_ok at hok
  simp only [Bool.and_eq_true] at hok
  obtain ⟨⟨⟨⟨⟨w0, w1⟩, w2⟩, w3⟩, w4⟩, w5⟩ := hok
  have w0 := Nat.blt_eq.mp w0
  have w5 := of_decide_eq_true w5
  obtain ⟨n1, n2, n3, n4, -⟩ := am_md_spec w0
  have hx0 := lw_size hal hP
  have hPre : ∀ U : State, U.heap = H → s.WarmedH U.vm → va_Pc ((.ref b :: as).map (am_rl al)) (fun U => U.heap.size = H.size ∧ am_B al dC dI aC h U ∧ am_Fx al aV (am_A al H.size) U U.heap) (.ref (al b) :: as.map (am_rl al)).toArray U := fun U hU hW =>
    ⟨rfl, by rw [hU], ⟨by rw [hU]; exact hP, va_K.moved hW.alike hK⟩, by rw [hU]; exact am_fx_kept hF hW hS.1 hS.2.1 (fun q _ z => lw_A hal (by omega) q z) (fun q z => lw_A hal (by omega) q z)⟩
  have hws : GoodIn am_AT (am_ws mid) := am_AT_sub (fun w hw => by
    rcases List.mem_cons.mp hw with rfl | hw
    · exact n1
    · exact hw)
  have hcell : ∃ cellB : Cell, H[al b]? = some cellB ∧ cellB.vm.isStatics = false ∧ s.vm.findClass (am_y mid).cls = some cellB.cls := by
    obtain ⟨g1, g2, g3, -⟩ := am_cell_o (al := al) (aC := aC) (h := h) hb9
    have he := am_W_get (al := al) (aC := aC) (h := h) g2
    rw [g1] at he
    have := va_recv hK hP (am_cl_spec g3).2 he
    rw [n2]
    exact this
  refine vx_runV (cc := cc) (nL := nL) (Ts := am_AT) (own := own) (C := (am_y mid).cls) (bytes := am_cc mid) (maxL := am_ml mid) (ret := am_re mid) (ws := am_ws mid) (rm := am_rm mid o) (n := n) (index := ix) (As := as.map (am_rl al)) (b := al b) ⟨hx, hb, hml, hown, hts⟩ (hM H.size) (cwV _ hts (fun w hw => ?_) rfl rfl rfl ⟨rfl, n3, n4, w5⟩ ⟨hfr, hlo⟩) ⟨am_blind, hcell, hPre⟩ rfl (by rw [List.length_map]; exact hln) hnl rfl (by show 2 * 0 + _ ≤ 8; omega) hdg hf
  rcases List.mem_append.mp hw with hw | hw
  · simp only [List.mem_cons, List.not_mem_nil, or_false] at hw
    rcases hw with rfl | rfl | rfl | rfl
    · exact ⟨cn_inT_spec w1, am_AT_good (cn_inT_spec w1)⟩
    · exact ⟨cn_inT_spec w2, am_AT_good (cn_inT_spec w2)⟩
    · exact ⟨cn_inT_spec w3, am_AT_good (cn_inT_spec w3)⟩
    · exact ⟨cn_inT_spec w4, am_AT_good (cn_inT_spec w4)⟩
  · exact hws w hw
/-- a call that returns -/
theorem lw_call {v : Option Value} {n : Nat} (C : lw_C p s m args c al dC dI aC aV x0 cc nL own) (hok : lw_ok own ix mid n = true) (hM : am_Met l al dC dI aC aV mid (.ref b :: as) h (some v) h') (hln : as.length = n) (hb9 : am_isO b (am_ow mid) = true) (hnl : ls.size = nL)
    (hP : va_P (dC, dI) vwCl (am_W al aC h) H) (hS : va_S (fun q => x0 ≤ q) s.heap H locs) (hfr : am_fr mid + 1 ≤ R.frames) (hlo : 8 + (am_ml mid + 11) + am_lo mid ≤ R.locals) (hf : cells ≤ R.cells ∧ slots ≤ R.slots) (hW : (rest.map fun v => v.category).sum ≤ 8) (hdg : decode cc pc = .ok (.invokevirtual ix, 3))
    (kk : ∀ (H1 : Heap) (locs1 : List Loc), va_P (dC, dI) vwCl (am_W al aC h') H1 → va_S (fun q => x0 ≤ q) s.heap H1 locs1 → H.size ≤ H1.size → (∀ q : Nat, q < H.size → ¬ am_A al H.size q → H1[q]? = H[q]?) → W p l e R s m args below meth c H1 locs1 cells slots Q (F0 m (pc + 3) ls ((v.map (am_rl al)).toList ++ rest))) :
    W p l e R s m args below meth c H locs cells slots Q (F0 m pc ls ((as.map (am_rl al)).reverse ++ .ref (al b) :: rest)) := by
  have hx0 := lw_size C.2.2.2.2.2.2.2 hP
  have hA := lw_A (H := H) C.2.2.2.2.2.2.2 (by omega)
  have hr := lw_run (p := p) (l := l) (e := e) (R := R) (below := below) (meth := meth) (cells := cells) (slots := slots) (o := some v) C hok hM hln hb9 hnl hP hS hfr hlo hf hW hdg
  intro T hT X
  rcases hr T hT X with ⟨v2, st₀, t, T', L, h00, X', hL, e1, e2, ⟨v', q1, q2, ⟨q3, q4⟩, q5⟩, stp⟩ | ⟨q, st₀, t, T', L, E, ce, h00, X', hL, e1, e2, ⟨q1, q2, ⟨q3, q4⟩, q5⟩, hce, hcv, hcl, stp⟩
  · obtain ⟨k1, k2, k3⟩ := vx_keep h00 e1 hS (fun q _ z => hA q z) (fun q z => hA q z) hL q5
    cases q1
    cases Outcome.returned.inj q2
    obtain ⟨t2, a1, b1⟩ := kk T'.heap (locs ++ L) (by rw [e1]; exact q3) k3 k1 k2 T' rfl X'
    exact ⟨t2, stp t2 a1, b1⟩
  · cases q1
end LWCALL
