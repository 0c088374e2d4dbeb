section LSN
variable {p : Program} {l : Launch} {e : Env} {s : State} {m : MethodId} {args : Array Value} {below : List Frame} {meth : Method} {c : Code} {Q : State → Prop}
variable {al : Nat → Nat} {dC : Nat → ClassId} {dI : Nat → Nat → Nat} {aC : Nat → ClassId} {aV : Nat → Nat}
variable {H : Heap} {locs : List Loc} {cells slots pc y : Nat} {ls : Array Slot} {rest : List Value}
/-- a new object in the law's body, its address told -/
theorem ls_new {ci ix : Nat} (hci : ci < 11) (hx : p.tables.exec = Jvm.exec) (hb : c.code = code) (hts : ∀ w ∈ am_AT, w.before args s = true) (hown : s.vm.findClass lw_L = some m.cls) (hcl : (Cond.classLink lw_L ix (am_R ci)).before args s = true) (hinst : (Cond.instantiable (am_R ci) (am_N ci)).before args s = true) (hini : (Cond.initialized (am_R ci)).before args s = true) (hK : va_K (dC, dI) vwCl (am_tys aC) s) (hy : H.size = y) (hcells : cells + 1 ≤ 601024) (hslots : slots + am_N ci ≤ 7293034) (hdg : decode code pc = .ok (.new ix, 3))
    (kk : ∀ H1 : Heap, H1.size = y + 1 → va_P (dC, dI) vwCl [(y, cn_e (cn_al y al) aC (cn_new ci))] H1 → (∀ q, q < y → H1[q]? = H[q]?) → W p l e room_1 s m args below meth c H1 locs (cells + 1) (slots + am_N ci) Q (F0 m (pc + 3) ls (.ref y :: rest))) : W p l e room_1 s m args below meth c H locs cells slots Q (F0 m pc ls rest) := by
  obtain ⟨ty0, hty, hnm⟩ := am_tyn hci
  have hKn := hK.1 ci _ (am_cl_spec hci).2
  refine W.newcK hx hb hown hcl hinst hini rfl hdg hcells hslots hKn.2.1 hy fun H1 kC hkC e1 z1 o1 => ?_
  refine kk H1 z1 (fun k q hk => ?_) o1
  have hz : k < 1 := (List.getElem?_eq_some_iff.mp hk).1
  rw [show k = 0 by omega] at hk
  cases hk
  rw [cn_e_o rfl]
  exact ⟨_, (am_cl_spec hci).2, (u_born ty0 hts (am_uw_spec hci) hKn hkC e1 hty).to (fun j hj => cn_dfv hci hty hj)⟩
theorem ls_long (hx : p.tables.exec = Jvm.exec) (hb : c.code = code) (harr : (Cond.arrayClass .long).before args s = true) (hK : va_K (dC, dI) vwCl (am_tys aC) s) (hy : H.size = y) (hcells : cells + 1 ≤ 601024) (hslots : slots + 1 ≤ 7293034) (hdg : decode code pc = .ok (.newarray .long, 2))
    (kk : ∀ (H1 : Heap) (cA : ClassId), H1.size = y + 1 → va_P (dC, dI) vwCl [(y, .inl (cA, (1, .inr (.inl (fun _ => 0)))))] H1 → (∀ q, q < y → H1[q]? = H[q]?) → va_K (dC, dI) vwCl [(cA, .long)] s → W p l e room_1 s m args below meth c H1 locs (cells + 1) (slots + 1) Q (F0 m (pc + 2) ls (.ref y :: rest))) : W p l e room_1 s m args below meth c H locs cells slots Q (F0 m pc ls (.int 1 :: rest)) := by
  refine va_newaK (atype := .long) (N := 1) hx hb harr rfl hdg rfl (by decide) (by decide) (by decide) hcells hslots hy fun H1 cA e1 z1 o1 hAr hNm => ?_
  refine kk H1 cA z1 (fun k q hk => ?_) o1 ⟨hK.1, fun k q hk => ?_⟩
  · have hz : k < 1 := (List.getElem?_eq_some_iff.mp hk).1
    rw [show k = 0 by omega] at hk
    cases hk
    exact e1
  · have hz : k < 1 := (List.getElem?_eq_some_iff.mp hk).1
    rw [show k = 0 by omega] at hk
    cases hk
    exact ⟨hAr, hNm⟩
theorem ls_double (hx : p.tables.exec = Jvm.exec) (hb : c.code = code) (harr : (Cond.arrayClass .double).before args s = true) (hK : va_K (dC, dI) vwCl (am_tys aC) s) (hy : H.size = y) (hcells : cells + 1 ≤ 601024) (hslots : slots + 1 ≤ 7293034) (hdg : decode code pc = .ok (.newarray .double, 2))
    (kk : ∀ (H1 : Heap) (cA : ClassId), H1.size = y + 1 → va_P (dC, dI) vwCl [(y, .inl (cA, (1, .inr (.inr (.inr (.inl (fun _ => 0)))))))] H1 → (∀ q, q < y → H1[q]? = H[q]?) → va_K (dC, dI) vwCl [(cA, .double)] s → W p l e room_1 s m args below meth c H1 locs (cells + 1) (slots + 1) Q (F0 m (pc + 2) ls (.ref y :: rest))) : W p l e room_1 s m args below meth c H locs cells slots Q (F0 m pc ls (.int 1 :: rest)) := by
  refine va_newaK (atype := .double) (N := 1) hx hb harr rfl hdg rfl (by decide) (by decide) (by decide) hcells hslots hy fun H1 cA e1 z1 o1 hAr hNm => ?_
  refine kk H1 cA z1 (fun k q hk => ?_) o1 ⟨hK.1, fun k q hk => ?_⟩
  · have hz : k < 1 := (List.getElem?_eq_some_iff.mp hk).1
    rw [show k = 0 by omega] at hk
    cases hk
    exact e1
  · have hz : k < 1 := (List.getElem?_eq_some_iff.mp hk).1
    rw [show k = 0 by omega] at hk
    cases hk
    exact ⟨hAr, hNm⟩
def ls_words : Bool :=
  cn_inT (.classLink lw_L 8 (am_R 9)) && cn_inT (.instantiable (am_R 9) (am_N 9)) && cn_inT (.initialized (am_R 9)) && cn_inT (.methodLink lw_L 77 (cn_y 9)) && cn_inT (.instanceMethod (cn_y 9)) && cn_inT (.code (cn_y 9) (cn_cc 9) (cn_ml 9) none) &&
  cn_inT (.classLink lw_L 78 (am_R 10)) && cn_inT (.instantiable (am_R 10) (am_N 10)) && cn_inT (.initialized (am_R 10)) && cn_inT (.methodLink lw_L 80 (cn_y 10)) && cn_inT (.instanceMethod (cn_y 10)) && cn_inT (.code (cn_y 10) (cn_cc 10) (cn_ml 10) none) &&
  cn_inT (.arrayClass .long) && cn_inT (.arrayClass .double) && lg_t (.castable lw_io lw_io)
def ls_code : Bool :=
  decide (decode code 0 = .ok (.new 8, 3)) && decide (decode code 3 = .ok (.dup, 1)) && decide (decode code 4 = .ok (.invokespecial 77, 3)) && decide (decode code 7 = .ok (.astore_n 1, 1)) && decide (decode code 8 = .ok (.new 78, 3)) && decide (decode code 11 = .ok (.dup, 1)) && decide (decode code 12 = .ok (.invokespecial 80, 3)) && decide (decode code 15 = .ok (.astore_n 2, 1)) &&
  decide (decode code 16 = .ok (.iconst 1, 1)) && decide (decode code 17 = .ok (.newarray .long, 2)) && decide (decode code 19 = .ok (.astore_n 3, 1)) && decide (decode code 20 = .ok (.iconst 1, 1)) && decide (decode code 21 = .ok (.newarray .double, 2)) && decide (decode code 23 = .ok (.astore 4, 2)) && decide (decode code 25 = .ok (.iconst 0, 1)) && decide (decode code 26 = .ok (.istore 5, 2)) &&
  decide (decode code 2427 = .ok (.iconst 1, 1)) && decide (decode code 2428 = .ok (.ireturn, 1))
theorem ls_words_ok : ls_words = true := by decide +kernel
theorem ls_code_ok : ls_code = true := by decide +kernel
theorem ls_ynm : ((cn_y 9).cls ≠ "java/lang/invoke/MethodHandle" ∧ (cn_y 9).cls ≠ "java/lang/invoke/VarHandle" ∧ (parseMethodDescriptor (cn_y 9).desc).map (fun d => d.parameters.length) = some 0) ∧ ((cn_y 10).cls ≠ "java/lang/invoke/MethodHandle" ∧ (cn_y 10).cls ≠ "java/lang/invoke/VarHandle" ∧ (parseMethodDescriptor (cn_y 10).desc).map (fun d => d.parameters.length) = some 0) := by decide +kernel
theorem ls_gd {o : Nat} (h : cn_inT (.code (cn_y o) (cn_cc o) (cn_ml o) none) = true) : GoodIn am_AT (cn_wsx o) := am_AT_sub (fun w hw => by
  rcases List.mem_cons.mp hw with rfl | hw
  · exact cn_inT_spec h
  · exact hw)
theorem ls_hy {x0 : Nat} (hl : l.flags = flags0) (hal : ∀ k, k < 205 → al k = x0 + k) : am_Hy l al := by
  refine ⟨?_, fun i j hi hj hij => ?_⟩
  · unfold Launch.stackTraces
    rw [hl]
    decide
  · have hi : i < 205 := hi
    have hj : j < 205 := hj
    rw [hal i hi, hal j hj] at hij
    omega
theorem ls_sizes : (cn_mc 9 = 192 ∧ cn_mz 9 = 9098 ∧ cn_mc 10 = 11 ∧ cn_mz 10 = 62433 ∧ am_N 9 = 12 ∧ am_N 10 = 31) ∧ ((cn_rm 9).frames + 1 ≤ 13 ∧ 8 + (cn_ml 9 + 11) + (cn_rm 9).locals ≤ 488) ∧ (cn_rm 10).frames + 1 ≤ 13 ∧ 8 + (cn_ml 10 + 11) + (cn_rm 10).locals ≤ 488 := by decide
end LSN
