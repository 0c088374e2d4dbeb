section CTORM
variable {l : Launch} {al : Nat → Nat} {dC : Nat → ClassId} {dI : Nat → Nat → Nat} {aC : Nat → ClassId} {aV : Nat → Nat} {x0 : Nat}
def cn_PM (al : Nat → Nat) (dC : Nat → ClassId) (dI : Nat → Nat → Nat) (aC : Nat → ClassId) (aV : Nat → Nat) (x0 : Nat) (U : State) : Prop :=
  U.heap.size = x0 + 194 ∧ va_P (dC, dI) vwCl [(x0 + 193, cn_e (cn_al (x0 + 193) al) aC (cn_new 10))] U.heap ∧ va_K (dC, dI) vwCl (am_tys aC) U ∧ am_Fx al aV (fun q => x0 ≤ q) U U.heap ∧ (∀ w ∈ cn_NB, va_Nw w U) ∧ va_P (dC, dI) vwCl (cn_ws x0 (cn_al x0 al) aC cn_DX) U.heap
theorem cn_blindM {as : List Value} : FrameBlind (va_Pc as (cn_PM al dC dI aC aV x0)) := by
  intro b U g mk q
  obtain ⟨q0, q1, q2, q3, q4, q5, q6⟩ := q
  exact ⟨q0, q1, q2, va_K.moved (u := U) (U := U.calling g mk b) (Vm.Alike.refl U.vm) q3, am_fx_kept (U1 := U.calling g mk b) q4 (State.WarmedH.refl U) (Nat.le_refl _) (fun _ _ _ => rfl) (fun _ _ h => h) (fun _ h => h), fun w hw => cn_NB_warm (U := U.calling g mk b) (State.WarmedH.refl U) hw (q5 w hw), q6⟩
theorem cn_M_run : ∃ s1 : cn_St, cn_run 10 (cn_orc 0) 102 100 (0, [(0, .ref 0)], [], [cn_new 10], 0) = some s1 ∧ s1.1 = 102 ∧ s1.2.1 = [(0, .ref 0)] ∧ s1.2.2.1 = [.ref 0] ∧ s1.2.2.2.1 = cn_DM ∧ s1.2.2.2.2 = 62332 := by
  obtain ⟨-, -, f3, -, -, -⟩ := cn_facts_s
  have e1 : cn_run 10 (cn_orc 0) 102 100 (0, [(0, .ref 0)], [], [cn_new 10], 0) = cn_M := rfl
  cases hM : cn_M with
  | none => rw [hM] at f3; cases f3
  | some s1 =>
    rw [hM] at f3
    have f3 : (s1.1, s1.2.1, s1.2.2.1, s1.2.2.2.2) = (102, [(0, .ref 0)], [.ref 0], 62332) := Option.some.inj f3
    refine ⟨s1, by rw [e1, hM], ?_, ?_, ?_, ?_, ?_⟩
    · exact congrArg (fun q => q.1) f3
    · exact congrArg (fun q => q.2.1) f3
    · exact congrArg (fun q => q.2.2.1) f3
    · unfold cn_DM; rw [hM]
    · exact congrArg (fun q => q.2.2.2) f3
theorem cn_M_words : (lw_ok (am_R 10) 48 128 0 && decide (decode (cn_cc 10) 102 = .ok (.invokevirtual 48, 3)) && decide (decode (cn_cc 10) 105 = .ok (.return_, 1)) && plainName (cn_y 10).cls && am_isO 193 (am_ow 128)) = true := by decide +kernel
set_option maxHeartbeats 2000000 in
theorem cn_metM (hy : am_Hy l al) (hal : ∀ r, r < 205 → al r = x0 + r) {N : Nat} {h1 : am_Hp} (hf : f_X10_newConsoles N cn_hp = some ((), h1)) :
    Met l (cn_y 10) (cn_wsx 10) (cn_rm 10) (va_Pc [.ref (x0 + 193)] (cn_PM al dC dI aC aV x0)) (va_Qv (fun _ : Unit => True) (fun _ t => va_P (dC, dI) vwCl (am_W al aC h1) t.heap) (fun q => x0 ≤ q)) (cn_mc 10) (cn_mz 10) (fun q => x0 ≤ q) := by
  have hw := cn_M_words
  simp only [Bool.and_eq_true, decide_eq_true_eq] at hw
  obtain ⟨⟨⟨⟨w1, w2⟩, w3⟩, w4⟩, w5⟩ := hw
  refine Met.ofW (cc := cn_cc 10) (maxL := cn_ml 10) (ret := none) w4 rfl ?_
  intro p e s m args below meth c s₁ B hml hv
  obtain ⟨rfl, hsz, hP, hK, hF, hNB, hX⟩ := hv
  have hts : ∀ w ∈ am_AT, w.before _ s = true := fun w hw => atoms_spec (ws := cn_wsx 10) B.pre w (List.mem_cons_of_mem _ hw)
  have hown : s.vm.findClass (am_R 10) = some m.cls := findClass_of_methodNamed B.named
  have hin : meth.name = "<init>" := (name_of_methodNamed B.named B.method).1
  have hF2 : am_Fx al aV (fun q => x0 + 193 ≤ q) s s.heap := am_fx_kept hF (State.WarmedH.refl s) (Nat.le_refl _) (fun _ _ _ => rfl) (fun q _ z => by omega) (fun q z => by omega)
  have C : cn_Cx p (cn_rm 10) s m ([Value.ref (x0 + 193)] : List Value).toArray meth c al dC dI aC aV 10 (x0 + 193) := ⟨B.exec, B.bytes, hml, hown, hts, hin, hK, hF2, hNB, hsz, rfl⟩
  have C2 : lw_C p s m ([Value.ref (x0 + 193)] : List Value).toArray c al dC dI aC aV x0 (cn_cc 10) (cn_ml 10) (am_R 10) := ⟨B.exec, B.bytes, hml, hown, hts, hK, hF, hal⟩
  obtain ⟨s1, hrun, z1, z2, z3, z4, z5⟩ := cn_M_run
  obtain ⟨-, -, -, f4, -, -⟩ := cn_facts_s
  have key : cn_At p l e (cn_rm 10) s m ([Value.ref (x0 + 193)] : List Value).toArray below meth c (MQ below (va_Qv (fun _ : Unit => True) (fun _ t => va_P (dC, dI) vwCl (am_W al aC h1) t.heap) (fun q => x0 ≤ q)) ([Value.ref (x0 + 193)] : List Value).toArray s (cn_mc 10) (cn_mz 10) (fun q => x0 ≤ q)) al dC dI aC 10 (x0 + 193) (0, [(0, .ref 0)], [], [cn_new 10], 0) := by
    refine cn_run_sound (by decide) (cn_orc_ok 0) B.notSynchronized C _ _ _ hrun ?_
    intro hL H locs ls hl hP1 hS1
    rw [z1, z2, z3, z4, z5] at *
    have hP2 : va_P (dC, dI) vwCl (cn_ws x0 (cn_al x0 al) aC cn_DX) H := hX.kept (fun k q hk => by
      obtain ⟨f, hf9, rfl⟩ := cn_get' hk
      have hk9 : k < 193 := by
        obtain ⟨-, f2, -⟩ := cn_facts_s
        have := (List.getElem?_eq_some_iff.mp hf9).1
        omega
      exact hS1.2.1 _ (by show x0 + k < _; omega) (by show ¬ (x0 + 193 ≤ x0 + k); omega))
    have hPW := cn_world hal hP2 hP1
    have hS2 : va_S (fun q => x0 ≤ q) s.heap H locs := ⟨hS1.1, fun q a1 a2 => hS1.2.1 q a1 (fun z => a2 (by omega)), fun q hq => by have := hS1.2.2 q hq; omega⟩
    have e0 : cn_al (x0 + 193) al 0 = al 193 := by rw [cn_al_lt (by decide), hal 193 (by decide), Nat.add_zero]
    show W p l e (cn_rm 10) s m _ below meth c H locs (cn_DM.length - 1) 62332 _ (F0 m 102 ls [.ref (cn_al (x0 + 193) al 0)])
    rw [e0, f4]
    refine W.widen (k := cn_mc 10) (n := cn_mz 10) (by decide) (by decide) ?_
    refine lw_call (as := []) (rest := []) (n := 0) C2 w1 (m_X10_newConsoles hy N cn_hp ((), h1) hf) rfl w5 hl.1 hPW hS2 (by decide) (by decide) ⟨by decide, by decide⟩ (by decide) w2 (fun H1 locs1 hP3 hS3 _ _ => ?_)
    exact W.vret B.exec B.bytes B.returns (fun t ht hW => ⟨⟨(), rfl, trivial, by show va_P _ _ _ t.heap; rw [ht]; exact hP3⟩, hS3.F ht⟩) hS3.2.2 w3
  have hl := lv_entry (([.ref 0] : List Value).map (am_rl (cn_al (x0 + 193) al))) (n := cn_ml 10) (Nat.le_of_ble_eq_true rfl)
  rw [am_args_map] at hl
  have e2 : ([Value.ref (x0 + 193)] : List Value) = ([.ref 0] : List Value).map (am_rl (cn_al (x0 + 193) al)) := by
    rw [← cn_start (as := []) rfl, List.map_id]
  have e3 := lg_entry_eq m ([Value.ref (x0 + 193)]) (cn_ml 10)
  rw [e3]
  have e4 : (lg_sl [Value.ref (x0 + 193)] ++ List.replicate (cn_ml 10 - (lg_sl [Value.ref (x0 + 193)]).length) Slot.unset).toArray = (lg_sl (([.ref 0] : List Value).map (am_rl (cn_al (x0 + 193) al))) ++ List.replicate (cn_ml 10 - (lg_sl (([.ref 0] : List Value).map (am_rl (cn_al (x0 + 193) al)))).length) Slot.unset).toArray := by rw [← e2]
  rw [e4]
  refine key (Nat.le_refl _) s.heap [] _ hl ?_ va_S.rf
  exact cn_P_of fun k f hk => by
    have h0 : k < 1 := (List.getElem?_eq_some_iff.mp hk).1
    rw [show k = 0 by omega] at hk ⊢
    cases hk
    exact hP 0 _ rfl
end CTORM
