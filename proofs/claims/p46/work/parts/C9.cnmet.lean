section CNMET
variable {p : Program} {l : Launch} {e : Env} {R : Room} {s : State} {m : MethodId} {args : Array Value} {below : List Frame} {meth : Method} {c : Code} {Q : State → Prop}
variable {al0 : Nat → Nat} {dC : Nat → ClassId} {dI : Nat → Nat → Nat} {aC : Nat → ClassId} {aV : Nat → Nat} {o a : Nat}
variable {pc : Nat} {ins : Instr} {ρ : am_Lc} {st : List Value} {L : List cn_E} {z : Nat} {t : cn_St} {orc : Nat → List Value → Option (List cn_E)}
set_option maxHeartbeats 1000000 in
theorem cn_sound (ho : o < 11) (horc : ∀ ci as C, orc ci as = some C → cn_Met l al0 dC dI aC aV ci as C) (hlocks : meth.locks = false) (C : cn_Cx p R s m args meth c al0 dC dI aC aV o a) (hd : decode (cn_cc o) pc = .ok (ins, cn_ln ins)) (hr : cn_step o orc pc ins ρ st L z = some t) (hk : cn_At p l e R s m args below meth c Q al0 dC dI aC o a t) : cn_At p l e R s m args below meth c Q al0 dC dI aC o a (pc, ρ, st, L, z) := by
  cases ins
  case iload_n i => exact cn_s1 C hd hr hk
  case aload_n i => exact cn_s2 C hd hr hk
  case istore_n i => exact cn_s3 C hd hr hk
  case iinc i n => exact cn_s4 C hd hr hk
  case iconst n => exact cn_s5 C hd hr hk
  case bipush n => exact cn_s6 C hd hr hk
  case sipush n => exact cn_s7 C hd hr hk
  case ldc ix => exact cn_s8 C hd hr hk
  case dup => exact cn_s9 C hd hr hk
  case goto off => exact cn_s10 C hd hr hk
  case if_icmp cd off => exact cn_s11 C hd hr hk
  case getstatic ix => exact cn_s12 C hd hr hk
  case iaload => exact cn_s13 C hd hr hk
  case getfield ix => exact cn_s14 C hd hr hk
  case arraylength => exact cn_s15 C hd hr hk
  case putfield ix => exact cn_s16 C hd hr hk
  case iastore => exact cn_s17 C hd hr hk
  case aastore => exact cn_s18 C hd hr hk
  case new ix => exact cn_s19 C hd hr hk
  case newarray x => exact cn_s20 C hd hr hk
  case anewarray ix => exact cn_s21 C hd hr hk
  case invokespecial ix => exact cn_s22 ho horc hlocks C hd hr hk
  case multianewarray ix d => exact cn_s23 C hd hr hk
  all_goals exact absurd (show (none : Option cn_St) = some t from hr) (by simp)
theorem cn_run_sound (ho : o < 11) (horc : ∀ ci as C, orc ci as = some C → cn_Met l al0 dC dI aC aV ci as C) (hlocks : meth.locks = false) (C : cn_Cx p R s m args meth c al0 dC dI aC aV o a) {stop : Nat} : ∀ (f : Nat) (s0 s1 : cn_St), cn_run o orc stop f s0 = some s1 → cn_At p l e R s m args below meth c Q al0 dC dI aC o a s1 → cn_At p l e R s m args below meth c Q al0 dC dI aC o a s0
  | 0, _, _, h, _ => by cases h
  | f + 1, s0, s1, h, hk => by
    have h : (bif Nat.beq s0.1 stop then some s0 else match am_at (cn_p o) s0.1 with
      | none => none
      | some q => match cn_step o orc s0.1 q.1 s0.2.1 s0.2.2.1 s0.2.2.2.1 s0.2.2.2.2 with
        | none => none
        | some t => cn_run o orc stop f t) = some s1 := h
    cases hb : Nat.beq s0.1 stop with
    | true =>
      rw [hb] at h
      cases h
      exact hk
    | false =>
      rw [hb] at h
      have h : (match am_at (cn_p o) s0.1 with
        | none => none
        | some q => match cn_step o orc s0.1 q.1 s0.2.1 s0.2.2.1 s0.2.2.2.1 s0.2.2.2.2 with
          | none => none
          | some t => cn_run o orc stop f t) = some s1 := h
      cases hat : am_at (cn_p o) s0.1 with
      | none => rw [hat] at h; cases h
      | some q =>
        rw [hat] at h
        have h : (match cn_step o orc s0.1 q.1 s0.2.1 s0.2.2.1 s0.2.2.2.1 s0.2.2.2.2 with
          | none => none
          | some t => cn_run o orc stop f t) = some s1 := h
        cases hst : cn_step o orc s0.1 q.1 s0.2.1 s0.2.2.1 s0.2.2.2.1 s0.2.2.2.2 with
        | none => rw [hst] at h; cases h
        | some t =>
          rw [hst] at h
          have hd := cn_at_spec ho hat
          have hln := cn_at_ln ho hat
          have hd : decode (cn_cc o) s0.1 = .ok (q.1, cn_ln q.1) := by rw [hd, ← hln]
          exact cn_sound ho horc hlocks C hd hst (cn_run_sound ho horc hlocks C f t s1 h hk)
theorem cn_start {as : List Value} (has : as.all cn_int = true) : (Value.ref a :: as).map id = ((.ref 0 :: as) : List Value).map (am_rl (cn_al a al0)) := by
  rw [List.map_cons, List.map_cons]
  have e1 : am_rl (cn_al a al0) (.ref 0) = .ref a := by
    show Value.ref (cn_al a al0 0) = _
    rw [cn_al_lt (by decide), Nat.add_zero]
  rw [e1]
  show Value.ref a :: as.map id = _
  congr 1
  exact List.map_congr_left (fun v hv => by
    have h8 := List.all_eq_true.mp has v hv
    cases v <;> first | rfl | cases h8)
theorem cn_endp : (List.range 10).all (fun o => decide (decode (cn_cc o) (cn_end o) = .ok (.return_, 1))) = true := by decide +kernel
set_option maxHeartbeats 1000000 in
/-- a constructor's contract out of a run -/
theorem cn_met {as : List Value} {D : List cn_E} (ho : o < 10) (has : as.all cn_int = true) (hal : (lg_sl (.ref 0 :: as)).length ≤ cn_ml o) (horc : ∀ ci as C, orc ci as = some C → cn_Met l al0 dC dI aC aV ci as C) (hr : cn_ev o orc as = some D) : cn_Met l al0 dC dI aC aV o as D := by
  intro a
  have hpl : plainName (cn_y o).cls = true := by
    have key : ∀ o, o < 10 → plainName (cn_y o).cls = true := by decide +kernel
    exact key o ho
  refine Met.ofW (cc := cn_cc o) (maxL := cn_ml o) (ret := none) hpl rfl ?_
  intro p e s m args below meth c s₁ B hml hv
  obtain ⟨rfl, hsz, hP, hK, hF, hNB⟩ := hv
  have hts : ∀ w ∈ am_AT, w.before _ s = true := fun w hw => atoms_spec (ws := cn_wsx o) B.pre w (List.mem_cons_of_mem _ hw)
  have hown : s.vm.findClass (am_R o) = some m.cls := findClass_of_methodNamed B.named
  have hin : meth.name = "<init>" := (name_of_methodNamed B.named B.method).1
  have C : cn_Cx p (cn_rm o) s m (Value.ref a :: as).toArray meth c al0 dC dI aC aV o a := ⟨B.exec, B.bytes, hml, hown, hts, hin, hK, hF, hNB, hsz, rfl⟩
  unfold cn_ev at hr
  cases hrun : cn_run o orc (cn_end o) 400 (0, lv_args 0 (.ref 0 :: as), [], [cn_new o], 0) with
  | none => rw [hrun] at hr; cases hr
  | some s1 =>
    rw [hrun] at hr
    have hr : (bif s1.2.2.1.isEmpty && Nat.beq s1.2.2.2.1.length (cn_mc o + 1) && Nat.beq s1.2.2.2.2 (cn_mz o) then some s1.2.2.2.1 else none) = some D := hr
    obtain ⟨h1, h2⟩ := am_bif hr
    simp only [Bool.and_eq_true] at h1
    obtain ⟨⟨b1, b2⟩, b3⟩ := h1
    have hpc : s1.1 = cn_end o := by
      have key : ∀ (f : Nat) (x y : cn_St), cn_run o orc (cn_end o) f x = some y → y.1 = cn_end o := by
        intro f
        induction f with
        | zero => intro x y h; cases h
        | succ f ih =>
          intro x y h
          have h : (bif Nat.beq x.1 (cn_end o) then some x else match am_at (cn_p o) x.1 with
            | none => none
            | some q => match cn_step o orc x.1 q.1 x.2.1 x.2.2.1 x.2.2.2.1 x.2.2.2.2 with
              | none => none
              | some t => cn_run o orc (cn_end o) f t) = some y := h
          cases hb : Nat.beq x.1 (cn_end o) with
          | true =>
            rw [hb] at h
            cases h
            exact Nat.eq_of_beq_eq_true hb
          | false =>
            rw [hb] at h
            have h : (match am_at (cn_p o) x.1 with
              | none => none
              | some q => match cn_step o orc x.1 q.1 x.2.1 x.2.2.1 x.2.2.2.1 x.2.2.2.2 with
                | none => none
                | some t => cn_run o orc (cn_end o) f t) = some y := h
            split at h
            · cases h
            · split at h
              · cases h
              · exact ih _ _ h
      exact key _ _ _ hrun
    obtain ⟨pc1, ρ1, st1, L1, z1⟩ := s1
    have hpc : pc1 = cn_end o := hpc
    subst hpc
    cases List.isEmpty_iff.mp b1
    have bl : L1.length = cn_mc o + 1 := Nat.eq_of_beq_eq_true b2
    have bz : z1 = cn_mz o := Nat.eq_of_beq_eq_true b3
    have h2 : some L1 = some D := h2
    cases h2
    have hdr : decode (cn_cc o) (cn_end o) = .ok (.return_, 1) := of_decide_eq_true (List.all_eq_true.mp cn_endp o (List.mem_range.mpr (by omega)))
    have key : cn_At p l e (cn_rm o) s m (Value.ref a :: as).toArray below meth c (MQ below (cn_Q al0 dC dI aC a D) (Value.ref a :: as).toArray s (cn_mc o) (cn_mz o) (fun q => a ≤ q)) al0 dC dI aC o a (0, lv_args 0 (.ref 0 :: as), [], [cn_new o], 0) := by
      refine cn_run_sound (by omega) horc B.notSynchronized C _ _ _ hrun ?_
      intro hL H locs ls hl hP1 hS1
      have hP1 : va_P (dC, dI) vwCl (cn_ws a (cn_al a al0) aC D) H := hP1
      show W p l e (cn_rm o) s m _ below meth c H locs (D.length - 1) z1 _ (F0 m (cn_end o) ls [])
      refine cn_lenW (fun hsz2 => ?_)
      have hHz : H.size = a + D.length := by
        have h1 : D[D.length - 1]? = some D[D.length - 1] := List.getElem?_eq_getElem (by omega)
        have h2 : a + (D.length - 1) < H.size := (hP1 _ _ (cn_get h1)).lt
        rw [hsz] at hsz2
        omega
      have e1 : D.length - 1 = cn_mc o := by rw [bl]; rfl
      rw [e1, bz]
      exact W.vret B.exec B.bytes B.returns (fun t ht hW => ⟨⟨(), rfl, trivial, by rw [ht]; exact hHz, by rw [ht]; exact hP1⟩, hS1.F ht⟩) hS1.2.2 hdr
    have hl := lv_entry ((.ref 0 :: as : List Value).map (am_rl (cn_al a al0))) (n := cn_ml o) (by rw [am_sl_len]; exact hal)
    rw [am_args_map] at hl
    have e2 : (Value.ref a :: as) = ((.ref 0 :: as) : List Value).map (am_rl (cn_al a al0)) := by
      rw [← cn_start has, List.map_id]
    have e3 := lg_entry_eq m (Value.ref a :: as) (cn_ml o)
    rw [e3]
    have e4 : (lg_sl (Value.ref a :: as) ++ List.replicate (cn_ml o - (lg_sl (Value.ref a :: as)).length) Slot.unset).toArray = (lg_sl (((.ref 0 :: as) : List Value).map (am_rl (cn_al a al0))) ++ List.replicate (cn_ml o - (lg_sl (((.ref 0 :: as) : List Value).map (am_rl (cn_al a al0)))).length) Slot.unset).toArray := by rw [← e2]
    rw [e4]
    refine key (Nat.le_refl _) s.heap [] _ hl ?_ va_S.rf
    exact cn_P_of fun k f hk => by
      have h0 : k < 1 := (List.getElem?_eq_some_iff.mp hk).1
      rw [show k = 0 by omega] at hk ⊢
      cases hk
      exact hP 0 _ rfl
theorem cn_orc_ok : ∀ (n : Nat) (o : Nat) (as : List Value) (D : List cn_E), cn_orc n o as = some D → cn_Met l al0 dC dI aC aV o as D
  | 0, _, _, _, h => by cases h
  | n + 1, o, as, D, h => by
    have h : (bif Nat.blt o 10 && as.all cn_int && Nat.ble (lg_sl (.ref 0 :: as)).length (cn_ml o) then cn_ev o (cn_orc n) as else none) = some D := h
    obtain ⟨h1, h2⟩ := am_bif h
    simp only [Bool.and_eq_true] at h1
    exact cn_met (Nat.blt_eq.mp h1.1.1) h1.1.2 (Nat.le_of_ble_eq_true h1.2) (cn_orc_ok n) h2
end CNMET
