section AMMET
variable {p : Program} {l : Launch} {e : Env} {R : Room} {s : State} {m : MethodId} {args : Array Value} {below : List Frame} {meth : Method} {c : Code}
theorem am_at_mem {tab : List (Nat × Instr × Nat)} {pc : Nat} {q : Instr × Nat} (h : am_at tab pc = some q) : (pc, q) ∈ tab := by
  unfold am_at at h
  cases hf : tab.find? (fun q => Nat.beq q.1 pc) with
  | none => rw [hf] at h; cases h
  | some z =>
    rw [hf] at h
    cases h
    have h2 := List.find?_some hf
    have h1 : z.1 = pc := Nat.eq_of_beq_eq_true h2
    rw [← h1]
    exact List.mem_of_find?_eq_some hf
def am_tok (me : Nat) (tab : List (Nat × Instr × Nat)) : Prop := ∀ q ∈ tab, decode (am_cc me) q.1 = .ok q.2 ∧ am_il q.2.1 q.2.2 = true
theorem am_sem_sound {γ : Type} {al : Nat → Nat} {dC : Nat → ClassId} {dI : Nat → Nat → Nat} {aC : Nat → ClassId} {aV : Nat → Nat} {me : Nat} {o0 : am_Out} {h0 : am_Hp} {tab : List (Nat × Instr × Nat)} {cut : am_Cut γ} {orc : am_Orc} {ret : am_Out → am_Hp → Option γ} {g : γ}
    (C : am_Cx p l R s m args meth c al dC dI aC aV me o0) (htab : am_tok me tab) (horc : am_OS l al dC dI aC aV orc) (hret : ∀ o h', ret o h' = some g → o = o0 ∧ h' = h0)
    (hcut : ∀ pc cc, cut pc = some cc → ∀ ρ st h, cc ρ st h = some g → am_At p l e R s m args below meth c al dC dI aC me o0 h0 pc ρ st h) :
    ∀ (f pc : Nat) (ρ : am_Lc) (st : List Value) (h : am_Hp), am_sem me tab cut orc ret f pc ρ st h = some g → am_At p l e R s m args below meth c al dC dI aC me o0 h0 pc ρ st h
  | 0, _, _, _, _, h => by cases h
  | f + 1, pc, ρ, st, h, hr => by
    have hr : (match am_at tab pc with
      | none => none
      | some q => am_op me pc q.1 q.2 ρ st h orc ret (fun pc' ρ' st' h' => match cut pc' with
        | some c => c ρ' st' h'
        | none => am_sem me tab cut orc ret f pc' ρ' st' h')) = some g := hr
    cases hat : am_at tab pc with
    | none => rw [hat] at hr; cases hr
    | some q =>
      rw [hat] at hr
      obtain ⟨t1, t2⟩ := htab _ (am_at_mem hat)
      have hk : ∀ pc' ρ' st' h', (match cut pc' with
        | some c => c ρ' st' h'
        | none => am_sem me tab cut orc ret f pc' ρ' st' h') = some g → am_At p l e R s m args below meth c al dC dI aC me o0 h0 pc' ρ' st' h' := by
        intro pc' ρ' st' h' hz
        cases hc : cut pc' with
        | some cc => rw [hc] at hz; exact hcut _ _ hc _ _ _ hz
        | none => rw [hc] at hz; exact am_sem_sound C htab horc hret hcut f pc' ρ' st' h' hz
      refine am_op_sound C t1 t2 horc hret hk (fun kd ix hi hz => ?_) hr
      refine am_inv_sound (ins := q.1) C ?_ horc hret hk kd ix hi hz
      have t1 : decode (am_cc me) pc = .ok q := t1
      obtain ⟨q1, q2⟩ := q
      rcases hi with ⟨rfl, -⟩ | ⟨rfl, -⟩
      · cases Nat.eq_of_beq_eq_true t2; exact t1
      · cases Nat.eq_of_beq_eq_true t2; exact t1
theorem am_At_mono {al : Nat → Nat} {dC : Nat → ClassId} {dI : Nat → Nat → Nat} {aC : Nat → ClassId} {me : Nat} {o0 : am_Out} {h0 : am_Hp} {pc : Nat} {ρ ρ' : am_Lc} {st : List Value} {h : am_Hp} (hm : ∀ q ∈ ρ', q ∈ ρ) (k : am_At p l e R s m args below meth c al dC dI aC me o0 h0 pc ρ' st h) : am_At p l e R s m args below meth c al dC dI aC me o0 h0 pc ρ st h := by
  intro H locs ls hl hP hS
  refine k H locs ls ⟨hl.1, hl.2.1, fun q hq => ?_⟩ hP hS
  obtain ⟨z, hz, rfl⟩ := List.mem_map.mp hq
  exact hl.2.2 _ (List.mem_map.mpr ⟨z, hm z hz, rfl⟩)
theorem am_args_map {al : Nat → Nat} : ∀ (as : List Value) (i : Nat), lv_args i (as.map (am_rl al)) = am_rls al (lv_args i as)
  | [], _ => rfl
  | v :: as, i => by
    have h := am_args_map (al := al) as
    show (i, am_rl al v) :: lv_args (if (am_rl al v).category = 2 then i + 2 else i + 1) (as.map (am_rl al)) = (i, am_rl al v) :: am_rls al (lv_args (if v.category = 2 then i + 2 else i + 1) as)
    rw [am_rl_cat, h]
theorem am_sl_len {al : Nat → Nat} : ∀ (as : List Value), (lg_sl (as.map (am_rl al))).length = (lg_sl as).length
  | [] => rfl
  | v :: as => by
    have h := am_sl_len (al := al) as
    unfold lg_sl at h ⊢
    rw [List.map_cons, List.flatMap_cons, List.flatMap_cons, List.length_append, List.length_append, h, am_rl_cat]
    split <;> rfl
set_option maxHeartbeats 1000000 in
/-- a method's contract out of a run of the interpreter: the links are all of it that is shown for each method -/
theorem am_met {γ : Type} {l : Launch} {al : Nat → Nat} {dC : Nat → ClassId} {dI : Nat → Nat → Nat} {aC : Nat → ClassId} {aV : Nat → Nat} {mid : Nat} {o0 : am_Out} {h0 : am_Hp} {tab : List (Nat × Instr × Nat)} {orc : am_Orc} {ret : am_Out → am_Hp → Option γ} {g : γ} {as : List Value} {h : am_Hp}
    (hmid : mid < 109) (hm3 : 3 ≤ mid) (htr : l.stackTraces = false) (hinj : am_Inj al) (htab : am_tok mid tab) (horc : am_OS l al dC dI aC aV orc) (hret : ∀ o h', ret o h' = some g → o = o0 ∧ h' = h0) (hlen : (lg_sl as).length ≤ am_ml mid)
    (hrun : ∀ At : Nat → am_Lc → List Value → am_Hp → Prop,
      (∀ (cut : am_Cut γ), (∀ pc cc, cut pc = some cc → ∀ ρ st h, cc ρ st h = some g → At pc ρ st h) → ∀ f pc ρ st h, am_sem mid tab cut orc ret f pc ρ st h = some g → At pc ρ st h) →
      (∀ pc ρ ρ' st h, (∀ q ∈ ρ', q ∈ ρ) → At pc ρ' st h → At pc ρ st h) → At 0 (lv_args 0 as) [] h) :
    am_Met l al dC dI aC aV mid as h o0 h0 := by
  intro sz
  obtain ⟨n1, n2, n3, n4, n5⟩ := am_md_spec hmid
  refine vx_ofW (cc := am_cc mid) (maxL := am_ml mid) (ret := am_re mid) (n5.resolve_right (by omega)) rfl ?_
  intro p e s m args below meth c s₁ B hml hexc hv
  obtain ⟨rfl, hsz, ⟨hP, hK⟩, hF⟩ := hv
  subst hsz
  have hts := atoms_spec (ws := am_ws mid) B.pre
  have hown : s.vm.findClass (am_own mid) = some m.cls := n2 ▸ findClass_of_methodNamed B.named
  have C : am_Cx p l (am_rm mid o0) s m (as.map (am_rl al)).toArray meth c al dC dI aC aV mid o0 := ⟨B.exec, B.bytes, hml, hown, fun w hw => hts w (List.mem_cons_of_mem _ hw), B.notSynchronized, hexc, B.returns, htr, hK, hF, rfl, hinj⟩
  have key : am_At p l e (am_rm mid o0) s m (as.map (am_rl al)).toArray below meth c al dC dI aC mid o0 h0 0 (lv_args 0 as) [] h :=
    hrun (am_At p l e (am_rm mid o0) s m (as.map (am_rl al)).toArray below meth c al dC dI aC mid o0 h0) (fun cut hcut f pc ρ st h hr => am_sem_sound C htab horc hret hcut f pc ρ st h hr) (fun pc ρ ρ' st h hm k => am_At_mono hm k)
  have hl := lv_entry (as.map (am_rl al)) (n := am_ml mid) (by rw [am_sl_len]; exact hlen)
  rw [am_args_map] at hl
  rw [lg_entry_eq]
  exact key s.heap [] _ hl hP va_S.rf
end AMMET
