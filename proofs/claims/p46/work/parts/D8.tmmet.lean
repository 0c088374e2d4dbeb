section TM8
variable {p : Program} {l : Launch} {e : Env} {R : Room} {s : State} {m : MethodId} {args : Array Value} {below : List Frame} {meth : Method} {c : Code}
set_option maxRecDepth 100000 in
theorem tm_pl : (List.range 46).all (fun m => plainFor (tm_y m)) = true := by decide +kernel
theorem tm_pl_spec {m : Nat} (hm : m < 46) : plainFor (tm_y m) = true := List.all_eq_true.mp tm_pl m (List.mem_range.mpr hm)
/-- as Met.ofW, for what any class may own -/
theorem tm_ofW {y : MethodName} {ws ws' : List Cond} {rm : Room} {Pc : Array Value → State → Prop} {Qc : Array Value → State → Outcome → State → Prop} {mc ms : Nat} {free : Addr → Prop} {cc : ByteArray} {maxL : Nat} {ret : Option FieldType}
    (hy : plainFor y = true) (hw : ws = Cond.code y cc maxL ret :: ws')
    (body : ∀ p e s m args below meth c s₁, BodyLoose p l y (headSpec ws rm) cc maxL ret e s m args below meth c s₁ → c.maxLocals = maxL → Pc args s →
      W p l e (headSpec ws rm).room s m args below meth c s.heap [] 0 0 (MQ below Qc args s mc ms free) (entryFrame m args maxL)) : Met l y ws rm Pc Qc mc ms free := by
  refine MetFree.of_bodySF (code := cc) (maxLocals := maxL) (ret := ret) hy ?_ ?_
  · intro args s m h hn
    obtain ⟨meth, c, h1, h2, h3, h4, h5, h6, -, -⟩ := Cond.code_spec hn (atoms_spec (ws := ws) h _ (by rw [hw]; exact List.mem_cons_self))
    exact ⟨meth, c, h1, h2, h3, h4, h5, h6⟩
  · intro p e s m args below meth c s₁ B hml hP _
    have hh0 : s₁.heap = s.heap := by rw [B.state]; rfl
    obtain ⟨t, a1, o, b1, b2, b3⟩ := body p e s m args below meth c s₁ B hml hP s₁ hh0 (Stand.of_body B)
    exact ⟨t, o, a1, b1, b2, ⟨b3.1, b3.2⟩⟩
def tm_tok (me : Nat) (tab : List (Nat × Instr × Nat)) : Prop := ∀ q ∈ tab, decode (tm_cc me) q.1 = .ok q.2 ∧ tm_il q.2.1 q.2.2 = true
theorem tm_sem_sound {γ : Type} {al : Nat → Nat} {dC : Nat → ClassId} {dI : Nat → Nat → Nat} {aC : Nat → ClassId} {aV : Nat → Nat} {x0 x1 : Nat} {X : tm_X} {me N0 Z0 : Nat} {vO : Option Value} {SO : dm_S} {tab : List (Nat × Instr × Nat)} {cut : tm_Cut γ} {oC : am_Orc} {oD : dm_Orc} {ret : Option Value → dm_S → Option γ} {g : γ}
    (hme : me < 45) (C : tm_Cx p R s m args meth c al dC dI aC aV x0 x1 X me N0 Z0 SO) (htab : tm_tok me tab) (hoC : am_OS l al dC dI aC aV oC) (hoD : tm_OS l al dC dI aC aV x0 x1 X oD) (hret : ∀ v S', ret v S' = some g → v = vO ∧ S' = SO)
    (hcut : ∀ pc cc, cut pc = some cc → ∀ ρ st S, cc ρ st S = some g → tm_At p l e R s m args below meth c al dC dI aC x0 x1 me N0 Z0 vO SO pc ρ st S) :
    ∀ (f pc : Nat) (ρ : am_Lc) (st : List Value) (S : dm_S), tm_sem X me tab cut oC oD ret f pc ρ st S = some g → tm_At p l e R s m args below meth c al dC dI aC x0 x1 me N0 Z0 vO SO pc ρ st S
  | 0, _, _, _, _, h => by cases h
  | f + 1, pc, ρ, st, S, hr => by
    have hr : (match am_at tab pc with
      | none => none
      | some q => tm_op X me pc q.1 q.2 ρ st S oC oD ret (fun pc' ρ' st' S' => match cut pc' with
        | some c => c ρ' st' S'
        | none => tm_sem X me tab cut oC oD ret f pc' ρ' st' S')) = some g := hr
    cases hat : am_at tab pc with
    | none => rw [hat] at hr; cases hr
    | some q =>
      rw [hat] at hr
      obtain ⟨t1, t2⟩ := htab _ (am_at_mem hat)
      have hk : ∀ pc' ρ' st' S', (match cut pc' with
        | some c => c ρ' st' S'
        | none => tm_sem X me tab cut oC oD ret f pc' ρ' st' S') = some g → tm_At p l e R s m args below meth c al dC dI aC x0 x1 me N0 Z0 vO SO pc' ρ' st' S' := by
        intro pc' ρ' st' S' hz
        cases hc : cut pc' with
        | some cc => rw [hc] at hz; exact hcut _ _ hc _ _ _ hz
        | none => rw [hc] at hz; exact tm_sem_sound hme C htab hoC hoD hret hcut f pc' ρ' st' S' hz
      obtain ⟨q1, q2⟩ := q
      have t1 : decode (tm_cc me) pc = .ok (q1, q2) := t1
      have t2 : tm_il q1 q2 = true := t2
      refine tm_op_sound hme C t1 t2 hret hk (fun sv ix hi hz => ?_) hr
      refine tm_inv_sound (ins := q1) hme C ?_ hoC hoD hk sv ix hi hz
      rcases hi with ⟨rfl, -⟩ | ⟨rfl, -⟩ | ⟨rfl, -⟩
      · cases Nat.eq_of_beq_eq_true t2; exact t1
      · cases Nat.eq_of_beq_eq_true t2; exact t1
      · cases Nat.eq_of_beq_eq_true t2; exact t1
theorem tm_At_mono {al : Nat → Nat} {dC : Nat → ClassId} {dI : Nat → Nat → Nat} {aC : Nat → ClassId} {x0 x1 me N0 Z0 : Nat} {vO : Option Value} {SO : dm_S} {pc : Nat} {ρ ρ' : am_Lc} {st : List Value} {S : dm_S} (hm : ∀ q ∈ ρ', q ∈ ρ) (k : tm_At p l e R s m args below meth c al dC dI aC x0 x1 me N0 Z0 vO SO pc ρ' st S) : tm_At p l e R s m args below meth c al dC dI aC x0 x1 me N0 Z0 vO SO pc ρ st S := by
  intro hN hZ
  obtain ⟨q1, q2, q3⟩ := k hN hZ
  refine ⟨q1, q2, fun H locs ls hl hP hS => q3 H locs ls ⟨hl.1, hl.2.1, fun q hq => ?_⟩ hP hS⟩
  obtain ⟨z, hz, rfl⟩ := List.mem_map.mp hq
  exact hl.2.2 _ (List.mem_map.mpr ⟨z, hm z hz, rfl⟩)
set_option maxHeartbeats 1000000 in
/-- a method's contract out of a run of the interpreter -/
theorem tm_met {γ : Type} {l : Launch} {al : Nat → Nat} {dC : Nat → ClassId} {dI : Nat → Nat → Nat} {aC : Nat → ClassId} {aV : Nat → Nat} {x0 x1 : Nat} {X : tm_X} {mid : Nat} {vO : Option Value} {SO : dm_S} {tab : List (Nat × Instr × Nat)} {oC : am_Orc} {oD : dm_Orc} {ret : Option Value → dm_S → Option γ} {g : γ} {as : List Value} {S : dm_S}
    (hmid : mid < 45) (hA : dm_Al al x0 x1) (htab : tm_tok mid tab) (hoC : am_OS l al dC dI aC aV oC) (hoD : tm_OS l al dC dI aC aV x0 x1 X oD) (hret : ∀ v S', ret v S' = some g → v = vO ∧ S' = SO) (hlen : (lg_sl as).length ≤ tm_ml mid)
    (hrun : ∀ At : Nat → am_Lc → List Value → dm_S → Prop,
      (∀ (cut : tm_Cut γ), (∀ pc cc, cut pc = some cc → ∀ ρ st S, cc ρ st S = some g → At pc ρ st S) → ∀ f pc ρ st S, tm_sem X mid tab cut oC oD ret f pc ρ st S = some g → At pc ρ st S) →
      (∀ pc ρ ρ' st S, (∀ q ∈ ρ', q ∈ ρ) → At pc ρ' st S → At pc ρ st S) → At 0 (lv_args 0 as) [] S) :
    tm_Met l al dC dI aC aV x0 x1 X mid as S vO SO := by
  intro hN0
  have main : ∀ (p : Program) (R : Room) (e : Env) (s : State) (m : MethodId) (args : Array Value) (below : List Frame) (meth : Method) (c : Code), tm_Cx p R s m args meth c al dC dI aC aV x0 x1 X mid (dm_n S) (dm_zz S) SO → tm_At p l e R s m args below meth c al dC dI aC x0 x1 mid (dm_n S) (dm_zz S) vO SO 0 (lv_args 0 as) [] S := fun p R e s m args below meth c C =>
    hrun (tm_At p l e R s m args below meth c al dC dI aC x0 x1 mid (dm_n S) (dm_zz S) vO SO) (fun cut hcut f pc ρ st S hr => tm_sem_sound hmid C htab hoC hoD hret hcut f pc ρ st S hr) (fun pc ρ ρ' st S hm k => tm_At_mono hm k)
  have hmono : dm_n S ≤ dm_n SO ∧ dm_zz S ≤ dm_zz SO :=
    hrun (fun _ _ _ S => dm_mo SO S) (fun cut hcut f pc ρ st S hr => tm_sem_mono hoC (tm_OS_M hoD) hret hcut f pc ρ st S hr) (fun pc ρ ρ' st S hm k => k) hN0
  refine ⟨hmono.1, hmono.2, ?_⟩
  refine tm_ofW (cc := tm_cc mid) (maxL := tm_ml mid) (ret := tm_re mid) (tm_pl_spec (by omega)) rfl ?_
  intro p e s m args below meth c s₁ B hml hv
  obtain ⟨rfl, hsz, hP, hK, hF, hX⟩ := hv
  have hts : ∀ w ∈ am_AT, w.before _ s = true := fun w hw => atoms_spec (ws := tm_ws mid) B.pre w (List.mem_cons_of_mem _ hw)
  have hown : s.vm.findClass (tm_own mid) = some m.cls := findClass_of_methodNamed B.named
  have C : tm_Cx p (tm_rm mid (dm_n SO - dm_n S) (dm_zz SO - dm_zz S)) s m (as.map (am_rl (dm_al al x1))).toArray meth c al dC dI aC aV x0 x1 X mid (dm_n S) (dm_zz S) SO := ⟨B.exec, B.bytes, hml, hown, hts, B.notSynchronized, B.returns, hK, hF, hX, rfl, hA, hsz, hN0, (name_of_methodNamed B.named B.method).1⟩
  obtain ⟨-, -, key⟩ := main p _ e s m _ below meth c C (Nat.le_refl _) (Nat.le_refl _)
  have hl := lv_entry (as.map (am_rl (dm_al al x1))) (n := tm_ml mid) (by rw [am_sl_len]; exact hlen)
  rw [am_args_map] at hl
  rw [lg_entry_eq]
  have key := key s.heap [] _ hl hP va_S.rf
  rw [Nat.sub_self, Nat.sub_self] at key
  exact key
end TM8
