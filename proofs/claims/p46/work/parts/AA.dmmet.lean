section DMA
variable {p : Program} {l : Launch} {e : Env} {R : Room} {s : State} {m : MethodId} {args : Array Value} {below : List Frame} {meth : Method} {c : Code}
def dm_tok (me : Nat) (tab : List (Nat × Instr × Nat)) : Prop := ∀ q ∈ tab, decode (dm_cc me) q.1 = .ok q.2 ∧ dm_il q.2.1 q.2.2 = true
theorem dm_sem_sound {γ : Type} {al : Nat → Nat} {dC : Nat → ClassId} {dI : Nat → Nat → Nat} {aC : Nat → ClassId} {aV : Nat → Nat} {x0 x1 me N0 Z0 : Nat} {vO : Option Value} {SO : dm_S} {tab : List (Nat × Instr × Nat)} {cut : dm_Cut γ} {oC : am_Orc} {oD : dm_Orc} {ret : Option Value → dm_S → Option γ} {g : γ}
    (C : dm_Cx p R s m args meth c al dC dI aC aV x0 x1 me N0 Z0 SO) (htab : dm_tok me tab) (hoC : am_OS l al dC dI aC aV oC) (hoD : dm_OS l al dC dI aC aV x0 x1 oD) (hret : ∀ v S', ret v S' = some g → v = vO ∧ S' = SO)
    (hcut : ∀ pc cc, cut pc = some cc → ∀ ρ st S, cc ρ st S = some g → dm_At p l e R s m args below meth c al dC dI aC x0 x1 me N0 Z0 vO SO pc ρ st S) :
    ∀ (f pc : Nat) (ρ : am_Lc) (st : List Value) (S : dm_S), dm_sem me tab cut oC oD ret f pc ρ st S = some g → dm_At p l e R s m args below meth c al dC dI aC x0 x1 me N0 Z0 vO SO pc ρ st S
  | 0, _, _, _, _, h => by cases h
  | f + 1, pc, ρ, st, S, hr => by
    have hr : (match am_at tab pc with
      | none => none
      | some q => dm_op me pc q.1 q.2 ρ st S oC oD ret (fun pc' ρ' st' S' => match cut pc' with
        | some c => c ρ' st' S'
        | none => dm_sem me tab cut oC oD ret f pc' ρ' st' S')) = some g := hr
    cases hat : am_at tab pc with
    | none => rw [hat] at hr; cases hr
    | some q =>
      rw [hat] at hr
      obtain ⟨t1, t2⟩ := htab _ (am_at_mem hat)
      have hk : ∀ pc' ρ' st' S', (match cut pc' with
        | some c => c ρ' st' S'
        | none => dm_sem me tab cut oC oD ret f pc' ρ' st' S') = some g → dm_At p l e R s m args below meth c al dC dI aC x0 x1 me N0 Z0 vO SO pc' ρ' st' S' := by
        intro pc' ρ' st' S' hz
        cases hc : cut pc' with
        | some cc => rw [hc] at hz; exact hcut _ _ hc _ _ _ hz
        | none => rw [hc] at hz; exact dm_sem_sound C htab hoC hoD hret hcut f pc' ρ' st' S' hz
      obtain ⟨q1, q2⟩ := q
      have t1 : decode (dm_cc me) pc = .ok (q1, q2) := t1
      have t2 : dm_il q1 q2 = true := t2
      refine dm_op_sound C t1 t2 hret hk (fun sv ix hi hz => ?_) (fun ix e1 e2 e3 e4 e5 hbg hq => ?_) (fun x y r e1 hm e2 h1 h2 b1 b2 hbg hq => ?_) hr
      · refine dm_inv_sound (ins := q1) C ?_ hoC hoD hk sv ix hi hz
        rcases hi with ⟨rfl, -⟩ | ⟨rfl, -⟩
        · cases Nat.eq_of_beq_eq_true t2; exact t1
        · cases Nat.eq_of_beq_eq_true t2; exact t1
      · subst e2; subst e3; subst e5
        exact dm_new_ok C hbg hq
      · subst e1; subst e2
        cases Nat.eq_of_beq_eq_true t2
        exact dm_mul_ok C hm t1 h1 h2 b1 b2 hbg hq
theorem dm_At_mono {al : Nat → Nat} {dC : Nat → ClassId} {dI : Nat → Nat → Nat} {aC : Nat → ClassId} {x0 x1 me N0 Z0 : Nat} {vO : Option Value} {SO : dm_S} {pc : Nat} {ρ ρ' : am_Lc} {st : List Value} {S : dm_S} (hm : ∀ q ∈ ρ', q ∈ ρ) (k : dm_At p l e R s m args below meth c al dC dI aC x0 x1 me N0 Z0 vO SO pc ρ' st S) : dm_At p l e R s m args below meth c al dC dI aC x0 x1 me N0 Z0 vO SO pc ρ st S := by
  intro hN hZ
  obtain ⟨q1, q2, q3⟩ := k hN hZ
  refine ⟨q1, q2, fun H locs ls hl hP hS => q3 H locs ls ⟨hl.1, hl.2.1, fun q hq => ?_⟩ hP hS⟩
  obtain ⟨z, hz, rfl⟩ := List.mem_map.mp hq
  exact hl.2.2 _ (List.mem_map.mpr ⟨z, hm z hz, rfl⟩)
set_option maxHeartbeats 1000000 in
/-- a method's contract out of a run of the interpreter: the links are all of it that is shown for each method -/
theorem dm_met {γ : Type} {l : Launch} {al : Nat → Nat} {dC : Nat → ClassId} {dI : Nat → Nat → Nat} {aC : Nat → ClassId} {aV : Nat → Nat} {x0 x1 mid : Nat} {vO : Option Value} {SO : dm_S} {tab : List (Nat × Instr × Nat)} {oC : am_Orc} {oD : dm_Orc} {ret : Option Value → dm_S → Option γ} {g : γ} {as : List Value} {S : dm_S}
    (hmid : mid < 10) (hA : dm_Al al x0 x1) (htab : dm_tok mid tab) (hoC : am_OS l al dC dI aC aV oC) (hoD : dm_OS l al dC dI aC aV x0 x1 oD) (hret : ∀ v S', ret v S' = some g → v = vO ∧ S' = SO) (hlen : (lg_sl as).length ≤ dm_ml mid)
    (hrun : ∀ At : Nat → am_Lc → List Value → dm_S → Prop,
      (∀ (cut : dm_Cut γ), (∀ pc cc, cut pc = some cc → ∀ ρ st S, cc ρ st S = some g → At pc ρ st S) → ∀ f pc ρ st S, dm_sem mid tab cut oC oD ret f pc ρ st S = some g → At pc ρ st S) →
      (∀ pc ρ ρ' st S, (∀ q ∈ ρ', q ∈ ρ) → At pc ρ' st S → At pc ρ st S) → At 0 (lv_args 0 as) [] S) :
    dm_Met l al dC dI aC aV x0 x1 mid as S vO SO := by
  intro hN0
  obtain ⟨n1, n2, n3, n4, n5⟩ := dm_md_spec hmid
  have main : ∀ (p : Program) (R : Room) (e : Env) (s : State) (m : MethodId) (args : Array Value) (below : List Frame) (meth : Method) (c : Code), dm_Cx p R s m args meth c al dC dI aC aV x0 x1 mid (dm_n S) (dm_zz S) SO → dm_At p l e R s m args below meth c al dC dI aC x0 x1 mid (dm_n S) (dm_zz S) vO SO 0 (lv_args 0 as) [] S := fun p R e s m args below meth c C =>
    hrun (dm_At p l e R s m args below meth c al dC dI aC x0 x1 mid (dm_n S) (dm_zz S) vO SO) (fun cut hcut f pc ρ st S hr => dm_sem_sound C htab hoC hoD hret hcut f pc ρ st S hr) (fun pc ρ ρ' st S hm k => dm_At_mono hm k)
  have hmono : dm_n S ≤ dm_n SO ∧ dm_zz S ≤ dm_zz SO :=
    hrun (fun _ _ _ S => dm_mo SO S) (fun cut hcut f pc ρ st S hr => dm_sem_mono hoC (dm_OS_M hoD) hret hcut f pc ρ st S hr) (fun pc ρ ρ' st S hm k => k) hN0
  refine ⟨hmono.1, hmono.2, ?_⟩
  refine Met.ofW (cc := dm_cc mid) (maxL := dm_ml mid) (ret := dm_re mid) n3 rfl ?_
  intro p e s m args below meth c s₁ B hml hv
  obtain ⟨rfl, hsz, hP, hK, hF, hNB⟩ := hv
  have hts : ∀ w ∈ am_AT, w.before _ s = true := fun w hw => atoms_spec (ws := dm_ws mid) B.pre w (List.mem_cons_of_mem _ hw)
  have hown : s.vm.findClass (dm_own mid) = some m.cls := n2 ▸ findClass_of_methodNamed B.named
  have C : dm_Cx p (dm_rm mid (dm_n SO - dm_n S) (dm_zz SO - dm_zz S)) s m (as.map (am_rl (dm_al al x1))).toArray meth c al dC dI aC aV x0 x1 mid (dm_n S) (dm_zz S) SO := ⟨B.exec, B.bytes, hml, hown, hts, B.notSynchronized, B.returns, hK, hF, hNB, rfl, hA, hsz, hN0⟩
  obtain ⟨-, -, key⟩ := main p _ e s m _ below meth c C (Nat.le_refl _) (Nat.le_refl _)
  have hl := lv_entry (as.map (am_rl (dm_al al x1))) (n := dm_ml mid) (by rw [am_sl_len]; exact hlen)
  rw [am_args_map] at hl
  rw [lg_entry_eq]
  have key := key s.heap [] _ hl hP va_S.rf
  rw [Nat.sub_self, Nat.sub_self] at key
  exact key
end DMA
