section LHELP3
variable {l : Launch} {al : Nat → Nat} {dC : Nat → ClassId} {dI : Nat → Nat → Nat} {aC : Nat → ClassId} {aV : Nat → Nat} {x0 : Nat}
def lh_rm (o : am_Out) : Room := { frames := 12, cells := am_mc o, slots := am_ms o, locals := 280 }
def lh_ws (y : MethodName) (cc : ByteArray) (nL : Nat) (hh : List (Nat × Nat × Nat × Nat)) : List Cond := .codeWith y cc nL (some .int) hh :: am_AT
/-- a helper's contract -/
def lh_Met (l : Launch) (al : Nat → Nat) (dC : Nat → ClassId) (dI : Nat → Nat → Nat) (aC : Nat → ClassId) (aV : Nat → Nat) (x0 out : Nat) (cO : ClassId) (tO : FieldType) (y : MethodName) (cc : ByteArray) (nL : Nat) (hh : List (Nat × Nat × Nat × Nat)) (as : List Value) (h : am_Hp) (o : am_Out) (h' : am_Hp) : Prop :=
  ∀ (sz : Nat) (fO : (Nat → Int32) ⊕ (Nat → Int64) ⊕ (Nat → UInt32) ⊕ (Nat → UInt64) ⊕ (Nat → Option Nat)), (tO = .long → ∃ f, fO = .inr (.inl f)) → (tO = .double → ∃ f, fO = .inr (.inr (.inr (.inl f)))) →
    vx_Met l y (lh_ws y cc nL hh) (lh_rm o) (va_Pc (.ref x0 :: as ++ [.ref out]) (lh_P sz al dC dI aC aV x0 out cO tO fO h)) (lh_Q sz al dC dI aC x0 out cO fO o h') lh_X (am_mc o) (am_ms o) (lh_A al sz out)
set_option maxHeartbeats 2000000 in
theorem lh_met {y : MethodName} {cc : ByteArray} {nL pc ix mid n la ct out : Nat} {cO : ClassId} {as : List Value} {h h' : am_Hp} {o : am_Out} (hyc : y.cls = lw_L) (hal : ∀ k, k < 205 → al k = x0 + k) (ho : x0 + 205 ≤ out) (has : as.map (am_rl al) = as)
    (hok : lw_ok lw_L ix mid n = true) (hM : am_Met l al dC dI aC aV mid (.ref 0 :: as) h o h') (hov : o = none ∨ ∃ v, o = some (some (.int v))) (hln : as.length = n) (hb9 : am_isO 0 (am_ow mid) = true) (hfr : am_fr mid + 1 ≤ 12) (hlo : 8 + (am_ml mid + 11) + am_lo mid ≤ 280)
    (hct : ct ≠ 0) (hlink : cn_inT (.classLink lw_L ct lw_io) = true) (hcode : lh_code cc pc ix la .i2l .lastore = true) (hsl : (lg_sl (.ref x0 :: as ++ [.ref out])).length ≤ nL)
    (hload : ∀ (p : Program) (e : Env) (R : Room) (s : State) (m : MethodId) (args : Array Value) (below : List Frame) (meth : Method) (c : Code) (Q : State → Prop) (H : Heap) (ls : Array Slot), p.tables.exec = Jvm.exec → c.code = cc → lv_has ls nL (lv_args 0 (.ref x0 :: as ++ [.ref out])) → W p l e R s m args below meth c H [] 0 0 Q (F0 m pc ls (as.reverse ++ .ref x0 :: [.int 0, .ref out])) → W p l e R s m args below meth c H [] 0 0 Q (F0 m 0 ls []))
    (hst : ∀ (p : Program) (e : Env) (R : Room) (s : State) (m : MethodId) (args : Array Value) (below : List Frame) (meth : Method) (c : Code) (Q : State → Prop) (H : Heap) (locs : List Loc) (cells slots : Nat) (ls : Array Slot) (q : Nat), p.tables.exec = Jvm.exec → c.code = cc → lv_has ls nL (lv_args 0 (.ref x0 :: as ++ [.ref out])) → (∀ ls' : Array Slot, W p l e R s m args below meth c H locs cells slots Q (F0 m (pc + 8 + la) ls' [])) → W p l e R s m args below meth c H locs cells slots Q (F0 m (pc + 8) ls [.ref q])) :
    lh_Met l al dC dI aC aV x0 out cO .long y cc nL [(0, pc + 5, pc + 8, ct)] as h o h' := by
  intro sz fO hfO _
  obtain ⟨f, rfl⟩ := hfO rfl
  refine vx_ofWH (cc := cc) (maxL := nL) (ret := some .int) (hh := [(0, pc + 5, pc + 8, ct)]) (by rw [hyc]; decide) rfl ?_
  intro p e s m args below meth c s₁ B hml hv
  obtain ⟨rfl, hsz, hP, hO, hK, hKO, hF, hcast⟩ := hv
  subst hsz
  have hts0 := atoms_spec (ws := lh_ws y cc nL [(0, pc + 5, pc + 8, ct)]) B.pre
  have hts : ∀ w ∈ am_AT, w.before _ s = true := fun w hw => hts0 w (List.mem_cons_of_mem _ hw)
  have htab := vx_table (x := y) B (hts0 _ List.mem_cons_self)
  have hown : s.vm.findClass lw_L = some m.cls := hyc ▸ findClass_of_methodNamed B.named
  have C : lw_C p s m (Value.ref x0 :: as ++ [Value.ref out]).toArray c al dC dI aC aV x0 cc nL lw_L := ⟨B.exec, B.bytes, hml, hown, hts, hK, hF, hal⟩
  have hl := lv_entry (Value.ref x0 :: as ++ [Value.ref out]) (n := nL) hsl
  rw [lg_entry_eq]
  refine hload p e _ s m _ below meth c _ _ _ B.exec B.bytes hl ?_
  have e0 : al 0 = x0 := by rw [hal 0 (by decide), Nat.add_zero]
  have key := lh_tail (p := p) (l := l) (e := e) (R := lh_rm o) (below := below) (meth := meth) (pc := pc) (ix := ix) (la := la) (ls := (lg_sl (Value.ref x0 :: as ++ [Value.ref out]) ++ List.replicate (nL - (lg_sl (Value.ref x0 :: as ++ [Value.ref out])).length) Slot.unset).toArray) (f := f) C B.returns B.notSynchronized hok hM hov hln hb9 hl.1 hKO hcast hP hO ho (by show _ ≤ 12; exact hfr) (by show _ ≤ 280; exact hlo) ⟨Nat.le_refl _, Nat.le_refl _⟩ htab rfl hct (hts _ (cn_inT_spec hlink)) hcode
    (fun Q H locs cells slots q kk => hst p e _ s m _ below meth c Q H locs cells slots _ q B.exec B.bytes hl kk)
  rw [e0, has] at key
  exact key
end LHELP3
