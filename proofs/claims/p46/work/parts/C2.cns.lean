section CNS
def cn_ln : Instr → Nat
  | .bipush _ => 2
  | .newarray _ => 2
  | .ldc _ => 2
  | .sipush _ => 3
  | .iinc _ _ => 3
  | .goto _ => 3
  | .if_icmp _ _ => 3
  | .getstatic _ => 3
  | .getfield _ => 3
  | .putfield _ => 3
  | .new _ => 3
  | .anewarray _ => 3
  | .invokespecial _ => 3
  | .invokevirtual _ => 3
  | .multianewarray _ _ => 4
  | _ => 1
theorem cn_pln : (List.range 11).all (fun o => (cn_p o).all (fun q => Nat.beq q.2.2 (cn_ln q.2.1))) = true := by decide +kernel
theorem cn_at_ln {o pc : Nat} {q : Instr × Nat} (ho : o < 11) (h : am_at (cn_p o) pc = some q) : q.2 = cn_ln q.1 := by
  have h1 := List.all_eq_true.mp (List.all_eq_true.mp cn_pln o (List.mem_range.mpr ho)) _ (am_at_mem h)
  exact Nat.eq_of_beq_eq_true h1
section
variable {al : Nat → Nat} {aC : Nat → ClassId} {e : cn_E}
theorem cn_e_o (h : cn_ob e = true) : cn_e al aC e = .inr (e.2.1, e.2.2.2.map (am_rl al)) := by
  unfold cn_e
  rw [show Nat.beq e.1 1 = true from h]
  rfl
theorem cn_e_i (h : Nat.beq e.1 2 = true) : cn_e al aC e = .inl (aC e.2.1, e.2.2.1, .inl (fun j => cn_iv (e.2.2.2.getD j (.int 0)))) := by
  unfold cn_e
  have h2 : e.1 = 2 := Nat.eq_of_beq_eq_true h
  rw [h2]
  rfl
theorem cn_e_r (h : Nat.beq e.1 3 = true) : cn_e al aC e = .inl (aC e.2.1, e.2.2.1, .inr (.inr (.inr (.inr (fun j => (cn_rv (e.2.2.2.getD j .null)).map al))))) := by
  unfold cn_e
  have h2 : e.1 = 3 := Nat.eq_of_beq_eq_true h
  rw [h2]
  rfl
end
theorem cn_pad_i (n j : Nat) : cn_iv ((cn_pad n (.int 0)).getD j (.int 0)) = 0 := by
  unfold cn_pad
  rw [List.getD_eq_getElem?_getD]
  cases Nat.ble n 8 with
  | false => rfl
  | true =>
    show cn_iv (((List.replicate n (Value.int 0))[j]?).getD (.int 0)) = 0
    rw [List.getElem?_replicate]
    split <;> rfl
theorem cn_pad_r (n j : Nat) : cn_rv ((cn_pad n .null).getD j .null) = none := by
  unfold cn_pad
  rw [List.getD_eq_getElem?_getD]
  cases Nat.ble n 8 with
  | false => rfl
  | true =>
    show cn_rv (((List.replicate n Value.null)[j]?).getD .null) = none
    rw [List.getElem?_replicate]
    split <;> rfl
theorem cn_sv_j {a k j : Nat} {al0 : Nat → Nat} (h : Nat.blt j (900 - k) = true) : cn_al a al0 (j + k) = cn_al (a + k) al0 j := by
  have h1 : j < 900 - k := Nat.blt_eq.mp h
  rw [cn_al_lt (by omega), cn_al_lt (by omega)]
  omega
theorem cn_sv_e {a k : Nat} {al0 : Nat → Nat} {v : Value} (h : cn_wv (900 - k) v = true) : am_rl (cn_al a al0) (cn_sv k v) = am_rl (cn_al (a + k) al0) v := by
  cases v with
  | ref j =>
    exact congrArg Value.ref (cn_sv_j h)
  | _ => rfl
theorem cn_sv_i {k : Nat} {v : Value} : cn_iv (cn_sv k v) = cn_iv v := by cases v <;> rfl
theorem cn_sv_r {a k : Nat} {al0 : Nat → Nat} {v : Value} (h : cn_wv (900 - k) v = true) : (cn_rv (cn_sv k v)).map (cn_al a al0) = (cn_rv v).map (cn_al (a + k) al0) := by
  cases v with
  | ref j =>
    exact congrArg some (cn_sv_j h)
  | _ => rfl
theorem cn_getD_map {α β : Type} {f : α → β} {l : List α} {j : Nat} {d : α} {d' : β} (hd : d' = f d) : (l.map f).getD j d' = f (l.getD j d) := by
  rw [List.getD_eq_getElem?_getD, List.getD_eq_getElem?_getD, List.getElem?_map, hd]
  cases l[j]? <;> rfl
theorem cn_all_getD {k : Nat} {l : List Value} (h : l.all (cn_wv k) = true) (j : Nat) : cn_wv k (l.getD j .null) = true := by
  rw [List.getD_eq_getElem?_getD]
  cases hj : l[j]? with
  | none => rfl
  | some v => exact List.all_eq_true.mp h v (List.mem_of_getElem? hj)
theorem cn_sh_e {a k : Nat} {al0 : Nat → Nat} {aC : Nat → ClassId} {f : cn_E} (h : f.2.2.2.all (cn_wv (900 - k)) = true) : cn_e (cn_al a al0) aC (cn_sh k f) = cn_e (cn_al (a + k) al0) aC f := by
  have h0 : (cn_sh k f).1 = f.1 := rfl
  have h1 : (cn_sh k f).2.1 = f.2.1 := rfl
  have h2 : (cn_sh k f).2.2.1 = f.2.2.1 := rfl
  have h3 : (cn_sh k f).2.2.2 = f.2.2.2.map (cn_sv k) := rfl
  unfold cn_e
  rw [h0, h1, h2, h3]
  have e1 : (f.2.2.2.map (cn_sv k)).map (am_rl (cn_al a al0)) = f.2.2.2.map (am_rl (cn_al (a + k) al0)) := by
    rw [List.map_map]
    exact List.map_congr_left fun v hv => cn_sv_e (List.all_eq_true.mp h v hv)
  have e2 : (fun j => cn_iv ((f.2.2.2.map (cn_sv k)).getD j (.int 0))) = (fun j => cn_iv (f.2.2.2.getD j (.int 0))) := by
    funext j
    rw [cn_getD_map (f := cn_sv k) (d := .int 0) (d' := .int 0) rfl, cn_sv_i]
  have e3 : (fun j => (cn_rv ((f.2.2.2.map (cn_sv k)).getD j .null)).map (cn_al a al0)) = (fun j => (cn_rv (f.2.2.2.getD j .null)).map (cn_al (a + k) al0)) := by
    funext j
    rw [cn_getD_map (f := cn_sv k) (d := .null) (d' := .null) rfl, cn_sv_r (cn_all_getD h j)]
  rw [e1, e2, e3]
/-- the rows of the room -/
def cn_rm (o : Nat) : Room := { frames := cn_fr o, cells := cn_mc o, slots := cn_mz o, locals := cn_lo o }
def cn_wsx (o : Nat) : List Cond := .code (cn_y o) (cn_cc o) (cn_ml o) none :: am_AT
def cn_PP (al0 : Nat → Nat) (dC : Nat → ClassId) (dI : Nat → Nat → Nat) (aC : Nat → ClassId) (aV : Nat → Nat) (a o : Nat) (U : State) : Prop :=
  U.heap.size = a + 1 ∧ va_P (dC, dI) vwCl [(a, cn_e (cn_al a al0) aC (cn_new o))] U.heap ∧ va_K (dC, dI) vwCl (am_tys aC) U ∧ am_Fx al0 aV (fun q => a ≤ q) U U.heap ∧ ∀ w ∈ cn_NB, va_Nw w U
def cn_Q (al0 : Nat → Nat) (dC : Nat → ClassId) (dI : Nat → Nat → Nat) (aC : Nat → ClassId) (a : Nat) (C : List cn_E) : Array Value → State → Outcome → State → Prop := va_Qv (fun _ : Unit => True) (fun _ t => t.heap.size = a + C.length ∧ va_P (dC, dI) vwCl (cn_ws a (cn_al a al0) aC C) t.heap) (fun q => a ≤ q)
def cn_Met (l : Launch) (al0 : Nat → Nat) (dC : Nat → ClassId) (dI : Nat → Nat → Nat) (aC : Nat → ClassId) (aV : Nat → Nat) (o : Nat) (as : List Value) (C : List cn_E) : Prop :=
  ∀ a : Nat, Met l (cn_y o) (cn_wsx o) (cn_rm o) (va_Pc (.ref a :: as) (cn_PP al0 dC dI aC aV a o)) (cn_Q al0 dC dI aC a C) (cn_mc o) (cn_mz o) (fun q => a ≤ q)
theorem cn_AO_warm {s U : State} (hW : s.WarmedH U.vm) {ty : FieldType} (h : va_Nw (.arrayOver ty) s) : va_Nw (.arrayOver ty) U := by
  have h2 : (Cond.arrayOver ty).before #[] (s.setVm U.vm) = true := (Cond.arrayOver_setVmC hW.alike _).trans h
  have e : (s.setVm U.vm).vm = U.vm := rfl
  unfold va_Nw
  simp only [Cond.before, Cond.holds, Cond.value, e] at h2 ⊢
  exact h2
theorem cn_NB_warm {s U : State} (hW : s.WarmedH U.vm) {w : Cond} (hw : w ∈ cn_NB) (h : va_Nw w s) : va_Nw w U := by
  have hvm := hW.alike
  simp only [cn_NB, List.mem_cons, List.not_mem_nil, or_false] at hw
  rcases hw with rfl | rfl | rfl | rfl | rfl | rfl | rfl | rfl | rfl | rfl | rfl
  · exact va_Nw.warmM hW h
  · exact va_Nw.warmM hW h
  · exact va_Nw.warmM hW h
  · exact va_Nw.warmM hW h
  · exact va_Nw.warmM hW h
  · exact va_Nw.warmM hW h
  all_goals exact cn_AO_warm hW h
theorem cn_blind {al0 : Nat → Nat} {dC : Nat → ClassId} {dI : Nat → Nat → Nat} {aC : Nat → ClassId} {aV : Nat → Nat} {as : List Value} {a o : Nat} : FrameBlind (va_Pc as (cn_PP al0 dC dI aC aV a o)) := by
  intro b U g mk q
  obtain ⟨q0, q1, q2, q3, q4, q5⟩ := q
  exact ⟨q0, q1, q2, va_K.moved (u := U) (U := U.calling g mk b) (Vm.Alike.refl U.vm) q3, am_fx_kept (U1 := U.calling g mk b) q4 (State.WarmedH.refl U) (Nat.le_refl _) (fun _ _ _ => rfl) (fun _ _ h => h) (fun _ h => h), fun w hw => cn_NB_warm (U := U.calling g mk b) (State.WarmedH.refl U) hw (q5 w hw)⟩
section
variable {p : Program} {l : Launch} {e : Env} {R : Room} {s : State} {m : MethodId} {args : Array Value} {below : List Frame} {meth : Method} {c : Code} {Q : State → Prop}
variable {al0 : Nat → Nat} {dC : Nat → ClassId} {dI : Nat → Nat → Nat} {aC : Nat → ClassId} {aV : Nat → Nat} {o a : Nat}
def cn_Cx (p : Program) (R : Room) (s : State) (m : MethodId) (args : Array Value) (meth : Method) (c : Code) (al0 : Nat → Nat) (dC : Nat → ClassId) (dI : Nat → Nat → Nat) (aC : Nat → ClassId) (aV : Nat → Nat) (o a : Nat) : Prop :=
  p.tables.exec = Jvm.exec ∧ c.code = cn_cc o ∧ c.maxLocals = cn_ml o ∧ s.vm.findClass (am_R o) = some m.cls ∧ (∀ w ∈ am_AT, w.before args s = true) ∧ meth.name = "<init>" ∧ va_K (dC, dI) vwCl (am_tys aC) s ∧ am_Fx al0 aV (fun q => a ≤ q) s s.heap ∧ (∀ w ∈ cn_NB, va_Nw w s) ∧ s.heap.size = a + 1 ∧ R = cn_rm o
def cn_At (p : Program) (l : Launch) (e : Env) (R : Room) (s : State) (m : MethodId) (args : Array Value) (below : List Frame) (meth : Method) (c : Code) (Q : State → Prop) (al0 : Nat → Nat) (dC : Nat → ClassId) (dI : Nat → Nat → Nat) (aC : Nat → ClassId) (o a : Nat) (t : cn_St) : Prop :=
  1 ≤ t.2.2.2.1.length → ∀ (H : Heap) (locs : List Loc) (ls : Array Slot), lv_has ls (cn_ml o) (am_rls (cn_al a al0) t.2.1) → va_P (dC, dI) vwCl (cn_ws a (cn_al a al0) aC t.2.2.2.1) H → va_S (fun q => a ≤ q) s.heap H locs →
    W p l e R s m args below meth c H locs (t.2.2.2.1.length - 1) t.2.2.2.2 Q (F0 m t.1 ls (t.2.2.1.map (am_rl (cn_al a al0))))
variable {H : Heap} {locs : List Loc} {cells slots : Nat} {g : JFrame}
theorem cn_lenW (k : H.size ≤ s.heap.size + cells → W p l e R s m args below meth c H locs cells slots Q g) : W p l e R s m args below meth c H locs cells slots Q g := by
  intro T hT X
  have h1 := X.heapSize
  rw [hT] at h1
  exact k h1 T hT X
theorem cn_addr {L : List cn_E} {al : Nat → Nat} {q : Nat} {x : va_E} {D : va_G} {cl : List vw_C} (hP : va_P D cl (cn_ws a al aC L ++ [(q, x)]) H) (hD : va_D (fun q => a ≤ q) (cn_ws a al aC L ++ [(q, x)])) (hs : H.size ≤ a + L.length + 1) : q = a + L.length := by
  have hg : (cn_ws a al aC L ++ [(q, x)])[L.length]? = some (q, x) := by
    rw [List.getElem?_append_right (by rw [cn_len]; exact Nat.le_refl _), cn_len, Nat.sub_self]; rfl
  have h1 : q < H.size := (hP _ _ hg).lt
  have h2 : a ≤ q := hD.2 _ _ hg
  by_cases hq : q < a + L.length
  · exfalso
    have hk : q - a < L.length := by omega
    have hg2 : (cn_ws a al aC L ++ [(q, x)])[q - a]? = some (a + (q - a), cn_e al aC L[q - a]) := by
      rw [List.getElem?_append_left (by rw [cn_len]; exact hk)]
      exact cn_get (List.getElem?_eq_getElem hk)
    have := hD.1 _ _ _ _ hg2 hg (by show a + (q - a) = q; omega)
    omega
  · omega
end
end CNS
