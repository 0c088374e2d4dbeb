section MULTI2
variable {p : Program} {l : Launch} {e : Env} {R : Room} {s : State} {m : MethodId} {args : Array Value} {below : List Frame} {meth : Method} {c : Code} {Q : State → Prop}
variable {H : Heap} {locs : List Loc} {cells slots : Nat} {cc : ByteArray} {pc : Nat} {ls : Array Slot} {rest : List Value}
theorem mn_W (hexec : p.tables.exec = Jvm.exec) (hb : c.code = cc) {own : String} {index : Nat} (hown : s.vm.findClass own = some m.cls) (hclink : (Cond.classLink own index "[[I").before args s = true) (hover : (Cond.arrayOver (.array .int)).before args s = true) (harr : (Cond.arrayClass .int).before args s = true)
    (hdg : decode cc pc = .ok (.multianewarray index 2, 4)) (hcells : cells + 6 ≤ R.cells) (hslots : slots + 1505 ≤ R.slots)
    (kk : ∀ (cA cI : ClassId) (H1 : Heap), s.vm.findClass ("[" ++ (FieldType.array .int).toString) = some cA → s.vm.findClass ("[" ++ FieldType.int.toString) = some cI → H1.size = H.size + 6 → (∀ q : Nat, q < H.size → H1[q]? = H[q]?) → H1[H.size]? = some (arrV cA 5 (fun j => if j < 5 then .ref (H.size + 1 + j) else .null)) → (∀ j : Nat, j < 5 → H1[H.size + 1 + j]? = some (arrV cI 300 (fun _ => .int 0))) →
      W p l e R s m args below meth c H1 (locs ++ (List.range 5).map (fun j => (⟨H.size, j⟩ : Loc))) (cells + 1 + 5) (slots + 5 + 5 * 300) Q (F0 m (pc + 4) ls (.ref H.size :: rest))) :
    W p l e R s m args below meth c H locs cells slots Q (F0 m pc ls (.int 300 :: .int 5 :: rest)) := by
  intro T hT X
  have hpl : e.platform.magicAccessors = ({} : Platform).magicAccessors := by rw [X.admits.platform]
  obtain ⟨comp, cA, kA, hcomp, hidx, hkA, hkindA, hnameA⟩ := arrayOverA_spec hover
  obtain ⟨cI, kI, x, hcI, hkI, hkindI⟩ := Cond.arrayClass_spec harr
  have ecomp : comp = cI := Option.some.inj (hcomp.symm.trans hcI)
  subst ecomp
  obtain ⟨c0, hfc0, hcl⟩ := Cond.classLink_spec hown hclink e.platform hpl
  have en : ("[" ++ (FieldType.array FieldType.int).toString) = "[[I" := by decide
  have hc0 : c0 = cA := by
    rw [en] at hnameA
    exact Option.some.inj (hfc0.symm.trans hnameA)
  subst hc0
  obtain ⟨hg₁, hwarm₁, hready₁⟩ := State.classEntry (e := e) X.warmed hcl
  generalize T.vm.noted m.cls index (.cls c0) = vm₁ at hg₁ hwarm₁ hready₁
  have hal : s.vm.Alike vm₁ := hwarm₁.alike
  obtain ⟨kA₁, hkA₁, heA⟩ := hal.2.2 _ _ hkA
  obtain ⟨kI₁, hkI₁, heI⟩ := hal.2.2 _ _ hkI
  have hkindA₁ : kA₁.kind = .array comp (.array .int) := by rw [heA]; exact hkindA
  have hkindI₁ : kI₁.kind = .array x .int := by rw [heI]; exact hkindI
  have X₁ := X.noted hwarm₁
  obtain ⟨hr1, hr2⟩ := X.roomAbove hcells hslots
  obtain ⟨hU, f1, f2, f3, f4, f5, f6⟩ := mn_all (cA := c0) (cI := comp) X₁ 5 (Nat.le_refl _)
  have hTh : (T.setVm vm₁).heap = H := hT
  rw [hTh] at f1 f2 f3 f4 hU
  obtain ⟨t, a1, b1⟩ := kk c0 comp _ hnameA hcI (by omega) f2 f3 f4 (mn_U (T.setVm vm₁) c0 comp 5) rfl hU
  refine ⟨t, ?_, b1⟩
  have hl1 : ¬ 5 > e.platform.arrayLengthLimit := by rw [Launch.admits_arrayLengthLimit X.admits]; omega
  have hh1 : ¬ 5 * componentBytes (.array .int) > e.platform.maxHeapBytes := by
    rw [Launch.admits_maxHeapBytes X.admits]; show ¬ 5 * 4 > 536870912; omega
  have hl2 : ¬ 300 > e.platform.arrayLengthLimit := by rw [Launch.admits_arrayLengthLimit X.admits]; omega
  have hh2 : ¬ 300 * componentBytes .int > e.platform.maxHeapBytes := by
    rw [Launch.admits_maxHeapBytes X.admits]; show ¬ 300 * 4 > 536870912; omega
  have hdg' : decode c.code (F0 m pc ls (.int 300 :: .int 5 :: rest)).pc = .ok (.multianewarray index 2, 4) := by rw [hb]; exact hdg
  jvm_step X.here [hexec, hdg']
  simp only [multianewarray.sem, wp_bind', W.resolveClassAt_links (State.method?_setTop (F0 m pc ls (.int 300 :: .int 5 :: rest)) X.here.top) hg₁]
  rw [W.popN, if_neg (by decide)]
  refine ⟨F0 m pc ls (.int 300 :: .int 5 :: rest), State.topJava?_setTop' (s := T.setVm vm₁) _ X.here.top, [.int 5, .int 300], rest, rfl, rfl, ?_⟩
  simp only [List.mapM_cons, List.mapM_nil, wp_bind', wp_pure']
  have eS : ((T.setTop (F0 m pc ls (.int 300 :: .int 5 :: rest))).setVm vm₁).setTop { F0 m pc ls (.int 300 :: .int 5 :: rest) with stack := rest } = (T.setVm vm₁).setTop { F0 m pc ls (.int 300 :: .int 5 :: rest) with stack := rest } := by
    show ((T.setVm vm₁).setTop _).setTop _ = _
    rw [State.setTop_setTop]
  rw [eS]
  refine mn_wp (kA := kA₁) (kI := kI₁) X₁ hkA₁ hkindA₁ hkI₁ hkindI₁ hl1 hh1 hl2 hh2 hr1 hr2 (fun d' acts' => ?_)
  simp only [wp_bind', W.mark, W.pushRef, State.topJava?_setTop' _ hU.here.top, Option.some.injEq, exists_eq_left', State.setTop_setTop, State.heap_setTop]
  intro acts
  simp [jvm, hU.here.top]
  rw [hT]
  exact a1
section
variable {al0 : Nat → Nat} {dC : Nat → ClassId} {dI : Nat → Nat → Nat} {aC : Nat → ClassId} {aV : Nat → Nat} {o a : Nat}
variable {ρ : am_Lc} {st r : List Value} {L : List cn_E} {z : Nat} {t : cn_St} {orc : Nat → List Value → Option (List cn_E)}
def mn_new (n : Nat) : List cn_E := (3, 6, 5, (List.range 5).map (fun i => .ref (n + 1 + i))) :: List.replicate 5 (2, 0, 300, [])
theorem cn_inv23 {ix d : Nat} : cn_step o orc pc (.multianewarray ix d) ρ st L z = some t → ∃ q r, cn_tk o ix 6 = some q ∧ st = .int 300 :: .int 5 :: r ∧ d = 2 ∧ L.length + 5 ≤ cn_mc o ∧ z + 1505 ≤ cn_mz o ∧ L.length < 800 ∧ t = (pc + 4, ρ, .ref L.length :: r, L ++ mn_new L.length, z + 1505) := by
  show (match cn_tk o ix 6 with
    | none => none
    | some _ => match st with
      | .int m :: .int n :: r => bif Nat.beq d 2 && decide (n = 5) && decide (m = 300) && Nat.ble (L.length + 5) (cn_mc o) && Nat.ble (z + 1505) (cn_mz o) && Nat.blt L.length 800 then
          some (pc + 4, ρ, .ref L.length :: r, L ++ mn_new L.length, z + 1505) else none
      | _ => none) = some t → _
  intro hr
  split at hr
  · cases hr
  rename_i q hz
  split at hr
  · rename_i m n r
    obtain ⟨h4, h5⟩ := am_bif hr
    simp only [Bool.and_eq_true] at h4
    obtain ⟨⟨⟨⟨⟨b1, b2⟩, b3⟩, b4⟩, b5⟩, b6⟩ := h4
    rw [of_decide_eq_true b2, of_decide_eq_true b3]
    exact ⟨q, r, hz, rfl, Nat.eq_of_beq_eq_true b1, Nat.le_of_ble_eq_true b4, Nat.le_of_ble_eq_true b5, Nat.blt_eq.mp b6, (Option.some.inj h5).symm⟩
  · cases hr
theorem cn_s23 {ix d : Nat} (C : cn_Cx p R s m args meth c al0 dC dI aC aV o a) (hd : decode (cn_cc o) pc = .ok (.multianewarray ix d, 4)) (hr : cn_step o orc pc (.multianewarray ix d) ρ st L z = some t) (hk : cn_At p l e R s m args below meth c Q al0 dC dI aC o a t) : cn_At p l e R s m args below meth c Q al0 dC dI aC o a (pc, ρ, st, L, z) := by
  obtain ⟨hx, hb, hml, hown, hts, hin, hK, hF, hNB, hsz, hR⟩ := C
  intro hL H locs ls hl hP hS
  have hL : 1 ≤ L.length := hL
  obtain ⟨q, r, hz, rfl, rfl, b4, b5, b6, rfl⟩ := cn_inv23 hr
  have hw : cn_inT (.classLink (am_R o) ix "[[I") = true := cn_tk_spec hz
  have hT := cn_Ts
  simp only [Bool.and_eq_true] at hT
  show W p l e R s m args below meth c H locs (L.length - 1) z Q (F0 m pc ls (.int 300 :: .int 5 :: r.map (am_rl (cn_al a al0))))
  refine cn_lenW (fun hsz2 => ?_)
  have hP : va_P (dC, dI) vwCl (cn_ws a (cn_al a al0) aC L) H := hP
  have hHz : H.size = a + L.length := by
    have h1 : L[L.length - 1]? = some L[L.length - 1] := List.getElem?_eq_getElem (by omega)
    have h2 : a + (L.length - 1) < H.size := (hP _ _ (cn_get h1)).lt
    rw [hsz] at hsz2
    omega
  refine mn_W hx hb hown (hts _ (cn_inT_spec hw)) (show va_Nw (.arrayOver (.array .int)) s from hNB (.arrayOver (.array .int)) (by simp [cn_NB])) (hts _ (cn_inT_spec hT.1.1.1)) hd (by rw [hR]; show L.length - 1 + 6 ≤ cn_mc o; omega) (by rw [hR]; exact b5) (fun cA cI H1 e1 e2 e3 e4 e5 e6 => ?_)
  have hcA : cA = aC 6 := by
    have h1 := cn_RA_name (hK.2 6 _ (cn_ty (by decide))).2
    exact Option.some.inj (e1.symm.trans h1)
  have hcI : cI = aC 0 := by
    have h1 := cn_RA_name (hK.2 0 _ (cn_ty (by decide))).2
    exact Option.some.inj (e2.symm.trans h1)
  subst hcA
  subst hcI
  rw [hHz] at e3 e4 e5 e6
  have hlen : (L ++ mn_new L.length).length = L.length + 6 := by rw [List.length_append]; rfl
  have hP1 : va_P (dC, dI) vwCl (cn_ws a (cn_al a al0) aC (L ++ mn_new L.length)) H1 := by
    refine cn_P_of fun j f hj => ?_
    by_cases hjk : j < L.length
    · rw [List.getElem?_append_left hjk] at hj
      exact (hP _ _ (cn_get hj)).kept (e4 _ (by show a + j < _; omega))
    · have hj6 : j < L.length + 6 := by
        have := (List.getElem?_eq_some_iff.mp hj).1
        omega
      rw [List.getElem?_append_right (by omega)] at hj
      obtain ⟨i, hi⟩ : ∃ i, i = j - L.length := ⟨_, rfl⟩
      rw [← hi] at hj
      have hj0 : a + j = a + L.length + i := by omega
      rw [hj0]
      cases i with
      | zero =>
        cases hj
        show H1[a + L.length + 0]? = some (vp_cell (aC 6) (5, .inr (.inr (.inr (.inr (fun j => (cn_rv (((List.range 5).map (fun i => Value.ref (L.length + 1 + i))).getD j .null)).map (cn_al a al0)))))))
        rw [Nat.add_zero, e5, vp_cell_q]
        congr 2
        funext j
        rw [List.getD_eq_getElem?_getD, List.getElem?_map]
        by_cases h5 : j < 5
        · rw [if_pos h5, List.getElem?_range h5]
          show Value.ref (a + L.length + 1 + j) = Value.ref (cn_al a al0 (L.length + 1 + j))
          rw [cn_al_lt (by omega)]
          have e7 : a + L.length + 1 + j = a + (L.length + 1 + j) := by omega
          exact congrArg Value.ref e7
        · rw [if_neg h5, List.getElem?_eq_none (by rw [List.length_range]; omega)]
          rfl
      | succ i =>
        have hi5 : i < 5 := by omega
        have hf : f = (2, 0, 300, []) := by
          have h1 : (mn_new L.length)[i + 1]? = (List.replicate 5 ((2, 0, 300, []) : cn_E))[i]? := rfl
          rw [h1, List.getElem?_replicate, if_pos hi5] at hj
          exact (Option.some.inj hj).symm
        subst hf
        have h9 := e6 i hi5
        show H1[a + L.length + (i + 1)]? = some (vp_cell (aC 0) (300, .inl (fun j => cn_iv (([] : List Value).getD j (.int 0)))))
        rw [show a + L.length + (i + 1) = a + L.length + 1 + i by omega, h9, vp_cell_i]
        rfl
  have hS1 : va_S (fun q => a ≤ q) s.heap H1 (locs ++ (List.range 5).map (fun j => (⟨H.size, j⟩ : Loc))) := by
    refine ⟨Nat.le_trans hS.1 (by omega), fun q h1 h2 => ?_, fun q hq => ?_⟩
    · have h3 : q < a := by
        by_cases h4 : q < a
        · exact h4
        · exact absurd (show a ≤ q by omega) h2
      rw [e4 q (by omega)]
      exact hS.2.1 q h1 h2
    · rcases List.mem_append.mp hq with h | h
      · exact hS.2.2 q h
      · obtain ⟨j, -, rfl⟩ := List.mem_map.mp h
        show a ≤ H.size
        omega
  have h9 := hk (by show 1 ≤ (L ++ mn_new L.length).length; omega) H1 _ ls hl hP1 hS1
  have h9 : W p l e R s m args below meth c H1 (locs ++ (List.range 5).map (fun j => (⟨H.size, j⟩ : Loc))) ((L ++ mn_new L.length).length - 1) (z + 1505) Q (F0 m (pc + 4) ls (.ref (cn_al a al0 L.length) :: r.map (am_rl (cn_al a al0)))) := h9
  rw [cn_al_lt (by omega), ← hHz] at h9
  have e8 : (L ++ mn_new L.length).length - 1 = L.length - 1 + 1 + 5 := by rw [hlen]; omega
  rw [e8] at h9
  exact h9
end
end MULTI2
