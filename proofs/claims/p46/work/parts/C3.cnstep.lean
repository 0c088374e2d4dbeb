section CNSTEP
variable {p : Program} {l : Launch} {e : Env} {R : Room} {s : State} {m : MethodId} {args : Array Value} {below : List Frame} {meth : Method} {c : Code} {Q : State → Prop}
variable {al0 : Nat → Nat} {dC : Nat → ClassId} {dI : Nat → Nat → Nat} {aC : Nat → ClassId} {aV : Nat → Nat} {o a : Nat}
variable {pc : Nat} {ρ : am_Lc} {st : List Value} {L : List cn_E} {z : Nat} {t : cn_St} {orc : Nat → List Value → Option (List cn_E)}
theorem cn_bind {α β : Type} {x : Option α} {f : α → Option β} {b : β} (h : x.bind f = some b) : ∃ v, x = some v ∧ f v = some b := by
  cases x with
  | none => cases h
  | some v => exact ⟨v, rfl, h⟩
set_option maxHeartbeats 1000000 in
theorem cn_s1 {i : Fin 4} (C : cn_Cx p R s m args meth c al0 dC dI aC aV o a) (hd : decode (cn_cc o) pc = .ok (.iload_n i, 1)) (hr : cn_step o orc pc (.iload_n i) ρ st L z = some t) (hk : cn_At p l e R s m args below meth c Q al0 dC dI aC o a t) : cn_At p l e R s m args below meth c Q al0 dC dI aC o a (pc, ρ, st, L, z) := by
  obtain ⟨hx, hb, hml, hown, hts, hin, hK, hF, hNB, hsz, hR⟩ := C
  intro hL H locs ls hl hP hS
  obtain ⟨x, hm, h1⟩ := am_ldi_some hr
  cases h1
  exact lv_iload_n hx hb hd rfl (hl.2.2 _ (am_rls_mem hm)) (hk hL H locs ls hl hP hS)
theorem cn_s2 {i : Fin 4} (C : cn_Cx p R s m args meth c al0 dC dI aC aV o a) (hd : decode (cn_cc o) pc = .ok (.aload_n i, 1)) (hr : cn_step o orc pc (.aload_n i) ρ st L z = some t) (hk : cn_At p l e R s m args below meth c Q al0 dC dI aC o a t) : cn_At p l e R s m args below meth c Q al0 dC dI aC o a (pc, ρ, st, L, z) := by
  obtain ⟨hx, hb, hml, hown, hts, hin, hK, hF, hNB, hsz, hR⟩ := C
  intro hL H locs ls hl hP hS
  obtain ⟨x, hm, h1⟩ := am_lda_some hr
  cases h1
  exact lv_aload_n hx hb hd rfl (hl.2.2 _ (am_rls_mem hm)) (hk hL H locs ls hl hP hS)
theorem cn_s3 {i : Fin 4} (C : cn_Cx p R s m args meth c al0 dC dI aC aV o a) (hd : decode (cn_cc o) pc = .ok (.istore_n i, 1)) (hr : cn_step o orc pc (.istore_n i) ρ st L z = some t) (hk : cn_At p l e R s m args below meth c Q al0 dC dI aC o a t) : cn_At p l e R s m args below meth c Q al0 dC dI aC o a (pc, ρ, st, L, z) := by
  obtain ⟨hx, hb, hml, hown, hts, hin, hK, hF, hNB, hsz, hR⟩ := C
  intro hL H locs ls hl hP hS
  obtain ⟨x, r, rfl, h1⟩ := am_s1_some hr
  obtain ⟨h2, h3⟩ := am_bif h1
  cases h3
  exact lv_istore_n hx hb hd rfl hl (Nat.blt_eq.mp h2) am_rls_sti (fun ls hl => hk hL H locs ls hl hP hS)
theorem cn_s4 {i : Nat} {n : Int} (C : cn_Cx p R s m args meth c al0 dC dI aC aV o a) (hd : decode (cn_cc o) pc = .ok (.iinc i n, 3)) (hr : cn_step o orc pc (.iinc i n) ρ st L z = some t) (hk : cn_At p l e R s m args below meth c Q al0 dC dI aC o a t) : cn_At p l e R s m args below meth c Q al0 dC dI aC o a (pc, ρ, st, L, z) := by
  obtain ⟨hx, hb, hml, hown, hts, hin, hK, hF, hNB, hsz, hR⟩ := C
  intro hL H locs ls hl hP hS
  obtain ⟨x, hm, h1⟩ := am_ldi_some hr
  obtain ⟨h2, h3⟩ := am_bif h1
  cases h3
  obtain ⟨kk, hkk⟩ := List.getElem?_of_mem (am_rls_mem (al := cn_al a al0) hm)
  exact lv_iinc hx hb hd hl hkk rfl (Nat.blt_eq.mp h2) am_rls_sti (fun ls hl => hk hL H locs ls hl hP hS)
theorem cn_s5 {n : Int} (C : cn_Cx p R s m args meth c al0 dC dI aC aV o a) (hd : decode (cn_cc o) pc = .ok (.iconst n, 1)) (hr : cn_step o orc pc (.iconst n) ρ st L z = some t) (hk : cn_At p l e R s m args below meth c Q al0 dC dI aC o a t) : cn_At p l e R s m args below meth c Q al0 dC dI aC o a (pc, ρ, st, L, z) := by
  obtain ⟨hx, hb, hml, hown, hts, hin, hK, hF, hNB, hsz, hR⟩ := C
  intro hL H locs ls hl hP hS
  cases hr
  exact lv_iconst hx hb hd rfl (hk hL H locs ls hl hP hS)
theorem cn_s6 {n : Int} (C : cn_Cx p R s m args meth c al0 dC dI aC aV o a) (hd : decode (cn_cc o) pc = .ok (.bipush n, 2)) (hr : cn_step o orc pc (.bipush n) ρ st L z = some t) (hk : cn_At p l e R s m args below meth c Q al0 dC dI aC o a t) : cn_At p l e R s m args below meth c Q al0 dC dI aC o a (pc, ρ, st, L, z) := by
  obtain ⟨hx, hb, hml, hown, hts, hin, hK, hF, hNB, hsz, hR⟩ := C
  intro hL H locs ls hl hP hS
  cases hr
  exact lv_bipush hx hb hd rfl (hk hL H locs ls hl hP hS)
theorem cn_s7 {n : Int} (C : cn_Cx p R s m args meth c al0 dC dI aC aV o a) (hd : decode (cn_cc o) pc = .ok (.sipush n, 3)) (hr : cn_step o orc pc (.sipush n) ρ st L z = some t) (hk : cn_At p l e R s m args below meth c Q al0 dC dI aC o a t) : cn_At p l e R s m args below meth c Q al0 dC dI aC o a (pc, ρ, st, L, z) := by
  obtain ⟨hx, hb, hml, hown, hts, hin, hK, hF, hNB, hsz, hR⟩ := C
  intro hL H locs ls hl hP hS
  cases hr
  exact lv_sipush hx hb hd rfl (hk hL H locs ls hl hP hS)
theorem cn_s8 {ix : Nat} (C : cn_Cx p R s m args meth c al0 dC dI aC aV o a) (hd : decode (cn_cc o) pc = .ok (.ldc ix, 2)) (hr : cn_step o orc pc (.ldc ix) ρ st L z = some t) (hk : cn_At p l e R s m args below meth c Q al0 dC dI aC o a t) : cn_At p l e R s m args below meth c Q al0 dC dI aC o a (pc, ρ, st, L, z) := by
  obtain ⟨hx, hb, hml, hown, hts, hin, hK, hF, hNB, hsz, hR⟩ := C
  intro hL H locs ls hl hP hS
  have hr : (match am_lk (am_ckL.getD o []) ix with
    | some (.inl v, _) => some (pc + 2, ρ, .int v :: st, L, z)
    | _ => none) = some t := hr
  split at hr
  · rename_i v w hz
    cases hr
    exact lv_ldc hx hb hown (va_Nw.use rfl (hF.2.2.2.2.2.2.2.2.1 o _ v (am_lk_mem _ _ _ hz) rfl)) hd (hk hL H locs ls hl hP hS)
  · cases hr
theorem cn_s9 (C : cn_Cx p R s m args meth c al0 dC dI aC aV o a) (hd : decode (cn_cc o) pc = .ok (.dup, 1)) (hr : cn_step o orc pc .dup ρ st L z = some t) (hk : cn_At p l e R s m args below meth c Q al0 dC dI aC o a t) : cn_At p l e R s m args below meth c Q al0 dC dI aC o a (pc, ρ, st, L, z) := by
  obtain ⟨hx, hb, hml, hown, hts, hin, hK, hF, hNB, hsz, hR⟩ := C
  intro hL H locs ls hl hP hS
  obtain ⟨x, r, rfl, h1⟩ := am_sa_some hr
  cases h1
  exact lv_dup hx hb hd rfl (hk hL H locs ls hl hP hS)
theorem cn_s10 {off : Int} (C : cn_Cx p R s m args meth c al0 dC dI aC aV o a) (hd : decode (cn_cc o) pc = .ok (.goto off, 3)) (hr : cn_step o orc pc (.goto off) ρ st L z = some t) (hk : cn_At p l e R s m args below meth c Q al0 dC dI aC o a t) : cn_At p l e R s m args below meth c Q al0 dC dI aC o a (pc, ρ, st, L, z) := by
  obtain ⟨hx, hb, hml, hown, hts, hin, hK, hF, hNB, hsz, hR⟩ := C
  intro hL H locs ls hl hP hS
  obtain ⟨tg, ht, h1⟩ := am_to_some hr
  cases h1
  exact lv_goto hx hb hd ht (hk hL H locs ls hl hP hS)
theorem cn_s11 {cd : ClassFile.Cond} {off : Int} (C : cn_Cx p R s m args meth c al0 dC dI aC aV o a) (hd : decode (cn_cc o) pc = .ok (.if_icmp cd off, 3)) (hr : cn_step o orc pc (.if_icmp cd off) ρ st L z = some t) (hk : cn_At p l e R s m args below meth c Q al0 dC dI aC o a t) : cn_At p l e R s m args below meth c Q al0 dC dI aC o a (pc, ρ, st, L, z) := by
  obtain ⟨hx, hb, hml, hown, hts, hin, hK, hF, hNB, hsz, hR⟩ := C
  intro hL H locs ls hl hP hS
  obtain ⟨x, y, r, rfl, h1⟩ := am_s2_some hr
  obtain ⟨tg, ht, h2⟩ := am_to_some h1
  obtain ⟨h3, h4⟩ := am_bif h2
  have h3 := of_decide_eq_true h3
  subst h3
  refine lv_icmp_ge hx hb hd ht (fun q => ?_) (fun q => ?_)
  · rw [if_pos q] at h4
    cases h4
    exact hk hL H locs ls hl hP hS
  · rw [if_neg q] at h4
    cases h4
    exact hk hL H locs ls hl hP hS
theorem cn_s12 {ix : Nat} (C : cn_Cx p R s m args meth c al0 dC dI aC aV o a) (hd : decode (cn_cc o) pc = .ok (.getstatic ix, 3)) (hr : cn_step o orc pc (.getstatic ix) ρ st L z = some t) (hk : cn_At p l e R s m args below meth c Q al0 dC dI aC o a t) : cn_At p l e R s m args below meth c Q al0 dC dI aC o a (pc, ρ, st, L, z) := by
  obtain ⟨hx, hb, hml, hown, hts, hin, hK, hF, hNB, hsz, hR⟩ := C
  intro hL H locs ls hl hP hS
  have hr : (match am_lk (am_skL.getD o []) ix with
    | some q => some (pc + 3, ρ, .ref (900 + q.1) :: st, L, z)
    | none => none) = some t := hr
  split at hr
  · rename_i q hz
    cases hr
    have hmem := am_lk_mem _ _ _ hz
    obtain ⟨y, hz1, hz2⟩ := am_sk_spec hmem
    obtain ⟨-, -, -, hZ⟩ := hF.1 y hz1
    rw [hz2] at hZ
    have hZ : va_Z y.2.1 y.2.2.1 y.2.2.2 (.ref (al0 q.1)) (fun q => a ≤ q) s s.heap := hZ
    have h9 := hk hL H locs ls hl hP hS
    have h9 : W p l e R s m args below meth c H locs (L.length - 1) z Q (F0 m (pc + 3) ls (.ref (cn_al a al0 (900 + q.1)) :: st.map (am_rl (cn_al a al0)))) := h9
    rw [cn_al_ge] at h9
    rcases hF.2.2.2.2.2.2.2.1 o _ y hmem hz1 hz2 with ⟨-, q2⟩ | ⟨-, q2⟩
    · exact va_gets hx hb hZ hS hown (va_Nw.use rfl q2) (fun _ h9 => h9) hd h9
    · exact va_getsN hx hb hZ hS hown (va_Nw.use rfl q2) (fun _ h9 => h9) hd h9
  · cases hr
theorem cn_s13 (C : cn_Cx p R s m args meth c al0 dC dI aC aV o a) (hd : decode (cn_cc o) pc = .ok (.iaload, 1)) (hr : cn_step o orc pc .iaload ρ st L z = some t) (hk : cn_At p l e R s m args below meth c Q al0 dC dI aC o a t) : cn_At p l e R s m args below meth c Q al0 dC dI aC o a (pc, ρ, st, L, z) := by
  obtain ⟨hx, hb, hml, hown, hts, hin, hK, hF, hNB, hsz, hR⟩ := C
  intro hL H locs ls hl hP hS
  obtain ⟨k, x, r, rfl, h1⟩ := am_sia_some hr
  obtain ⟨h2, h3⟩ := am_bif h1
  simp only [Bool.and_eq_true] at h2
  obtain ⟨⟨b1, b2⟩, b3⟩ := h2
  cases h3
  obtain ⟨y, hz1, hz2⟩ := am_f_spec b2
  obtain ⟨q1, q2, q3, -⟩ := hF.1 y hz1
  rw [hz2] at q1 q2 q3
  have e0 : 900 + (k - 900) = k := Nat.add_sub_of_le (Nat.le_of_ble_eq_true b1)
  have e1 : cn_al a al0 k = al0 (k - 900) := by
    have h8 := cn_al_ge (a := a) (al0 := al0) (k := k - 900)
    rw [e0] at h8
    exact h8
  show W p l e R s m args below meth c H locs (L.length - 1) z Q (F0 m pc ls (.int x :: .ref (cn_al a al0 k) :: r.map (am_rl (cn_al a al0))))
  rw [e1]
  exact va_sld hx hb q1 q3 q2 hS (am_in_spec b3) hd (hk hL H locs ls hl hP hS)
end CNSTEP
