section DM5
variable {p : Program} {l : Launch} {e : Env} {R : Room} {s : State} {m : MethodId} {args : Array Value} {below : List Frame} {meth : Method} {c : Code}
variable {al : Nat → Nat} {dC : Nat → ClassId} {dI : Nat → Nat → Nat} {aC : Nat → ClassId} {aV : Nat → Nat} {x0 x1 me N0 Z0 : Nat} {vO : Option Value} {SO : dm_S} {pc : Nat} {ρ : am_Lc} {S : dm_S}
theorem dm_cell_mu {hh w b : Nat} (hb : b < dm_n S) : dm_cell al aC x1 (dm_mu S hh w) b = dm_cell al aC x1 S b := by
  have ek : dm_k (dm_mu S hh w) b = dm_k S b := by
    show (if b = dm_n S then (3, 6, hh) else if dm_n S < b ∧ b ≤ dm_n S + hh then (2, 0, w) else dm_k S b) = _
    rw [if_neg (by omega), if_neg (by omega)]
  have eg : dm_g (dm_mu S hh w) b = dm_g S b := by
    funext j
    show (if b = dm_n S then (if j < hh then am_z ((dm_n S + 1 + j : Nat) : Int) else am_z (-1)) else if dm_n S < b ∧ b ≤ dm_n S + hh then 0 else dm_g S b j) = _
    rw [if_neg (by omega), if_neg (by omega)]
  have e2 : dm_fv al x1 (dm_mu S hh w) b = dm_fv al x1 S b := by
    funext j
    unfold dm_fv
    rw [eg]
  unfold dm_cell dm_len
  rw [e2, eg, ek]
theorem dm_at2 {i : Nat} {q : Nat × va_E} (h : (dm_W al aC x1 S)[i]? = some q) : (i < 193 ∧ q = (al i, am_cell al aC (dm_h S) i)) ∨ ∃ j, j < dm_n S - 1000 ∧ q = (x1 + j, dm_cell al aC x1 S (1000 + j)) := by
  rcases dm_at h with a | ⟨-, b, c⟩
  · exact Or.inl a
  · exact Or.inr ⟨i - 193, b, c⟩
theorem dm_rf_m1 : dm_rf al x1 (am_z (-1)) = none := by
  unfold dm_rf
  rw [if_pos]
  decide
theorem dm_cell_mu0 {hh w : Nat} (hn : dm_n S + 1 + hh < dm_bg) (h1 : 1000 ≤ dm_n S) : dm_cell al aC x1 (dm_mu S hh w) (dm_n S) = .inl (aC 6, hh, .inr (.inr (.inr (.inr (fun j => if j < hh then some (x1 + (dm_n S - 1000) + 1 + j) else none))))) := by
  have ek : dm_k (dm_mu S hh w) (dm_n S) = (3, 6, hh) := if_pos rfl
  rw [dm_c3 (by rw [ek])]
  unfold dm_len
  rw [ek]
  have e1 : (fun j => dm_rf al x1 (dm_g (dm_mu S hh w) (dm_n S) j)) = fun j => if j < hh then some (x1 + (dm_n S - 1000) + 1 + j) else none := by
    funext j
    have e2 : dm_g (dm_mu S hh w) (dm_n S) j = if j < hh then am_z ((dm_n S + 1 + j : Nat) : Int) else am_z (-1) := if_pos rfl
    rw [e2]
    by_cases hj : j < hh
    · rw [if_pos hj, if_pos hj, dm_rf_z (by omega), dm_al_hi (by omega)]
      exact congrArg some (by omega)
    · rw [if_neg hj, if_neg hj, dm_rf_m1]
  rw [e1]
theorem dm_cell_mu1 {hh w j : Nat} (hj : j < hh) : dm_cell al aC x1 (dm_mu S hh w) (dm_n S + 1 + j) = .inl (aC 0, w, .inl (fun _ => 0)) := by
  have ek : dm_k (dm_mu S hh w) (dm_n S + 1 + j) = (2, 0, w) := by
    show (if dm_n S + 1 + j = dm_n S then (3, 6, hh) else if dm_n S < dm_n S + 1 + j ∧ dm_n S + 1 + j ≤ dm_n S + hh then (2, 0, w) else dm_k S (dm_n S + 1 + j)) = _
    rw [if_neg (by omega), if_pos (by omega)]
  have eg : dm_g (dm_mu S hh w) (dm_n S + 1 + j) = fun _ => 0 := by
    funext i
    show (if dm_n S + 1 + j = dm_n S then _ else if dm_n S < dm_n S + 1 + j ∧ dm_n S + 1 + j ≤ dm_n S + hh then 0 else dm_g S (dm_n S + 1 + j) i) = _
    rw [if_neg (by omega), if_pos (by omega)]
  rw [dm_c2 (by rw [ek])]
  unfold dm_len
  rw [ek, eg]
set_option maxRecDepth 100000 in
theorem dm_mw : (dm_inT (.classLink RX10 19 "[[I") && dm_inT (.arrayClass .int)) = true := by decide +kernel
set_option maxHeartbeats 2000000 in
theorem dm_mul_ok {x y : Int32} {r : List Value} (C : dm_Cx p R s m args meth c al dC dI aC aV x0 x1 me N0 Z0 SO) (hm : me < 6) (hd : decode (dm_cc me) pc = .ok (.multianewarray 19 2, 4)) (h1 : ¬ x < 0) (h2 : ¬ y < 0) (b1 : x.toNatClampNeg ≤ 1000) (b2 : y.toNatClampNeg ≤ 1000) (hbg : dm_n S + 2000 < dm_bg)
    (hk : dm_At p l e R s m args below meth c al dC dI aC x0 x1 me N0 Z0 vO SO (pc + 4) ρ (.ref (dm_n S) :: r) (dm_mu S x.toNatClampNeg y.toNatClampNeg)) : dm_At p l e R s m args below meth c al dC dI aC x0 x1 me N0 Z0 vO SO pc ρ (.int y :: .int x :: r) S := by
  obtain ⟨hx, hb, hml, hown, hts, hlocks, hrt, hK, hF, hNB, hR, hA, hsz, hN0⟩ := C
  intro hN hZ
  generalize hnh : x.toNatClampNeg = nh at b1 hk
  generalize hnw : y.toNatClampNeg = nw at b2 hk
  have en : dm_n (dm_mu S nh nw) = dm_n S + 1 + nh := rfl
  have ez : dm_zz (dm_mu S nh nw) = dm_zz S + nh + nh * nw := rfl
  have q := hk (by rw [en]; omega) (by rw [ez]; omega)
  rw [en, ez] at q
  obtain ⟨q1, q2, q3⟩ := q
  refine ⟨by omega, by omega, fun H locs ls hl hP hS => ?_⟩
  refine dm_szW hP hS hsz hN0 hN rfl (fun hHz => ?_)
  have hw := dm_mw
  rw [Bool.and_eq_true] at hw
  rw [dm_own_a hm] at hown
  have hT0 : (am_tys aC)[0]? = some (aC 0, FieldType.int) := rfl
  have hT6 : (am_tys aC)[6]? = some (aC 6, FieldType.array .int) := rfl
  refine dn_W h1 h2 hnh hnw b1 b2 hx hb hown (hts _ (dm_inT_spec hw.1)) (show va_Nw (.arrayOver (.array .int)) s from hNB (.arrayOver (.array .int)) (by simp [dm_NB])) (hts _ (dm_inT_spec hw.2)) hd (by rw [hR]; show dm_n S - N0 + (nh + 1) ≤ dm_n SO - N0; omega) (by rw [hR]; show dm_zz S - Z0 + (nh + nh * nw) ≤ dm_zz SO - Z0; omega) (fun cA cI H1 e1 e2 e3 e4 e5 e6 => ?_)
  have hcA : cA = aC 6 := by
    have h9 : va_RA s (aC 6) (.array .int) := (hK.2 6 _ hT6).2
    have h9 : s.vm.findClass ("[" ++ (FieldType.array FieldType.int).toString) = some (aC 6) := h9
    exact Option.some.inj (e1.symm.trans h9)
  have hcI : cI = aC 0 := by
    have h9 := va_nm_int (hK.2 0 _ hT0).2
    exact Option.some.inj (e2.symm.trans h9)
  subst hcA
  subst hcI
  rw [hHz] at e3 e4 e5 e6
  have hn1 : 1000 ≤ dm_n S := by omega
  have hP1 : va_P (dC, dI) vwCl (dm_W al aC x1 (dm_mu S nh nw)) H1 := by
    intro i q9 hi
    rcases dm_at2 hi with ⟨j1, j2⟩ | ⟨j, j2, j3⟩
    · rw [j2]
      have h9 := hP i _ (dm_getC (S := S) j1)
      have h8 := h9.lt
      exact h9.kept (e4 _ (by rw [← hHz]; exact h8))
    · rw [j3]
      rw [en] at j2
      by_cases c1 : j < dm_n S - 1000
      · rw [dm_cell_mu (by omega)]
        have h9 := hP _ _ (dm_get (al := al) (aC := aC) (x1 := x1) (S := S) (a := 1000 + j) (by omega) (by omega))
        rw [dm_al_hi (by omega), show 1000 + j - 1000 = j by omega] at h9
        exact h9.kept (e4 _ (by show x1 + j < _; omega))
      · by_cases c2 : j = dm_n S - 1000
        · rw [c2, show 1000 + (dm_n S - 1000) = dm_n S by omega, dm_cell_mu0 (by omega) hn1]
          show H1[x1 + (dm_n S - 1000)]? = some (vp_cell _ _)
          rw [e5, vp_cell_q]
          refine congrArg some (congrArg (arrV (aC 6) nh) ?_)
          funext j9
          by_cases c3 : j9 < nh
          · rw [if_pos c3, if_pos c3]; rfl
          · rw [if_neg c3, if_neg c3]; rfl
        · obtain ⟨i9, hi9⟩ : ∃ i9, j = dm_n S - 1000 + 1 + i9 := ⟨j - (dm_n S - 1000 + 1), by omega⟩
          have h8 := e6 i9 (by omega)
          rw [hi9, show 1000 + (dm_n S - 1000 + 1 + i9) = dm_n S + 1 + i9 by omega, dm_cell_mu1 (by omega)]
          show H1[x1 + (dm_n S - 1000 + 1 + i9)]? = some (vp_cell _ _)
          rw [show x1 + (dm_n S - 1000 + 1 + i9) = x1 + (dm_n S - 1000) + 1 + i9 by omega, h8, vp_cell_i]
  have hS1 : va_S (fun q => x0 ≤ q) s.heap H1 (locs ++ (List.range nh).map (fun j => (⟨H.size, j⟩ : Loc))) := by
    have hx01 := hA.2
    refine ⟨Nat.le_trans hS.1 (by omega), fun q8 h8 h9 => ?_, fun q8 hq => ?_⟩
    · rw [e4 q8 (by have := hS.1; omega)]
      exact hS.2.1 q8 h8 h9
    · rcases List.mem_append.mp hq with h | h
      · exact hS.2.2 q8 h
      · obtain ⟨j, -, rfl⟩ := List.mem_map.mp h
        show x0 ≤ H.size
        omega
  have q4 := q3 H1 _ ls hl hP1 hS1
  have q4 : W p l e R s m args below meth c H1 (locs ++ (List.range nh).map (fun j => (⟨H.size, j⟩ : Loc))) (dm_n S + 1 + nh - N0) (dm_zz S + nh + nh * nw - Z0) (MQ below (dm_Q al dC dI aC x0 x1 vO SO) args s (dm_n SO - N0) (dm_zz SO - Z0) (fun q => x0 ≤ q)) (F0 m (pc + 4) ls (.ref (dm_al al x1 (dm_n S)) :: r.map (am_rl (dm_al al x1)))) := q4
  rw [dm_al_hi hn1, ← hHz, show dm_n S + 1 + nh - N0 = dm_n S - N0 + 1 + nh by omega, show dm_zz S + nh + nh * nw - Z0 = dm_zz S - Z0 + nh + nh * nw by omega] at q4
  exact q4
end DM5
