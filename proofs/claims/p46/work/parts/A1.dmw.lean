section DM1
variable {al : Nat → Nat} {aC : Nat → ClassId} {x0 x1 : Nat}
def dm_al (al : Nat → Nat) (x1 r : Nat) : Nat := if r < 1000 then al r else x1 + (r - 1000)
def dm_rf (al : Nat → Nat) (x1 : Nat) (v : Int32) : Option Nat := if v < 0 then none else some (dm_al al x1 v.toNatClampNeg)
def dm_fv (al : Nat → Nat) (x1 : Nat) (S : dm_S) (a j : Nat) : Value := bif dm_rj j then va_rf (dm_rf al x1 (dm_g S a j)) else .int (dm_g S a j)
def dm_cell (al : Nat → Nat) (aC : Nat → ClassId) (x1 : Nat) (S : dm_S) (a : Nat) : va_E :=
  bif Nat.beq (dm_k S a).1 1 then .inr (10, (List.range 6).map (dm_fv al x1 S a))
  else bif Nat.beq (dm_k S a).1 3 then .inl (aC 6, dm_len S a, .inr (.inr (.inr (.inr (fun j => dm_rf al x1 (dm_g S a j))))))
  else .inl (aC 0, dm_len S a, .inl (dm_g S a))
def dm_D (al : Nat → Nat) (aC : Nat → ClassId) (x1 : Nat) (S : dm_S) : va_W := (List.range (dm_n S - 1000)).map (fun i => (x1 + i, dm_cell al aC x1 S (1000 + i)))
def dm_W (al : Nat → Nat) (aC : Nat → ClassId) (x1 : Nat) (S : dm_S) : va_W := am_W al aC (dm_h S) ++ dm_D al aC x1 S
theorem dm_Dl {S : dm_S} : (dm_D al aC x1 S).length = dm_n S - 1000 := by simp [dm_D]
theorem dm_Wl {S : dm_S} : (dm_W al aC x1 S).length = 193 + (dm_n S - 1000) := by
  unfold dm_W
  rw [List.length_append, am_W_len, dm_Dl]
  rfl
theorem dm_ok_s {S : dm_S} {kd a : Nat} (h : dm_ok S kd a = true) : (dm_k S a).1 = kd ∧ 1000 ≤ a ∧ a < dm_n S := by
  unfold dm_ok at h
  simp only [Bool.and_eq_true] at h
  exact ⟨Nat.eq_of_beq_eq_true h.1.1, Nat.le_of_ble_eq_true h.1.2, Nat.blt_eq.mp h.2⟩
theorem dm_al_hi {r : Nat} (h : 1000 ≤ r) : dm_al al x1 r = x1 + (r - 1000) := by
  unfold dm_al
  rw [if_neg (by omega)]
theorem dm_al_lo {r : Nat} (h : r < 1000) : dm_al al x1 r = al r := by
  unfold dm_al
  rw [if_pos h]
theorem dm_get {S : dm_S} {a : Nat} (h1 : 1000 ≤ a) (h2 : a < dm_n S) : (dm_W al aC x1 S)[193 + (a - 1000)]? = some (dm_al al x1 a, dm_cell al aC x1 S a) := by
  unfold dm_W
  rw [List.getElem?_append_right (by rw [am_W_len]; exact Nat.le_add_right _ _), am_W_len, show 193 + (a - 1000) - am_n0 = a - 1000 from Nat.add_sub_cancel_left _ _]
  unfold dm_D
  rw [List.getElem?_map, List.getElem?_range (by omega), dm_al_hi h1]
  show some (x1 + (a - 1000), dm_cell al aC x1 S (1000 + (a - 1000))) = _
  rw [show 1000 + (a - 1000) = a by omega]
theorem dm_getC {S : dm_S} {k : Nat} (hk : k < 193) : (dm_W al aC x1 S)[k]? = some (al k, am_cell al aC (dm_h S) k) := by
  unfold dm_W
  rw [List.getElem?_append_left (by rw [am_W_len]; exact hk)]
  exact am_W_get hk
/-- what lies at a place of the world -/
theorem dm_at {S : dm_S} {i : Nat} {q : Nat × va_E} (h : (dm_W al aC x1 S)[i]? = some q) : (i < 193 ∧ q = (al i, am_cell al aC (dm_h S) i)) ∨ (193 ≤ i ∧ i - 193 < dm_n S - 1000 ∧ q = (x1 + (i - 193), dm_cell al aC x1 S (1000 + (i - 193)))) := by
  by_cases hi : i < 193
  · rw [dm_getC hi] at h
    exact Or.inl ⟨hi, (Option.some.inj h).symm⟩
  · have hl : i < 193 + (dm_n S - 1000) := by
      have := (List.getElem?_eq_some_iff.mp h).1
      rwa [dm_Wl] at this
    have h2 := dm_get (al := al) (aC := aC) (x1 := x1) (S := S) (a := 1000 + (i - 193)) (by omega) (by omega)
    rw [show 193 + (1000 + (i - 193) - 1000) = i by omega, h, dm_al_hi (by omega)] at h2
    refine Or.inr ⟨by omega, by omega, ?_⟩
    rw [Option.some.inj h2, show 1000 + (i - 193) - 1000 = i - 193 by omega]
/-- where the class's objects and the law's own lie -/
def dm_Al (al : Nat → Nat) (x0 x1 : Nat) : Prop := (∀ k, k < 193 → al k = x0 + k) ∧ x0 + 193 ≤ x1
theorem dm_VD {S : dm_S} (hA : dm_Al al x0 x1) : va_D (fun q => x0 ≤ q) (dm_W al aC x1 S) := by
  obtain ⟨h1, h2⟩ := hA
  have key : ∀ (k : Nat) (q : Nat × va_E), (dm_W al aC x1 S)[k]? = some q → (k < 193 ∧ q.1 = x0 + k) ∨ (193 ≤ k ∧ q.1 = x1 + (k - 193)) := by
    intro k q hk
    rcases dm_at hk with ⟨a, b⟩ | ⟨a, -, b⟩
    · exact Or.inl ⟨a, by rw [b]; exact h1 k a⟩
    · exact Or.inr ⟨a, by rw [b]⟩
  refine ⟨fun i j p q hi hj hpq => ?_, fun k q hk => ?_⟩
  · rcases key i p hi with ⟨a1, a2⟩ | ⟨a1, a2⟩ <;> rcases key j q hj with ⟨b1, b2⟩ | ⟨b1, b2⟩ <;> omega
  · show x0 ≤ q.1
    rcases key k q hk with ⟨a1, a2⟩ | ⟨a1, a2⟩ <;> omega
theorem dm_Inj (hA : dm_Al al x0 x1) : am_Inj al := by
  intro i j hi hj e
  have hi : i < 193 := hi
  have hj : j < 193 := hj
  rw [hA.1 i hi, hA.1 j hj] at e
  omega
theorem dm_cell_ne {S : dm_S} {a k b : Nat} {v : Int32} (hb : b ≠ a) : dm_cell al aC x1 (dm_wr S a k v) b = dm_cell al aC x1 S b := by
  have e : dm_g (dm_wr S a k v) b = dm_g S b := by
    funext j
    show am_pi S.2.2.1 a k v b j = S.2.2.1 b j
    simp [am_pi, hb]
  have e2 : dm_fv al x1 (dm_wr S a k v) b = dm_fv al x1 S b := by
    funext j
    unfold dm_fv
    rw [e]
  unfold dm_cell
  rw [e2, e]
  rfl
theorem dm_set {S : dm_S} {a k : Nat} {v : Int32} {E : va_E} (h1 : 1000 ≤ a) (h2 : a < dm_n S) (hE : dm_cell al aC x1 (dm_wr S a k v) a = E) : (dm_W al aC x1 S).set (193 + (a - 1000)) (dm_al al x1 a, E) = dm_W al aC x1 (dm_wr S a k v) := by
  apply List.ext_getElem?
  intro i
  have en : dm_n (dm_wr S a k v) = dm_n S := rfl
  by_cases hi : i < 193 + (dm_n S - 1000)
  · by_cases hia : i = 193 + (a - 1000)
    · have h9 := dm_get (al := al) (aC := aC) (x1 := x1) (S := dm_wr S a k v) h1 (by rw [en]; exact h2)
      rw [hE] at h9
      rw [hia] at hi ⊢
      rw [h9]
      exact List.getElem?_set_self (by rw [dm_Wl]; exact hi)
    · rw [List.getElem?_set_ne (Ne.symm hia)]
      by_cases hc : i < 193
      · rw [dm_getC hc, dm_getC hc]
        rfl
      · have e1 := dm_get (al := al) (aC := aC) (x1 := x1) (S := S) (a := 1000 + (i - 193)) (by omega) (by omega)
        have e2 := dm_get (al := al) (aC := aC) (x1 := x1) (S := dm_wr S a k v) (a := 1000 + (i - 193)) (by omega) (by rw [en]; omega)
        rw [show 193 + (1000 + (i - 193) - 1000) = i by omega] at e1 e2
        rw [e1, e2, dm_cell_ne (by omega)]
  · rw [List.getElem?_eq_none (by rw [List.length_set, dm_Wl]; omega), List.getElem?_eq_none (by rw [dm_Wl, en]; omega)]
theorem dm_cell_nw {S : dm_S} {kd : Nat × Nat × Nat} {f : Nat → Int32} {z b : Nat} (hb : b ≠ dm_n S) : dm_cell al aC x1 (dm_nw S kd f z) b = dm_cell al aC x1 S b := by
  have ek : dm_k (dm_nw S kd f z) b = dm_k S b := by
    show (if b = dm_n S then kd else dm_k S b) = _
    rw [if_neg hb]
  have eg : dm_g (dm_nw S kd f z) b = dm_g S b := by
    funext j
    show (if b = dm_n S then f j else dm_g S b j) = _
    rw [if_neg hb]
  have e2 : dm_fv al x1 (dm_nw S kd f z) b = dm_fv al x1 S b := by
    funext j
    unfold dm_fv
    rw [eg]
  unfold dm_cell dm_len
  rw [e2, eg, ek]
theorem dm_push {S : dm_S} {kd : Nat × Nat × Nat} {f : Nat → Int32} {z : Nat} {E : va_E} (h1 : 1000 ≤ dm_n S) (hE : dm_cell al aC x1 (dm_nw S kd f z) (dm_n S) = E) : dm_W al aC x1 S ++ [(x1 + (dm_n S - 1000), E)] = dm_W al aC x1 (dm_nw S kd f z) := by
  have en : dm_n (dm_nw S kd f z) = dm_n S + 1 := rfl
  have e2 : dm_D al aC x1 (dm_nw S kd f z) = dm_D al aC x1 S ++ [(x1 + (dm_n S - 1000), E)] := by
    unfold dm_D
    rw [en, show dm_n S + 1 - 1000 = (dm_n S - 1000) + 1 by omega, List.range_succ, List.map_append]
    have q1 : (List.range (dm_n S - 1000)).map (fun i => (x1 + i, dm_cell al aC x1 (dm_nw S kd f z) (1000 + i))) = (List.range (dm_n S - 1000)).map (fun i => (x1 + i, dm_cell al aC x1 S (1000 + i))) :=
      List.map_congr_left (fun i hi => by
        have hi := List.mem_range.mp hi
        rw [dm_cell_nw (by omega)])
    have q2 : [dm_n S - 1000].map (fun i => (x1 + i, dm_cell al aC x1 (dm_nw S kd f z) (1000 + i))) = [(x1 + (dm_n S - 1000), E)] := by
      show [(x1 + (dm_n S - 1000), dm_cell al aC x1 (dm_nw S kd f z) (1000 + (dm_n S - 1000)))] = _
      rw [show 1000 + (dm_n S - 1000) = dm_n S by omega, hE]
    rw [q1, q2]
  unfold dm_W
  rw [e2, List.append_assoc]
  rfl
theorem dm_lenW {p : Program} {l : Launch} {e : Env} {R : Room} {s : State} {m : MethodId} {args : Array Value} {below : List Frame} {meth : Method} {c : Code} {H : Heap} {locs : List Loc} {cells slots : Nat} {Q : State → Prop} {g : JFrame}
    (k : H.size ≤ s.heap.size + cells → W p l e R s m args below meth c H locs cells slots Q g) : W p l e R s m args below meth c H locs cells slots Q g := by
  intro T hT X
  have h1 := X.heapSize
  rw [hT] at h1
  exact k h1 T hT X
theorem dm_szW {p : Program} {l : Launch} {e : Env} {R : Room} {s : State} {m : MethodId} {args : Array Value} {below : List Frame} {meth : Method} {c : Code} {H : Heap} {locs : List Loc} {cells slots : Nat} {Q : State → Prop} {g : JFrame} {D : va_G} {cl : List vw_C} {S : dm_S} {N0 : Nat}
    (hP : va_P D cl (dm_W al aC x1 S) H) (hS : va_S (fun q => x0 ≤ q) s.heap H locs) (h0 : s.heap.size = x1 + (N0 - 1000)) (h1 : 1000 ≤ N0) (h2 : N0 ≤ dm_n S) (hc : cells = dm_n S - N0)
    (k : H.size = x1 + (dm_n S - 1000) → W p l e R s m args below meth c H locs cells slots Q g) : W p l e R s m args below meth c H locs cells slots Q g := by
  intro T hT X
  have h3 := X.heapSize
  rw [hT] at h3
  refine k ?_ T hT X
  have h4 := hS.1
  by_cases hn : dm_n S = N0
  · omega
  · have h5 : x1 + (dm_n S - 1 - 1000) < H.size := by
      have h6 := (hP _ _ (dm_get (al := al) (aC := aC) (x1 := x1) (S := S) (a := dm_n S - 1) (by omega) (by omega))).lt
      rwa [dm_al_hi (by omega)] at h6
    omega
theorem dm_rl_lo {v : Value} (h : dm_lo1 v = true) : am_rl (dm_al al x1) v = am_rl al v := by
  cases v
  case ref a =>
    show Value.ref (dm_al al x1 a) = Value.ref (al a)
    rw [dm_al_lo (Nat.blt_eq.mp h)]
  all_goals rfl
theorem dm_rl_rv {v : Option Value} (h : dm_rv v = true) : v.map (am_rl (dm_al al x1)) = v.map (am_rl al) := by
  cases v with
  | none => rfl
  | some w =>
    cases w
    case ref a => exact absurd (show false = true from h) (by decide)
    all_goals rfl
end DM1
