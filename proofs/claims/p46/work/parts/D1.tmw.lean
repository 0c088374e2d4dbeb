section TM1
variable {al : Nat → Nat} {aC : Nat → ClassId} {x0 x1 : Nat}
def tm_fv (al : Nat → Nat) (x1 : Nat) (S : dm_S) (a j : Nat) : Value := bif Nat.beq j 0 then va_rf (dm_rf al x1 (dm_g S a j)) else .int (dm_g S a j)
def tm_cell (al : Nat → Nat) (aC : Nat → ClassId) (x1 : Nat) (S : dm_S) (a : Nat) : va_E :=
  bif Nat.beq (dm_k S a).1 5 then .inr (11, (List.range 4).map (tm_fv al x1 S a))
  else bif Nat.beq (dm_k S a).1 6 then .inr (12, (List.range 4).map (tm_fv al x1 S a))
  else bif Nat.beq (dm_k S a).1 4 then .inl (aC 7, dm_len S a, .inl (fun j => tm_b (dm_g S a j)))
  else .inl (aC 0, dm_len S a, .inl (dm_g S a))
def tm_D (al : Nat → Nat) (aC : Nat → ClassId) (x1 : Nat) (S : dm_S) : va_W := (List.range (dm_n S - 1000)).map (fun i => (x1 + i, tm_cell al aC x1 S (1000 + i)))
def tm_W (al : Nat → Nat) (aC : Nat → ClassId) (x1 : Nat) (S : dm_S) : va_W := am_W al aC (dm_h S) ++ tm_D al aC x1 S
theorem tm_Dl {S : dm_S} : (tm_D al aC x1 S).length = dm_n S - 1000 := by simp [tm_D]
theorem tm_Wl {S : dm_S} : (tm_W al aC x1 S).length = 193 + (dm_n S - 1000) := by
  unfold tm_W
  rw [List.length_append, am_W_len, tm_Dl]
  rfl
theorem tm_get {S : dm_S} {a : Nat} (h1 : 1000 ≤ a) (h2 : a < dm_n S) : (tm_W al aC x1 S)[193 + (a - 1000)]? = some (dm_al al x1 a, tm_cell al aC x1 S a) := by
  unfold tm_W
  rw [List.getElem?_append_right (by rw [am_W_len]; exact Nat.le_add_right _ _), am_W_len, show 193 + (a - 1000) - am_n0 = a - 1000 from Nat.add_sub_cancel_left _ _]
  unfold tm_D
  rw [List.getElem?_map, List.getElem?_range (by omega), dm_al_hi h1]
  show some (x1 + (a - 1000), tm_cell al aC x1 S (1000 + (a - 1000))) = _
  rw [show 1000 + (a - 1000) = a by omega]
theorem tm_getC {S : dm_S} {k : Nat} (hk : k < 193) : (tm_W al aC x1 S)[k]? = some (al k, am_cell al aC (dm_h S) k) := by
  unfold tm_W
  rw [List.getElem?_append_left (by rw [am_W_len]; exact hk)]
  exact am_W_get hk
/-- what lies at a place of the world -/
theorem tm_at {S : dm_S} {i : Nat} {q : Nat × va_E} (h : (tm_W al aC x1 S)[i]? = some q) : (i < 193 ∧ q = (al i, am_cell al aC (dm_h S) i)) ∨ (193 ≤ i ∧ i - 193 < dm_n S - 1000 ∧ q = (x1 + (i - 193), tm_cell al aC x1 S (1000 + (i - 193)))) := by
  by_cases hi : i < 193
  · rw [tm_getC hi] at h
    exact Or.inl ⟨hi, (Option.some.inj h).symm⟩
  · have hl : i < 193 + (dm_n S - 1000) := by
      have := (List.getElem?_eq_some_iff.mp h).1
      rwa [tm_Wl] at this
    have h2 := tm_get (al := al) (aC := aC) (x1 := x1) (S := S) (a := 1000 + (i - 193)) (by omega) (by omega)
    rw [show 193 + (1000 + (i - 193) - 1000) = i by omega, h, dm_al_hi (by omega)] at h2
    refine Or.inr ⟨by omega, by omega, ?_⟩
    rw [Option.some.inj h2, show 1000 + (i - 193) - 1000 = i - 193 by omega]
theorem tm_VD {S : dm_S} (hA : dm_Al al x0 x1) : va_D (fun q => x0 ≤ q) (tm_W al aC x1 S) := by
  obtain ⟨h1, h2⟩ := hA
  have key : ∀ (k : Nat) (q : Nat × va_E), (tm_W al aC x1 S)[k]? = some q → (k < 193 ∧ q.1 = x0 + k) ∨ (193 ≤ k ∧ q.1 = x1 + (k - 193)) := by
    intro k q hk
    rcases tm_at hk with ⟨a, b⟩ | ⟨a, -, b⟩
    · exact Or.inl ⟨a, by rw [b]; exact h1 k a⟩
    · exact Or.inr ⟨a, by rw [b]⟩
  refine ⟨fun i j p q hi hj hpq => ?_, fun k q hk => ?_⟩
  · rcases key i p hi with ⟨a1, a2⟩ | ⟨a1, a2⟩ <;> rcases key j q hj with ⟨b1, b2⟩ | ⟨b1, b2⟩ <;> omega
  · show x0 ≤ q.1
    rcases key k q hk with ⟨a1, a2⟩ | ⟨a1, a2⟩ <;> omega
theorem tm_cell_ne {S : dm_S} {a k b : Nat} {v : Int32} (hb : b ≠ a) : tm_cell al aC x1 (dm_wr S a k v) b = tm_cell al aC x1 S b := by
  have e : dm_g (dm_wr S a k v) b = dm_g S b := by
    funext j
    show am_pi S.2.2.1 a k v b j = S.2.2.1 b j
    simp [am_pi, hb]
  have e2 : tm_fv al x1 (dm_wr S a k v) b = tm_fv al x1 S b := by
    funext j
    unfold tm_fv
    rw [e]
  unfold tm_cell
  rw [e2, e]
  rfl
theorem tm_set {S : dm_S} {a k : Nat} {v : Int32} {E : va_E} (h1 : 1000 ≤ a) (h2 : a < dm_n S) (hE : tm_cell al aC x1 (dm_wr S a k v) a = E) : (tm_W al aC x1 S).set (193 + (a - 1000)) (dm_al al x1 a, E) = tm_W al aC x1 (dm_wr S a k v) := by
  apply List.ext_getElem?
  intro i
  have en : dm_n (dm_wr S a k v) = dm_n S := rfl
  by_cases hi : i < 193 + (dm_n S - 1000)
  · by_cases hia : i = 193 + (a - 1000)
    · have h9 := tm_get (al := al) (aC := aC) (x1 := x1) (S := dm_wr S a k v) h1 (by rw [en]; exact h2)
      rw [hE] at h9
      rw [hia] at hi ⊢
      rw [h9]
      exact List.getElem?_set_self (by rw [tm_Wl]; exact hi)
    · rw [List.getElem?_set_ne (Ne.symm hia)]
      by_cases hc : i < 193
      · rw [tm_getC hc, tm_getC hc]
        rfl
      · have e1 := tm_get (al := al) (aC := aC) (x1 := x1) (S := S) (a := 1000 + (i - 193)) (by omega) (by omega)
        have e2 := tm_get (al := al) (aC := aC) (x1 := x1) (S := dm_wr S a k v) (a := 1000 + (i - 193)) (by omega) (by rw [en]; omega)
        rw [show 193 + (1000 + (i - 193) - 1000) = i by omega] at e1 e2
        rw [e1, e2, tm_cell_ne (by omega)]
  · rw [List.getElem?_eq_none (by rw [List.length_set, tm_Wl]; omega), List.getElem?_eq_none (by rw [tm_Wl, en]; omega)]
theorem tm_cell_nw {S : dm_S} {kd : Nat × Nat × Nat} {f : Nat → Int32} {z b : Nat} (hb : b ≠ dm_n S) : tm_cell al aC x1 (dm_nw S kd f z) b = tm_cell al aC x1 S b := by
  have ek : dm_k (dm_nw S kd f z) b = dm_k S b := by
    show (if b = dm_n S then kd else dm_k S b) = _
    rw [if_neg hb]
  have eg : dm_g (dm_nw S kd f z) b = dm_g S b := by
    funext j
    show (if b = dm_n S then f j else dm_g S b j) = _
    rw [if_neg hb]
  have e2 : tm_fv al x1 (dm_nw S kd f z) b = tm_fv al x1 S b := by
    funext j
    unfold tm_fv
    rw [eg]
  unfold tm_cell dm_len
  rw [e2, eg, ek]
theorem tm_push {S : dm_S} {kd : Nat × Nat × Nat} {f : Nat → Int32} {z : Nat} {E : va_E} (h1 : 1000 ≤ dm_n S) (hE : tm_cell al aC x1 (dm_nw S kd f z) (dm_n S) = E) : tm_W al aC x1 S ++ [(x1 + (dm_n S - 1000), E)] = tm_W al aC x1 (dm_nw S kd f z) := by
  have en : dm_n (dm_nw S kd f z) = dm_n S + 1 := rfl
  have e2 : tm_D al aC x1 (dm_nw S kd f z) = tm_D al aC x1 S ++ [(x1 + (dm_n S - 1000), E)] := by
    unfold tm_D
    rw [en, show dm_n S + 1 - 1000 = (dm_n S - 1000) + 1 by omega, List.range_succ, List.map_append]
    have q1 : (List.range (dm_n S - 1000)).map (fun i => (x1 + i, tm_cell al aC x1 (dm_nw S kd f z) (1000 + i))) = (List.range (dm_n S - 1000)).map (fun i => (x1 + i, tm_cell al aC x1 S (1000 + i))) :=
      List.map_congr_left (fun i hi => by
        have hi := List.mem_range.mp hi
        rw [tm_cell_nw (by omega)])
    have q2 : [dm_n S - 1000].map (fun i => (x1 + i, tm_cell al aC x1 (dm_nw S kd f z) (1000 + i))) = [(x1 + (dm_n S - 1000), E)] := by
      show [(x1 + (dm_n S - 1000), tm_cell al aC x1 (dm_nw S kd f z) (1000 + (dm_n S - 1000)))] = _
      rw [show 1000 + (dm_n S - 1000) = dm_n S by omega, hE]
    rw [q1, q2]
  unfold tm_W
  rw [e2, List.append_assoc]
  rfl
theorem tm_szW {p : Program} {l : Launch} {e : Env} {R : Room} {s : State} {m : MethodId} {args : Array Value} {below : List Frame} {meth : Method} {c : Code} {H : Heap} {locs : List Loc} {cells slots : Nat} {Q : State → Prop} {g : JFrame} {D : va_G} {cl : List vw_C} {S : dm_S} {N0 : Nat}
    (hP : va_P D cl (tm_W al aC x1 S) H) (hS : va_S (fun q => x0 ≤ q) s.heap H locs) (h0 : s.heap.size = x1 + (N0 - 1000)) (h1 : 1000 ≤ N0) (h2 : N0 ≤ dm_n S) (hc : cells = dm_n S - N0)
    (k : H.size = x1 + (dm_n S - 1000) → W p l e R s m args below meth c H locs cells slots Q g) : W p l e R s m args below meth c H locs cells slots Q g := by
  intro T hT X
  have h3 := X.heapSize
  rw [hT] at h3
  refine k ?_ T hT X
  have h4 := hS.1
  by_cases hn : dm_n S = N0
  · omega
  · have h5 : x1 + (dm_n S - 1 - 1000) < H.size := by
      have h6 := (hP _ _ (tm_get (al := al) (aC := aC) (x1 := x1) (S := S) (a := dm_n S - 1) (by omega) (by omega))).lt
      rwa [dm_al_hi (by omega)] at h6
    omega
end TM1
