section TM5
theorem tm_at2 {al : Nat → Nat} {aC : Nat → ClassId} {x1 : Nat} {S : dm_S} {i : Nat} {q : Nat × va_E} (h : (tm_W al aC x1 S)[i]? = some q) : (i < 193 ∧ q = (al i, am_cell al aC (dm_h S) i)) ∨ ∃ j, j < dm_n S - 1000 ∧ q = (x1 + j, tm_cell al aC x1 S (1000 + j)) := by
  rcases tm_at h with a | ⟨-, b, c⟩
  · exact Or.inl a
  · exact Or.inr ⟨i - 193, b, c⟩
theorem tm_r1_s {S : dm_S} {as : List Value} (h : tm_r1 S as = true) : ∃ a as', as = .ref a :: as' ∧ (tm_cs a = true ∨ dm_ok S 5 a = true) := by
  cases as with
  | nil => exact absurd (show false = true from h) (by decide)
  | cons v as' =>
    cases v
    case ref a =>
      have h : (tm_cs a || dm_ok S 5 a) = true := h
      rw [Bool.or_eq_true] at h
      exact ⟨a, as', rfl, h⟩
    all_goals exact absurd (show false = true from h) (by decide)
theorem tm_r2_s {S : dm_S} {as : List Value} (h : tm_r2 S as = true) : ∃ a as', as = .ref a :: as' ∧ dm_ok S 6 a = true := by
  cases as with
  | nil => exact absurd (show false = true from h) (by decide)
  | cons v as' =>
    cases v
    case ref a => exact ⟨a, as', rfl, h⟩
    all_goals exact absurd (show false = true from h) (by decide)
theorem tm_r4_s {S : dm_S} {m : Nat} {as : List Value} (h : tm_r4 S m as = true) : ∃ a as', as = .ref a :: as' := by
  cases as with
  | nil => exact absurd (show false = true from h) (by decide)
  | cons v as' =>
    cases v
    case ref a => exact ⟨a, as', rfl⟩
    all_goals exact absurd (show false = true from h) (by decide)
theorem tm_ac_some {γ : Type} {g : γ} {st : List Value} {k : Int32 → Int32 → Nat → Int32 → Nat → List Value → Option γ} (h : tm_ac st k = some g) : ∃ n dp a sp b r, st = .int n :: .int dp :: .ref a :: .int sp :: .ref b :: r ∧ k n dp a sp b r = some g := by
  unfold tm_ac at h
  split at h
  · exact ⟨_, _, _, _, _, _, rfl, h⟩
  · cases h
variable {p : Program} {l : Launch} {e : Env} {R : Room} {s : State} {m : MethodId} {args : Array Value} {below : List Frame} {meth : Method} {c : Code} {Q : State → Prop}
variable {al : Nat → Nat} {dC : Nat → ClassId} {dI : Nat → Nat → Nat} {aC : Nat → ClassId} {aV : Nat → Nat} {x0 x1 : Nat}
/-- behind a call of one of the law's own methods -/
theorem tm_end {H : Heap} {locs : List Loc} {ls : Array Slot} {cells slots mc ms pc : Nat} {st0 rest : List Value} {v : Option Value} {S' : dm_S} {fa : Array Value} (hS : va_S (fun q => x0 ≤ q) s.heap H locs)
    (hr : va_Run p l e R s m args below meth c H locs cells slots mc ms (F0 m pc ls st0) rest (tm_Q al dC dI aC x0 x1 v S' fa) (fun q => x0 ≤ q))
    (kk : ∀ (H1 : Heap) (locs1 : List Loc), va_P (dC, dI) vwCl (tm_W al aC x1 S') H1 → va_S (fun q => x0 ≤ q) s.heap H1 locs1 → W p l e R s m args below meth c H1 locs1 (cells + mc) (slots + ms) Q (F0 m (pc + 3) ls ((v.map (am_rl (dm_al al x1))).toList ++ rest))) : W p l e R s m args below meth c H locs cells slots Q (F0 m pc ls st0) := by
  intro T hT X
  obtain ⟨v2, st₀, t, T', L, h00, X', hL, e1, e2, ⟨q1, q2, q3, q4⟩, stp⟩ := hr T hT X
  obtain ⟨k1, k2, k3⟩ := vx_keep (A0 := fun q => x0 ≤ q) h00 e1 hS (fun q _ z => z) (fun q z => z) hL q4
  cases Outcome.returned.inj q1
  obtain ⟨t2, a1, b1⟩ := kk T'.heap (locs ++ L) (by rw [e1]; exact q3) k3 T' rfl X'
  exact ⟨t2, stp t2 a1, b1⟩
theorem tm_PC {S : dm_S} {D : va_G} {cl : List vw_C} {H : Heap} (hP : va_P D cl (tm_W al aC x1 S) H) : va_P D cl (am_W al aC (dm_h S)) H := by
  intro k q hk
  refine hP k q ?_
  unfold tm_W
  rw [List.getElem?_append_left (List.getElem?_eq_some_iff.mp hk).1]
  exact hk
theorem tm_PJ {S : dm_S} {h' : am_Hp} {D : va_G} {cl : List vw_C} {H H1 : Heap} (hA : dm_Al al x0 x1) (hP : va_P D cl (tm_W al aC x1 S) H) (hP1 : va_P D cl (am_W al aC h') H1) (hq : ∀ q : Nat, q < H.size → ¬ am_A al H.size q → H1[q]? = H[q]?) : va_P D cl (tm_W al aC x1 (dm_sh S h')) H1 := by
  intro i q hi
  rcases tm_at2 hi with ⟨j1, j2⟩ | ⟨j, j2, j3⟩
  · rw [j2]
    exact hP1 i _ (am_W_get (show i < am_n0 from j1))
  · rw [j3]
    have j2 : j < dm_n S - 1000 := j2
    have h9 := hP _ _ (tm_get (al := al) (aC := aC) (x1 := x1) (S := S) (a := 1000 + j) (by omega) (by omega))
    have hlt := h9.lt
    rw [dm_al_hi (by omega), show 1000 + j - 1000 = j by omega] at h9 hlt
    have hlt : x1 + j < H.size := hlt
    refine h9.kept (hq _ hlt (fun z => ?_))
    rcases z with ⟨k, z1, z2⟩ | z
    · have z1 : k < 193 := z1
      have z2 : x1 + j = al k := z2
      rw [hA.1 k z1] at z2
      have := hA.2
      omega
    · have z : H.size ≤ x1 + j := z
      omega
theorem tm_As (hA : dm_Al al x0 x1) {H : Heap} (hx : x0 ≤ H.size) : ∀ q, am_A al H.size q → x0 ≤ q := by
  intro q z
  rcases z with ⟨k, h1, rfl⟩ | z
  · have h1 : k < 193 := h1
    rw [hA.1 k h1]
    omega
  · omega

end TM5
