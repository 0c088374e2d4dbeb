/-! ===== the texts as lists of bytes ===== -/
section TE0
variable {S S' S1 S2 : dm_S} {a b n0 m m' v c x z x' z' : Nat} {L M : List Nat} {X : tm_X} {N : Nat}
def te_CL : List (List Nat) := [[32], [117], [115], [115, 101, 116, 32, 119, 97, 105, 116, 32], [59], [115, 101, 115, 115, 105, 111, 110, 32], [117, 115, 101, 114, 32], [115, 101, 116, 32, 115, 104, 114, 105, 110, 107, 32]]
def te_C (i : Nat) : List Nat := te_CL.getD i []
theorem te_Cs : ∀ i, i < 8 → tm_sl i = (te_C i).length ∧ (te_C i).length ≤ 11 ∧ ∀ j, j < (te_C i).length → tm_sb i j = am_z (((te_C i).getD j 0 : Nat) : Int) := by decide +kernel
def te_g (S : dm_S) (v : Nat) (L : List Nat) : Prop := ∀ j, j < L.length → dm_g S v j = am_z ((L.getD j 0 : Nat) : Int)
/-- a string of the law's own: its number and that of its bytes lie below m -/
def te_S (S : dm_S) (m a : Nat) (L : List Nat) : Prop := ∃ v, a < m ∧ v < m ∧ dm_ok S 5 a = true ∧ dm_g S a 0 = am_z (v : Int) ∧ dm_g S a 1 = 0 ∧ dm_ok S 4 v = true ∧ dm_len S v = L.length ∧ te_g S v L
/-- a string: a constant, or one of the law's own -/
def te_T (S : dm_S) (m a : Nat) (L : List Nat) : Prop := (∃ i, i < 8 ∧ a = 900 + i ∧ L = te_C i) ∨ te_S S m a L
/-- a builder that holds these bytes; all of it is new since n0 -/
def te_B (S : dm_S) (n0 a v c : Nat) (L : List Nat) : Prop := n0 ≤ a ∧ n0 ≤ v ∧ dm_ok S 6 a = true ∧ dm_g S a 0 = am_z (v : Int) ∧ dm_g S a 1 = 0 ∧ dm_g S a 3 = am_z (L.length : Int) ∧ dm_ok S 4 v = true ∧ dm_len S v = c ∧ L.length ≤ c ∧ c ≤ 2000 ∧ te_g S v L
/-- what is older than n0 stays as it is; so many cells and slots are new -/
def te_G (n0 x z : Nat) (S S' : dm_S) : Prop := dm_n S ≤ dm_n S' ∧ dm_n S' ≤ dm_n S + x ∧ dm_zz S' ≤ dm_zz S + z ∧ (∀ b, b < dm_n S → dm_k S' b = dm_k S b) ∧ ∀ b, b < n0 → dm_g S' b = dm_g S b
def te_F (n0 x z : Nat) (S S' : dm_S) : Prop := dm_h S' = dm_h S ∧ te_G n0 x z S S'
theorem te_F0 : te_F n0 0 0 S S := ⟨rfl, Nat.le_refl _, Nat.le_refl _, Nat.le_refl _, fun _ _ => rfl, fun _ _ => rfl⟩
theorem te_Ft (f : te_F n0 x z S S1) (g : te_F n0 x' z' S1 S2) : te_F n0 (x + x') (z + z') S S2 := by
  obtain ⟨f1, f2, f3, f4, f5, f6⟩ := f
  obtain ⟨g1, g2, g3, g4, g5, g6⟩ := g
  exact ⟨g1.trans f1, by omega, by omega, by omega, fun b hb => (g5 b (by omega)).trans (f5 b hb), fun b hb => (g6 b hb).trans (f6 b hb)⟩
theorem te_Fw (h : n0 ≤ m) (f : te_F m x z S S1) : te_F n0 x z S S1 := ⟨f.1, f.2.1, f.2.2.1, f.2.2.2.1, f.2.2.2.2.1, fun b hb => f.2.2.2.2.2 b (by omega)⟩
theorem te_Fm (hx : x ≤ x') (hz : z ≤ z') (f : te_F n0 x z S S1) : te_F n0 x' z' S S1 := ⟨f.1, f.2.1, by have := f.2.2.1; omega, by have := f.2.2.2.1; omega, f.2.2.2.2⟩
theorem te_okk {kd : Nat} (h : dm_ok S kd a = true) (hn : dm_n S ≤ dm_n S1) (hk : dm_k S1 a = dm_k S a) : dm_ok S1 kd a = true := by
  obtain ⟨h1, h2, h3⟩ := dm_ok_s h
  exact dv_okm (by rw [hk]; exact h1) h2 (by omega)
theorem te_T_m (hm : m ≤ m') (h : te_T S m a L) : te_T S m' a L := by
  rcases h with h | ⟨v, h1, h2, h3⟩
  · exact Or.inl h
  · exact Or.inr ⟨v, by omega, by omega, h3⟩
theorem te_S_G (h : te_S S m a L) (f : te_G m x z S S1) : te_S S1 m a L := by
  obtain ⟨v, h1, h2, h3, h4, h5, h6, h7, h8⟩ := h
  obtain ⟨f2, f3, f4, f5, f6⟩ := f
  have ka := f5 a (dm_ok_s h3).2.2
  have kv := f5 v (dm_ok_s h6).2.2
  refine ⟨v, h1, h2, te_okk h3 f2 ka, by rw [f6 a h1]; exact h4, by rw [f6 a h1]; exact h5, te_okk h6 f2 kv, by unfold dm_len at h7 ⊢; rw [kv]; exact h7, fun j hj => ?_⟩
  rw [f6 v h2]
  exact h8 j hj
theorem te_S_m (hm : m ≤ m') (h : te_S S m a L) : te_S S m' a L := by
  obtain ⟨v, h1, h2, h3⟩ := h
  exact ⟨v, by omega, by omega, h3⟩
theorem te_T_F (h : te_T S m a L) (f : te_F m x z S S1) : te_T S1 m a L := by
  rcases h with h | h
  · exact Or.inl h
  · exact Or.inr (te_S_G h f.2)
theorem te_Gt (f : te_G n0 x z S S1) (g : te_G n0 x' z' S1 S2) : te_G n0 (x + x') (z + z') S S2 := by
  obtain ⟨f2, f3, f4, f5, f6⟩ := f
  obtain ⟨g2, g3, g4, g5, g6⟩ := g
  exact ⟨by omega, by omega, by omega, fun b hb => (g5 b (by omega)).trans (f5 b hb), fun b hb => (g6 b hb).trans (f6 b hb)⟩
theorem te_Gw (h : n0 ≤ m) (f : te_G m x z S S1) : te_G n0 x z S S1 := ⟨f.1, f.2.1, f.2.2.1, f.2.2.2.1, fun b hb => f.2.2.2.2 b (by omega)⟩
theorem te_Gm (hx : x ≤ x') (hz : z ≤ z') (f : te_G n0 x z S S1) : te_G n0 x' z' S S1 := ⟨f.1, by have := f.2.1; omega, by have := f.2.2.1; omega, f.2.2.2⟩
/-- a string stays as it is when nothing but a builder is written -/
theorem te_T_k (h : te_T S m a L) (hn : dm_n S ≤ dm_n S1) (hb : (dm_k S b).1 = 6) (hk : ∀ y, y < dm_n S → dm_k S1 y = dm_k S y) (hg : ∀ y, y < dm_n S → y ≠ b → dm_g S1 y = dm_g S y) : te_T S1 m a L := by
  rcases h with h | ⟨v, h1, h2, h3, h4, h5, h6, h7, h8⟩
  · exact Or.inl h
  · have oa := dm_ok_s h3
    have ov := dm_ok_s h6
    have na : a ≠ b := fun e => by have := oa.1; rw [e, hb] at this; cases this
    have nv : v ≠ b := fun e => by have := ov.1; rw [e, hb] at this; cases this
    refine Or.inr ⟨v, h1, h2, te_okk h3 hn (hk _ oa.2.2), by rw [hg a oa.2.2 na]; exact h4, by rw [hg a oa.2.2 na]; exact h5, te_okk h6 hn (hk _ ov.2.2), by unfold dm_len at h7 ⊢; rw [hk _ ov.2.2]; exact h7, fun j hj => ?_⟩
    rw [hg v ov.2.2 nv]
    exact h8 j hj
theorem te_B_F (h : te_B S n0 a v c L) (f : te_F (dm_n S) x z S S1) : te_B S1 n0 a v c L := by
  obtain ⟨h1, h2, h3, h4, h5, h6, h7, h8, h9, h10, h11⟩ := h
  obtain ⟨f1, f2, f3, f4, f5, f6⟩ := f
  have la := (dm_ok_s h3).2.2
  have lv := (dm_ok_s h7).2.2
  refine ⟨h1, h2, te_okk h3 f2 (f5 a la), by rw [f6 a la]; exact h4, by rw [f6 a la]; exact h5, by rw [f6 a la]; exact h6, te_okk h7 f2 (f5 v lv), by unfold dm_len at h8 ⊢; rw [f5 v lv]; exact h8, h9, h10, fun j hj => ?_⟩
  rw [f6 v lv]
  exact h11 j hj
-- ---- small words
theorem te_10 : ¬ ((1 : Int32) = 0) := by decide
theorem te_lt0 : ((0 : Int32) < 0) = False := eq_false (by decide)
theorem te_t0 : (0 : Int32).toNatClampNeg = 0 := by decide
theorem te_a0 : ((0 : Int32) &&& 31) = 0 := by decide
theorem te_sr (y : Int32) : y >>> ((0 : Int32) &&& 31) = y := by
  rw [te_a0]
  exact Int32.shiftRight_zero
theorem te_sl (y : Int32) : y <<< ((0 : Int32) &&& 31) = y := by
  rw [te_a0]
  exact Int32.shiftLeft_zero
theorem te_cs {i : Nat} (h : i < 8) : tm_cs (900 + i) = true := by
  unfold tm_cs
  rw [Bool.and_eq_true]
  exact ⟨Nat.ble_eq.mpr (by omega), Nat.blt_eq.mpr (by omega)⟩
theorem te_cb {i : Nat} (h : i < 8) : tm_cb (900 + i + 20) = true := by
  unfold tm_cb
  rw [Bool.and_eq_true]
  exact ⟨Nat.ble_eq.mpr (by omega), Nat.blt_eq.mpr (by omega)⟩
theorem te_ncs (h : 1000 ≤ a) : tm_cs a = false := by
  unfold tm_cs
  rw [Bool.and_eq_false_iff]
  exact Or.inr (Bool.eq_false_iff.mpr (fun z => by have := Nat.blt_eq.mp z; omega))
theorem te_ncb (h : 1000 ≤ a) : tm_cb a = false := by
  unfold tm_cb
  rw [Bool.and_eq_false_iff]
  exact Or.inr (Bool.eq_false_iff.mpr (fun z => by have := Nat.blt_eq.mp z; omega))
theorem te_nbq {y : Nat} (h : 1000 ≤ a) (hy : y < 1000) : Nat.beq a y = false := Bool.eq_false_iff.mpr (fun z => by have := Nat.eq_of_beq_eq_true z; omega)
theorem te_ri8 (y : Int32) : tm_ri 8 y = true := rfl
theorem te_ri19 (y : Int32) : tm_ri 19 y = true := rfl
theorem te_ri20 (y : Int32) : tm_ri 20 y = true := rfl
theorem te_ri21 (y : Int32) : tm_ri 21 y = true := rfl
theorem te_ri22 (y : Int32) : tm_ri 22 y = true := rfl
theorem te_ri27 (y : Int32) : tm_ri 27 y = true := rfl
theorem te_ri29 (y : Int32) : tm_ri 29 y = true := rfl
theorem te_ri30 (y : Int32) : tm_ri 30 y = true := rfl
theorem te_ri37 (y : Int32) : tm_ri 37 y = true := rfl
theorem te_ri38 (y : Int32) : tm_ri 38 y = true := rfl
theorem te_ri0 (y : Int32) : tm_ri 0 y = true := rfl
theorem te_ri1 (y : Int32) : tm_ri 1 y = true := rfl
theorem te_ri2 (y : Int32) : tm_ri 2 y = true := rfl
theorem te_ri3 (y : Int32) : tm_ri 3 y = true := rfl
theorem te_ri4 (y : Int32) : tm_ri 4 y = true := rfl
theorem te_ri5 (y : Int32) : tm_ri 5 y = true := rfl
theorem te_ri28 : tm_ri 28 0 = true := by decide +kernel
theorem te_ri31 : tm_ri 31 1 = true := by decide +kernel
theorem te_ri32 : tm_ri 32 1 = true := by decide +kernel
theorem te_ri43 : tm_ri 43 1 = true := by decide +kernel
theorem te_lti {x y : Int} (h1 : -2147483648 ≤ x) (h2 : x < 2147483648) (h3 : -2147483648 ≤ y) (h4 : y < 2147483648) (h : ¬ x < y) : ¬ (am_z x < am_z y) := by rw [am_z_lt h1 h2 h3 h4]; exact h
theorem te_lei {x y : Int} (h1 : -2147483648 ≤ x) (h2 : x < 2147483648) (h3 : -2147483648 ≤ y) (h4 : y < 2147483648) (h : ¬ x ≤ y) : ¬ (am_z x ≤ am_z y) := by rw [am_z_le h1 h2 h3 h4]; exact h
theorem te_lej {x y : Int} (h1 : -2147483648 ≤ x) (h2 : x < 2147483648) (h3 : -2147483648 ≤ y) (h4 : y < 2147483648) (h : x ≤ y) : am_z x ≤ am_z y := by rw [am_z_le h1 h2 h3 h4]; exact h
theorem te_eqi {x y : Int} (h1 : -2147483648 ≤ x) (h2 : x < 2147483648) (h3 : -2147483648 ≤ y) (h4 : y < 2147483648) (h : ¬ x = y) : ¬ (am_z x = am_z y) := by rw [am_z_eq h1 h2 h3 h4]; exact h
theorem te_nk {q : Nat × Nat × Nat} {f : Nat → Int32} : dm_k (dm_nw S q f z) b = if b = dm_n S then q else dm_k S b := rfl
theorem te_ng {q : Nat × Nat × Nat} {f : Nat → Int32} {j : Nat} : dm_g (dm_nw S q f z) b j = if b = dm_n S then f j else dm_g S b j := rfl
theorem te_cg {f : Nat → Int32} {sp dp n j : Nat} : dm_g (tm_cp S a f sp dp n) b j = if b = a ∧ dp ≤ j ∧ j < dp + n then f (sp + (j - dp)) else dm_g S b j := rfl
theorem te_cg2 {f : Nat → Int32} {sp dp n : Nat} (h : b ≠ a) : dm_g (tm_cp S a f sp dp n) b = dm_g S b := by
  funext j
  rw [te_cg, if_neg (fun q => h q.1)]
theorem te_gaL {j : Nat} (h : j < L.length) : (L ++ M).getD j 0 = L.getD j 0 := by
  rw [List.getD_eq_getElem?_getD, List.getD_eq_getElem?_getD, List.getElem?_append_left h]
theorem te_gaR {j : Nat} (h : L.length ≤ j) : (L ++ M).getD j 0 = M.getD (j - L.length) 0 := by
  rw [List.getD_eq_getElem?_getD, List.getD_eq_getElem?_getD, List.getElem?_append_right h]
-- ---- lengths
theorem te_coder (h : te_T S m a L) : e_T_coder X N a S = some ((0 : Int32), S) := by
  unfold e_T_coder
  rw [if_neg te_10]
  rcases h with ⟨i, hi, rfl, -⟩ | ⟨v, -, -, h1, -, h2, -⟩
  · rw [te_cs hi, cond_true, te_ri28, cond_true]
  · rw [te_ncs (dm_ok_s h1).2.1, cond_false, h1, cond_true, h2, te_ri28, cond_true]
theorem te_tok (h : te_T S m a L) : (tm_cs a || dm_ok S 5 a) = true := by
  rcases h with ⟨i, hi, rfl, -⟩ | ⟨v, -, -, h1, -⟩
  · rw [te_cs hi, Bool.true_or]
  · rw [h1, Bool.or_true]
theorem te_len (h : te_T S m a L) (hb : dm_n S < dm_bg) : e_T_strLen X N a S = some (am_z (L.length : Int), S) := by
  have hc := te_coder (X := X) (N := N) h
  unfold e_T_strLen
  rcases h with ⟨i, hi, rfl, rfl⟩ | ⟨v, -, -, h1, h0, h2, h3, h4, -⟩
  · have e : 900 + i + 20 - 920 = i := by omega
    simp only [te_cs hi, cond_true, te_cb hi, Bool.true_or, hc, dv_bi, e, te_sr, te_ri27, (te_Cs i hi).1, am_z_nat]
  · obtain ⟨-, a1, a2⟩ := dm_ok_s h1
    obtain ⟨-, v1, v2⟩ := dm_ok_s h3
    have q1 : v < dm_bg := by omega
    simp only [te_ncs a1, cond_false, h1, cond_true, h0, dv_nn q1, if_false, dv_cl q1, te_ncb v1, te_nbq v1 (show 950 < 1000 by decide), h3, Bool.or_true, hc, dv_bi, h4, te_sr, te_ri27, am_z_nat]
-- ---- a new builder
theorem te_r4 : tm_r4 S 10 [.ref a] = dm_ok S 6 a ∧ ∀ y : Value, tm_r4 S 11 [.ref a, y] = dm_ok S 6 a := by
  refine ⟨?_, fun y => ?_⟩
  · unfold tm_r4
    rw [show decide (tm_own 10 = "java/lang/String") = false by decide +kernel]
    rfl
  · unfold tm_r4
    rw [show decide (tm_own 11 = "java/lang/String") = false by decide +kernel]
    rfl
theorem te_new (hn : 1000 ≤ dm_n S) (hb : dm_n S + 8000 < dm_bg) : Nat.blt (dm_n S + 2000) dm_bg = true ∧ tm_r4 (dm_nw S (6, 12, 4) (fun j => if j = 0 then am_z (-1) else 0) 4) 10 [.ref (dm_n S)] = true ∧
    ∃ S', e_T_SBinit X N (dm_n S) (dm_nw S (6, 12, 4) (fun j => if j = 0 then am_z (-1) else 0) 4) = some ((), S') ∧ te_B S' (dm_n S) (dm_n S) (dm_n S + 1) 16 [] ∧ te_F (dm_n S) 2 20 S S' := by
  have o1 : dm_ok (dm_nw S (6, 12, 4) (fun j => if j = 0 then am_z (-1) else 0) 4) 6 (dm_n S) = true := dv_okm (by rw [te_nk, if_pos rfl]) hn (Nat.lt_succ_self _)
  have n1 : dm_n (dm_nw S (6, 12, 4) (fun j => if j = 0 then am_z (-1) else 0) 4) = dm_n S + 1 := rfl
  have z1 : dm_zz (dm_nw S (6, 12, 4) (fun j => if j = 0 then am_z (-1) else 0) 4) = dm_zz S + 4 := rfl
  have h1 : dm_h (dm_nw S (6, 12, 4) (fun j => if j = 0 then am_z (-1) else 0) 4) = dm_h S := rfl
  have k1 : ∀ b, b ≠ dm_n S → dm_k (dm_nw S (6, 12, 4) (fun j => if j = 0 then am_z (-1) else 0) 4) b = dm_k S b ∧ dm_g (dm_nw S (6, 12, 4) (fun j => if j = 0 then am_z (-1) else 0) 4) b = dm_g S b := fun b hb => ⟨if_neg hb, by funext j; exact if_neg hb⟩
  have g3 : dm_g (dm_nw S (6, 12, 4) (fun j => if j = 0 then am_z (-1) else 0) 4) (dm_n S) 3 = 0 := by
    rw [te_ng, if_pos rfl]; rfl
  refine ⟨Nat.blt_eq.mpr (by omega), te_r4.1.trans o1, ?_⟩
  generalize dm_nw S (6, 12, 4) (fun j => if j = 0 then am_z (-1) else 0) 4 = P at *
  have o2 : dm_ok (dm_nw P (4, 7, 16) (fun _ => 0) 16) 4 (dm_n P) = true := dv_okm (by rw [te_nk, if_pos rfl]) (by omega) (Nat.lt_succ_self _)
  have hne : dm_n S ≠ dm_n P := by omega
  have o3 : dm_ok (dm_nw P (4, 7, 16) (fun _ => 0) 16) 6 (dm_n S) = true := te_okk o1 (Nat.le_succ _) (by rw [te_nk, if_neg hne])
  have hl : dm_n P < dm_bg := by omega
  refine ⟨dm_wr (dm_wr (dm_nw P (4, 7, 16) (fun _ => 0) 16) (dm_n S) 0 (am_z ((dm_n P : Nat) : Int))) (dm_n S) 1 0, ?_, ?_, ?_⟩
  · unfold e_T_SBinit e_T_ASBinit
    have t16 : (16 : Int32).toNatClampNeg = 16 := by decide
    have b16 : Nat.ble 16 100000 = true := by decide
    have l16 : ((16 : Int32) < 0) = False := eq_false (by decide)
    rw [te_r4.2, o1, cond_true, Bool.or_true, cond_true, if_neg te_10]
    simp only [l16, if_false, t16, b16, cond_true, o3, o2, dv_blt hl, Bool.and_true, dv_ok_wr, decide_true, dv_bi]
  · refine ⟨Nat.le_refl _, by omega, o3, ?_, ?_, ?_, ?_, ?_, Nat.zero_le _, by decide, fun j hj => absurd hj (Nat.not_lt_zero _)⟩
    · rw [dv_g_w2 (by decide), dv_g_w1, n1]
    · rw [dv_g_w1]
    · rw [dv_g_w2 (by decide), dv_g_w2 (by decide), te_ng, if_neg hne, g3]
      rfl
    · rw [← n1]; exact o2
    · rw [← n1]
      unfold dm_len
      rw [dv_k_wr, dv_k_wr, te_nk, if_pos rfl]
  · refine ⟨h1, ?_, ?_, ?_, fun b hb9 => ?_, fun b hb9 => ?_⟩
    · show dm_n S ≤ dm_n P + 1
      omega
    · show dm_n P + 1 ≤ dm_n S + 2
      omega
    · show dm_zz P + 16 ≤ dm_zz S + 20
      omega
    · rw [dv_k_wr, dv_k_wr, te_nk, if_neg (by omega), (k1 b (by omega)).1]
    · rw [dv_g_w3 (by omega), dv_g_w3 (by omega)]
      funext j
      rw [te_ng, if_neg (by omega), (k1 b (by omega)).2]
end TE0
