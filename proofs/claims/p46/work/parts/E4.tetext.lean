section TE4
variable {S S' S1 S2 : dm_S} {a b n0 m v c : Nat} {L M : List Nat} {X : tm_X} {N : Nat}
theorem te_p1 (i : Nat) : am_z (i : Int) + (1 : Int32) = am_z ((i + 1 : Nat) : Int) := am_z_add (i : Int) 1
/-- a statement that declares something -/
def te_st (k : Nat) (C : List Nat) (i w h : Nat) : List Nat := te_C k ++ ((C ++ [97 + i]) ++ (te_C 0 ++ (te_d w ++ (te_C 0 ++ (te_d h ++ te_C 4)))))
def te_ls (k : Nat) (C : List Nat) (W : Nat → Nat × Nat) : Nat → Nat → List Nat
  | _, 0 => []
  | i, n + 1 => te_st k C i (W i).1 (W i).2 ++ te_ls k C W (i + 1) n
def te_txt (k : Nat) (W : Nat → Nat × Nat) (nS : Nat) (V : Nat → Nat × Nat) (nU z : Nat) : List Nat := (te_C 3 ++ (te_d k ++ te_C 4)) ++ (te_ls 5 [115] W 0 nS ++ (te_ls 6 [117] V 0 nU ++ (te_C 7 ++ (te_d z ++ te_C 4))))
theorem te_Cl : (te_C 0).length = 1 ∧ (te_C 1).length = 1 ∧ (te_C 2).length = 1 ∧ (te_C 3).length = 9 ∧ (te_C 4).length = 1 ∧ (te_C 5).length = 8 ∧ (te_C 6).length = 5 ∧ (te_C 7).length = 11 := by decide
theorem te_stl {k : Nat} {C : List Nat} {i w h : Nat} (hk : k = 5 ∨ k = 6) (hC : C.length = 1) : (te_st k C i w h).length ≤ 20 := by
  obtain ⟨c0, c1, c2, c3, c4, c5, c6, c7⟩ := te_Cl
  have d1 := te_dl (x := w)
  have d2 := te_dl (x := h)
  unfold te_st
  simp only [List.length_append, List.length_cons, List.length_nil]
  rcases hk with rfl | rfl <;> omega
theorem te_cT {k : Nat} (hk : k < 8) : te_T S m (900 + k) (te_C k) := Or.inl ⟨k, hk, rfl, rfl⟩
def te_nb (S : dm_S) : dm_S := dm_nw S (6, 12, 4) (fun j => if j = 0 then am_z (-1) else 0) 4
/-- the calls that build a statement behind a text -/
def te_Ch (X : tm_X) (N : Nat) (q : Int32) (i : Nat) (k w h t : Nat) (S : dm_S) (r : Nat) (S' : dm_S) : Prop :=
  ∃ S1 S2 S3 S4 S5 S6 S7 S8 S9 S10 nm, Nat.blt (dm_n S + 2000) dm_bg = true ∧ tm_r4 (te_nb S) 10 [.ref (dm_n S)] = true ∧ e_T_SBinit X N (dm_n S) (te_nb S) = some ((), S1) ∧ dm_ok S1 6 (dm_n S) = true ∧ e_T_SBappS X N (dm_n S) t S1 = some (dm_n S, S2) ∧ dm_ok S2 6 (dm_n S) = true ∧ e_T_SBappS X N (dm_n S) (900 + k) S2 = some (dm_n S, S3) ∧ e_T_name X N q (am_z (i : Int)) S3 = some (nm, S4) ∧ dm_ok S4 6 (dm_n S) = true ∧
    e_T_SBappS X N (dm_n S) nm S4 = some (dm_n S, S5) ∧ dm_ok S5 6 (dm_n S) = true ∧ e_T_SBappS X N (dm_n S) 900 S5 = some (dm_n S, S6) ∧ dm_ok S6 6 (dm_n S) = true ∧ e_T_SBappI X N (dm_n S) (am_z (w : Int)) S6 = some (dm_n S, S7) ∧ dm_ok S7 6 (dm_n S) = true ∧ e_T_SBappS X N (dm_n S) 900 S7 = some (dm_n S, S8) ∧ dm_ok S8 6 (dm_n S) = true ∧
    e_T_SBappI X N (dm_n S) (am_z (h : Int)) S8 = some (dm_n S, S9) ∧ dm_ok S9 6 (dm_n S) = true ∧ e_T_SBappS X N (dm_n S) 904 S9 = some (dm_n S, S10) ∧ dm_ok S10 6 (dm_n S) = true ∧ e_T_toStr X N (dm_n S) S10 = some (r, S')
theorem te_ch {q : Int32} {C T : List Nat} {i k w h t : Nat} (hN : 100 ≤ N) (hq : (q = 0 ∧ C = [115]) ∨ (q = 1 ∧ C = [117])) (hk : k = 5 ∨ k = 6) (hi : i < 20) (hw : w < 100) (hh : h < 100) (hT : te_T S (dm_n S) t T) (hl : T.length ≤ 800) (hn : 1000 ≤ dm_n S) (hb : dm_n S + 10000 < dm_bg) : ∃ r S', te_Ch X N q i k w h t S r S' ∧ te_T S' (dm_n S') r (T ++ te_st k C i w h) ∧ te_F (dm_n S) 20 25000 S S' := by
  obtain ⟨z0, z1, z2, z3, z4, z5, z6, z7⟩ := te_Cl
  have d1 := te_dl (x := w)
  have d2 := te_dl (x := h)
  have cl : C.length = 1 := by rcases hq with ⟨-, h⟩ | ⟨-, h⟩ <;> rw [h] <;> rfl
  have ck : (te_C k).length ≤ 8 := by rcases hk with rfl | rfl <;> omega
  obtain ⟨t1, t2, S1, t3, B1, F1⟩ := te_new (X := X) (N := N) hn (show dm_n S + 8000 < dm_bg by omega)
  have n1 := F1.2.1; have m1 := F1.2.2.1
  obtain ⟨S2, v2, c2, a2, B2, F2⟩ := te_app (X := X) (N := N) (te_T_F hT F1) B1 (by simp only [List.length_nil]; omega) (by omega) (by omega)
  have n2 := F2.2.1; have m2 := F2.2.2.1
  obtain ⟨S3, v3, c3, a3, B3, F3⟩ := te_app (X := X) (N := N) (m := 0) (te_cT (show k < 8 by omega)) B2 (by simp only [List.length_append, List.length_nil]; omega) (by omega) (by omega)
  have n3 := F3.2.1; have m3 := F3.2.2.1
  obtain ⟨nm, S4, a4, T4, F4⟩ := te_name (X := X) (N := N) (S := S3) (i := i) hq hi (by omega) (by omega)
  have n4 := F4.2.1; have m4 := F4.2.2.1
  have B4 := te_B_F B3 F4
  obtain ⟨S5, v5, c5, a5, B5, F5⟩ := te_app (X := X) (N := N) T4 B4 (by simp only [List.length_append, List.length_nil, List.length_cons]; omega) (by omega) (by omega)
  have n5 := F5.2.1; have m5 := F5.2.2.1
  obtain ⟨S6, v6, c6, a6, B6, F6⟩ := te_app (X := X) (N := N) (m := 0) (te_cT (show 0 < 8 by decide)) B5 (by simp only [List.length_append, List.length_nil, List.length_cons]; omega) (by omega) (by omega)
  have n6 := F6.2.1; have m6 := F6.2.2.1
  obtain ⟨S7, v7, c7, a7, B7, F7⟩ := te_int (X := X) (N := N) hN hw B6 (by simp only [List.length_append, List.length_nil, List.length_cons]; omega) (by omega) (by omega)
  have n7 := F7.2.1; have m7 := F7.2.2.1
  obtain ⟨S8, v8, c8, a8, B8, F8⟩ := te_app (X := X) (N := N) (m := 0) (te_cT (show 0 < 8 by decide)) B7 (by simp only [List.length_append, List.length_nil, List.length_cons]; omega) (by omega) (by omega)
  have n8 := F8.2.1; have m8 := F8.2.2.1
  obtain ⟨S9, v9, c9, a9, B9, F9⟩ := te_int (X := X) (N := N) hN hh B8 (by simp only [List.length_append, List.length_nil, List.length_cons]; omega) (by omega) (by omega)
  have n9 := F9.2.1; have m9 := F9.2.2.1
  obtain ⟨S10, v10, c10, a10, B10, F10⟩ := te_app (X := X) (N := N) (m := 0) (te_cT (show 4 < 8 by decide)) B9 (by simp only [List.length_append, List.length_nil, List.length_cons]; omega) (by omega) (by omega)
  have n10 := F10.2.1; have m10 := F10.2.2.1
  obtain ⟨r, S11, a11, T11, F11⟩ := te_str (X := X) (N := N) B10 (by omega)
  refine ⟨r, S11, ⟨S1, S2, S3, S4, S5, S6, S7, S8, S9, S10, nm, t1, t2, t3, B1.2.2.1, a2, B2.2.2.1, a3, a4, B4.2.2.1, a5, B5.2.2.1, a6, B6.2.2.1, a7, B7.2.2.1, a8, B8.2.2.1, a9, B9.2.2.1, a10, B10.2.2.1, a11⟩, ?_, ?_⟩
  · have e : T ++ te_st k C i w h = [] ++ T ++ te_C k ++ (C ++ [97 + i]) ++ te_C 0 ++ te_d w ++ te_C 0 ++ te_d h ++ te_C 4 := by
      unfold te_st
      simp only [List.append_assoc, List.nil_append]
    rw [e]
    exact Or.inr T11
  · exact te_Fm (by decide) (by decide) (te_Ft (te_Ft (te_Ft (te_Ft (te_Ft (te_Ft (te_Ft (te_Ft (te_Ft (te_Ft F1 F2) F3) (te_Fw (by omega) F4)) F5) F6) F7) F8) F9) F10) (te_Fw (by omega) F11))
/-- the calls that build the last and the first statement -/
def te_Cf (X : tm_X) (N : Nat) (k w : Nat) (t : Option Nat) (S : dm_S) (r : Nat) (S' : dm_S) : Prop :=
  ∃ S1 S2 S3 S4 S5, Nat.blt (dm_n S + 2000) dm_bg = true ∧ tm_r4 (te_nb S) 10 [.ref (dm_n S)] = true ∧ e_T_SBinit X N (dm_n S) (te_nb S) = some ((), S1) ∧ dm_ok S1 6 (dm_n S) = true ∧ (match t with
    | some t => e_T_SBappS X N (dm_n S) t S1 = some (dm_n S, S2)
    | none => S2 = S1) ∧ dm_ok S2 6 (dm_n S) = true ∧ e_T_SBappS X N (dm_n S) (900 + k) S2 = some (dm_n S, S3) ∧ dm_ok S3 6 (dm_n S) = true ∧ e_T_SBappI X N (dm_n S) (am_z (w : Int)) S3 = some (dm_n S, S4) ∧ dm_ok S4 6 (dm_n S) = true ∧ e_T_SBappS X N (dm_n S) 904 S4 = some (dm_n S, S5) ∧ dm_ok S5 6 (dm_n S) = true ∧ e_T_toStr X N (dm_n S) S5 = some (r, S')
theorem te_cf0 {k w : Nat} (hN : 100 ≤ N) (hk : k < 8) (hw : w < 100) (hn : 1000 ≤ dm_n S) (hb : dm_n S + 10000 < dm_bg) : ∃ r S', te_Cf X N k w none S r S' ∧ te_T S' (dm_n S') r (te_C k ++ (te_d w ++ te_C 4)) ∧ te_F (dm_n S) 20 25000 S S' := by
  obtain ⟨z0, z1, z2, z3, z4, z5, z6, z7⟩ := te_Cl
  have d1 := te_dl (x := w)
  have ck := (te_Cs k hk).2.1
  obtain ⟨t1, t2, S1, t3, B1, F1⟩ := te_new (X := X) (N := N) hn (show dm_n S + 8000 < dm_bg by omega)
  have n1 := F1.2.1; have m1 := F1.2.2.1
  obtain ⟨S3, v3, c3, a3, B3, F3⟩ := te_app (X := X) (N := N) (m := 0) (te_cT hk) B1 (by simp only [List.length_nil]; omega) (by omega) (by omega)
  have n3 := F3.2.1; have m3 := F3.2.2.1
  obtain ⟨S4, v4, c4, a4, B4, F4⟩ := te_int (X := X) (N := N) hN hw B3 (by simp only [List.length_append, List.length_nil]; omega) (by omega) (by omega)
  have n4 := F4.2.1; have m4 := F4.2.2.1
  obtain ⟨S5, v5, c5, a5, B5, F5⟩ := te_app (X := X) (N := N) (m := 0) (te_cT (show 4 < 8 by decide)) B4 (by simp only [List.length_append, List.length_nil]; omega) (by omega) (by omega)
  have n5 := F5.2.1; have m5 := F5.2.2.1
  obtain ⟨r, S6, a6, T6, F6⟩ := te_str (X := X) (N := N) B5 (by omega)
  refine ⟨r, S6, ⟨S1, S1, S3, S4, S5, t1, t2, t3, B1.2.2.1, rfl, B1.2.2.1, a3, B3.2.2.1, a4, B4.2.2.1, a5, B5.2.2.1, a6⟩, ?_, te_Fm (by decide) (by decide) (te_Ft (te_Ft (te_Ft (te_Ft F1 F3) F4) F5) (te_Fw (by omega) F6))⟩
  have e : te_C k ++ (te_d w ++ te_C 4) = [] ++ te_C k ++ te_d w ++ te_C 4 := by simp only [List.append_assoc, List.nil_append]
  rw [e]
  exact Or.inr T6
theorem te_cf1 {k w t : Nat} {T : List Nat} (hN : 100 ≤ N) (hk : k < 8) (hw : w < 100) (hT : te_T S (dm_n S) t T) (hl : T.length ≤ 800) (hn : 1000 ≤ dm_n S) (hb : dm_n S + 10000 < dm_bg) : ∃ r S', te_Cf X N k w (some t) S r S' ∧ te_S S' (dm_n S') r (T ++ (te_C k ++ (te_d w ++ te_C 4))) ∧ te_F (dm_n S) 20 25000 S S' := by
  obtain ⟨z0, z1, z2, z3, z4, z5, z6, z7⟩ := te_Cl
  have d1 := te_dl (x := w)
  have ck := (te_Cs k hk).2.1
  obtain ⟨t1, t2, S1, t3, B1, F1⟩ := te_new (X := X) (N := N) hn (show dm_n S + 8000 < dm_bg by omega)
  have n1 := F1.2.1; have m1 := F1.2.2.1
  obtain ⟨S2, v2, c2, a2, B2, F2⟩ := te_app (X := X) (N := N) (te_T_F hT F1) B1 (by simp only [List.length_nil]; omega) (by omega) (by omega)
  have n2 := F2.2.1; have m2 := F2.2.2.1
  obtain ⟨S3, v3, c3, a3, B3, F3⟩ := te_app (X := X) (N := N) (m := 0) (te_cT hk) B2 (by simp only [List.length_append, List.length_nil]; omega) (by omega) (by omega)
  have n3 := F3.2.1; have m3 := F3.2.2.1
  obtain ⟨S4, v4, c4, a4, B4, F4⟩ := te_int (X := X) (N := N) hN hw B3 (by simp only [List.length_append, List.length_nil]; omega) (by omega) (by omega)
  have n4 := F4.2.1; have m4 := F4.2.2.1
  obtain ⟨S5, v5, c5, a5, B5, F5⟩ := te_app (X := X) (N := N) (m := 0) (te_cT (show 4 < 8 by decide)) B4 (by simp only [List.length_append, List.length_nil]; omega) (by omega) (by omega)
  have n5 := F5.2.1; have m5 := F5.2.2.1
  obtain ⟨r, S6, a6, T6, F6⟩ := te_str (X := X) (N := N) B5 (by omega)
  refine ⟨r, S6, ⟨S1, S2, S3, S4, S5, t1, t2, t3, B1.2.2.1, a2, B2.2.2.1, a3, B3.2.2.1, a4, B4.2.2.1, a5, B5.2.2.1, a6⟩, ?_, te_Fm (by decide) (by decide) (te_Ft (te_Ft (te_Ft (te_Ft (te_Ft F1 F2) F3) F4) F5) (te_Fw (by omega) F6))⟩
  have e : T ++ (te_C k ++ (te_d w ++ te_C 4)) = [] ++ T ++ te_C k ++ te_d w ++ te_C 4 := by simp only [List.append_assoc, List.nil_append]
  rw [e]
  exact T6
-- ---- the loops
theorem te_110 {nU z : Nat} {V : Nat → Nat × Nat} (hN : 100 ≤ N) (hnU : nU ≤ 10) (hz : z < 100) (hU : ∀ S, e_T_users X N 950 S = some (am_z (nU : Int), S)) (hs : ∀ S, e_T_setting X N 950 (1 : Int32) S = some (am_z (z : Int), S)) (hV : ∀ i, (V i).1 < 100 ∧ (V i).2 < 100 ∧ (∀ S, e_T_size X N 950 (1 : Int32) (am_z ((i : Nat) : Int)) (0 : Int32) S = some (am_z ((V i).1 : Int), S)) ∧ ∀ S, e_T_size X N 950 (1 : Int32) (am_z ((i : Nat) : Int)) (1 : Int32) S = some (am_z ((V i).2 : Int), S)) :
    ∀ (k i n : Nat) (t : Nat) (T : List Nat) (S : dm_S), i + k = nU → k < n → te_T S (dm_n S) t T → T.length + 20 * k ≤ 700 → 1000 ≤ dm_n S → dm_n S + 10000 + 20 * k < dm_bg →
    ∃ r S', el_T_text_110 X N n 950 t (am_z (i : Int)) S = some (r, S') ∧ te_S S' (dm_n S') r (T ++ (te_ls 6 [117] V i k ++ (te_C 7 ++ (te_d z ++ te_C 4)))) ∧ te_F (dm_n S) (20 + 20 * k) (25000 + 25000 * k) S S'
  | k, i, 0, t, T, S, _, hx, _, _, _, _ => by omega
  | 0, i, n + 1, t, T, S, hi, _, hT, hl, hn, hb => by
    obtain ⟨r, S', ⟨S1, S2, S3, S4, S5, f1, f2, f3, f4, f5, f6, f7, f8, f9, f10, f11, f12, f13⟩, h2, h3⟩ := te_cf1 (X := X) (N := N) (k := 7) (w := z) hN (by decide) hz hT (by omega) hn (by omega)
    have f7 : e_T_SBappS X N (dm_n S) 907 S2 = some (dm_n S, S3) := f7
    have f5 : e_T_SBappS X N (dm_n S) t S1 = some (dm_n S, S2) := f5
    have f2 : tm_r4 (dm_nw S (6, 12, 4) (fun j => if j = 0 then am_z (-1) else 0) 4) 10 [.ref (dm_n S)] = true := f2
    have f3 : e_T_SBinit X N (dm_n S) (dm_nw S (6, 12, 4) (fun j => if j = 0 then am_z (-1) else 0) 4) = some ((), S1) := f3
    refine ⟨r, S', ?_, h2, te_Fm (by omega) (by omega) h3⟩
    rw [el_T_text_110]
    rw [hU, dv_bi, if_pos (te_lej (by omega) (by omega) (by omega) (by omega) (by omega)), f1, cond_true]
    show (bif tm_r4 (dm_nw S (6, 12, 4) (fun j => if j = 0 then am_z (-1) else 0) 4) 10 [.ref (dm_n S)] then dm_bi (e_T_SBinit X N (dm_n S) (dm_nw S (6, 12, 4) (fun j => if j = 0 then am_z (-1) else 0) 4)) _ else none) = _
    rw [f2, cond_true, f3, dv_bi]
    simp only [f4, cond_true, f5, dv_bi, f6, f7, hs, f8, f9, f10, f11, f12, f13]
  | k + 1, i, n + 1, t, T, S, hi, hx, hT, hl, hn, hb => by
    obtain ⟨v1, v2, v3, v4⟩ := hV i
    obtain ⟨r, S', ⟨S1, S2, S3, S4, S5, S6, S7, S8, S9, S10, nm, f1, f2, f3, f4, f5, f6, f7, f8, f9, f10, f11, f12, f13, f14, f15, f16, f17, f18, f19, f20, f21, f22⟩, h2, h3⟩ := te_ch (X := X) (N := N) (q := 1) (C := [117]) (i := i) (k := 6) (w := (V i).1) (h := (V i).2) hN (Or.inr ⟨rfl, rfl⟩) (Or.inr rfl) (by omega) v1 v2 hT (by omega) hn (by omega)
    have sl := te_stl (k := 6) (C := [117]) (i := i) (w := (V i).1) (h := (V i).2) (Or.inr rfl) rfl
    have g1 := h3.2.1
    have g2 := h3.2.2.1
    obtain ⟨r2, S2', e, k2, k3⟩ := te_110 hN hnU hz hU hs hV k (i + 1) n r (T ++ te_st 6 [117] i (V i).1 (V i).2) S' (by omega) (by omega) h2 (by rw [List.length_append]; omega) (by omega) (by omega)
    have F9 := te_Ft h3 (te_Fw g1 k3)
    have hx9 : 20 + (20 + 20 * k) ≤ 20 + 20 * (k + 1) := by omega
    have hz9 : 25000 + (25000 + 25000 * k) ≤ 25000 + 25000 * (k + 1) := by omega
    have F10 := te_Fm hx9 hz9 F9
    refine ⟨r2, S2', ?_, ?_, F10⟩
    · have f7 : e_T_SBappS X N (dm_n S) 906 S2 = some (dm_n S, S3) := f7
      have f2 : tm_r4 (dm_nw S (6, 12, 4) (fun j => if j = 0 then am_z (-1) else 0) 4) 10 [.ref (dm_n S)] = true := f2
      have f3 : e_T_SBinit X N (dm_n S) (dm_nw S (6, 12, 4) (fun j => if j = 0 then am_z (-1) else 0) 4) = some ((), S1) := f3
      rw [el_T_text_110]
      rw [hU, dv_bi, if_neg (te_lei (by omega) (by omega) (by omega) (by omega) (by omega)), f1, cond_true]
      show (bif tm_r4 (dm_nw S (6, 12, 4) (fun j => if j = 0 then am_z (-1) else 0) 4) 10 [.ref (dm_n S)] then dm_bi (e_T_SBinit X N (dm_n S) (dm_nw S (6, 12, 4) (fun j => if j = 0 then am_z (-1) else 0) 4)) _ else none) = _
      rw [f2, cond_true, f3, dv_bi]
      simp only [f4, cond_true, f5, dv_bi, f6, f7, f8, f9, f10, f11, f12, v3, f13, f14, f15, f16, v4, f17, f18, f19, f20, f21, f22, te_p1]
      exact e
    · rw [te_ls, List.append_assoc, ← List.append_assoc]
      exact k2
theorem te_31 {nS nU z : Nat} {W V : Nat → Nat × Nat} (hN : 100 ≤ N) (hnS : nS ≤ 10) (hS : ∀ S, e_T_sessions X N 950 S = some (am_z (nS : Int), S)) (hV : ∀ i, (W i).1 < 100 ∧ (W i).2 < 100 ∧ (∀ S, e_T_size X N 950 (0 : Int32) (am_z ((i : Nat) : Int)) (0 : Int32) S = some (am_z ((W i).1 : Int), S)) ∧ ∀ S, e_T_size X N 950 (0 : Int32) (am_z ((i : Nat) : Int)) (1 : Int32) S = some (am_z ((W i).2 : Int), S)) :
    ∀ (k i n : Nat) (t : Nat) (T : List Nat) (S : dm_S), i + k = nS → k < n → te_T S (dm_n S) t T → T.length + 20 * k ≤ 700 → 1000 ≤ dm_n S → dm_n S + 10000 + 20 * k < dm_bg →
    ∃ r S', el_T_text_31 X N n 950 t (am_z (i : Int)) S = el_T_text_110 X N N 950 r (0 : Int32) S' ∧ te_T S' (dm_n S') r (T ++ te_ls 5 [115] W i k) ∧ te_F (dm_n S) (20 * k) (25000 * k) S S'
  | k, i, 0, t, T, S, _, hx, _, _, _, _ => by omega
  | 0, i, n + 1, t, T, S, hi, _, hT, hl, hn, hb => by
    refine ⟨t, S, ?_, ?_, te_F0⟩
    · rw [el_T_text_31]
      rw [hS, dv_bi, if_pos (te_lej (by omega) (by omega) (by omega) (by omega) (by omega))]
    · rw [te_ls, List.append_nil]
      exact hT
  | k + 1, i, n + 1, t, T, S, hi, hx, hT, hl, hn, hb => by
    obtain ⟨v1, v2, v3, v4⟩ := hV i
    obtain ⟨r, S', ⟨S1, S2, S3, S4, S5, S6, S7, S8, S9, S10, nm, f1, f2, f3, f4, f5, f6, f7, f8, f9, f10, f11, f12, f13, f14, f15, f16, f17, f18, f19, f20, f21, f22⟩, h2, h3⟩ := te_ch (X := X) (N := N) (q := 0) (C := [115]) (i := i) (k := 5) (w := (W i).1) (h := (W i).2) hN (Or.inl ⟨rfl, rfl⟩) (Or.inl rfl) (by omega) v1 v2 hT (by omega) hn (by omega)
    have sl := te_stl (k := 5) (C := [115]) (i := i) (w := (W i).1) (h := (W i).2) (Or.inl rfl) rfl
    have g1 := h3.2.1
    have g2 := h3.2.2.1
    obtain ⟨r2, S2', e, k2, k3⟩ := te_31 (nU := nU) (z := z) (V := V) hN hnS hS hV k (i + 1) n r (T ++ te_st 5 [115] i (W i).1 (W i).2) S' (by omega) (by omega) h2 (by rw [List.length_append]; omega) (by omega) (by omega)
    have F9 := te_Ft h3 (te_Fw g1 k3)
    refine ⟨r2, S2', ?_, ?_, te_Fm (by omega) (by omega) F9⟩
    · have f7 : e_T_SBappS X N (dm_n S) 905 S2 = some (dm_n S, S3) := f7
      have f2 : tm_r4 (dm_nw S (6, 12, 4) (fun j => if j = 0 then am_z (-1) else 0) 4) 10 [.ref (dm_n S)] = true := f2
      have f3 : e_T_SBinit X N (dm_n S) (dm_nw S (6, 12, 4) (fun j => if j = 0 then am_z (-1) else 0) 4) = some ((), S1) := f3
      rw [el_T_text_31]
      rw [hS, dv_bi, if_neg (te_lei (by omega) (by omega) (by omega) (by omega) (by omega)), f1, cond_true]
      show (bif tm_r4 (dm_nw S (6, 12, 4) (fun j => if j = 0 then am_z (-1) else 0) 4) 10 [.ref (dm_n S)] then dm_bi (e_T_SBinit X N (dm_n S) (dm_nw S (6, 12, 4) (fun j => if j = 0 then am_z (-1) else 0) 4)) _ else none) = _
      rw [f2, cond_true, f3, dv_bi]
      simp only [f4, cond_true, f5, dv_bi, f6, f7, f8, f9, f10, f11, f12, v3, f13, f14, f15, f16, v4, f17, f18, f19, f20, f21, f22, te_p1]
      exact e
    · rw [te_ls, ← List.append_assoc]
      exact k2
/-- the law's text -/
theorem te_text (hN : 100 ≤ N) (hX : X.1 < 2147483648) (hn : 1000 ≤ dm_n S) (hb : dm_n S + 20000 < dm_bg) : ∃ (k z nS nU : Nat) (W V : Nat → Nat × Nat) (r : Nat) (S' : dm_S), (1 ≤ k ∧ k ≤ 12 ∧ z ≤ 1 ∧ 1 ≤ nS ∧ nS ≤ 3 ∧ 2 ≤ nU ∧ nU ≤ 5) ∧ (∀ i, 2 ≤ (W i).1 ∧ (W i).1 ≤ 10 ∧ 1 ≤ (W i).2 ∧ (W i).2 ≤ 4) ∧ (∀ i, 2 ≤ (V i).1 ∧ (V i).1 ≤ 10 ∧ 1 ≤ (V i).2 ∧ (V i).2 ≤ 4) ∧
    e_T_text X N 950 S = some (r, S') ∧ te_S S' (dm_n S') r (te_txt k W nS V nU z) ∧ (te_txt k W nS V nU z).length ≤ 250 ∧ te_F (dm_n S) 200 250000 S S' := by
  obtain ⟨nS, s1, s2, hS⟩ := te_sessions (N := N) hX
  obtain ⟨nU, u1, u2, hU⟩ := te_users (N := N) hX
  obtain ⟨k, z, k1, k2, k3, hs0, hs1⟩ := te_setting (N := N) hX
  have hW0 : ∀ i : Nat, ∃ q : Nat × Nat, 2 ≤ q.1 ∧ q.1 ≤ 10 ∧ 1 ≤ q.2 ∧ q.2 ≤ 4 ∧ (∀ S, e_T_size X N 950 (0 : Int32) (am_z (i : Int)) (0 : Int32) S = some (am_z (q.1 : Int), S)) ∧ ∀ S, e_T_size X N 950 (0 : Int32) (am_z (i : Int)) (1 : Int32) S = some (am_z (q.2 : Int), S) := fun i => by
    obtain ⟨w, h, a1, a2, a3, a4, a5, a6⟩ := te_size (N := N) hX (Or.inl rfl) (am_z (i : Int))
    exact ⟨(w, h), a1, a2, a3, a4, a5, a6⟩
  have hV0 : ∀ i : Nat, ∃ q : Nat × Nat, 2 ≤ q.1 ∧ q.1 ≤ 10 ∧ 1 ≤ q.2 ∧ q.2 ≤ 4 ∧ (∀ S, e_T_size X N 950 (1 : Int32) (am_z (i : Int)) (0 : Int32) S = some (am_z (q.1 : Int), S)) ∧ ∀ S, e_T_size X N 950 (1 : Int32) (am_z (i : Int)) (1 : Int32) S = some (am_z (q.2 : Int), S) := fun i => by
    obtain ⟨w, h, a1, a2, a3, a4, a5, a6⟩ := te_size (N := N) hX (Or.inr rfl) (am_z (i : Int))
    exact ⟨(w, h), a1, a2, a3, a4, a5, a6⟩
  obtain ⟨W, hW⟩ := Classical.axiomOfChoice hW0
  obtain ⟨V, hV⟩ := Classical.axiomOfChoice hV0
  have dk := te_dl (x := k)
  have dz := te_dl (x := z)
  obtain ⟨z0, z1, z2, z3, z4, z5, z6, z7⟩ := te_Cl
  obtain ⟨r1, S1', ⟨S1, S2, S3, S4, S5, f1, f2, f3, f4, f5, f6, f7, f8, f9, f10, f11, f12, f13⟩, T1, F1⟩ := te_cf0 (X := X) (N := N) (k := 3) (w := k) hN (by decide) (by omega) hn (by omega)
  have g1 := F1.2.1; have g2 := F1.2.2.1
  have l1 : (te_C 3 ++ (te_d k ++ te_C 4)).length ≤ 12 := by simp only [List.length_append]; omega
  obtain ⟨r2, S2', e2, T2, F2⟩ := te_31 (X := X) (N := N) (nU := nU) (z := z) (V := V) (W := W) hN (show nS ≤ 10 by omega) hS (fun i => ⟨by have := (hW i).2.1; omega, by have := (hW i).2.2.2.1; omega, (hW i).2.2.2.2.1, (hW i).2.2.2.2.2⟩) nS 0 N r1 _ S1' (by omega) (by omega) T1 (by omega) (by omega) (by omega)
  have g3 := F2.2.1; have g4 := F2.2.2.1
  have lS : ∀ (k' : Nat) (C : List Nat) (W : Nat → Nat × Nat), (k' = 5 ∨ k' = 6) → C.length = 1 → ∀ n i, (te_ls k' C W i n).length ≤ 20 * n := by
    intro k' C W hk hC n
    induction n with
    | zero => intro i; exact Nat.le_refl _
    | succ n ih =>
      intro i
      have h1 := te_stl (k := k') (C := C) (i := i) (w := (W i).1) (h := (W i).2) hk hC
      have h2 := ih (i + 1)
      rw [te_ls, List.length_append]
      omega
  have lS1 := lS 5 [115] W (Or.inl rfl) rfl nS 0
  have lU1 := lS 6 [117] V (Or.inr rfl) rfl nU 0
  obtain ⟨r3, S3', e3, T3, F3⟩ := te_110 (X := X) (N := N) (z := z) (V := V) hN (show nU ≤ 10 by omega) (by omega) hU hs1 (fun i => ⟨by have := (hV i).2.1; omega, by have := (hV i).2.2.2.1; omega, (hV i).2.2.2.2.1, (hV i).2.2.2.2.2⟩) nU 0 N r2 _ S2' (by omega) (by omega) T2 (by rw [List.length_append]; omega) (by omega) (by omega)
  have F9 := te_Ft F1 (te_Fw g1 (te_Ft F2 (te_Fw g3 F3)))
  have hx9 : 20 + (20 * nS + (20 + 20 * nU)) ≤ 200 := by omega
  have hz9 : 25000 + (25000 * nS + (25000 + 25000 * nU)) ≤ 250000 := by omega
  have F10 := te_Fm hx9 hz9 F9
  refine ⟨k, z, nS, nU, W, V, r3, S3', ⟨k1, k2, k3, s1, s2, u1, u2⟩, fun i => ⟨(hW i).1, (hW i).2.1, (hW i).2.2.1, (hW i).2.2.2.1⟩, fun i => ⟨(hV i).1, (hV i).2.1, (hV i).2.2.1, (hV i).2.2.2.1⟩, ?_, ?_, ?_, F10⟩
  · have f7 : e_T_SBappS X N (dm_n S) 903 S2 = some (dm_n S, S3) := f7
    have f5 : S2 = S1 := f5
    subst f5
    have f2 : tm_r4 (dm_nw S (6, 12, 4) (fun j => if j = 0 then am_z (-1) else 0) 4) 10 [.ref (dm_n S)] = true := f2
    have f3 : e_T_SBinit X N (dm_n S) (dm_nw S (6, 12, 4) (fun j => if j = 0 then am_z (-1) else 0) 4) = some ((), S2) := f3
    unfold e_T_text
    rw [f1, cond_true]
    show (bif tm_r4 (dm_nw S (6, 12, 4) (fun j => if j = 0 then am_z (-1) else 0) 4) 10 [.ref (dm_n S)] then dm_bi (e_T_SBinit X N (dm_n S) (dm_nw S (6, 12, 4) (fun j => if j = 0 then am_z (-1) else 0) 4)) _ else none) = _
    rw [f2, cond_true, f3, dv_bi]
    simp only [f4, cond_true, f7, dv_bi, hs0, f8, f9, f10, f11, f12, f13]
    exact e2.trans e3
  · unfold te_txt
    rw [← List.append_assoc]
    exact T3
  · unfold te_txt
    simp only [List.length_append]
    omega
end TE4
