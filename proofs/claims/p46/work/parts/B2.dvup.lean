section DV3
variable {N : Nat}
theorem dv_p1 {i : Nat} (h : i < 100000) : am_z (i : Int) + (1 : Int32) = am_z ((i + 1 : Nat) : Int) := by
  rw [show (1 : Int32) = am_z 1 from rfl, am_z_add]
  rfl
theorem dv_m1 {i : Nat} (h : 1 ≤ i) : am_z (i : Int) - (1 : Int32) = am_z ((i - 1 : Nat) : Int) := by
  rw [show (1 : Int32) = am_z 1 from rfl, am_z_sub]
  congr 1
  omega
theorem dv_up70 {a R w hh : Nat} (hN : 2000 ≤ N) (hw : w ≤ 1000) (hh1 : 1 ≤ hh) (hh2 : hh ≤ 1000) (hR : R < dm_bg) : ∀ (m i n : Nat) (S : dm_S) (ρ : Nat → Nat), i + m = hh → 1 ≤ i → m < n → dm_ok S 1 a = true → dm_ok S 3 R = true → dm_len S R = hh → dm_g S a 0 = am_z (R : Int) → dm_g S a 3 = am_z (w : Int) → 1000 ≤ dm_n S → dm_n S + 2000 < dm_bg → (∀ j, j < hh → dm_g S R j = am_z (ρ j : Int) ∧ dm_ok S 2 (ρ j) = true) →
    ∃ S', el_X10_up_70 N n a (am_z (i : Int)) S = some ((), S') ∧ dm_h S' = dm_h S ∧ dm_n S' = dm_n S + 1 ∧ dm_zz S' = dm_zz S + w ∧ (∀ b, b ≠ dm_n S → dm_k S' b = dm_k S b ∧ (b ≠ R → dm_g S' b = dm_g S b)) ∧ dm_k S' (dm_n S) = (2, 0, w) ∧ (∀ c, c < w → dm_g S' (dm_n S) c = am_z 27) ∧
      ∀ j, j < hh → dm_g S' R j = am_z ((if j + 1 < i then ρ j else if j + 1 < hh then ρ (j + 1) else dm_n S : Nat) : Int)
  | 0, i, n + 1, S, ρ, h1, h0, h2, o1, o3, l3, g0, g3, hn, hb, hr => by
    obtain ⟨k1, k2, k3⟩ := dm_ok_s o3
    obtain ⟨j1, j2, j3⟩ := dm_ok_s o1
    have haR : a ≠ R := fun z => by rw [z] at j1; omega
    obtain ⟨S1, e, f1, f2, f3, f4, f5, f6⟩ := dv_row (N := N) hN hw o1 g3 hn
    have oR1 : dm_ok S1 3 R = true := dv_okm (by rw [(f4 R (by omega)).1]; exact k1) k2 (by rw [f2]; omega)
    have lR1 : dm_len S1 R = hh := by unfold dm_len; rw [(f4 R (by omega)).1]; exact l3
    have on1 : dm_ok S1 2 (dm_n S) = true := dv_okm (by rw [f5]) hn (by rw [f2]; omega)
    refine ⟨dm_wr S1 R (hh - 1) (am_z (dm_n S : Int)), ?_, f1, f2, f3, fun b hb => ⟨(f4 b hb).1, fun hbR => by rw [dv_g_w3 hbR]; exact (f4 b hb).2⟩, f5, fun c hc => ?_, fun j hj => ?_⟩
    · unfold el_X10_up_70
      have e1 : am_z (hh : Int) ≤ am_z (i : Int) := by rw [am_z_le (by omega) (by omega) (by omega) (by omega)]; omega
      have e2 : am_in (am_z ((hh - 1 : Nat) : Int)) hh = true := am_z_int (by omega) (by omega) (by omega)
      have e3 : (am_z ((hh - 1 : Nat) : Int)).toNatClampNeg = hh - 1 := by rw [am_z_cl (by omega) (by omega), Int.toNat_natCast]
      simp only [o1, cond_true, g0, dv_nn hR, if_false, dv_cl hR, o3, Bool.or_true, l3, dv_of, if_pos e1, e, dv_bi, oR1, lR1, dv_m1 hh1, e2, Bool.and_true, on1, dv_blt (show dm_n S < dm_bg by omega), e3]
    · rw [dv_g_w3 (show dm_n S ≠ R by omega)]
      exact f6 c hc
    · by_cases hj9 : j = hh - 1
      · subst hj9
        rw [dv_g_w1, if_neg (by omega), if_neg (by omega)]
      · rw [dv_g_w2 hj9, (f4 R (by omega)).2, (hr j hj).1, if_pos (by omega)]
  | m + 1, i, n + 1, S, ρ, h1, h0, h2, o1, o3, l3, g0, g3, hn, hb, hr => by
    obtain ⟨k1, k2, k3⟩ := dm_ok_s o3
    obtain ⟨j1, j2, j3⟩ := dm_ok_s o1
    have haR : a ≠ R := fun z => by rw [z] at j1; omega
    obtain ⟨p1, p2⟩ := hr i (by omega)
    obtain ⟨q1, q2, q3⟩ := dm_ok_s p2
    obtain ⟨S', e, f1, f2, f3, f4, f5, f6, f7⟩ := dv_up70 hN hw hh1 hh2 hR m (i + 1) n (dm_wr S R (i - 1) (am_z (ρ i : Int))) (fun j => if j = i - 1 then ρ i else ρ j) (by omega) (by omega) (by omega) o1 o3 l3 (by rw [dv_g_w3 haR]; exact g0) (by rw [dv_g_w3 haR]; exact g3) hn hb (fun j hj => by
      by_cases hj9 : j = i - 1
      · subst hj9
        rw [dv_g_w1, if_pos rfl]
        exact ⟨rfl, p2⟩
      · rw [dv_g_w2 hj9, if_neg hj9]
        exact hr j hj)
    refine ⟨S', ?_, f1, f2, f3, fun b hb => ⟨(f4 b hb).1, fun hbR => by rw [(f4 b hb).2 hbR, dv_g_w3 hbR]⟩, f5, f6, fun j hj => ?_⟩
    · unfold el_X10_up_70
      have e1 : ¬ am_z (hh : Int) ≤ am_z (i : Int) := by rw [am_z_le (by omega) (by omega) (by omega) (by omega)]; omega
      have e2 : am_in (am_z ((i - 1 : Nat) : Int)) hh = true := am_z_int (by omega) (by omega) (by omega)
      have e3 : (am_z ((i - 1 : Nat) : Int)).toNatClampNeg = i - 1 := by rw [am_z_cl (by omega) (by omega), Int.toNat_natCast]
      have e4 : am_in (am_z (i : Int)) hh = true := am_z_int (by omega) (by omega) (by omega)
      have e5 : (am_z (i : Int)).toNatClampNeg = i := by rw [am_z_cl (by omega) (by omega), Int.toNat_natCast]
      simp only [o1, cond_true, g0, dv_nn hR, if_false, dv_cl hR, o3, Bool.or_true, l3, dv_of, if_neg e1, dv_m1 h0, e2, Bool.and_true, e3, e4, e5, p1, dv_nn (show ρ i < dm_bg by omega), dv_cl (show ρ i < dm_bg by omega), p2, dv_blt (show ρ i < dm_bg by omega), dv_p1 (show i < 100000 by omega)]
      exact e
    · rw [f7 j hj]
      by_cases c1 : j + 1 < i
      · rw [if_pos (by omega), if_pos c1, if_neg (by omega)]
      · rw [if_neg c1]
        by_cases c2 : j = i - 1
        · rw [if_pos (by omega), if_pos c2, if_pos (by omega)]
          congr 3
          omega
        · rw [if_neg (by omega)]
          by_cases c3 : j + 1 < hh
          · rw [if_pos c3, if_pos c3, if_neg (by omega)]
          · rw [if_neg c3, if_neg c3]; rfl
/-- how a screen of the law lies -/
def dU (S : dm_S) (a R Ln w hh up : Nat) (r q : Nat → Nat) : Prop := dm_ok S 1 a = true ∧ dm_ok S 3 R = true ∧ dm_ok S 3 Ln = true ∧ R ≠ Ln ∧ dm_len S R = hh ∧ dm_len S Ln = 40 ∧ dm_g S a 0 = am_z (R : Int) ∧ dm_g S a 3 = am_z (w : Int) ∧ dm_g S a 4 = am_z (Ln : Int) ∧ dm_g S a 5 = am_z (up : Int) ∧
  (∀ i, i < hh → dm_g S R i = am_z (r i : Int) ∧ dm_ok S 2 (r i) = true) ∧ ∀ k, k < up → dm_g S Ln k = am_z (q k : Int) ∧ dm_ok S 2 (q k) = true
/-- what a row that goes up changes -/
def dUp (S S' : dm_S) (a R Ln w hh up' : Nat) (r q' : Nat → Nat) : Prop := dm_h S' = dm_h S ∧ dm_n S' = dm_n S + 1 ∧ dm_zz S' = dm_zz S + w ∧ (∀ b, b < dm_n S → dm_k S' b = dm_k S b ∧ (b ≠ a → b ≠ R → b ≠ Ln → dm_g S' b = dm_g S b)) ∧ (∀ j, j ≠ 5 → dm_g S' a j = dm_g S a j) ∧ dm_g S' a 5 = am_z (up' : Int) ∧
  (∀ i, i < hh → dm_g S' R i = am_z ((if i + 1 < hh then r (i + 1) else dm_n S : Nat) : Int)) ∧ (∀ k, k < up' → dm_g S' Ln k = am_z (q' k : Int)) ∧ dm_k S' (dm_n S) = (2, 0, w) ∧ ∀ c, c < w → dm_g S' (dm_n S) c = am_z 27
def dv_upT (N a0 : Nat) (S : dm_S) : Option (Unit × dm_S) :=
  bif dm_ok S 1 a0 then (if dm_g S a0 4 < 0 then none else
    bif dm_ok S 1 a0 then bif dm_ok S 1 a0 then (if dm_g S a0 0 < 0 then none else
    bif dm_ok S 3 ((dm_g S a0 0).toNatClampNeg) && am_in (0 : Int32) (dm_len S ((dm_g S a0 0).toNatClampNeg)) then (if dm_g S ((dm_g S a0 0).toNatClampNeg) 0 < 0 then none else
    bif dm_ok S 3 ((dm_g S a0 4).toNatClampNeg) && am_in (dm_g S a0 5) (dm_len S ((dm_g S a0 4).toNatClampNeg)) && dm_ok S 2 ((dm_g S ((dm_g S a0 0).toNatClampNeg) 0).toNatClampNeg) && Nat.blt ((dm_g S ((dm_g S a0 0).toNatClampNeg) 0).toNatClampNeg) dm_bg then (let S1 := dm_wr S ((dm_g S a0 4).toNatClampNeg) (dm_g S a0 5).toNatClampNeg (am_z (((dm_g S ((dm_g S a0 0).toNatClampNeg) 0).toNatClampNeg : Nat) : Int))
    bif dm_ok S1 1 a0 then bif dm_ok S1 1 a0 then (let S2 := dm_wr S1 a0 5 ((dm_g S1 a0 5) + (1 : Int32))
    el_X10_up_70 N N a0 (1 : Int32) S2) else none else none) else none) else none) else none else none) else none
theorem dv_upT_ok {a R Ln w hh up : Nat} {r q : Nat → Nat} {S : dm_S} (hN : 2000 ≤ N) (U : dU S a R Ln w hh up r q) (hw : w ≤ 1000) (hh1 : 1 ≤ hh) (hh2 : hh ≤ 1000) (hup : up < 40) (hn : 1000 ≤ dm_n S) (hb : dm_n S + 2000 < dm_bg) :
    ∃ S', dv_upT N a S = some ((), S') ∧ dUp S S' a R Ln w hh (up + 1) r (fun k => if k = up then r 0 else q k) := by
  obtain ⟨o1, o3, o4, hne, l3, l4, g0, g3, g4, g5, hr, hq⟩ := U
  obtain ⟨k1, k2, k3⟩ := dm_ok_s o3
  obtain ⟨j1, j2, j3⟩ := dm_ok_s o1
  obtain ⟨i1, i2, i3⟩ := dm_ok_s o4
  have haR : a ≠ R := fun z => by rw [z] at j1; omega
  have haL : a ≠ Ln := fun z => by rw [z] at j1; omega
  have hR : R < dm_bg := by omega
  have hL : Ln < dm_bg := by omega
  obtain ⟨p1, p2⟩ := hr 0 (by omega)
  obtain ⟨-, -, p3⟩ := dm_ok_s p2
  have h0 : r 0 < dm_bg := by omega
  obtain ⟨S', e, f1, f2, f3, f4, f5, f6, f7⟩ := dv_up70 (N := N) (a := a) (R := R) (w := w) (hh := hh) hN hw hh1 hh2 hR (hh - 1) 1 N (dm_wr (dm_wr S Ln up (am_z (r 0 : Int))) a 5 (am_z ((up + 1 : Nat) : Int))) r (by omega) (Nat.le_refl _) (by omega) o1 o3 l3 (by rw [dv_g_w2 (by decide), dv_g_w3 haL]; exact g0) (by rw [dv_g_w2 (by decide), dv_g_w3 haL]; exact g3) hn hb (fun j hj => by
    rw [dv_g_w3 (Ne.symm haR), dv_g_w3 hne]
    exact hr j hj)
  refine ⟨S', ?_, f1, f2, f3, fun b hb9 => ⟨(f4 b (by show b ≠ dm_n S; omega)).1, fun y1 y2 y3 => ?_⟩, fun j hj => ?_, ?_, fun i hi => ?_, fun k hk => ?_, f5, f6⟩
  · unfold dv_upT
    have e1 : am_in (0 : Int32) hh = true := am_z_int (x := 0) (by omega) (by omega) (by omega)
    have e2 : am_in (am_z (up : Int)) 40 = true := am_z_int (by omega) (by omega) (by omega)
    have e3 : (am_z (up : Int)).toNatClampNeg = up := by rw [am_z_cl (by omega) (by omega), Int.toNat_natCast]
    simp only [o1, cond_true, g4, dv_nn hL, if_false, g0, dv_nn hR, dv_cl hR, dv_cl hL, o3, l3, e1, Bool.and_true, p1, dv_nn h0, dv_cl h0, o4, l4, g5, e2, p2, dv_blt h0, e3, dv_ok_wr, dv_g_w3 haL, dv_p1 (show up < 100000 by omega)]
    exact e
  · rw [(f4 b (by show b ≠ dm_n S; omega)).2 y2, dv_g_w3 y1, dv_g_w3 y3]
  · rw [(f4 a (by show a ≠ dm_n S; omega)).2 haR, dv_g_w2 hj, dv_g_w3 haL]
  · rw [(f4 a (by show a ≠ dm_n S; omega)).2 haR, dv_g_w1]
  · rw [f7 i hi, if_neg (by omega)]
    rfl
  · rw [(f4 Ln (by show Ln ≠ dm_n S; omega)).2 (Ne.symm hne), dv_g_w3 (Ne.symm haL)]
    by_cases hku : k = up
    · subst hku
      dsimp only; rw [dv_g_w1, if_pos rfl]
    · dsimp only; rw [dv_g_w2 hku, if_neg hku]
      exact (hq k (by omega)).1
theorem dv_up11 {a R Ln w hh : Nat} {r : Nat → Nat} (hN : 2000 ≤ N) : ∀ (m i n : Nat) (S : dm_S) (q : Nat → Nat), i + m = 40 → 1 ≤ i → m < n → dU S a R Ln w hh 40 r q → dm_n S + 2000 < dm_bg →
    ∃ S', el_X10_up_11 N n a (am_z (i : Int)) S = dv_upT N a (dm_wr S' a 5 (am_z 39)) ∧ dm_h S' = dm_h S ∧ dm_n S' = dm_n S ∧ dm_zz S' = dm_zz S ∧ dm_k S' = dm_k S ∧ (∀ b, b ≠ Ln → dm_g S' b = dm_g S b) ∧ ∀ k, k < 39 → dm_g S' Ln k = am_z ((if k + 1 < i then q k else q (k + 1) : Nat) : Int)
  | 0, i, n + 1, S, q, h1, h0, h2, U, hb => by
    obtain ⟨o1, o3, o4, hne, l3, l4, g0, g3, g4, g5, hr, hq⟩ := U
    refine ⟨S, ?_, rfl, rfl, rfl, rfl, fun _ _ => rfl, fun k hk => ?_⟩
    · unfold el_X10_up_11
      have e1 : (40 : Int32) ≤ am_z (i : Int) := by
        rw [show (40 : Int32) = am_z 40 from rfl, am_z_le (by omega) (by omega) (by omega) (by omega)]; omega
      rw [if_pos e1, o1]
      rfl
    · rw [if_pos (by omega)]
      exact (hq k (by omega)).1
  | m + 1, i, n + 1, S, q, h1, h0, h2, U, hb => by
    have U0 := U
    obtain ⟨o1, o3, o4, hne, l3, l4, g0, g3, g4, g5, hr, hq⟩ := U
    obtain ⟨k1, k2, k3⟩ := dm_ok_s o3
    obtain ⟨j1, j2, j3⟩ := dm_ok_s o1
    obtain ⟨i1, i2, i3⟩ := dm_ok_s o4
    have haL : a ≠ Ln := fun z => by rw [z] at j1; omega
    have hL : Ln < dm_bg := by omega
    obtain ⟨p1, p2⟩ := hq i (by omega)
    obtain ⟨-, -, p3⟩ := dm_ok_s p2
    have hqi : q i < dm_bg := by omega
    obtain ⟨S', e, f1, f2, f3, f4, f5, f6⟩ := dv_up11 hN m (i + 1) n (dm_wr S Ln (i - 1) (am_z (q i : Int))) (fun k => if k = i - 1 then q i else q k) (by omega) (by omega) (by omega) ⟨o1, o3, o4, hne, l3, l4, by rw [dv_g_w3 haL]; exact g0, by rw [dv_g_w3 haL]; exact g3, by rw [dv_g_w3 haL]; exact g4, by rw [dv_g_w3 haL]; exact g5, fun j hj => by rw [dv_g_w3 hne]; exact hr j hj, fun k hk => by
      by_cases hk9 : k = i - 1
      · subst hk9
        dsimp only; rw [dv_g_w1, if_pos rfl]
        exact ⟨rfl, p2⟩
      · dsimp only; rw [dv_g_w2 hk9, if_neg hk9]
        exact hq k hk⟩ hb
    refine ⟨S', ?_, f1, f2, f3, f4, fun b hb => by rw [f5 b hb, dv_g_w3 hb], fun k hk => ?_⟩
    · unfold el_X10_up_11
      have e1 : ¬ (40 : Int32) ≤ am_z (i : Int) := by
        rw [show (40 : Int32) = am_z 40 from rfl, am_z_le (by omega) (by omega) (by omega) (by omega)]; omega
      have e2 : am_in (am_z ((i - 1 : Nat) : Int)) 40 = true := am_z_int (by omega) (by omega) (by omega)
      have e3 : (am_z ((i - 1 : Nat) : Int)).toNatClampNeg = i - 1 := by rw [am_z_cl (by omega) (by omega), Int.toNat_natCast]
      have e4 : am_in (am_z (i : Int)) 40 = true := am_z_int (by omega) (by omega) (by omega)
      have e5 : (am_z (i : Int)).toNatClampNeg = i := by rw [am_z_cl (by omega) (by omega), Int.toNat_natCast]
      rw [if_neg e1]
      simp only [o1, cond_true, g4, dv_nn hL, if_false, dv_cl hL, o4, l4, dv_m1 h0, e2, Bool.and_true, e3, e4, e5, p1, dv_nn hqi, dv_cl hqi, p2, dv_blt hqi, dv_p1 (show i < 100000 by omega)]
      exact e
    · rw [f6 k hk]
      by_cases c1 : k + 1 < i
      · rw [if_pos (by omega), if_pos c1, if_neg (by omega)]
      · rw [if_neg c1]
        by_cases c2 : k = i - 1
        · rw [if_pos (by omega), if_pos c2]
          congr 3
          omega
        · rw [if_neg (by omega), if_neg (by omega)]
theorem dv_up {a R Ln w hh up : Nat} {r q : Nat → Nat} {S : dm_S} (hN : 2000 ≤ N) (U : dU S a R Ln w hh up r q) (hw : w ≤ 1000) (hh1 : 1 ≤ hh) (hh2 : hh ≤ 1000) (hup : up ≤ 40) (hn : 1000 ≤ dm_n S) (hb : dm_n S + 2000 < dm_bg) :
    ∃ S', e_X10_up N a S = some ((), S') ∧ dUp S S' a R Ln w hh (qc_upN up) r (fun k => if up < 40 then (if k = up then r 0 else q k) else if k < 39 then q (k + 1) else r 0) := by
  have U0 := U
  obtain ⟨o1, o3, o4, hne, l3, l4, g0, g3, g4, g5, hr, hq⟩ := U
  have e0 : e_X10_up N a S = bif dm_ok S 1 a then (if (dm_g S a 5) = (40 : Int32) then el_X10_up_11 N N a (1 : Int32) S else dv_upT N a S) else none := rfl
  rw [e0, o1, g5]
  by_cases h40 : up < 40
  · have e1 : ¬ am_z (up : Int) = (40 : Int32) := by
      rw [show (40 : Int32) = am_z 40 from rfl, am_z_eq (by omega) (by omega) (by omega) (by omega)]; omega
    obtain ⟨S', e, f⟩ := dv_upT_ok hN U0 hw hh1 hh2 h40 hn hb
    refine ⟨S', by rw [cond_true, if_neg e1]; exact e, ?_⟩
    have e2 : qc_upN up = up + 1 := by unfold qc_upN; rw [if_pos h40]
    rw [e2]
    simp only [if_pos h40]
    exact f
  · have hup : up = 40 := by omega
    subst hup
    obtain ⟨S1, e, f1, f2, f3, f4, f5, f6⟩ := dv_up11 hN 39 1 N S q (by omega) (Nat.le_refl _) (by omega) U0 hb
    obtain ⟨j1, j2, j3⟩ := dm_ok_s o1
    obtain ⟨k1, k2, k3⟩ := dm_ok_s o3
    obtain ⟨i1, i2, i3⟩ := dm_ok_s o4
    have haR : a ≠ R := fun z => by rw [z] at j1; omega
    have haL : a ≠ Ln := fun z => by rw [z] at j1; omega
    have ok1 : ∀ kd b, dm_ok S1 kd b = dm_ok S kd b := fun kd b => by unfold dm_ok; rw [f4, f2]
    have ln1 : ∀ b, dm_len S1 b = dm_len S b := fun b => by unfold dm_len; rw [f4]
    have U1 : dU (dm_wr S1 a 5 (am_z 39)) a R Ln w hh 39 r (fun k => q (k + 1)) := ⟨by rw [dv_ok_wr, ok1]; exact o1, by rw [dv_ok_wr, ok1]; exact o3, by rw [dv_ok_wr, ok1]; exact o4, hne, by rw [dv_len_wr, ln1]; exact l3, by rw [dv_len_wr, ln1]; exact l4,
      by rw [dv_g_w2 (by decide), f5 a haL]; exact g0, by rw [dv_g_w2 (by decide), f5 a haL]; exact g3, by rw [dv_g_w2 (by decide), f5 a haL]; exact g4, by rw [dv_g_w1]; rfl, fun i hi => by rw [dv_g_w3 (Ne.symm haR), f5 R hne, dv_ok_wr, ok1]; exact hr i hi, fun k hk => by
        rw [dv_g_w3 (Ne.symm haL), f6 k hk, if_neg (by omega), dv_ok_wr, ok1]
        exact ⟨rfl, (hq (k + 1) (by omega)).2⟩⟩
    obtain ⟨S', e', d1, d2, d3, d4, d5, d6, d7, d8, d9, d10⟩ := dv_upT_ok hN U1 hw hh1 hh2 (by decide) (by rw [dv_n_wr, f2]; exact hn) (by rw [dv_n_wr, f2]; exact hb)
    rw [dv_n_wr, f2] at d2 d4 d7 d9 d10
    refine ⟨S', ?_, by rw [d1]; exact f1, d2, by rw [d3, dv_z_wr, f3], fun b hb9 => ⟨by rw [(d4 b hb9).1, dv_k_wr, f4], fun y1 y2 y3 => by rw [(d4 b hb9).2 y1 y2 y3, dv_g_w3 y1, f5 b y3]⟩, fun j hj => by rw [d5 j hj, dv_g_w2 hj, f5 a haL], d6, d7, fun k hk => ?_, d9, d10⟩
    · rw [cond_true, if_pos (show am_z ((40 : Nat) : Int) = (40 : Int32) from rfl)]
      exact e.trans e'
    · rw [d8 k hk]
      have hk : k < 40 := hk
      by_cases c1 : k = 39
      · dsimp only; rw [if_pos c1, if_neg (by omega), if_neg (by omega)]
      · dsimp only; rw [if_neg c1, if_neg (by omega), if_pos (by omega)]
end DV3
