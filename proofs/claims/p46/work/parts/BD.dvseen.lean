section DVE
variable {N nS nU : Nat} {hm h0 : am_Hp}
/-- the state while the law looks at a window: its screen, the class, what was written -/
def dP (nS nU : Nat) (h0 hm : am_Hp) (lo a R Ln : Nat) (A : Nat → Nat) (t : qc_T) (G : Nat → Int32) (cnt : Nat) (S : dm_S) : Prop :=
  dW lo S a R Ln A t.2.1 t.2.2.2.2.1 t.2.2.2.2.2 ∧ dWw S a A t.1 t.2.1 t.2.2.2.2.1 ∧ dR nS nU h0 hm (dm_h S) ∧ dvaO G cnt (dm_h S)
theorem dvaO_c {G : Nat → Int32} {c : Nat} {h h1 : am_Hp} (w : dvaO G c h) (f : cfr h h1) : dvaO G c h1 := by
  unfold dvaO
  rw [f 0 (by decide) (by decide) (by decide) (by decide), f 14 (by decide) (by decide) (by decide) (by decide)]
  exact w
theorem dP_c {lo a R Ln cnt : Nat} {A : Nat → Nat} {t : qc_T} {G : Nat → Int32} {S : dm_S} {h1 : am_Hp} (P : dP nS nU h0 hm lo a R Ln A t G cnt S) (f : cfr (dm_h S) h1) : dP nS nU h0 hm lo a R Ln A t G cnt (dm_sh S h1) :=
  ⟨P.1, P.2.1, dR_c P.2.2.1 f, dvaO_c P.2.2.2 f⟩
theorem dP_nw {lo a R Ln cnt : Nat} {A : Nat → Nat} {t : qc_T} {G : Nat → Int32} {S : dm_S} {kd : Nat × Nat × Nat} {f : Nat → Int32} {z : Nat} (P : dP nS nU h0 hm lo a R Ln A t G cnt S) : dP nS nU h0 hm lo a R Ln A t G cnt (dm_nw S kd f z) := by
  have fr : ∀ b, b < dm_n S → dm_k (dm_nw S kd f z) b = dm_k S b ∧ dm_g (dm_nw S kd f z) b = dm_g S b := fun b hb => by
    constructor
    · show (if b = dm_n S then _ else _) = _
      rw [if_neg (by omega)]
    · funext j
      show (if b = dm_n S then _ else _) = _
      rw [if_neg (by omega)]
  have hn : dm_n S ≤ dm_n (dm_nw S kd f z) := Nat.le_succ _
  exact ⟨dW_fr P.1 hn fr, dWw_fr P.2.1 (dm_ok_s P.1.1.1).2.2 (fun l hl => ((dW_ne P.1).2.2 l hl).2.2.2) fr, P.2.2.1, P.2.2.2⟩
theorem dw_s186 {a R Ln lo u i T ww wh : Nat} {A : Nat → Nat} {t : qc_T} {i5 : Int32} (hN : 2000 ≤ N) (hu : u < nU) (hW : dvaW hm u) (et : t = dvaT hm u) (eT : T = rTop t (hm 197) u) (ew : hm 197 (7 + 8 * u) = am_z ww) (eh : hm 197 (8 + 8 * u) = am_z wh) (ok : qc_OK t) (hT : T ≤ 100) (hww : ww ≤ 16) (hwh : wh ≤ 6) (hi : i < wh) {K165 : Int32 → Nat → Int32 → Int32 → Int32 → dm_S → Option (Int32 × dm_S)} : ∀ (k c n : Nat) (S : dm_S), c + k = ww → k < n → dP nS nU h0 hm lo a R Ln A t (dva_out t T ww) (wh * (ww + 1)) S → dm_n S + k < dm_bg →
    ∃ S', el_L_isSeen_186 N K165 n (am_z (u : Int)) a i5 (am_z ((i * (ww + 1) + c : Nat) : Int)) (am_z (i : Int)) (am_z ((T + i : Nat) : Int)) (am_z (c : Int)) S = K165 (am_z (u : Int)) a i5 (am_z (((i + 1) * (ww + 1) : Nat) : Int)) (am_z ((i + 1 : Nat) : Int)) S' ∧ dP nS nU h0 hm lo a R Ln A t (dva_out t T ww) (wh * (ww + 1)) S' ∧ dvB k 0 S S'
  | k, c, 0, S, _, hx, _, _ => by omega
  | 0, c, n + 1, S, e, _, P, hbg => by
    have e1 : c = ww := by omega
    subst e1
    have hb : i * (c + 1) + c < wh * (c + 1) := by
      have h1 := Nat.mul_le_mul_right (c + 1) (show i + 1 ≤ wh by omega)
      rw [Nat.succ_mul] at h1
      omega
    have hb2 : wh * (c + 1) ≤ 102 := by
      have := Nat.mul_le_mul hwh (Nat.add_le_add_right hww 1)
      omega
    have e5 : (i + 1) * (c + 1) = i * (c + 1) + c + 1 := by rw [Nat.succ_mul]; omega
    obtain ⟨u0, -⟩ := dva_user (N := N) (by omega) P.2.2.1.1 hu
    have oA := dva_outAt (N := N) (i := i * (c + 1) + c) P.2.2.2 hb2 (by omega)
    rw [if_pos hb, dva_outE (Nat.le_refl _), if_neg (by omega)] at oA
    refine ⟨S, ?_, P, Nat.le_refl _, by omega, by omega⟩
    unfold el_L_isSeen_186
    simp only [u0, ew, am_bt_s, dv_sh0, if_pos (Int32.le_refl _), oA, am_bi_s]
    rw [if_pos (show am_z 10 = (10 : Int32) from rfl), dv_p1 (show i * (c + 1) + c < 100000 by omega), dv_p1 (show i < 100000 by omega), e5]
  | k + 1, c, n + 1, S, e, hx, P, hbg => by
    have o := qc_OKw ok
    have hb : i * (ww + 1) + c < wh * (ww + 1) := by
      have h1 := Nat.mul_le_mul_right (ww + 1) (show i + 1 ≤ wh by omega)
      rw [Nat.succ_mul] at h1
      omega
    have hb2 : wh * (ww + 1) ≤ 102 := by
      have := Nat.mul_le_mul hwh (Nat.add_le_add_right hww 1)
      omega
    have hlt : ¬ am_z (ww : Int) ≤ am_z (c : Int) := by rw [am_z_le (by omega) (by omega) (by omega) (by omega)]; omega
    obtain ⟨u0, -⟩ := dva_user (N := N) (by omega) P.2.2.1.1 hu
    obtain ⟨h1, a1, a2⟩ := dva_shown (N := N) (y := i) (c := c) (by omega) P.2.2.1.1 hu hW (by omega) (by omega)
    have nw : nv (hm 197 (7 + 8 * u)) = ww := by rw [ew]; exact nv_z (by omega)
    have nh : nv (hm 197 (8 + 8 * u)) = wh := by rw [eh]; exact nv_z (by omega)
    rw [nw, nh, if_pos (by omega), ← et, ← eT] at a1
    have oA := dva_outAt (N := N) (i := i * (ww + 1) + c) (dvaO_c P.2.2.2 a2) hb2 (by omega)
    rw [if_pos hb, dva_outE (by omega), if_pos (by omega)] at oA
    have P1 := dP_c P a2
    obtain ⟨hDW, hDw, hDR, hDO⟩ := P
    have o1 := hDW.1.1
    have o3 := hDW.1.2.1
    have o4 := hDW.1.2.2.1
    have b3 := (dm_ok_s o3).2.2
    have b4 := (dm_ok_s o4).2.2
    have l3 := hDW.2.1.1
    have l4 := hDW.2.1.2.1
    have g0 := hDW.2.1.2.2.1
    have g4 := hDW.2.1.2.2.2.1
    have g5 := hDW.2.1.2.2.2.2
    have nnR := dv_nn (show R < dm_bg by omega)
    have clR := dv_cl (show R < dm_bg by omega)
    have nnL := dv_nn (show Ln < dm_bg by omega)
    have clL := dv_cl (show Ln < dm_bg by omega)
    have pc := dv_p1 (show c < 100000 by omega)
    have po := dv_p1 (show i * (ww + 1) + c < 100000 by omega)
    have e27 : ((27 : Int32) = (27 : Int32)) = True := eq_true rfl
    have c0 : (am_z (c : Int)).toNatClampNeg = c := by rw [am_z_cl (by omega) (by omega), Int.toNat_natCast]
    obtain ⟨k1, k2, k3, k4, k5, k6, k7, k8, k9, k10⟩ := (show qc_OK (t.1, t.2.1, t.2.2.1, t.2.2.2.1, t.2.2.2.2.1, t.2.2.2.2.2) from ok)
    have ch27 : dva_ch (am_z 27) = (32 : Int32) := by decide
    by_cases cU : t.2.2.2.2.1 ≤ T + i
    · have eU : am_z (t.2.2.2.2.1 : Int) ≤ am_z ((T + i : Nat) : Int) := by rw [am_z_le (by omega) (by omega) (by omega) (by omega)]; omega
      have es : am_z ((T + i : Nat) : Int) - am_z (t.2.2.2.2.1 : Int) = am_z ((T + i - t.2.2.2.2.1 : Nat) : Int) := by
        rw [am_z_sub]
        have : ((T + i : Nat) : Int) - (t.2.2.2.2.1 : Int) = ((T + i - t.2.2.2.2.1 : Nat) : Int) := by omega
        rw [this]
      by_cases cH : t.2.1 ≤ T + i - t.2.2.2.2.1
      · have eH : am_z (t.2.1 : Int) ≤ am_z ((T + i - t.2.2.2.2.1 : Nat) : Int) := by rw [am_z_le (by omega) (by omega) (by omega) (by omega)]; omega
        have s27 : t.2.2.2.2.2 (T + i) c = am_z 27 := k8 _ _ (by omega)
        rw [s27] at a1 oA
        rw [ch27] at oA
        have P2 : dP nS nU h0 hm lo a R Ln A t (dva_out t T ww) (wh * (ww + 1)) (dm_sh (dm_nw S (2, 0, 0) (fun _ => 0) 0) h1) := dP_c (S := dm_nw S (2, 0, 0) (fun _ => 0) 0) (dP_nw ⟨hDW, hDw, hDR, hDO⟩) a2
        obtain ⟨S', d1, d2, d3⟩ := dw_s186 (i5 := i5) hN hu hW et eT ew eh ok hT hww hwh hi (K165 := K165) k (c + 1) n _ (by omega) (by omega) P2 (by show dm_n S + 1 + k < dm_bg; omega)
        obtain ⟨d31, d32, d33⟩ := d3
        have d31 : dm_n S + 1 ≤ dm_n S' := d31
        have d32 : dm_n S' ≤ dm_n S + 1 + k := d32
        have d33 : dm_zz S' ≤ dm_zz S + 0 + 0 := d33
        refine ⟨S', ?_, d2, by omega, by omega, by omega⟩
        have z0 : ¬ ((0 : Int32) < 0) := by decide
        have z1 : Nat.ble (0 : Int32).toNatClampNeg 100000 = true := by decide
        have z2 : (0 : Int32).toNatClampNeg = 0 := by decide
        have kn : dm_ok (dm_nw S (2, 0, 0) (fun _ => 0) 0) 2 (dm_n S) = true := dv_okm (by show (if dm_n S = dm_n S then (2, 0, 0) else dm_k S (dm_n S)).1 = 2; rw [if_pos rfl]) (by have := (dm_ok_s o1).2; omega) (Nat.lt_succ_self _)
        have ln : dm_len (dm_nw S (2, 0, 0) (fun _ => 0) 0) (dm_n S) = 0 := by
          unfold dm_len
          show (if dm_n S = dm_n S then (2, 0, 0) else dm_k S (dm_n S)).2.2 = 0
          rw [if_pos rfl]
        have hnw : dm_h (dm_nw S (2, 0, 0) (fun _ => 0) 0) = dm_h S := rfl
        have c00 : am_z ((0 : Nat) : Int) ≤ am_z (c : Int) := by rw [am_z_le (by omega) (by omega) (by omega) (by omega)]; omega
        unfold el_L_isSeen_186
        simp only [u0, ew, am_bt_s, dv_sh0, if_neg hlt, o1, cond_true, g5, if_pos eU, g0, nnR, if_false, clR, o3, Bool.or_true, l3, dv_of, es, if_pos eH, if_neg z0, z1, z2, kn, Bool.true_or, ln, if_pos c00, hnw, a1, dv_h_sh, oA, am_bi_s, dv_sh2, e27, if_true, po, pc]
        rw [if_pos (show am_z 27 = (27 : Int32) from rfl)]
        exact d1
      · have eH : ¬ am_z (t.2.1 : Int) ≤ am_z ((T + i - t.2.2.2.2.1 : Nat) : Int) := by rw [am_z_le (by omega) (by omega) (by omega) (by omega)]; omega
        have er : t.2.2.2.2.1 + (T + i - t.2.2.2.2.1) = T + i := by omega
        have gr := hDW.2.2.1 (T + i - t.2.2.2.2.1) (by omega)
        rw [er] at gr
        obtain ⟨q1, q2, q3, q4, q5⟩ := hDW.2.2.2.2.1 (T + i) (by omega)
        have bA := (dm_ok_s q2).2.2
        have lw := hDw.2 (T + i) cU (by omega)
        have nnA := dv_nn (show A (T + i) < dm_bg by omega)
        have clA := dv_cl (show A (T + i) < dm_bg by omega)
        have i1 : am_in (am_z ((T + i - t.2.2.2.2.1 : Nat) : Int)) t.2.1 = true := am_z_int (by omega) (by omega) (by omega)
        have i2 : (am_z ((T + i - t.2.2.2.2.1 : Nat) : Int)).toNatClampNeg = T + i - t.2.2.2.2.1 := by rw [am_z_cl (by omega) (by omega), Int.toNat_natCast]
        obtain ⟨S', d1, d2, d3⟩ := dw_s186 (i5 := i5) hN hu hW et eT ew eh ok hT hww hwh hi (K165 := K165) k (c + 1) n _ (by omega) (by omega) P1 (by show dm_n S + k < dm_bg; omega)
        obtain ⟨d31, d32, d33⟩ := d3
        have d31 : dm_n S ≤ dm_n S' := d31
        have d32 : dm_n S' ≤ dm_n S + k := d32
        have d33 : dm_zz S' ≤ dm_zz S + 0 := d33
        refine ⟨S', ?_, d2, by omega, by omega, by omega⟩
        unfold el_L_isSeen_186
        simp only [u0, ew, am_bt_s, dv_sh0, if_neg hlt, o1, cond_true, g5, if_pos eU, g0, nnR, if_false, clR, o3, Bool.or_true, l3, dv_of, es, if_neg eH, i1, Bool.and_true, i2, gr, nnA, clA, q2, Bool.true_or, lw, c0]
        by_cases cc : t.1 ≤ c
        · have s27 : t.2.2.2.2.2 (T + i) c = am_z 27 := k9 _ _ cU cc
          rw [s27] at a1 oA
          rw [ch27] at oA
          rw [if_pos (show am_z (t.1 : Int) ≤ am_z (c : Int) by rw [am_z_le (by omega) (by omega) (by omega) (by omega)]; omega)]
          simp only [a1, am_bt_s, dv_h_sh, oA, am_bi_s, dv_sh2, e27, if_true, po, pc]
          rw [if_pos (show am_z 27 = (27 : Int32) from rfl)]
          exact d1
        · have i3 : am_in (am_z (c : Int)) t.1 = true := am_z_int (by omega) (by omega) (by omega)
          rw [if_neg (show ¬ am_z (t.1 : Int) ≤ am_z (c : Int) by rw [am_z_le (by omega) (by omega) (by omega) (by omega)]; omega), i3, Bool.and_true, cond_true, q4 c (by omega)]
          simp only [a1, am_bt_s, dv_h_sh, oA, am_bi_s, dv_sh2, if_true, po, pc]
          by_cases z : t.2.2.2.2.2 (T + i) c = am_z 27
          · rw [if_pos (show t.2.2.2.2.2 (T + i) c = (27 : Int32) from z), z, if_pos ch27]
            exact d1
          · rw [if_neg (show ¬ t.2.2.2.2.2 (T + i) c = (27 : Int32) from z), if_pos (show dva_ch (t.2.2.2.2.2 (T + i) c) = (96 : Int32) + t.2.2.2.2.2 (T + i) c from if_neg z)]
            exact d1
    · have eU : ¬ am_z (t.2.2.2.2.1 : Int) ≤ am_z ((T + i : Nat) : Int) := by rw [am_z_le (by omega) (by omega) (by omega) (by omega)]; omega
      have gq := hDW.2.2.2.1 (T + i) (by omega)
      obtain ⟨q1, q2, q3, q4, q5⟩ := hDW.2.2.2.2.1 (T + i) (by omega)
      have bA := (dm_ok_s q2).2.2
      have nnA := dv_nn (show A (T + i) < dm_bg by omega)
      have clA := dv_cl (show A (T + i) < dm_bg by omega)
      have i1 : am_in (am_z ((T + i : Nat) : Int)) 40 = true := am_z_int (by omega) (by omega) (by omega)
      have i2 : (am_z ((T + i : Nat) : Int)).toNatClampNeg = T + i := by rw [am_z_cl (by omega) (by omega), Int.toNat_natCast]
      obtain ⟨S', d1, d2, d3⟩ := dw_s186 (i5 := i5) hN hu hW et eT ew eh ok hT hww hwh hi (K165 := K165) k (c + 1) n _ (by omega) (by omega) P1 (by show dm_n S + k < dm_bg; omega)
      obtain ⟨d31, d32, d33⟩ := d3
      have d31 : dm_n S ≤ dm_n S' := d31
      have d32 : dm_n S' ≤ dm_n S + k := d32
      have d33 : dm_zz S' ≤ dm_zz S + 0 := d33
      refine ⟨S', ?_, d2, by omega, by omega, by omega⟩
      unfold el_L_isSeen_186
      simp only [u0, ew, am_bt_s, dv_sh0, if_neg hlt, o1, cond_true, g5, if_neg eU, g4, nnL, if_false, clL, o4, Bool.or_true, l4, dv_of, i1, Bool.and_true, i2, gq, nnA, clA, q2, Bool.true_or, c0]
      by_cases cc : dm_len S (A (T + i)) ≤ c
      · have s27 : t.2.2.2.2.2 (T + i) c = am_z 27 := q5 _ cc
        rw [s27] at a1 oA
        rw [ch27] at oA
        rw [if_pos (show am_z (dm_len S (A (T + i)) : Int) ≤ am_z (c : Int) by rw [am_z_le (by omega) (by omega) (by omega) (by omega)]; omega)]
        simp only [a1, am_bt_s, dv_h_sh, oA, am_bi_s, dv_sh2, e27, if_true, po, pc]
        rw [if_pos (show am_z 27 = (27 : Int32) from rfl)]
        exact d1
      · have i3 : am_in (am_z (c : Int)) (dm_len S (A (T + i))) = true := am_z_int (by omega) (by omega) (by omega)
        rw [if_neg (show ¬ am_z (dm_len S (A (T + i)) : Int) ≤ am_z (c : Int) by rw [am_z_le (by omega) (by omega) (by omega) (by omega)]; omega), i3, Bool.and_true, cond_true, q4 c (by omega)]
        simp only [a1, am_bt_s, dv_h_sh, oA, am_bi_s, dv_sh2, if_true, po, pc]
        by_cases z : t.2.2.2.2.2 (T + i) c = am_z 27
        · rw [if_pos (show t.2.2.2.2.2 (T + i) c = (27 : Int32) from z), z, if_pos ch27]
          exact d1
        · rw [if_neg (show ¬ t.2.2.2.2.2 (T + i) c = (27 : Int32) from z), if_pos (show dva_ch (t.2.2.2.2.2 (T + i) c) = (96 : Int32) + t.2.2.2.2.2 (T + i) c from if_neg z)]
          exact d1
end DVE
