section DVF
variable {N nS nU : Nat} {hm h0 : am_Hp}
theorem dw_s165 {a R Ln lo u T ww wh : Nat} {A : Nat → Nat} {t : qc_T} (hN : 2000 ≤ N) (hu : u < nU) (hW : dvaW hm u) (et : t = dvaT hm u) (eT : T = rTop t (hm 197) u) (ew : hm 197 (7 + 8 * u) = am_z ww) (eh : hm 197 (8 + 8 * u) = am_z wh) (ok : qc_OK t) (hT : T ≤ 100) (hww : ww ≤ 16) (hwh : wh ≤ 6) : ∀ (k i n : Nat) (S : dm_S), i + k = wh → k < n → dP nS nU h0 hm lo a R Ln A t (dva_out t T ww) (wh * (ww + 1)) S → dm_n S + 16 * k < dm_bg →
    ∃ S', el_L_isSeen_165 N n (am_z (u : Int)) a (am_z (T : Int)) (am_z ((i * (ww + 1) : Nat) : Int)) (am_z (i : Int)) S = some ((1 : Int32), S') ∧ dR nS nU h0 hm (dm_h S') ∧ dvB (16 * k) 0 S S'
  | k, i, 0, S, _, hx, _, _ => by omega
  | 0, i, n + 1, S, e, _, P, hbg => by
    have e1 : i = wh := by omega
    subst e1
    have hb2 : i * (ww + 1) ≤ 102 := by
      have := Nat.mul_le_mul hwh (Nat.add_le_add_right hww 1)
      omega
    obtain ⟨-, u1, -⟩ := dva_user (N := N) (by omega) P.2.2.1.1 hu
    have oA := dva_outAt (N := N) (i := i * (ww + 1)) P.2.2.2 hb2 (by omega)
    rw [if_neg (by omega)] at oA
    have nw : nv (hm 197 (7 + 8 * u)) = ww := by rw [ew]; exact nv_z (by omega)
    have nh : nv (hm 197 (8 + 8 * u)) = i := by rw [eh]; exact nv_z (by omega)
    obtain ⟨h1, a1, a2⟩ := dva_shown (N := N) (y := i) (c := 0) (by omega) P.2.2.1.1 hu hW (by omega) (by omega)
    rw [nw, nh, if_neg (by omega)] at a1
    have a1 : f_X9_shown N (am_z (u : Int)) (am_z (i : Int)) (0 : Int32) (dm_h S) = some (some (am_z (-1)), h1) := a1
    have P1 := dP_c P a2
    obtain ⟨u0, -⟩ := dva_user (N := N) (by omega) P1.2.2.1.1 hu
    have u0 : f_X9_user N (am_z (u : Int)) (0 : Int32) h1 = some (some (hm 197 (7 + 8 * u)), h1) := u0
    obtain ⟨h2, b1, b2⟩ := dva_shown (N := N) (y := 0) (c := ww) (by omega) P1.2.2.1.1 hu hW (by omega) (by omega)
    rw [nw, nh, if_neg (by omega)] at b1
    have b1 : f_X9_shown N (am_z (u : Int)) (0 : Int32) (am_z (ww : Int)) h1 = some (some (am_z (-1)), h2) := b1
    have em : (am_z (-1) = (-1 : Int32)) = True := eq_true rfl
    have e11 : ((1 : Int32) &&& 1 = (1 : Int32)) = True := eq_true (by decide)
    refine ⟨dm_sh S h2, ?_, (dP_c P1 b2).2.2.1, Nat.le_refl _, Nat.le_add_right _ _, Nat.le_add_right _ _⟩
    unfold el_L_isSeen_165
    simp only [u1, eh, am_bt_s, dv_sh0, if_pos (Int32.le_refl _), oA, am_bi_s, em, if_true, a1, dv_h_sh, dv_sh2, u0, ew, b1, e11]
  | k + 1, i, n + 1, S, e, hx, P, hbg => by
    have hlt : ¬ am_z (wh : Int) ≤ am_z (i : Int) := by rw [am_z_le (by omega) (by omega) (by omega) (by omega)]; omega
    obtain ⟨-, u1, -⟩ := dva_user (N := N) (by omega) P.2.2.1.1 hu
    obtain ⟨S1, a1, a2, a3⟩ := dw_s186 (N := N) (i5 := am_z (T : Int)) hN hu hW et eT ew eh ok hT hww hwh (show i < wh by omega) (K165 := el_L_isSeen_165 N n) ww 0 N S (by omega) (by omega) P (by omega)
    obtain ⟨a31, a32, a33⟩ := a3
    obtain ⟨S2, b1, b2, b3⟩ := dw_s165 hN hu hW et eT ew eh ok hT hww hwh k (i + 1) n S1 (by omega) (by omega) a2 (by omega)
    refine ⟨S2, ?_, b2, dvB_m (dvB_t ⟨a31, a32, a33⟩ b3) (by omega) (by omega)⟩
    have es : am_z (T : Int) + am_z (i : Int) = am_z ((T + i : Nat) : Int) := am_z_add _ _
    unfold el_L_isSeen_165
    simp only [u1, eh, am_bt_s, dv_sh0, if_neg hlt, es]
    exact a1.trans b1
theorem dw_isSeen {S : dm_S} {u : Nat} (hN : 2000 ≤ N) (RR : dR nS nU h0 hm (dm_h S)) (hu : u < nU) (hn : 1000 ≤ dm_n S) (hb : dm_n S + 8000 < dm_bg) :
    ∃ S' hm', e_L_isSeen N (am_z (u : Int)) S = some ((1 : Int32), S') ∧ dR nS nU h0 hm' (dm_h S') ∧ hm' 195 = hm 195 ∧ hm' 197 = hm 197 ∧ dvB 4005 59548 S S' := by
  obtain ⟨n1, n2, n3, n4, n5, n6⟩ := qr_n RR.1
  obtain ⟨u0, u1, u2, u3, u4, u5⟩ := dva_user (N := N) (by omega) RR.1 hu
  have e11 : ((1 : Int32) &&& 1 = (1 : Int32)) = True := eq_true (by decide)
  have em : (am_z (-1) = (-1 : Int32)) = True := eq_true rfl
  have em2 : ((-1 : Int32) = (-1 : Int32)) = True := eq_true rfl
  by_cases hw : hm 197 (9 + 8 * u) = am_z 0
  · have u3' : f_X9_user N (am_z (u : Int)) (3 : Int32) (dm_h S) = some (some (am_z (-1)), dm_h S) := by rw [u3, if_pos hw]
    have hm0 : ¬ ((0 : Int32) ≤ am_z (-1)) := by decide
    obtain ⟨s1, c1⟩ := dva_none (N := N) RR.1 hu hw
    obtain ⟨h1, w1, w2, w3⟩ := dva_write0 (N := N) RR.1 hu hw
    have m197 : dvaG h1 hm 197 = hm 197 := dvaG_wf.1 _ (by decide) (by decide)
    have m195 : dvaG h1 hm 195 = hm 195 := dvaG_wf.1 _ (by decide) (by decide)
    obtain ⟨-, -, y2, -⟩ := dva_user (N := N) (by omega) w2 hu
    rw [m197, hw] at y2
    refine ⟨dm_sh S h1, dvaG h1 hm, ?_, ⟨w2, cFt RR.2 w3⟩, m195, m197, Nat.le_refl _, Nat.le_add_right _ _, Nat.le_add_right _ _⟩
    unfold e_L_isSeen
    simp only [u3', am_bt_s, dv_sh0, if_neg hm0, s1, c1, em2, if_true, w1, dv_h_sh, y2]
    rw [if_pos (show am_z 0 = (0 : Int32) from rfl)]
    simp only [e11, if_true, dv_sh2]
  · have hW : dvaW hm u := hw
    obtain ⟨s, hx, hs, e3, eT, hq, p1, p2, -, -, -, -, ok, hT⟩ := dva_layW (N := N) (by omega) RR.1 hu hW
    obtain ⟨b1, b2, b3, b4, b5, b6, b7, bV⟩ := qr_U RR.1 hu
    have vw := bV.1
    have vh := bV.2.1
    have vl := bV.2.2.2.2.2.2.2
    have vw2 := vw.2.2
    have vh2 := vh.2.2
    have vh1 := vh.2.1
    have vl2 := vl.2.2
    have o := qc_OKw ok
    have u3' : f_X9_user N (am_z (u : Int)) (3 : Int32) (dm_h S) = some (some (am_z (s : Int)), dm_h S) := by rw [u3, if_neg hw, e3]
    have u4' := u4 hW
    have hm0 : (0 : Int32) ≤ am_z (s : Int) := by rw [show (0 : Int32) = am_z 0 from rfl, am_z_le (by omega) (by omega) (by omega) (by omega)]; omega
    obtain ⟨S1, e1, f1, f2⟩ := dv_screen (N := N) hN RR.1 hs hq hn hb
    obtain ⟨v1, v2, v3, v4, v5⟩ := f2
    rw [← eT] at f1
    obtain ⟨R, Ln, A, hDW, hDw, gr, gc⟩ := dV_e f1
    have o1 := hDW.1.1
    have g5 := hDW.2.1.2.2.2.2
    have R1 : dR nS nU h0 hm (dm_h S1) := by rw [v1]; exact RR
    obtain ⟨x0, x1, x2, x3, x4, x5⟩ := dva_user (N := N) (by omega) R1.1 hu
    obtain ⟨h2, c1, c2⟩ := dva_cursorRow (N := N) (by omega) R1.1 hu hW
    have R2 := dR_c R1 c2
    obtain ⟨y0, y1, -⟩ := dva_user (N := N) (by omega) R2.1 hu
    obtain ⟨h3, w1, w2, w3, w4⟩ := dva_write (N := N) (by omega) R2.1 hu hW
    have m197 : dvaG h3 hm 197 = hm 197 := dvaG_wf.1 _ (by decide) (by decide)
    have m195 : dvaG h3 hm 195 = hm 195 := dvaG_wf.1 _ (by decide) (by decide)
    obtain ⟨z0, z1, -⟩ := dva_user (N := N) (by omega) w2 hu
    rw [m197] at z0 z1
    have eT3 : dvaT (dvaG h3 hm) u = dvaT hm u := by unfold dvaT rLay; rw [m197, m195]
    have R3 : dR nS nU h0 (dvaG h3 hm) h3 := ⟨w2, cFt R2.2 w3⟩
    generalize ht : dvaT hm u = t at *
    generalize hTT : rTop t (hm 197) u = T at *
    generalize hww : nv (hm 197 (7 + 8 * u)) = ww at *
    generalize hwh : nv (hm 197 (8 + 8 * u)) = wh at *
    generalize hll : nv (hm 197 (14 + 8 * u)) = ll at *
    have ew : hm 197 (7 + 8 * u) = am_z ww := by rw [vw.1, hww]
    have eh : hm 197 (8 + 8 * u) = am_z wh := by rw [vh.1, hwh]
    have el : hm 197 (14 + 8 * u) = am_z ll := by rw [vl.1, hll]
    have tT : T = t.2.2.2.2.1 + t.2.2.1 + 1 - ll - wh := by rw [← hTT]; unfold rTop; rw [hll, hwh]
    have P : dP nS nU h0 (dvaG h3 hm) (dm_n S) (dm_n S) R Ln A t (dva_out t T ww) (wh * (ww + 1)) (dm_sh S1 h3) := ⟨hDW, hDw, R3, w4⟩
    obtain ⟨S', d1, d2, d3⟩ := dw_s165 (N := N) (hm := dvaG h3 hm) (T := T) hN hu (by unfold dvaW; rw [m197]; exact hw) eT3.symm (by rw [m197]; exact hTT.symm) (by rw [m197]; exact ew) (by rw [m197]; exact eh) ok (by omega) vw2 vh2 wh 0 N (dm_sh S1 h3) (by omega) (by omega) P (by show dm_n S1 + 16 * wh < dm_bg; omega)
    have d1 : el_L_isSeen_165 N N (am_z (u : Int)) (dm_n S) (am_z (T : Int)) (0 : Int32) (0 : Int32) (dm_sh S1 h3) = some ((1 : Int32), S') := by
      rw [Nat.zero_mul] at d1
      exact d1
    obtain ⟨d31, d32, d33⟩ := d3
    have d31 : dm_n S1 ≤ dm_n S' := d31
    have d32 : dm_n S' ≤ dm_n S1 + 16 * wh := d32
    have d33 : dm_zz S' ≤ dm_zz S1 + 0 := d33
    refine ⟨S', dvaG h3 hm, ?_, d2, m195, m197, by omega, by omega, by omega⟩
    have top : (if (0 : Int32) < (((am_z (t.2.2.2.2.1 : Int) + am_z (t.2.2.1 : Int)) - am_z (ll : Int)) - am_z (wh : Int)) + (1 : Int32) then (((am_z (t.2.2.2.2.1 : Int) + am_z (t.2.2.1 : Int)) - am_z (ll : Int)) - am_z (wh : Int)) + (1 : Int32) else (0 : Int32)) = am_z (T : Int) := by
      rw [show (1 : Int32) = am_z 1 from rfl, show (0 : Int32) = am_z 0 from rfl]
      simp only [am_z_add, am_z_sub]
      by_cases c : t.2.2.2.2.1 + t.2.2.1 + 1 ≤ ll + wh
      · have ec : ¬ (am_z 0 < am_z ((t.2.2.2.2.1 : Int) + t.2.2.1 - ll - wh + 1)) := by rw [am_z_lt (by omega) (by omega) (by omega) (by omega)]; omega
        have e0 : ((0 : Int)) = (T : Int) := by omega
        rw [if_neg ec, e0]
      · have ec : am_z 0 < am_z ((t.2.2.2.2.1 : Int) + t.2.2.1 - ll - wh + 1) := by rw [am_z_lt (by omega) (by omega) (by omega) (by omega)]; omega
        have e0 : (t.2.2.2.2.1 : Int) + t.2.2.1 - ll - wh + 1 = (T : Int) := by omega
        rw [if_pos ec, e0]
    have dif : (am_z (t.2.2.2.2.1 : Int) + am_z (t.2.2.1 : Int)) - am_z (T : Int) = am_z ((t.2.2.2.2.1 + t.2.2.1 - T : Nat) : Int) := by
      rw [am_z_add, am_z_sub]
      have : (t.2.2.2.2.1 : Int) + t.2.2.1 - T = ((t.2.2.2.2.1 + t.2.2.1 - T : Nat) : Int) := by omega
      rw [this]
    have wr : am_z ((wh * (ww + 1) : Nat) : Int) = am_z (wh : Int) * (am_z (ww : Int) + (1 : Int32)) := by
      rw [show (1 : Int32) = am_z 1 from rfl, am_z_add, am_z_mul]
      congr 1
    unfold e_L_isSeen
    simp only [u3', am_bt_s, dv_sh0, if_pos hm0, u4', e1, dv_bi, o1, cond_true, x5, el, x1, eh, c1, dv_h_sh, dv_ok_sh, dv_g_sh, dv_sh2, y1, g5, gr, top, dif]
    by_cases cc : wh ≤ t.2.2.2.2.1 + t.2.2.1 - T
    · rw [if_pos (show am_z (wh : Int) ≤ am_z ((t.2.2.2.2.1 + t.2.2.1 - T : Nat) : Int) by rw [am_z_le (by omega) (by omega) (by omega) (by omega)]; omega), if_pos cc, if_pos (show am_z (-1) = (-1 : Int32) from rfl)]
      simp only [w1, am_bt_s, dv_h_sh, dv_sh2, z0, z1, ew, eh, wr, if_true]
      exact d1
    · rw [if_neg (show ¬ am_z (wh : Int) ≤ am_z ((t.2.2.2.2.1 + t.2.2.1 - T : Nat) : Int) by rw [am_z_le (by omega) (by omega) (by omega) (by omega)]; omega), if_neg cc, if_pos rfl]
      simp only [w1, am_bt_s, dv_h_sh, dv_sh2, z0, z1, ew, eh, wr, if_true]
      exact d1
end DVF
