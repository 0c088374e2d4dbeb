section DV9
variable {N nS nU : Nat} {hc hm : am_Hp}
theorem dva_fcmp : ∀ v, v < 97 → ∀ m, m < 97 → m ≠ 0 → Op.cmpValue (FP.fcmp (FP.fdiv (FP.i2f (Int32.ofNat v)) (FP.i2f (Int32.ofNat m))) (FP.fdiv (FP.i2f (Int32.ofNat v)) (FP.i2f (Int32.ofNat m)))) .l = 0 := by decide +kernel
/-- the full places of row i before column j; of the rows before i -/
def dva_cF (t : qc_T) (i : Nat) : Nat → Nat
  | 0 => 0
  | j + 1 => dva_cF t i j + if qc_sy t i j = am_z 27 then 0 else 1
def dva_cR (t : qc_T) : Nat → Nat
  | 0 => 0
  | i + 1 => dva_cR t i + dva_cF t i t.1
theorem dva_cF_le (t : qc_T) (i : Nat) : ∀ j, dva_cF t i j ≤ j
  | 0 => Nat.le_refl _
  | j + 1 => by
    have := dva_cF_le t i j
    unfold dva_cF
    split <;> omega
theorem dva_cR_le (t : qc_T) (h : t.1 ≤ 16) : ∀ i, dva_cR t i ≤ 16 * i
  | 0 => Nat.le_refl _
  | i + 1 => by
    have := dva_cR_le t h i
    have := dva_cF_le t i t.1
    unfold dva_cR
    omega
theorem dva_fullC {t : qc_T} {h1 : am_Hp} {K4 : Nat → Int32 → Int32 → am_Hp → Option (Int32 × am_Hp)} (hR : qc_R 161 162 h1 t) (ok : qc_OK t) {i : Nat} (hi : i < t.2.1) : ∀ (k j n : Nat), j + k = t.1 → k < n → l_X4_fullPlaces_14 N K4 n 161 (am_z ((dva_cR t i + dva_cF t i j : Nat) : Int)) (am_z i) (am_z j) h1 = K4 161 (am_z ((dva_cR t (i + 1) : Nat) : Int)) (am_z ((i + 1 : Nat) : Int)) h1
  | k, j, 0, _, h => by omega
  | 0, j, n + 1, e, _ => by
    have e1 : j = t.1 := by omega
    subst e1
    have g1 := (qc_O1 (o := 161) (p := 162) (Or.inl ⟨rfl, rfl⟩)).1
    have e4 : (i : Int) + 1 = ((i + 1 : Nat) : Int) := by omega
    unfold l_X4_fullPlaces_14
    simp only [g1, cond_true, (qc_Rw hR).1, if_pos (Int32.le_refl _), am_z_lit, am_z_add, e4]
    rfl
  | k + 1, j, n + 1, e, h3 => by
    have o := qc_OKw ok
    have cl := dva_cR_le t o.2.1 i
    have cl2 := dva_cF_le t i j
    have g1 := (qc_O1 (o := 161) (p := 162) (Or.inl ⟨rfl, rfl⟩)).1
    have hlt : ¬ (am_z t.1 ≤ am_z j) := by rw [am_z_le (by omega) (by omega) (by omega) (by omega)]; omega
    have e4 : (j : Int) + 1 = ((j + 1 : Nat) : Int) := by omega
    have e5 : ((dva_cR t i + dva_cF t i j : Nat) : Int) + 1 = ((dva_cR t i + (dva_cF t i j + 1) : Nat) : Int) := by omega
    have ih := dva_fullC (K4 := K4) hR ok hi k (j + 1) n (by omega) (by omega)
    unfold l_X4_fullPlaces_14
    simp only [g1, cond_true, (qc_Rw hR).1, if_neg hlt, q_symS (Or.inl ⟨rfl, rfl⟩) hR ok (show i < 100 ∧ j < 100 by omega), am_bi_s, am_z_lit, am_z_add, e4, e5]
    by_cases q : qc_sy t i j = am_z 27
    · have e6 : dva_cF t i (j + 1) = dva_cF t i j := by
        show dva_cF t i j + (if qc_sy t i j = am_z 27 then 0 else 1) = _
        rw [if_pos q, Nat.add_zero]
      rw [e6] at ih
      rw [if_pos q]
      exact ih
    · have e6 : dva_cF t i (j + 1) = dva_cF t i j + 1 := by
        show dva_cF t i j + (if qc_sy t i j = am_z 27 then 0 else 1) = _
        rw [if_neg q]
      rw [e6] at ih
      rw [if_neg q]
      exact ih
theorem dva_fullR {t : qc_T} {h1 : am_Hp} (hN : 1000 ≤ N) (hR : qc_R 161 162 h1 t) (ok : qc_OK t) : ∀ (k i n : Nat), i + k = t.2.1 → k < n → l_X4_fullPlaces_4 N n 161 (am_z ((dva_cR t i : Nat) : Int)) (am_z i) h1 = some (am_z ((dva_cR t t.2.1 : Nat) : Int), h1)
  | k, i, 0, _, h => by omega
  | 0, i, n + 1, e, _ => by
    have e1 : i = t.2.1 := by omega
    subst e1
    have g1 := (qc_O1 (o := 161) (p := 162) (Or.inl ⟨rfl, rfl⟩)).1
    unfold l_X4_fullPlaces_4
    simp only [g1, cond_true, (qc_Rw hR).2.1, if_pos (Int32.le_refl _)]
  | k + 1, i, n + 1, e, h3 => by
    have o := qc_OKw ok
    have g1 := (qc_O1 (o := 161) (p := 162) (Or.inl ⟨rfl, rfl⟩)).1
    have hlt : ¬ (am_z t.2.1 ≤ am_z i) := by rw [am_z_le (by omega) (by omega) (by omega) (by omega)]; omega
    have a2 := dva_fullC (N := N) (K4 := l_X4_fullPlaces_4 N n) hR ok (i := i) (by omega) t.1 0 N (by omega) (by omega)
    unfold l_X4_fullPlaces_4
    simp only [g1, cond_true, (qc_Rw hR).2.1, if_neg hlt]
    exact a2.trans (dva_fullR hN hR ok k (i + 1) n (by omega) (by omega))
theorem dva_fullness (hN : 1000 ≤ N) (R : qr_R nS nU hc hm) {s q : Nat} (hs : s < nS) (hq : q ≤ nv (hm 197 (55 + 1504 * s))) :
    dvaP (f_X9_fullness N (am_z s) (am_z q) hc) (FP.fdiv (FP.i2f (Int32.ofNat (dva_cR (rLay hm s q) (rLay hm s q).2.1))) (FP.i2f (Int32.ofNat ((rLay hm s q).1 * (rLay hm s q).2.1)))) hc := by
  obtain ⟨h1, a1, a2, a3⟩ := dva_lay (N := N) hN R hs hq
  have ok := rLay_ok R hs hq
  obtain ⟨w1, w2, w3, w4, w5⟩ := qc_Rw a2
  have o := qc_OKw ok
  have hp : (rLay hm s q).1 * (rLay hm s q).2.1 < 97 := by
    have := Nat.mul_le_mul o.2.1 o.2.2.2.1
    omega
  have hp0 : (rLay hm s q).1 * (rLay hm s q).2.1 ≠ 0 := by
    have := Nat.mul_le_mul o.1 o.2.2.1
    omega
  have cl := dva_cR_le (rLay hm s q) o.2.1 (rLay hm s q).2.1
  have f := fp_ok (dva_cR (rLay hm s q) (rLay hm s q).2.1) (by omega) _ hp hp0
  have c1 : l_X4_fullPlaces_4 N N 161 (am_z 0) (am_z 0) h1 = _ := dva_fullR (N := N) hN a2 ok (rLay hm s q).2.1 0 N (by omega) (by omega)
  have e2 : am_z (rLay hm s q).2.1 * am_z (rLay hm s q).1 = Int32.ofNat ((rLay hm s q).1 * (rLay hm s q).2.1) := by
    rw [am_z_mul, am_z_nat, Int.mul_comm]; congr 1
  have pos : am_z 0 < Int32.ofNat ((rLay hm s q).1 * (rLay hm s q).2.1) := by
    rw [am_z_nat, am_z_lt (by omega) (by omega) (by omega) (by omega)]; omega
  have ev : am_z ((dva_cR (rLay hm s q) (rLay hm s q).2.1 : Nat) : Int) = Int32.ofNat (dva_cR (rLay hm s q) (rLay hm s q).2.1) := (am_z_nat _).symm
  refine ⟨h1, ?_, a3⟩
  unfold f_X9_fullness f_X4_fullPlaces
  simp only [a1, am_bt_s, am_z_lit, w1, w2, e2, if_pos pos, c1, am_bi_s, ev, if_pos f]
/-- the user u watches; what the window shows -/
def dvaW (hm : am_Hp) (u : Nat) : Prop := hm 197 (9 + 8 * u) ≠ am_z 0
def dvaT (hm : am_Hp) (u : Nat) : qc_T := rLay hm (nv (hm 197 (10 + 8 * u))) (rPos (hm 197) u)
theorem dva_user (hN : 1000 ≤ N) (R : qr_R nS nU hc hm) {u : Nat} (hu : u < nU) :
    f_X9_user N (am_z u) (0 : Int32) hc = some (some (hm 197 (7 + 8 * u)), hc) ∧ f_X9_user N (am_z u) (1 : Int32) hc = some (some (hm 197 (8 + 8 * u)), hc) ∧ f_X9_user N (am_z u) (2 : Int32) hc = some (some (hm 197 (9 + 8 * u)), hc) ∧
    f_X9_user N (am_z u) (3 : Int32) hc = some (some (if hm 197 (9 + 8 * u) = am_z 0 then am_z (-1) else hm 197 (10 + 8 * u)), hc) ∧ (dvaW hm u → f_X9_user N (am_z u) (4 : Int32) hc = some (some (am_z (rPos (hm 197) u)), hc)) ∧ f_X9_user N (am_z u) (5 : Int32) hc = some (some (hm 197 (14 + 8 * u)), hc) := by
  obtain ⟨n1, n2, n3, n4, n5, n6⟩ := qr_n R
  obtain ⟨b1, b2, b3, b4, b5, b6, b7, bV⟩ := qr_U R hu
  have u6 : u < 6 := by omega
  have i0 : (am_z 0).toInt = 0 := by decide
  have i1 : (am_z 1).toInt = 1 := by decide
  have i2 : (am_z 2).toInt = 2 := by decide
  have i3 : (am_z 3).toInt = 3 := by decide
  have i4 : (am_z 4).toInt = 4 := by decide
  have i5 : (am_z 5).toInt = 5 := by decide
  unfold f_X9_user
  simp only [am_z_lit, am_z_neg, c_seat n4 n2 hu, am_bt_s, i0, i1, i2, i3, i4, i5, vi_10, vi_20, vi_21, vi_30, vi_31, vi_32, vi_40, vi_41, vi_42, vi_43, vi_50, vi_51, vi_52, vi_53, vi_54, if_true, if_false, (g_u u u6).2, cond_true, b1, b2, b3, b7]
  refine ⟨trivial, trivial, trivial, ?_, fun w => ?_, trivial⟩
  · by_cases w0 : hm 197 (9 + 8 * u) = am_z 0
    · rw [if_pos w0, if_pos w0]
    · rw [if_neg w0, if_neg w0, b4 w0]
  · rw [if_neg w, c_pos (N := N) hN n3 n1 n2 R.2.2.1 R.2.2.2.1 hu w, am_bt_s]
/-- what every window's view is made of -/
theorem dva_layW (hN : 1000 ≤ N) (R : qr_R nS nU hc hm) {u : Nat} (hu : u < nU) (hw : dvaW hm u) :
    ∃ s h1, s < nS ∧ hm 197 (10 + 8 * u) = am_z (s : Int) ∧ dvaT hm u = rLay hm s (rPos (hm 197) u) ∧ rPos (hm 197) u ≤ nv (hm 197 (55 + 1504 * s)) ∧ f_X9_positionOf N (33 + u) hc = some (some (am_z (rPos (hm 197) u)), hc) ∧ hc (33 + u) 3 = am_z (s : Int) ∧ f_X9_draw N 161 (am_z (s : Int)) (am_z (rPos (hm 197) u)) hc = some (some (), h1) ∧ qc_R 161 162 h1 (dvaT hm u) ∧ cfr hc h1 ∧
      f_X9_uppermostLine N (33 + u) h1 = some (am_z (rTop (dvaT hm u) (hm 197) u), h1) ∧ qc_OK (dvaT hm u) ∧ rTop (dvaT hm u) (hm 197) u ≤ (dvaT hm u).2.2.2.2.1 + (dvaT hm u).2.2.1 := by
  obtain ⟨n1, n2, n3, n4, n5, n6⟩ := qr_n R
  obtain ⟨b1, b2, b3, b4, b5, b6, b7, bV⟩ := qr_U R hu
  have u6 : u < 6 := by omega
  have p1 := c_pos (N := N) hN n3 n1 n2 R.2.2.1 R.2.2.2.1 hu hw
  have p3 := rPos_le bV hw
  obtain ⟨s1, s2⟩ := bV.2.2.2.1 hw
  have vwh := bV.2.1
  have vlb := bV.2.2.2.2.2.2.2
  unfold dvaT
  generalize hss : nv (hm 197 (10 + 8 * u)) = s at *
  have e3 : hm 197 (10 + 8 * u) = am_z s := by rw [s1.1, hss]
  obtain ⟨h1, a1, a2, a3⟩ := dva_lay (N := N) hN R s2 p3
  have ok := rLay_ok R s2 p3
  have o := qc_OKw ok
  have vl2 := vlb.2.2
  have vw1 := vwh.2.1
  have vw2 := vwh.2.2
  refine ⟨s, h1, s2, e3, rfl, p3, p1, by rw [b4 hw, e3], a1, a2, a3, ?_, ok, by unfold rTop; omega⟩
  generalize rLay hm s (rPos (hm 197) u) = t at *
  have eT : max ((t.2.2.2.2.1 : Int) + t.2.2.1 - nv (hm 197 (14 + 8 * u)) - nv (hm 197 (8 + 8 * u)) + 1) 0 = (rTop t (hm 197) u : Int) := by unfold rTop; omega
  unfold f_X9_uppermostLine f_X4_cursorLine
  simp only [(qc_O1 (o := 161) (p := 162) (Or.inl ⟨rfl, rfl⟩)).1, cond_true, (qc_Rw a2).2.2.1, (qc_Rw a2).2.2.2.1, am_bi_s, (g_u u u6).2, c_fr33 a3 (show 33 + u < 161 by omega), b2, b7, am_z_lit, am_z_add]
  rw [vlb.1, vwh.1]
  simp only [am_z_sub, am_z_add]
  simp (disch := omega) only [am_z_lt, am_z_max]
  rw [eT]
theorem dva_shown (hN : 1000 ≤ N) (R : qr_R nS nU hc hm) {u y c : Nat} (hu : u < nU) (hw : dvaW hm u) (hy : y < 1000) (hcc : c < 1000) :
    dvaP (f_X9_shown N (am_z u) (am_z y) (am_z c) hc) (if y < nv (hm 197 (8 + 8 * u)) ∧ c < nv (hm 197 (7 + 8 * u)) then (dvaT hm u).2.2.2.2.2 (rTop (dvaT hm u) (hm 197) u + y) c else am_z (-1)) hc := by
  obtain ⟨n1, n2, n3, n4, n5, n6⟩ := qr_n R
  obtain ⟨b1, b2, b3, b4, b5, b6, b7, bV⟩ := qr_U R hu
  have u6 : u < 6 := by omega
  have vw := bV.1
  have vh := bV.2.1
  have vw2 := vw.2.2
  have vh2 := vh.2.2
  obtain ⟨s, h1, hs, e3, eT, hq, p1, p2, a1, a2, a3, a4, ok, hT⟩ := dva_layW (N := N) hN R hu hw
  have o := qc_OKw ok
  have q0 : ¬ hm 197 (9 + 8 * u) = am_z 0 := hw
  have c1 : ¬ am_z (y : Int) < am_z 0 := by rw [am_z_lt (by omega) (by omega) (by omega) (by omega)]; omega
  have c3 : ¬ am_z (c : Int) < am_z 0 := by rw [am_z_lt (by omega) (by omega) (by omega) (by omega)]; omega
  have ew3 : (hm 197 (8 + 8 * u) ≤ am_z y) = (nv (hm 197 (8 + 8 * u)) ≤ y) := by
    have h := am_z_le (x := (nv (hm 197 (8 + 8 * u)) : Int)) (y := (y : Int)) (by omega) (by omega) (by omega) (by omega)
    rw [← vh.1] at h
    rw [h]
    exact propext ⟨fun z => by omega, fun z => by omega⟩
  have ew4 : (am_z c < hm 197 (7 + 8 * u)) = (c < nv (hm 197 (7 + 8 * u))) := by
    have h := am_z_lt (y := (nv (hm 197 (7 + 8 * u)) : Int)) (x := (c : Int)) (by omega) (by omega) (by omega) (by omega)
    rw [← vw.1] at h
    rw [h]
    exact propext ⟨fun z => by omega, fun z => by omega⟩
  unfold f_X9_shown
  simp only [am_z_lit, am_z_neg, c_seat n4 n2 hu, am_bt_s, (g_u u u6).2, cond_true, b3, b1, b2, if_neg q0, if_neg c1, if_neg c3, ew3, ew4]
  by_cases c2 : nv (hm 197 (8 + 8 * u)) ≤ y
  · rw [if_pos c2, if_neg (by omega)]
    exact ⟨hc, rfl, cfr0⟩
  rw [if_neg c2]
  by_cases c4 : c < nv (hm 197 (7 + 8 * u))
  · rw [if_pos c4, if_pos (by omega)]
    refine ⟨h1, ?_, a3⟩
    simp only [p1, am_bt_s, p2, a1, a4, am_bi_s, am_z_add]
    rw [qc_symL (Or.inl ⟨rfl, rfl⟩) a2 ok (by omega), am_bi_s, if_neg (by omega)]
    have e6 : ((rTop (dvaT hm u) (hm 197) u : Int) + y).toNat = rTop (dvaT hm u) (hm 197) u + y := by omega
    rw [e6, Int.toNat_natCast]
  · rw [if_neg c4, if_neg (by omega)]
    exact ⟨hc, rfl, cfr0⟩
theorem dva_cursorRow (hN : 1000 ≤ N) (R : qr_R nS nU hc hm) {u : Nat} (hu : u < nU) (hw : dvaW hm u) :
    dvaP (f_X9_cursorRow N (am_z u) hc) (if nv (hm 197 (8 + 8 * u)) ≤ (dvaT hm u).2.2.2.2.1 + (dvaT hm u).2.2.1 - rTop (dvaT hm u) (hm 197) u then am_z (-1) else am_z (((dvaT hm u).2.2.2.2.1 + (dvaT hm u).2.2.1 - rTop (dvaT hm u) (hm 197) u : Nat) : Int)) hc := by
  obtain ⟨n1, n2, n3, n4, n5, n6⟩ := qr_n R
  obtain ⟨b1, b2, b3, b4, b5, b6, b7, bV⟩ := qr_U R hu
  have u6 : u < 6 := by omega
  have vh := bV.2.1
  have vh2 := vh.2.2
  obtain ⟨s, h1, hs, e3, eT, hq, p1, p2, a1, a2, a3, a4, ok, hT⟩ := dva_layW (N := N) hN R hu hw
  have o := qc_OKw ok
  have q0 : ¬ hm 197 (9 + 8 * u) = am_z 0 := hw
  generalize rTop (dvaT hm u) (hm 197) u = T at *
  have e1 : ((dvaT hm u).2.2.2.2.1 : Int) + (dvaT hm u).2.2.1 - T = (((dvaT hm u).2.2.2.2.1 + (dvaT hm u).2.2.1 - T : Nat) : Int) := by omega
  have ew3 : (hm 197 (8 + 8 * u) ≤ am_z (((dvaT hm u).2.2.2.2.1 + (dvaT hm u).2.2.1 - T : Nat) : Int)) = (nv (hm 197 (8 + 8 * u)) ≤ (dvaT hm u).2.2.2.2.1 + (dvaT hm u).2.2.1 - T) := by
    have h := am_z_le (x := (nv (hm 197 (8 + 8 * u)) : Int)) (y := (((dvaT hm u).2.2.2.2.1 + (dvaT hm u).2.2.1 - T : Nat) : Int)) (by omega) (by omega) (by omega) (by omega)
    rw [← vh.1] at h
    rw [h]
    exact propext ⟨fun z => by omega, fun z => by omega⟩
  refine ⟨h1, ?_, a3⟩
  unfold f_X9_cursorRow f_X4_cursorLine
  simp only [am_z_lit, am_z_neg, c_seat n4 n2 hu, am_bt_s, (g_u u u6).2, cond_true, b3, if_neg q0, p1, p2, a1, (qc_O1 (o := 161) (p := 162) (Or.inl ⟨rfl, rfl⟩)).1, (qc_Rw a2).2.2.1, (qc_Rw a2).2.2.2.1, am_bi_s, a4, c_fr33 a3 (show 33 + u < 161 by omega), b2, am_z_add, am_z_sub, e1, ew3]
  by_cases q5 : nv (hm 197 (8 + 8 * u)) ≤ (dvaT hm u).2.2.2.2.1 + (dvaT hm u).2.2.1 - T
  · rw [if_pos q5, if_pos q5]
  · rw [if_neg q5, if_neg q5]
/-- who does not watch -/
theorem dva_none (R : qr_R nS nU hc hm) {u : Nat} (hu : u < nU) (hw : hm 197 (9 + 8 * u) = am_z 0) : (∀ x y, f_X9_shown N (am_z u) x y hc = some (some (-1 : Int32), hc)) ∧ f_X9_cursorRow N (am_z u) hc = some (some (-1 : Int32), hc) := by
  obtain ⟨n1, n2, n3, n4, n5, n6⟩ := qr_n R
  obtain ⟨b1, b2, b3, b4, b5, b6, b7, bV⟩ := qr_U R hu
  have u6 : u < 6 := by omega
  unfold f_X9_shown f_X9_cursorRow
  simp only [am_z_lit, am_z_neg, c_seat n4 n2 hu, am_bt_s, (g_u u u6).2, cond_true, b3, if_pos hw]
  exact ⟨fun _ _ => trivial, trivial⟩
end DV9
