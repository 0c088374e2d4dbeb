section DVA
variable {N nS nU : Nat} {hc hm : am_Hp}
/-- the character of a symbol; the k-th character written -/
def dva_ch (sy : Int32) : Int32 := if sy = am_z 27 then am_z 32 else am_z 96 + sy
def dva_out (t : qc_T) (T ww k : Nat) : Int32 := if k % (ww + 1) < ww then dva_ch (t.2.2.2.2.2 (T + k / (ww + 1)) (k % (ww + 1))) else am_z 10
def dvaO (G : Nat → Int32) (c : Nat) (h : am_Hp) : Prop := h 0 4 = am_z c ∧ ∀ k, k < c → h 14 k = G k
theorem dva_step {G : Nat → Int32} {c : Nat} {v : Int32} {h : am_Hp} (w : dvaO G c h) (hcc : c < 102) (hv : G c = v) : ∃ h', f_X9_putOut N v h = some ((), h') ∧ dvaO G (c + 1) h' ∧ wf1 h h' := by
  obtain ⟨w1, w3⟩ := w
  have e4 : (c : Int) + 1 = ((c + 1 : Nat) : Int) := by omega
  refine ⟨am_pi (am_pi h 14 c v) 0 4 (am_z ((c + 1 : Nat) : Int)), ?_, ⟨am_pi_s _ _ _ _, fun k hk => ?_⟩, ⟨fun a p q => ?_, fun k hk => ?_⟩⟩
  · unfold f_X9_putOut
    simp (disch := first | omega | decide) only [am_z_lit, am_z_nat, w1, am_z_le, m_in, cond_true, am_z_cl, Int.toNat_natCast, am_pi_a, am_z_add, e4]
    rw [if_neg (by omega)]
  · have a1 : am_pi (am_pi h 14 c v) 0 4 (am_z ((c + 1 : Nat) : Int)) 14 k = am_pi h 14 c v 14 k := am_pi_a (by decide)
    rw [a1, am_pi_ap]
    by_cases q : k = c
    · rw [if_pos ⟨rfl, q⟩, q, hv]
    · rw [if_neg (fun z => q z.2)]; exact w3 k (by omega)
  · rw [qc_pia q, qc_pia p]
  · rw [am_pi_k hk, am_pi_a (by decide)]
theorem dva_outE {t : qc_T} {T ww i j : Nat} (hj : j ≤ ww) : dva_out t T ww (i * (ww + 1) + j) = if j < ww then dva_ch (t.2.2.2.2.2 (T + i) j) else am_z 10 := by
  unfold dva_out
  have e1 : (i * (ww + 1) + j) % (ww + 1) = j := by
    rw [Nat.add_comm, Nat.add_mul_mod_self_right, Nat.mod_eq_of_lt (by omega)]
  have e2 : (i * (ww + 1) + j) / (ww + 1) = i := by
    rw [Nat.add_comm, Nat.add_mul_div_right _ _ (by omega), Nat.div_eq_of_lt (by omega), Nat.zero_add]
  rw [e1, e2]
theorem dva_rowL {t : qc_T} {T u i ww : Nat} (ok : qc_OK t) (hT : T < 100) (hi : i < 6) (hu : u < 6) (hww : ww ≤ 16) {K46 : Nat → Int32 → Int32 → am_Hp → Option (Option Int32 × am_Hp)} : ∀ (k j n : Nat) (h1 : am_Hp), j + k = ww → k < n → dvaO (dva_out t T ww) (i * (ww + 1) + j) h1 → qc_R 161 162 h1 t → h1 (33 + u) 0 = am_z ww → i * (ww + 1) + ww + 1 ≤ 102 →
    ∃ h1', l_X9_write_58 N K46 n (33 + u) (am_z T) (am_z i) (am_z j) h1 = K46 (33 + u) (am_z T) (am_z ((i + 1 : Nat) : Int)) h1' ∧ dvaO (dva_out t T ww) ((i + 1) * (ww + 1)) h1' ∧ wf1 h1 h1'
  | k, j, 0, h1, _, h, _, _, _, _ => by omega
  | 0, j, n + 1, h1, e, _, w, hR, z1, hb => by
    have e1 : j = ww := by omega
    subst e1
    have e4 : (i : Int) + 1 = ((i + 1 : Nat) : Int) := by omega
    obtain ⟨h1', a1, a3, a4⟩ := dva_step (N := N) (v := am_z 10) w (by omega) (by rw [dva_outE (Nat.le_refl _), if_neg (by omega)])
    have e5 : (i + 1) * (j + 1) = i * (j + 1) + j + 1 := by rw [Nat.succ_mul]; omega
    refine ⟨h1', ?_, by rw [e5]; exact a3, a4⟩
    unfold l_X9_write_58
    simp only [(g_u u hu).2, cond_true, z1, if_pos (Int32.le_refl _), am_z_lit, a1, am_bi_s, am_z_add, e4]
  | k + 1, j, n + 1, h1, e, x1, w, hR, z1, hb => by
    have e4 : (j : Int) + 1 = ((j + 1 : Nat) : Int) := by omega
    have hlt : ¬ (am_z ww ≤ am_z j) := by rw [am_z_le (by omega) (by omega) (by omega) (by omega)]; omega
    have s1 : f_X4_symbolInLine N 161 (am_z ((T : Int) + i)) (am_z j) h1 = some (t.2.2.2.2.2 (T + i) j, h1) := by
      rw [qc_symL (Or.inl ⟨rfl, rfl⟩) hR ok (by omega), if_neg (by omega)]
      have e6 : ((T : Int) + i).toNat = T + i := by omega
      rw [e6, Int.toNat_natCast]
    have hch : f_X9_characterFor N (t.2.2.2.2.2 (T + i) j) h1 = some (dva_ch (t.2.2.2.2.2 (T + i) j), h1) := by
      generalize t.2.2.2.2.2 (T + i) j = sy
      unfold f_X9_characterFor dva_ch
      simp only [am_z_lit]
      by_cases q : sy = am_z 27
      · rw [if_pos q, if_pos q]
      · rw [if_neg q, if_neg q]
        obtain ⟨v, rfl, -, -⟩ := am_z_ex sy
        rw [am_z_add, am_z_add, am_z_sub]
        have : 97 + v - 1 = 96 + v := by omega
        rw [this]
    obtain ⟨h1', a1, a3, a4⟩ := dva_step (N := N) (v := dva_ch (t.2.2.2.2.2 (T + i) j)) w (by omega) (by rw [dva_outE (by omega), if_pos (by omega)])
    obtain ⟨h1'', b1, b3, b4⟩ := dva_rowL ok hT hi hu hww (K46 := K46) k (j + 1) n h1' (by omega) (by omega) a3 (w_qc a4 hR) (by rw [a4.1 _ (by omega) (by omega)]; exact z1) hb
    refine ⟨h1'', ?_, b3, wf1t a4 b4⟩
    unfold l_X9_write_58
    simp only [(g_u u hu).2, cond_true, z1, if_neg hlt, s1, hch, a1, am_bi_s, am_z_lit, am_z_add, e4]
    exact b1
theorem dva_allL {t : qc_T} {T u ww wh : Nat} (hN : 1000 ≤ N) (ok : qc_OK t) (hT : T < 100) (hu : u < 6) (hww : ww ≤ 16) (hwh : wh ≤ 6) : ∀ (k i n : Nat) (h1 : am_Hp), i + k = wh → k < n → dvaO (dva_out t T ww) (i * (ww + 1)) h1 → qc_R 161 162 h1 t → h1 (33 + u) 0 = am_z ww → h1 (33 + u) 1 = am_z wh →
    ∃ h1', l_X9_write_46 N n (33 + u) (am_z T) (am_z i) h1 = some (some (am_z ((wh * (ww + 1) : Nat) : Int)), h1') ∧ dvaO (dva_out t T ww) (wh * (ww + 1)) h1' ∧ wf1 h1 h1'
  | k, j, 0, h1, _, h, _, _, _, _ => by omega
  | 0, i, n + 1, h1, e, _, w, hR, z1, z3 => by
    have e1 : i = wh := by omega
    subst e1
    refine ⟨h1, ?_, w, wf1_0⟩
    unfold l_X9_write_46
    simp only [(g_u u hu).2, cond_true, z3, if_pos (Int32.le_refl _), w.1]
  | k + 1, i, n + 1, h1, e, x1, w, hR, z1, z3 => by
    have hlt : ¬ (am_z wh ≤ am_z i) := by rw [am_z_le (by omega) (by omega) (by omega) (by omega)]; omega
    have hb : i * (ww + 1) + ww + 1 ≤ 102 := by
      have h5 : i ≤ 5 := by omega
      have h6 : ww + 1 ≤ 17 := by omega
      have := Nat.mul_le_mul h5 h6
      omega
    obtain ⟨h1', a1, a3, a4⟩ := dva_rowL (N := N) ok hT (show i < 6 by omega) hu hww (K46 := l_X9_write_46 N n) ww 0 N h1 (by omega) (by omega) w hR z1 hb
    have a1' : l_X9_write_58 N (l_X9_write_46 N n) N (33 + u) (am_z T) (am_z i) (am_z 0) h1 = _ := a1
    obtain ⟨h1'', b1, b3, b4⟩ := dva_allL hN ok hT hu hww hwh k (i + 1) n h1' (by omega) (by omega) a3 (w_qc a4 hR) (by rw [a4.1 _ (by omega) (by omega)]; exact z1) (by rw [a4.1 _ (by omega) (by omega)]; exact z3)
    refine ⟨h1'', ?_, b3, wf1t a4 b4⟩
    unfold l_X9_write_46
    simp only [(g_u u hu).2, cond_true, z3, if_neg hlt, am_z_lit, a1', b1]
/-- the reference's part once the class has written -/
def dvaG (hc hm : am_Hp) : am_Hp := fun a k => if a = 204 then hc 14 k else if a = 193 ∧ k = 30 then hc 0 4 else hm a k
theorem dvaG_wf {h hm : am_Hp} : wf2 hm (dvaG h hm) := ⟨fun a x y => by
  funext k
  unfold dvaG
  rw [if_neg x, if_neg (fun z => y z.1)], fun k hk => by
  unfold dvaG
  rw [if_neg (by decide), if_neg (fun z => hk z.2)]⟩
theorem dvaG_R {h1 : am_Hp} {c : Nat} (R : qr_R nS nU hc hm) (a : wf1 hc h1) (e : h1 0 4 = am_z c) (hcc : c ≤ 102) : qr_R nS nU h1 (dvaG h1 hm) := by
  refine qr_out R a dvaG_wf ⟨e, ?_, fun k _ => ?_⟩ hcc
  · unfold dvaG
    rw [if_neg (by decide), if_pos ⟨rfl, rfl⟩, e]
  · unfold dvaG
    rw [if_pos rfl]
theorem dva_write0 (R : qr_R nS nU hc hm) {u : Nat} (hu : u < nU) (hw : hm 197 (9 + 8 * u) = am_z 0) : ∃ h1, f_X9_write N (am_z u) hc = some (some (0 : Int32), h1) ∧ qr_R nS nU h1 (dvaG h1 hm) ∧ cF hc h1 := by
  obtain ⟨n1, n2, n3, n4, n5, n6⟩ := qr_n R
  obtain ⟨b1, b2, b3, b4, b5, b6, b7, bV⟩ := qr_U R hu
  have u6 : u < 6 := by omega
  have z : ∀ a : Nat, a ≠ 0 → am_pi hc 0 4 (am_z 0) a = hc a := fun a ha => qc_pia ha
  refine ⟨am_pi hc 0 4 (am_z 0), ?_, dvaG_R (c := 0) R ⟨fun a _ p => qc_pia p, fun k p => am_pi_k p⟩ (am_pi_s _ _ _ _) (by omega), cF_p (by decide)⟩
  unfold f_X9_write
  simp only [am_z_lit, am_z_neg, c_seat n4 n2 hu, am_bt_s, (g_u u u6).2, cond_true, z (33 + u) (by omega), b3, if_pos hw]
theorem dva_write (hN : 1000 ≤ N) (R : qr_R nS nU hc hm) {u : Nat} (hu : u < nU) (hw : dvaW hm u) :
    ∃ h1, f_X9_write N (am_z u) hc = some (some (am_z ((nv (hm 197 (8 + 8 * u)) * (nv (hm 197 (7 + 8 * u)) + 1) : Nat) : Int)), h1) ∧ qr_R nS nU h1 (dvaG h1 hm) ∧ cF hc h1 ∧ dvaO (dva_out (dvaT hm u) (rTop (dvaT hm u) (hm 197) u) (nv (hm 197 (7 + 8 * u)))) (nv (hm 197 (8 + 8 * u)) * (nv (hm 197 (7 + 8 * u)) + 1)) h1 := by
  obtain ⟨n1, n2, n3, n4, n5, n6⟩ := qr_n R
  have u6 : u < 6 := by omega
  have R1 : qr_R nS nU (am_pi hc 0 4 (am_z 0)) (dvaG (am_pi hc 0 4 (am_z 0)) hm) := dvaG_R (c := 0) R ⟨fun a _ p => qc_pia p, fun k p => am_pi_k p⟩ (am_pi_s _ _ _ _) (by omega)
  have F1 : cF hc (am_pi hc 0 4 (am_z 0)) := cF_p (by decide)
  have q0 : ¬ hm 197 (9 + 8 * u) = am_z 0 := hw
  obtain ⟨n1', n2', n3', n4', -, -⟩ := qr_n R1
  generalize hgc : am_pi hc 0 4 (am_z 0) = gc at *
  have m197 : dvaG gc hm 197 = hm 197 := dvaG_wf.1 _ (by decide) (by decide)
  have m195 : dvaG gc hm 195 = hm 195 := dvaG_wf.1 _ (by decide) (by decide)
  have eT : dvaT (dvaG gc hm) u = dvaT hm u := by unfold dvaT rLay; rw [m197, m195]
  obtain ⟨b1, b2, b3, b4, b5, b6, b7, bV⟩ := qr_U R1 hu
  obtain ⟨s, h1, hs, e3, -, hq, p1, p2, a1, a2, a3, a4, ok, hT⟩ := dva_layW (N := N) hN R1 hu (by unfold dvaW; rw [m197]; exact hw)
  have o := qc_OKw ok
  rw [m197] at b1 b2 b3 bV a4 hT p1 a1
  rw [eT] at a2 a4 ok hT o
  have vw := bV.1
  have vh := bV.2.1
  have vw2 := vw.2.2
  have vh2 := vh.2.2
  have g0 : gc 0 4 = am_z 0 := by rw [← hgc]; exact am_pi_s _ _ _ _
  have w0 : dvaO (dva_out (dvaT hm u) (rTop (dvaT hm u) (hm 197) u) (nv (hm 197 (7 + 8 * u)))) (0 * (nv (hm 197 (7 + 8 * u)) + 1)) h1 := by
    rw [Nat.zero_mul]
    exact ⟨by rw [c_fr33 a3 (by decide)]; exact g0, fun k hk => by omega⟩
  obtain ⟨h2, e1, e2, e4⟩ := dva_allL (N := N) (u := u) hN ok (show rTop (dvaT hm u) (hm 197) u < 100 by omega) u6 vw2 vh2 (nv (hm 197 (8 + 8 * u))) 0 N h1 (by omega) (by omega) w0 a2 (by rw [c_fr33 a3 (by omega), b1]; exact vw.1) (by rw [c_fr33 a3 (by omega), b2]; exact vh.1)
  have e1' : l_X9_write_46 N N (33 + u) (am_z (rTop (dvaT hm u) (hm 197) u)) (am_z 0) h1 = _ := e1
  have hb : nv (hm 197 (8 + 8 * u)) * (nv (hm 197 (7 + 8 * u)) + 1) ≤ 102 := by
    have := Nat.mul_le_mul vh2 (Nat.add_le_add_right vw2 1)
    omega
  have R2 := dv_fr R1 a3
  have R3 := dvaG_R R2 e4 e2.1 hb
  have eG : dvaG h2 (dvaG gc hm) = dvaG h2 hm := by
    funext a k
    unfold dvaG
    by_cases c1 : a = 204
    · rw [if_pos c1, if_pos c1]
    · rw [if_neg c1, if_neg c1, if_neg c1]
      by_cases c2 : a = 193 ∧ k = 30
      · rw [if_pos c2, if_pos c2]
      · rw [if_neg c2, if_neg c2, if_neg c2]
  rw [eG] at R3
  refine ⟨h2, ?_, R3, cFt F1 (cFt (cF_c a3) (cF_w e4)), e2⟩
  unfold f_X9_write
  simp only [am_z_lit, c_seat n4 n2 hu, am_bt_s, hgc, (g_u u u6).2, cond_true, b3, if_neg q0, p1, p2, a1, a4, am_bi_s, e1']
theorem dva_outAt {G : Nat → Int32} {c i : Nat} {h : am_Hp} (w : dvaO G c h) (hcc : c ≤ 102) (hi : i < 1000) : f_X9_outputAt N (am_z i) h = some (if i < c then G i else am_z (-1), h) := by
  obtain ⟨w1, w2⟩ := w
  unfold f_X9_outputAt
  have c1 : ¬ am_z (i : Int) < am_z 0 := by rw [am_z_lt (by omega) (by omega) (by omega) (by omega)]; omega
  simp only [am_z_lit, am_z_neg, am_z_nat, w1, if_neg c1]
  by_cases c2 : c ≤ i
  · rw [if_pos (by rw [am_z_le (by omega) (by omega) (by omega) (by omega)]; omega), if_neg (by omega)]
  · rw [if_neg (by rw [am_z_le (by omega) (by omega) (by omega) (by omega)]; omega), if_pos (by rw [am_z_lt (by omega) (by omega) (by omega) (by omega)]; omega), if_pos (by omega), m_in (by omega) (by omega), cond_true, am_z_cl (by omega) (by omega), Int.toNat_natCast, w2 i (by omega)]
-- ---- the first difference
def dva_fc (t1 t2 : qc_T) (i : Nat) : Nat → Nat → Int32 → Int32
  | 0, _, e => e
  | k + 1, j, e => if qc_sy t1 i j = qc_sy t2 i j then dva_fc t1 t2 i k (j + 1) e else am_z ((16 * i + j : Nat) : Int)
def dva_fr (t1 t2 : qc_T) (W : Nat) : Nat → Nat → Int32
  | 0, _ => am_z (-1)
  | k + 1, i => dva_fc t1 t2 i W 0 (dva_fr t1 t2 W k (i + 1))
theorem dva_fdL {t1 t2 : qc_T} {h1 : am_Hp} {i : Nat} (hA : qc_R 161 162 h1 t1) (hB : qc_R 163 164 h1 t2) (k1 : qc_OK t1) (k2 : qc_OK t2) (hi : i < 6) {K61 : Int32 → Int32 → Int32 → am_Hp → Option (Option Int32 × am_Hp)} {rr E : Int32} {W : Nat} (hW : W ≤ 16) (hK : K61 rr (am_z W) (am_z ((i + 1 : Nat) : Int)) h1 = some (some E, h1)) : ∀ (k j n : Nat), j + k = W → k < n →
    l_X9_firstDifference_71 N K61 n rr (am_z W) (am_z i) (am_z j) h1 = some (some (dva_fc t1 t2 i k j E), h1)
  | k, j, 0, _, hx => by omega
  | 0, j, n + 1, e, _ => by
    have e4 : (i : Int) + 1 = ((i + 1 : Nat) : Int) := by omega
    have ej : j = W := by omega
    unfold l_X9_firstDifference_71
    rw [ej, if_pos (Int32.le_refl _)]
    simp only [am_z_lit, am_z_add, e4]
    exact hK
  | k + 1, j, n + 1, e, h3 => by
    have e4 : (j : Int) + 1 = ((j + 1 : Nat) : Int) := by omega
    have ih := dva_fdL hA hB k1 k2 hi hW hK k (j + 1) n (by omega) (by omega)
    have hlt : ¬ (am_z (W : Int) ≤ am_z j) := by rw [am_z_le (by omega) (by omega) (by omega) (by omega)]; omega
    have e5 : 16 * (i : Int) + j = ((16 * i + j : Nat) : Int) := by omega
    unfold l_X9_firstDifference_71 dva_fc
    simp only [if_neg hlt, q_symS (Or.inl ⟨rfl, rfl⟩) hA k1 (show i < 100 ∧ j < 100 by omega), q_symS (Or.inr ⟨rfl, rfl⟩) hB k2 (show i < 100 ∧ j < 100 by omega), am_bi_s, am_z_lit, am_z_mul, am_z_add, e5, e4]
    by_cases q : qc_sy t1 i j = qc_sy t2 i j
    · rw [if_pos q, if_pos q]
      exact ih
    · rw [if_neg q, if_neg q]
theorem dva_fdR {t1 t2 : qc_T} {h1 : am_Hp} (hN : 1000 ≤ N) (hA : qc_R 161 162 h1 t1) (hB : qc_R 163 164 h1 t2) (k1 : qc_OK t1) (k2 : qc_OK t2) {H W : Nat} (hW : W ≤ 16) (hH : H ≤ 6) : ∀ (k i n : Nat), i + k = H → k < n →
    l_X9_firstDifference_61 N n (am_z H) (am_z W) (am_z i) h1 = some (some (dva_fr t1 t2 W k i), h1)
  | k, j, 0, _, hx => by omega
  | 0, i, n + 1, e, _ => by
    have ej : i = H := by omega
    unfold l_X9_firstDifference_61
    rw [ej, if_pos (Int32.le_refl _)]
    rfl
  | k + 1, i, n + 1, e, h3 => by
    have hlt : ¬ (am_z (H : Int) ≤ am_z i) := by rw [am_z_le (by omega) (by omega) (by omega) (by omega)]; omega
    unfold l_X9_firstDifference_61
    rw [if_neg hlt]
    exact dva_fdL (N := N) hA hB k1 k2 (by omega) hW (dva_fdR hN hA hB k1 k2 hW hH k (i + 1) n (by omega) (by omega)) W 0 N (by omega) (by omega)
theorem dva_firstDifference (hN : 1000 ≤ N) (R : qr_R nS nU hc hm) {s q q' : Nat} (hs : s < nS) (hq : q ≤ nv (hm 197 (55 + 1504 * s))) (hq' : q' ≤ nv (hm 197 (55 + 1504 * s))) :
    dvaP (f_X9_firstDifference N (am_z s) (am_z q) (am_z q') hc) (dva_fr (rLay hm s q) (rLay hm s q') (min (rLay hm s q).1 (rLay hm s q').1) (min (rLay hm s q).2.1 (rLay hm s q').2.1) 0) hc := by
  obtain ⟨h1, a1, a2, a3⟩ := dva_lay (N := N) hN R hs hq
  have R1 := dv_fr R a3
  obtain ⟨h3, c1, c2, c3⟩ := c_draw (N := N) (o := 163) (p := 164) hN (Or.inr ⟨rfl, rfl⟩) R1 hs hq'
  have ok := rLay_ok R hs hq
  have ok2 := rLay_ok R hs hq'
  have hA : qc_R 161 162 h3 (rLay hm s q) := by
    generalize rLay hm s q = t at a2
    obtain ⟨w, hh, row, col, up, L⟩ := t
    unfold qc_R qc_D at a2 ⊢
    rw [c3 161 (by decide) (by decide), c3 162 (by decide) (by decide)]
    exact a2
  have o1 := qc_OKw ok
  have o2 := qc_OKw ok2
  have em1 : (if am_z (rLay hm s q').2.1 < am_z (rLay hm s q).2.1 then am_z (rLay hm s q').2.1 else am_z (rLay hm s q).2.1) = am_z (min (rLay hm s q).2.1 (rLay hm s q').2.1 : Nat) := by
    simp (disch := omega) only [am_z_lt, am_z_min]; congr 1; omega
  have em2 : (if am_z (rLay hm s q').1 < am_z (rLay hm s q).1 then am_z (rLay hm s q').1 else am_z (rLay hm s q).1) = am_z (min (rLay hm s q).1 (rLay hm s q').1 : Nat) := by
    simp (disch := omega) only [am_z_lt, am_z_min]; congr 1; omega
  have f1 : l_X9_firstDifference_61 N N (am_z (min (rLay hm s q).2.1 (rLay hm s q').2.1 : Nat)) (am_z (min (rLay hm s q).1 (rLay hm s q').1 : Nat)) (am_z 0) h3 = _ := dva_fdR (N := N) hN hA c2 ok ok2 (H := min (rLay hm s q).2.1 (rLay hm s q').2.1) (W := min (rLay hm s q).1 (rLay hm s q').1) (by omega) (by omega) (min (rLay hm s q).2.1 (rLay hm s q').2.1) 0 N (by omega) (by omega)
  refine ⟨h3, ?_, cfrt a3 (cfrs (Or.inr ⟨rfl, rfl⟩) c3)⟩
  unfold f_X9_firstDifference
  simp only [a1, am_bt_s, c1, (qc_Rw hA).1, (qc_Rw hA).2.1, (qc_Rw c2).1, (qc_Rw c2).2.1, em1, em2, am_z_lit, f1]
end DVA
