section Q8
variable {N nS nU : Nat} {hc hm : am_Hp}
-- ---- what is written
def wf1 (h h' : am_Hp) : Prop := (∀ a, a ≠ 14 → a ≠ 0 → h' a = h a) ∧ ∀ k, k ≠ 4 → h' 0 k = h 0 k
def wf2 (h h' : am_Hp) : Prop := (∀ a, a ≠ 204 → a ≠ 193 → h' a = h a) ∧ ∀ k, k ≠ 30 → h' 193 k = h 193 k
def WI (c : Nat) (h1 h2 : am_Hp) : Prop := h1 0 4 = am_z c ∧ h2 193 30 = am_z c ∧ ∀ k, k < c → h1 14 k = h2 204 k
theorem wf1t {h h1 h2 : am_Hp} (a : wf1 h h1) (b : wf1 h1 h2) : wf1 h h2 := ⟨fun x p q => (b.1 x p q).trans (a.1 x p q), fun k p => (b.2 k p).trans (a.2 k p)⟩
theorem wf2t {h h1 h2 : am_Hp} (a : wf2 h h1) (b : wf2 h1 h2) : wf2 h h2 := ⟨fun x p q => (b.1 x p q).trans (a.1 x p q), fun k p => (b.2 k p).trans (a.2 k p)⟩
theorem wf1_0 {h : am_Hp} : wf1 h h := ⟨fun _ _ _ => rfl, fun _ _ => rfl⟩
theorem wf2_0 {h : am_Hp} : wf2 h h := ⟨fun _ _ _ => rfl, fun _ _ => rfl⟩
theorem qr_out {h1 h2 : am_Hp} {c : Nat} (R : qr_R nS nU hc hm) (a : wf1 hc h1) (b : wf2 hm h2) (w : WI c h1 h2) (hcc : c ≤ 102) : qr_R nS nU h1 h2 := by
  obtain ⟨t, bb, s, v, y⟩ := R
  have e : ∀ x, x ≠ 14 → x ≠ 0 → h1 x = hc x := a.1
  have m1 : h2 195 = hm 195 := b.1 _ (by decide) (by decide)
  have m2 : h2 197 = hm 197 := b.1 _ (by decide) (by decide)
  have m3 : h2 194 = hm 194 := b.1 _ (by decide) (by decide)
  have m4 : h2 199 = hm 199 := b.1 _ (by decide) (by decide)
  have n1 : h2 193 2 = hm 193 2 := b.2 _ (by decide)
  have n2 : h2 193 8 = hm 193 8 := b.2 _ (by decide)
  have n3 : h2 193 24 = hm 193 24 := b.2 _ (by decide)
  have n5 : h1 0 2 = hc 0 2 := a.2 _ (by decide)
  have hS := t.1
  have hU := t.2.1
  have ep : tp h2 = tp hm := by funext j k; unfold tp; rw [m4]
  have eS : ∀ (bs : Nat) (r : Nat → Int32), 24 ≤ bs → sS nS nU hc bs r → sS nS nU h1 bs r := by
    intro bs r hbs q
    obtain ⟨a1, a2, a3, a4, a5, a6⟩ := q
    refine ⟨by rw [e _ (by omega) (by omega)]; exact a1, by rw [e _ (by omega) (by omega)]; exact a2, by rw [e _ (by omega) (by omega)]; exact a3, fun k hk => by rw [e _ (by omega) (by omega)]; exact a4 k hk, fun s hs => ?_, fun u hu => ?_⟩
    · obtain ⟨b1, b2⟩ := a5 s hs
      refine ⟨?_, fun x hx k hk => ?_⟩
      · unfold sD
        rw [e _ (by omega) (by omega)]; exact b1
      · unfold rc_e
        rw [e _ (by omega) (by omega)]; exact b2 x hx k hk
    · unfold sU
      rw [e _ (by omega) (by omega)]; exact a6 u hu
  refine ⟨?_, ?_, ?_, ?_, ?_⟩
  · unfold tT at t ⊢
    simp (disch := decide) only [e, m1]
    exact t
  · unfold tB at bb ⊢
    obtain ⟨w1, w2, w3⟩ := w
    obtain ⟨x1, x2, x3, x4, -⟩ := bb
    simp (disch := decide) only [e, m3, n1, n3, n5, w1, w2]
    refine ⟨x1, x2, x3, x4, vn_z (by omega) (by omega) hcc, trivial, fun i hi => ?_⟩
    rw [nv_z (by omega)] at hi
    exact w3 i hi
  · rw [m2]; exact eS _ _ (by decide) s
  · rw [m2]; exact v
  · unfold tH at y ⊢
    simp (disch := decide) only [e, n2, m2, ep]
    obtain ⟨y1, y2, y3, y4, y5⟩ := y
    exact ⟨y1, y2, y3, fun j hj => ⟨eS _ _ (by omega) (y4 j hj).1, (y4 j hj).2⟩, y5⟩
theorem w_step {c : Nat} {v : Int32} {h1 h2 : am_Hp} (w : WI c h1 h2) (hcc : c < 102) : ∃ h1' h2', f_X9_putOut N v h1 = some ((), h1') ∧ f_X10_writes N v h2 = some ((), h2') ∧ WI (c + 1) h1' h2' ∧ wf1 h1 h1' ∧ wf2 h2 h2' := by
  obtain ⟨w1, w2, w3⟩ := w
  have e4 : (c : Int) + 1 = ((c + 1 : Nat) : Int) := by omega
  refine ⟨am_pi (am_pi h1 14 c v) 0 4 (am_z ((c + 1 : Nat) : Int)), am_pi (am_pi h2 204 c v) 193 30 (am_z ((c + 1 : Nat) : Int)), ?_, ?_, ⟨?_, ?_, fun k hk => ?_⟩, ⟨fun a p q => ?_, fun k hk => ?_⟩, ⟨fun a p q => ?_, fun k hk => ?_⟩⟩
  · unfold f_X9_putOut
    simp (disch := first | omega | decide) only [am_z_lit, am_z_nat, w1, am_z_le, m_in, cond_true, am_z_cl, Int.toNat_natCast, am_pi_a, am_z_add, e4]
    rw [if_neg (by omega)]
  · unfold f_X10_writes
    simp (disch := first | omega | decide) only [am_z_lit, w2, m_in, cond_true, am_z_cl, Int.toNat_natCast, am_pi_a, am_z_add, e4]
  · exact am_pi_s _ _ _ _
  · exact am_pi_s _ _ _ _
  · have a1 : am_pi (am_pi h1 14 c v) 0 4 (am_z ((c + 1 : Nat) : Int)) 14 k = am_pi h1 14 c v 14 k := am_pi_a (by decide)
    have a2 : am_pi (am_pi h2 204 c v) 193 30 (am_z ((c + 1 : Nat) : Int)) 204 k = am_pi h2 204 c v 204 k := am_pi_a (by decide)
    rw [a1, a2, am_pi_ap, am_pi_ap]
    by_cases q : k = c
    · rw [if_pos ⟨rfl, q⟩, if_pos ⟨rfl, q⟩]
    · rw [if_neg (fun z => q z.2), if_neg (fun z => q z.2)]; exact w3 k (by omega)
  · rw [qc_pia q, qc_pia p]
  · rw [am_pi_k hk, am_pi_a (by decide)]
  · rw [qc_pia q, qc_pia p]
  · rw [am_pi_k hk, am_pi_a (by decide)]
theorem w_qc {h h' : am_Hp} {t : qc_T} (f : wf1 h h') (hR : qc_R 161 162 h t) : qc_R 161 162 h' t := by
  obtain ⟨w, hh, row, col, up, L⟩ := t
  unfold qc_R qc_D at hR ⊢
  rw [f.1 161 (by decide) (by decide), f.1 162 (by decide) (by decide)]
  exact hR
theorem w_qm {h h' : am_Hp} {t : qc_T} (f : wf2 h h') (hR : qm_R h t) : qm_R h' t := by
  obtain ⟨w, hh, row, col, up, L⟩ := t
  unfold qm_R qm_K at hR ⊢
  simp (disch := decide) only [f.1, f.2]
  exact hR
theorem w_rowL {t : qc_T} {T u i ww : Nat} (ok : qc_OK t) (nb : qc_NB t) (hT : T < 100) (hi : i < 6) (hu : u < 6) (hww : ww ≤ 16) {K46 : Nat → Int32 → Int32 → am_Hp → Option (Option Int32 × am_Hp)} {K36 : Int32 → Int32 → am_Hp → Option (Int32 × am_Hp)} : ∀ (k j n m c : Nat) (h1 h2 : am_Hp), j + k = ww → k < n → k < m → c + k + 1 ≤ 102 → WI c h1 h2 → qc_R 161 162 h1 t → qm_R h2 t → h2 193 27 = am_z T → h1 (33 + u) 0 = am_z ww → h2 197 (7 + 8 * u) = am_z ww →
    ∃ h1' h2', l_X9_write_58 N K46 n (33 + u) (am_z T) (am_z i) (am_z j) h1 = K46 (33 + u) (am_z T) (am_z ((i + 1 : Nat) : Int)) h1' ∧ l_X10_write_48 N K36 m (am_z u) (am_z i) (am_z j) h2 = K36 (am_z u) (am_z ((i + 1 : Nat) : Int)) h2' ∧ WI (c + k + 1) h1' h2' ∧ wf1 h1 h1' ∧ wf2 h2 h2'
  | k, j, 0, m, c, h1, h2, _, h, _, _, _, _, _, _, _, _ => by omega
  | k, j, n, 0, c, h1, h2, _, _, h, _, _, _, _, _, _, _ => by omega
  | 0, j, n + 1, m + 1, c, h1, h2, e, _, _, b, w, hR, hM, h27, z1, z2 => by
    have e1 : j = ww := by omega
    subst e1
    have e4 : (i : Int) + 1 = ((i + 1 : Nat) : Int) := by omega
    obtain ⟨h1', h2', a1, a2, a3, a4, a5⟩ := w_step (N := N) (v := am_z 10) w (by omega)
    refine ⟨h1', h2', ?_, ?_, a3, a4, a5⟩
    · unfold l_X9_write_58
      simp only [(g_u u hu).2, cond_true, z1, if_pos (Int32.le_refl _), am_z_lit, a1, am_bi_s, am_z_add, e4]
    · unfold l_X10_write_48
      simp only [am_z_lit, m_u0 rfl hu, z2, am_bi_s, if_pos (Int32.le_refl _), a2, am_z_add, e4]
  | k + 1, j, n + 1, m + 1, c, h1, h2, e, x1, x2, b, w, hR, hM, h27, z1, z2 => by
    have e4 : (j : Int) + 1 = ((j + 1 : Nat) : Int) := by omega
    have hlt : ¬ (am_z ww ≤ am_z j) := by rw [am_z_le (by omega) (by omega) (by omega) (by omega)]; omega
    have s1 : f_X4_symbolInLine N 161 (am_z ((T : Int) + i)) (am_z j) h1 = some (t.2.2.2.2.2 (T + i) j, h1) := by
      rw [qc_symL (Or.inl ⟨rfl, rfl⟩) hR ok (by omega), if_neg (by omega)]
      have e6 : ((T : Int) + i).toNat = T + i := by omega
      rw [e6, Int.toNat_natCast]
    have s2 := m_seen (N := N) (y := i) (c := j) hM ok nb h27 ⟨hT, hi, by omega⟩
    generalize t.2.2.2.2.2 (T + i) j = sy at s1 s2
    have hch : ∃ v, f_X9_characterFor N sy h1 = some (v, h1) ∧ (if sy = am_z 27 then am_z 32 else am_z 96 + sy) = v := by
      unfold f_X9_characterFor
      simp only [am_z_lit]
      by_cases q : sy = am_z 27
      · rw [if_pos q, if_pos q]; exact ⟨_, rfl, rfl⟩
      · rw [if_neg q, if_neg q]
        refine ⟨_, rfl, ?_⟩
        obtain ⟨v, rfl, -, -⟩ := am_z_ex sy
        rw [am_z_add, am_z_add, am_z_sub]
        congr 1
        omega
    obtain ⟨v, v1, v2⟩ := hch
    obtain ⟨h1', h2', a1, a2, a3, a4, a5⟩ := w_step (N := N) (v := v) w (by omega)
    obtain ⟨h1'', h2'', b1, b2, b3, b4, b5⟩ := w_rowL ok nb hT hi hu hww (K46 := K46) (K36 := K36) k (j + 1) n m (c + 1) h1' h2' (by omega) (by omega) (by omega) (by omega) a3 (w_qc a4 hR) (w_qm a5 hM) (by rw [a5.2 _ (by decide)]; exact h27) (by rw [a4.1 _ (by omega) (by omega)]; exact z1) (by rw [a5.1 _ (by decide) (by decide)]; exact z2)
    refine ⟨h1'', h2'', ?_, ?_, ?_, wf1t a4 b4, wf2t a5 b5⟩
    · unfold l_X9_write_58
      simp only [(g_u u hu).2, cond_true, z1, if_neg hlt, s1, v1, a1, am_bi_s, am_z_lit, am_z_add, e4]
      exact b1
    · unfold l_X10_write_48
      simp only [am_z_lit, m_u0 rfl hu, z2, am_bi_s, if_neg hlt, s2, am_z_add, e4]
      by_cases q : sy = am_z 27
      · rw [if_pos q] at v2
        simp only [if_pos q, v2, a2, am_bi_s]
        exact b2
      · rw [if_neg q] at v2
        simp only [if_neg q, v2, a2, am_bi_s]
        exact b2
    · have : c + 1 + k + 1 = c + (k + 1) + 1 := by omega
      rw [← this]; exact b3
theorem w_allL {t : qc_T} {T u ww wh : Nat} (hN : 1000 ≤ N) (ok : qc_OK t) (nb : qc_NB t) (hT : T < 100) (hu : u < 6) (hww : ww ≤ 16) (hwh : wh ≤ 6) : ∀ (k i n m c : Nat) (h1 h2 : am_Hp), i + k = wh → k < n → k < m → c + k * (ww + 1) ≤ 102 → WI c h1 h2 → qc_R 161 162 h1 t → qm_R h2 t → h2 193 27 = am_z T → h1 (33 + u) 0 = am_z ww → h2 197 (7 + 8 * u) = am_z ww → h1 (33 + u) 1 = am_z wh → h2 197 (8 + 8 * u) = am_z wh →
    ∃ (c' : Nat) (h1' h2' : am_Hp), c' ≤ 102 ∧ l_X9_write_46 N n (33 + u) (am_z T) (am_z i) h1 = some (some (am_z c'), h1') ∧ l_X10_write_36 N m (am_z u) (am_z i) h2 = some (am_z c', h2') ∧ WI c' h1' h2' ∧ wf1 h1 h1' ∧ wf2 h2 h2'
  | k, j, 0, m, c, h1, h2, _, h, _, _, _, _, _, _, _, _, _, _ => by omega
  | k, j, n, 0, c, h1, h2, _, _, h, _, _, _, _, _, _, _, _, _ => by omega
  | 0, i, n + 1, m + 1, c, h1, h2, e, _, _, b, w, hR, hM, h27, z1, z2, z3, z4 => by
    have e1 : i = wh := by omega
    subst e1
    refine ⟨c, h1, h2, by omega, ?_, ?_, w, wf1_0, wf2_0⟩
    · unfold l_X9_write_46
      simp only [(g_u u hu).2, cond_true, z3, if_pos (Int32.le_refl _), w.1]
    · unfold l_X10_write_36
      simp only [am_z_lit, m_u1 rfl hu, z4, am_bi_s, if_pos (Int32.le_refl _), w.2.1]
  | k + 1, i, n + 1, m + 1, c, h1, h2, e, x1, x2, b, w, hR, hM, h27, z1, z2, z3, z4 => by
    have hlt : ¬ (am_z wh ≤ am_z i) := by rw [am_z_le (by omega) (by omega) (by omega) (by omega)]; omega
    have hm1 : (k + 1) * (ww + 1) = k * (ww + 1) + (ww + 1) := Nat.succ_mul k (ww + 1)
    obtain ⟨h1', h2', a1, a2, a3, a4, a5⟩ := w_rowL (N := N) ok nb hT (show i < 6 by omega) hu hww (K46 := l_X9_write_46 N n) (K36 := l_X10_write_36 N m) ww 0 N N c h1 h2 (by omega) (by omega) (by omega) (by omega) w hR hM h27 z1 z2
    have a1' : l_X9_write_58 N (l_X9_write_46 N n) N (33 + u) (am_z T) (am_z i) (am_z 0) h1 = _ := a1
    have a2' : l_X10_write_48 N (l_X10_write_36 N m) N (am_z u) (am_z i) (am_z 0) h2 = _ := a2
    obtain ⟨c', h1'', h2'', b0, b1, b2, b3, b4, b5⟩ := w_allL hN ok nb hT hu hww hwh k (i + 1) n m (c + ww + 1) h1' h2' (by omega) (by omega) (by omega) (by omega) a3 (w_qc a4 hR) (w_qm a5 hM) (by rw [a5.2 _ (by decide)]; exact h27) (by rw [a4.1 _ (by omega) (by omega)]; exact z1) (by rw [a5.1 _ (by decide) (by decide)]; exact z2) (by rw [a4.1 _ (by omega) (by omega)]; exact z3) (by rw [a5.1 _ (by decide) (by decide)]; exact z4)
    refine ⟨c', h1'', h2'', b0, ?_, ?_, b3, wf1t a4 b4, wf2t a5 b5⟩
    · unfold l_X9_write_46
      simp only [(g_u u hu).2, cond_true, z3, if_neg hlt, am_z_lit, a1', b1]
    · unfold l_X10_write_36
      simp only [am_z_lit, m_u1 rfl hu, z4, am_bi_s, if_neg hlt, a2', b2]
/-- a call that changes: its answers, and that the relation holds again; the class's part and the model's part stay apart -/
def cF (h h' : am_Hp) : Prop := ∀ a, 193 ≤ a → h' a = h a
def mF (h h' : am_Hp) : Prop := ∀ a, a < 193 → h' a = h a
def pC (nS nU : Nat) (a : Option (Option Int32 × am_Hp)) (b : Option (Int32 × am_Hp)) (hc hm : am_Hp) : Prop := ∃ o v h1 h2, a = some (o, h1) ∧ b = some (v, h2) ∧ qr_R nS nU h1 h2 ∧ cF hc h1 ∧ mF hm h2 ∧ ((o = none ∧ h2 193 0 = am_z 1) ∨ (o = some v ∧ h2 193 0 = am_z 0))
theorem cF_c {h h' : am_Hp} (f : cfr h h') : cF h h' := fun a ha => f a (by omega) (by omega) (by omega) (by omega)
theorem mF_m {h h' : am_Hp} (f : mfr h h') : mF h h' := fun a ha => f.1 a (by omega) (by omega) (by omega) (by omega) (by omega)
theorem cFt {h h1 h2 : am_Hp} (a : cF h h1) (b : cF h1 h2) : cF h h2 := fun x p => (b x p).trans (a x p)
theorem mFt {h h1 h2 : am_Hp} (a : mF h h1) (b : mF h1 h2) : mF h h2 := fun x p => (b x p).trans (a x p)
theorem cF_w {h h' : am_Hp} (f : wf1 h h') : cF h h' := fun a ha => f.1 a (by omega) (by omega)
theorem mF_w {h h' : am_Hp} (f : wf2 h h') : mF h h' := fun a ha => f.1 a (by omega) (by omega)
theorem cF_p {h : am_Hp} {a k : Nat} {v : Int32} (ha : a < 193) : cF h (am_pi h a k v) := fun x hx => qc_pia (by omega)
theorem mF_p {h : am_Hp} {a k : Nat} {v : Int32} (ha : 193 ≤ a) : mF h (am_pi h a k v) := fun x hx => qc_pia (by omega)
theorem q_write (hN : 1000 ≤ N) (R : qr_R nS nU hc hm) (x : Int32) : pC nS nU (f_X9_write N x hc) (f_X10_write N x hm) hc hm := by
  obtain ⟨n1, n2, n3, n4, n5, n6⟩ := qr_n R
  unfold f_X9_write f_X10_write
  rcases qi x nU with ⟨u, hu, rfl⟩ | ⟨v, rfl, b1, b2, hv⟩
  · have u6 : u < 6 := by omega
    have R1 : qr_R nS nU (am_pi hc 0 4 (am_z 0)) (am_pi (am_pi hm 193 0 (am_z 0)) 193 30 (am_z 0)) := by
      refine qr_out (c := 0) (qr_fr cfr0 (mfrp (k := 0) (v := am_z 0) (by omega)) R) ⟨fun a _ p => qc_pia p, fun k p => am_pi_k p⟩ ⟨fun a _ p => qc_pia p, fun k p => am_pi_k p⟩ ⟨am_pi_s _ _ _ _, am_pi_s _ _ _ _, fun k hk => by omega⟩ (by omega)
    have hr : am_pi (am_pi hm 193 0 (am_z 0)) 193 30 (am_z 0) 197 = hm 197 := by rw [qc_pia (by decide), qc_pia (by decide)]
    have h195 : am_pi (am_pi hm 193 0 (am_z 0)) 193 30 (am_z 0) 195 = hm 195 := by rw [qc_pia (by decide), qc_pia (by decide)]
    have t0 : am_pi (am_pi hm 193 0 (am_z 0)) 193 30 (am_z 0) 193 0 = am_z 0 := by rw [am_pi_k (by decide)]; exact am_pi_s _ _ _ _
    have F1 : cF hc (am_pi hc 0 4 (am_z 0)) := cF_p (by decide)
    have F2 : mF hm (am_pi (am_pi hm 193 0 (am_z 0)) 193 30 (am_z 0)) := mFt (mF_p (by decide)) (mF_p (by decide))
    simp only [am_z_lit, c_seat n4 n2 hu, am_bt_s, m_user n6 n2 hu, am_bi_s, m_chk1, if_neg z_10, (g_u u u6).2, cond_true, m_wat hr u6]
    generalize hgc : am_pi hc 0 4 (am_z 0) = gc at *
    generalize hgm : am_pi (am_pi hm 193 0 (am_z 0)) 193 30 (am_z 0) = gm at *
    obtain ⟨b1, b2, b3, b4, b5, b6, b7, bV⟩ := qr_U R1 hu
    rw [hr] at b1 b2 b3 b4 b5 b6 b7 bV
    rw [b3]
    by_cases q0 : hm 197 (9 + 8 * u) = am_z 0
    · simp only [if_pos q0, if_true]
      exact ⟨_, _, _, _, rfl, rfl, R1, F1, F2, Or.inr ⟨rfl, t0⟩⟩
    simp only [if_neg q0, if_neg z_10]
    obtain ⟨s, q, h1, h2, hs, a1, a2, a3, a4, a5, a6, a7, a8, a9, a10, a11, ok, nb, hT⟩ := q_laysW (N := N) hN R1 hu (by rw [hr]; exact q0) (h := gm) rfl rfl
    have o := qc_OKw ok
    have R2 := qr_fr a5 a9 R1
    obtain ⟨d1, d2, d3, d4, d5, d6, d7, dV⟩ := qr_U R2 hu
    have vw := dV.1
    have vh := dV.2.1
    have vw2 := vw.2.2
    have vh2 := vh.2.2
    have w0 : WI 0 h1 h2 := by
      refine ⟨?_, ?_, fun k hk => by omega⟩
      · rw [c_fr33 a5 (by decide), ← hgc]; exact am_pi_s _ _ _ _
      · rw [a9.2 _ (by decide) (by decide) (by decide) (by decide) (by decide) (by decide) (by decide), ← hgm]; exact am_pi_s _ _ _ _
    have hb : 0 + nv (h2 197 (8 + 8 * u)) * (nv (h2 197 (7 + 8 * u)) + 1) ≤ 102 := by
      have := Nat.mul_le_mul vh2 (Nat.add_le_add_right vw2 1)
      omega
    obtain ⟨c', h1'', h2'', e0, e1, e2, e3, e4, e5⟩ := w_allL (N := N) (T := rTop (rLay gm s q) (gm 197) u) hN ok nb (by omega) u6 vw2 vh2 (nv (h2 197 (8 + 8 * u))) 0 N N 0 h1 h2 (by omega) (by omega) (by omega) hb w0 a4 a8 a11 (by rw [d1]; exact vw.1) vw.1 (by rw [d2]; exact vh.1) vh.1
    have e1' : l_X9_write_46 N N (33 + u) (am_z (rTop (rLay gm s q) (gm 197) u)) (am_z 0) h1 = _ := e1
    have e2' : l_X10_write_36 N N (am_z u) (am_z 0) h2 = _ := e2
    simp only [a1, am_bt_s, a2, a3, a6, am_bi_s, a7, e1', e2']
    refine ⟨_, _, _, _, rfl, rfl, qr_out R2 e4 e5 e3 e0, cFt F1 (cFt (cF_c a5) (cF_w e4)), mFt F2 (mFt (mF_m a9) (mF_w e5)), Or.inr ⟨rfl, ?_⟩⟩
    rw [e5.2 _ (by decide), a10]; exact t0
  · simp only [c_seatn n4 n2 ⟨b1, b2⟩ hv, am_bt_n, am_z_lit, m_usern n6 n2 ⟨b1, b2⟩ hv, am_bi_s, m_chk0, if_true]
    exact ⟨_, _, _, _, rfl, rfl, qr_fr cfr0 (mfrp (by omega)) R, fun _ _ => rfl, mF_p (by decide), Or.inl ⟨rfl, am_pi_s _ _ _ _⟩⟩
theorem q_outputAt (R : qr_R nS nU hc hm) (x : Int32) : pN (f_X9_outputAt N x hc) (f_X10_outputAt N x hm) hc hm := by
  obtain ⟨v, rfl, b1, b2⟩ := am_z_ex x
  obtain ⟨x1, x2, x3, x4, x5, x6, x7⟩ := R.2.1
  have x52 := x5.2.2
  unfold f_X9_outputAt f_X10_outputAt
  simp (disch := first | omega | decide) only [am_z_lit, am_z_neg, am_z_nat, am_z_lt, am_pi_k, x6]
  by_cases q0 : v < 0
  · simp only [if_pos q0]; exact ⟨_, _, _, rfl, rfl, cfr0, mfrp (by omega)⟩
  simp only [if_neg q0]
  have e1 : (hc 0 4 ≤ am_z v) = ((nv (hc 0 4) : Int) ≤ v) := by
    have h := am_z_le (x := (nv (hc 0 4) : Int)) (y := v) (by omega) (by omega) b1 b2
    rw [← x5.1] at h; exact h
  have e2 : (am_z v < hc 0 4) = (v < (nv (hc 0 4) : Int)) := by
    have h := am_z_lt (x := v) (y := (nv (hc 0 4) : Int)) b1 b2 (by omega) (by omega)
    rw [← x5.1] at h; exact h
  simp only [e1, e2]
  by_cases q1 : (nv (hc 0 4) : Int) ≤ v
  · rw [if_pos q1, if_neg (by omega)]; exact ⟨_, _, _, rfl, rfl, cfr0, mfrp (by omega)⟩
  · rw [if_neg q1, if_pos (show v < ((102 : Nat) : Int) by omega), if_pos (show v < (nv (hc 0 4) : Int) by omega)]
    simp (disch := first | omega | decide) only [am_z_int, cond_true, am_z_cl, am_pi_a]
    exact ⟨_, _, _, rfl, by rw [x7 v.toNat (by omega)], cfr0, mfrp (by omega)⟩
end Q8
