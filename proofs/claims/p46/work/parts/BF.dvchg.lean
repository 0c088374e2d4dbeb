section DVG
variable {N nS nU : Nat} {hm h0 : am_Hp}
theorem dvc_and (x : Int32) : ∃ v : Nat, v < 2147483648 ∧ x &&& (2147483647 : Int32) = am_z (v : Int) := by
  obtain ⟨w, e, b1, b2⟩ := am_z_ex (x &&& (2147483647 : Int32))
  have h : (x &&& (2147483647 : Int32)).toBitVec.msb = false := by
    rw [Int32.toBitVec_and, BitVec.msb_and]
    have : (2147483647 : Int32).toBitVec.msb = false := by decide
    rw [this, Bool.and_false]
  rw [e, BitVec.msb_eq_toInt] at h
  have h2 := of_decide_eq_false h
  have h3 : (am_z w).toBitVec.toInt = w := am_z_ti b1 b2
  rw [h3] at h2
  refine ⟨w.toNat, by omega, ?_⟩
  have : ((w.toNat : Nat) : Int) = w := by omega
  rw [e, this]
theorem dvc_in (x : Int32) {n : Nat} (h1 : 0 < n) (h2 : n < 100000) (h : am_Hp) : ∃ r : Nat, r < n ∧ f_L_in N x (am_z n) h = some (am_z (r : Int), h) := by
  obtain ⟨v, hv, e⟩ := dvc_and x
  refine ⟨v % n, Nat.mod_lt _ h1, ?_⟩
  unfold f_L_in
  have c : ¬ am_z (n : Int) = 0 := by
    rw [show (0 : Int32) = am_z 0 from rfl, am_z_eq (by omega) (by omega) (by omega) (by omega)]; omega
  rw [if_neg c, e, am_z_div (by omega) (by omega) (by omega) (by omega), am_z_mul, am_z_sub]
  have e2 : (v : Int) - (v : Int).tdiv (n : Int) * (n : Int) = ((v % n : Nat) : Int) := by
    have e3 : ((v % n : Nat) : Int) = (v : Int) % (n : Int) := rfl
    rw [e3, Int.tdiv_eq_ediv_of_nonneg (by omega), Int.emod_def, Int.mul_comm]
  rw [e2]
theorem dvc_symL (x : Int32) (h : am_Hp) : ∀ (k i n : Nat) (v : Int32), i + k = 6 → k < n → ∃ w, l_L_symbols_4 N n x v (am_z (i : Int)) h = some (w, h)
  | k, i, 0, v, _, hx => by omega
  | 0, i, n + 1, v, e, _ => by
    have e1 : i = 6 := by omega
    unfold l_L_symbols_4
    rw [e1, if_pos (show (6 : Int32) ≤ am_z ((6 : Nat) : Int) from Int32.le_refl _)]
    exact ⟨_, rfl⟩
  | k + 1, i, n + 1, v, e, hx => by
    have hlt : ¬ ((6 : Int32) ≤ am_z (i : Int)) := by
      rw [show (6 : Int32) = am_z 6 from rfl, am_z_le (by omega) (by omega) (by omega) (by omega)]; omega
    have e8 : ¬ ((8 : Int32) = 0) := by decide
    obtain ⟨r, r1, a1⟩ := dvc_in (N := N) (x >>> (((4 : Int32) * am_z (i : Int)) &&& 31)) (n := 5) (by decide) (by decide) h
    obtain ⟨r2, -, a2⟩ := dvc_in (N := N) ((x >>> (((4 : Int32) * am_z (i : Int)) &&& 31)) / (8 : Int32)) (n := 5) (by decide) (by decide) h
    obtain ⟨r3, -, a3⟩ := dvc_in (N := N) ((x >>> (((4 : Int32) * am_z (i : Int)) &&& 31)) / (8 : Int32)) (n := 4) (by decide) (by decide) h
    have a1 : f_L_in N (x >>> (((4 : Int32) * am_z (i : Int)) &&& 31)) (5 : Int32) h = _ := a1
    have a2 : f_L_in N ((x >>> (((4 : Int32) * am_z (i : Int)) &&& 31)) / (8 : Int32)) (5 : Int32) h = _ := a2
    have a3 : f_L_in N ((x >>> (((4 : Int32) * am_z (i : Int)) &&& 31)) / (8 : Int32)) (4 : Int32) h = _ := a3
    unfold l_L_symbols_4
    simp only [if_neg hlt, a1, am_bi_s, if_neg e8, a2, a3, dv_p1 (show i < 100000 by omega)]
    by_cases z : am_z (r : Int) = 0
    · rw [if_pos z]
      exact dvc_symL x h k (i + 1) n _ (by omega) (by omega)
    · rw [if_neg z]
      exact dvc_symL x h k (i + 1) n _ (by omega) (by omega)
theorem dvc_sym (hN : 1000 ≤ N) (x : Int32) (h : am_Hp) : ∃ w, f_L_symbols N x h = some (w, h) := dvc_symL (N := N) x h 6 0 N 0 (by decide) (by omega)
theorem dva_session2 {hc : am_Hp} (R : qr_R nS nU hc hm) {s : Nat} (hs : s < nS) : f_X9_session N (am_z (s : Int)) (2 : Int32) hc = some (some (hm 197 (55 + 1504 * s)), hc) := by
  obtain ⟨n1, n2, n3, n4, n5, n6⟩ := qr_n R
  obtain ⟨c0, c1, c2, c3, -⟩ := qr_S R hs
  have z1 : (am_z 2).toInt = 2 := by decide
  unfold f_X9_session
  simp only [c_desk n3 n1 hs, am_bt_s, am_z_lit, z1, vi_20, vi_21, if_false, if_true, (g_d s (show s < 4 by omega)).2.2, cond_true, c0]
theorem dva_session3 {hc : am_Hp} (R : qr_R nS nU hc hm) {s : Nat} (hs : s < nS) : f_X9_session N (am_z (s : Int)) (3 : Int32) hc = some (some (hm 197 (56 + 1504 * s)), hc) := by
  obtain ⟨n1, n2, n3, n4, n5, n6⟩ := qr_n R
  obtain ⟨c0, c1, c2, c3, -⟩ := qr_S R hs
  have z1 : (am_z 3).toInt = 3 := by decide
  unfold f_X9_session
  simp only [c_desk n3 n1 hs, am_bt_s, am_z_lit, z1, vi_30, vi_31, vi_32, if_false, if_true, (g_d s (show s < 4 by omega)).2.2, cond_true, c1]
theorem dva_count {hc : am_Hp} (R : qr_R nS nU hc hm) : f_X9_count N (0 : Int32) hc = some (some (am_z (nS : Int)), hc) ∧ f_X9_count N (1 : Int32) hc = some (some (am_z (nU : Int)), hc) := by
  obtain ⟨n1, n2, n3, n4, n5, n6⟩ := qr_n R
  have i0 : (0 : Int32).toInt = 0 := by decide
  have i1 : (1 : Int32).toInt = 1 := by decide
  unfold f_X9_count
  simp only [i0, i1, vi_10, if_true, if_false]
  exact ⟨by simp only [n3], by simp only [n4]⟩
/-- a change that goes through -/
def dvC {α : Type} (nS nU : Nat) (h0 : am_Hp) (a : Option (Option α × am_Hp)) : Prop := ∃ v h1 hm1, a = some (some v, h1) ∧ dR nS nU h0 hm1 h1
theorem dvC_S {h : am_Hp} {a : Option (Option Int32 × am_Hp)} {b : Option (Int32 × am_Hp)} (f : cF h0 h) (p : pS nS nU a b h hm) : dvC nS nU h0 a := by
  obtain ⟨v, h1, h2, e1, -, R, c, -⟩ := p
  exact ⟨v, h1, h2, e1, R, cFt f c⟩
theorem dvC_bt {a : Option (Option Int32 × am_Hp)} {K0 : am_Hp → Option (Option Unit × am_Hp)} (p : dvC nS nU h0 a) : dvC nS nU h0 (am_bt a K0 (fun _ h1 => some (some (), h1))) := by
  obtain ⟨v, h1, h2, e1, R⟩ := p
  exact ⟨(), h1, h2, by rw [e1, am_bt_s], R⟩
theorem dvc_type {h : am_Hp} (hN : 60000 ≤ N) (RR : dR nS nU h0 hm h) {u s : Nat} {x : Int32} (hs : s < nS) {K0 K1 K2 K3 : am_Hp → Option (Option Unit × am_Hp)} : dvC nS nU h0 (am_bt (f_X9_session N (am_z (s : Int)) (3 : Int32) h) K0 (fun x100 h99 => (if 0 ≤ x100 then
        am_bt (f_X9_session N (am_z (s : Int)) (3 : Int32) h99) K1 (fun x102 h101 => if (1024 : Int32) = 0 then none else am_bi (f_L_symbols N (x / (1024 : Int32)) h101) (fun x104 h103 =>
        am_bt (f_X9_type N x102 x104 h103) K2 (fun _ h105 => some (some (), h105))))
      else
        if (1024 : Int32) = 0 then none else am_bi (f_L_symbols N (x / (1024 : Int32)) h99) (fun x108 h107 =>
        am_bt (f_X9_type N (am_z (u : Int)) x108 h107) K3 (fun _ h109 => some (some (), h109)))))) := by
  have e : ¬ ((1024 : Int32) = 0) := by decide
  obtain ⟨w, a1⟩ := dvc_sym (N := N) (by omega) (x / (1024 : Int32)) h
  simp only [dva_session3 RR.1 hs, am_bt_s, if_neg e, a1, am_bi_s]
  split
  · exact dvC_bt (dvC_S RR.2 (q_type hN RR.1 _ _))
  · exact dvC_bt (dvC_S RR.2 (q_type hN RR.1 _ _))
theorem dvc_51 {h : am_Hp} (hN : 60000 ≤ N) (RR : dR nS nU h0 hm h) {u s m : Nat} {x t0 : Int32} (hs : s < nS) (ht : t0 + (1 : Int32) = am_z (m : Int)) (hm1 : 0 < m) (hm2 : m < 100000) : dvC nS nU h0 (j_L_changes_51 N x (am_z (u : Int)) (am_z (s : Int)) t0 h) := by
  have inn : ∀ (y : Int32) (n : Nat) (n' : Int32), n' = am_z (n : Int) → 0 < n → n < 100000 → ∃ r : Nat, r < n ∧ f_L_in N y n' h = some (am_z (r : Int), h) := fun y n n' en h1 h2 => by rw [en]; exact dvc_in (N := N) y h1 h2 h
  have e256 : ¬ ((256 : Int32) = 0) := by decide
  have e4096 : ¬ ((4096 : Int32) = 0) := by decide
  have e32 : ¬ ((32 : Int32) = 0) := by decide
  obtain ⟨r, hr, a0⟩ := inn x 20 20 rfl (by decide) (by decide)
  have rt : (am_z (r : Int)).toInt = (r : Int) := am_z_ti (by omega) (by omega)
  unfold j_L_changes_51
  simp only [a0, am_bi_s, rt]
  by_cases c0 : (r : Int) = 0
  · rw [if_pos c0]
    exact dvC_bt (dvC_S RR.2 (q_attach hN RR.1 _ _))
  rw [if_neg c0]
  by_cases c1 : (r : Int) = 1
  · rw [if_pos c1]
    exact dvC_bt (dvC_S RR.2 (q_attach hN RR.1 _ _))
  rw [if_neg c1]
  by_cases c2 : (r : Int) = 2
  · rw [if_pos c2]
    exact dvC_bt (dvC_S RR.2 (q_request hN RR.1 _))
  rw [if_neg c2]
  by_cases c3 : (r : Int) = 3
  · rw [if_pos c3]
    exact dvC_bt (dvC_S RR.2 (q_request hN RR.1 _))
  rw [if_neg c3]
  by_cases c4 : (r : Int) = 4
  · rw [if_pos c4]
    exact dvc_type hN RR hs
  rw [if_neg c4]
  by_cases c5 : (r : Int) = 5
  · rw [if_pos c5]
    exact dvc_type hN RR hs
  rw [if_neg c5]
  by_cases c6 : (r : Int) = 6
  · rw [if_pos c6]
    exact dvc_type hN RR hs
  rw [if_neg c6]
  by_cases c7 : (r : Int) = 7
  · rw [if_pos c7]
    exact dvc_type hN RR hs
  rw [if_neg c7]
  by_cases c8 : (r : Int) = 8
  · rw [if_pos c8]
    exact dvc_type hN RR hs
  rw [if_neg c8]
  by_cases c9 : (r : Int) = 9
  · rw [if_pos c9, if_neg e256]
    obtain ⟨r1, -, b1⟩ := inn (x / (256 : Int32)) 2 2 rfl (by decide) (by decide)
    rw [b1, am_bi_s]
    split
    · exact dvC_bt (dvC_S RR.2 (q_answer hN RR.1 _ _))
    · exact dvC_bt (dvC_S RR.2 (q_answer hN RR.1 _ _))
  rw [if_neg c9]
  by_cases c10 : (r : Int) = 10
  · rw [if_pos c10]
    exact dvC_bt (dvC_S RR.2 (q_yield hN RR.1 _))
  rw [if_neg c10]
  by_cases c11 : (r : Int) = 11
  · rw [if_pos c11, if_neg e256]
    obtain ⟨r1, -, b1⟩ := inn (x / (256 : Int32)) m (t0 + (1 : Int32)) ht hm1 hm2
    rw [b1, am_bi_s]
    exact dvC_bt (dvC_S RR.2 (q_goTo hN RR.1 _ _))
  rw [if_neg c11]
  by_cases c12 : (r : Int) = 12
  · rw [if_pos c12]
    exact dvC_bt (dvC_S RR.2 (q_goLive hN RR.1 _))
  rw [if_neg c12]
  by_cases c13 : (r : Int) = 13
  · rw [if_pos c13, if_neg e256]
    obtain ⟨r1, -, b1⟩ := inn (x / (256 : Int32)) m (t0 + (1 : Int32)) ht hm1 hm2
    obtain ⟨r2, -, b2⟩ := inn (x / (4096 : Int32)) 300 300 rfl (by decide) (by decide)
    rw [b1, am_bi_s, if_neg e4096, b2, am_bi_s]
    exact dvC_bt (dvC_S RR.2 (q_replay hN RR.1 _ _ _))
  rw [if_neg c13]
  by_cases c14 : (r : Int) = 14
  · rw [if_pos c14, if_neg e256]
    obtain ⟨r1, -, b1⟩ := inn (x / (256 : Int32)) 6 6 rfl (by decide) (by decide)
    rw [b1, am_bi_s]
    exact dvC_bt (dvC_S RR.2 (q_lookBack hN RR.1 _ _))
  rw [if_neg c14]
  by_cases c15 : (r : Int) = 15
  · rw [if_pos c15, if_neg e256]
    obtain ⟨r1, -, b1⟩ := inn (x / (256 : Int32)) 9 9 rfl (by decide) (by decide)
    obtain ⟨r2, -, b2⟩ := inn (x / (4096 : Int32)) 5 5 rfl (by decide) (by decide)
    rw [b1, am_bi_s, if_neg e4096, b2, am_bi_s]
    exact dvC_bt (dvC_S RR.2 (q_window hN RR.1 _ _ _))
  rw [if_neg c15]
  by_cases c16 : (r : Int) = 16
  · rw [if_pos c16, if_neg e256]
    obtain ⟨r1, -, b1⟩ := inn (x / (256 : Int32)) 3 3 rfl (by decide) (by decide)
    rw [b1, am_bi_s]
    split
    · exact dvC_bt (dvC_S RR.2 (q_detach hN RR.1 _))
    · exact ⟨(), h, hm, rfl, RR⟩
  rw [if_neg c16]
  by_cases c17 : (r : Int) = 17
  · rw [if_pos c17, if_neg e32]
    obtain ⟨r1, -, b1⟩ := inn (x / (32 : Int32)) 2 2 rfl (by decide) (by decide)
    obtain ⟨r2, -, b2⟩ := inn (x / (256 : Int32)) 12 12 rfl (by decide) (by decide)
    obtain ⟨r3, -, b3⟩ := inn (x / (256 : Int32)) 2 2 rfl (by decide) (by decide)
    rw [b1, am_bi_s]
    simp only [if_neg e256, b2, b3, am_bi_s]
    split
    · exact dvC_bt (dvC_S RR.2 (q_setSetting hN RR.1 _ _))
    · exact dvC_bt (dvC_S RR.2 (q_setSetting hN RR.1 _ _))
  rw [if_neg c17, if_neg e256]
  obtain ⟨r1, -, b1⟩ := inn (x / (256 : Int32)) 6 6 rfl (by decide) (by decide)
  rw [b1, am_bi_s]
  exact dvC_bt (dvC_S RR.2 (q_pass hN RR.1 _))
/-- the law's changes never throw, and leave the class a class -/
theorem dvc_changes {h : am_Hp} (hN : 60000 ≤ N) (RR : dR nS nU h0 hm h) (hS : 0 < nS) (hU : 0 < nU) (x : Int32) : ∃ h1 hm1, f_L_changes N x h = some (some (), h1) ∧ dR nS nU h0 hm1 h1 := by
  obtain ⟨n1, n2, n3, n4, n5, n6⟩ := qr_n RR.1
  obtain ⟨k0, k1⟩ := dva_count (N := N) RR.1
  have e256 : ¬ ((256 : Int32) = 0) := by decide
  have e32 : ¬ ((32 : Int32) = 0) := by decide
  obtain ⟨u, hu, b1⟩ := dvc_in (N := N) (x / (32 : Int32)) hU (by omega) h
  obtain ⟨s, hs, b2⟩ := dvc_in (N := N) (x / (256 : Int32)) hS (by omega) h
  obtain ⟨-, -, -, u3, -⟩ := dva_user (N := N) (by omega) RR.1 hu
  have key : dvC nS nU h0 (f_L_changes N x h) := by
    unfold f_L_changes
    simp only [if_neg e32, if_neg e256, k0, k1, am_bt_s, b1, b2, am_bi_s, u3]
    by_cases w : hm 197 (9 + 8 * u) = am_z 0
    · simp only [if_pos w]
      rw [if_neg (show ¬ ((0 : Int32) ≤ am_z (-1)) by decide)]
      exact dvc_51 (m := 1) hN RR hs rfl (by decide) (by decide)
    · obtain ⟨-, -, -, -, -, -, -, bV⟩ := qr_U RR.1 hu
      obtain ⟨s1, s2⟩ := bV.2.2.2.1 w
      generalize hss : nv (hm 197 (10 + 8 * u)) = s' at *
      have e3 : hm 197 (10 + 8 * u) = am_z (s' : Int) := by rw [s1.1, hss]
      obtain ⟨-, -, -, -, -, ⟨d1, -⟩, -⟩ := qr_S RR.1 s2
      have d2 := d1.2.2
      simp only [if_neg w, e3, dva_session2 RR.1 s2, am_bt_s]
      rw [if_pos (show (0 : Int32) ≤ am_z (s' : Int) by rw [show (0 : Int32) = am_z 0 from rfl, am_z_le (by omega) (by omega) (by omega) (by omega)]; omega)]
      refine dvc_51 (m := nv (hm 197 (55 + 1504 * s')) + 1) hN RR hs ?_ (by omega) (by omega)
      have e9 := dv_p1 (i := nv (hm 197 (55 + 1504 * s'))) (by omega)
      rw [← d1.1] at e9
      exact e9
  obtain ⟨v, h1, hm1, e1, R⟩ := key
  exact ⟨h1, hm1, e1, R⟩
end DVG
