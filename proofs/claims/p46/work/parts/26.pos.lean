section POS
variable {N nS nU : Nat}
def rPosL (r : Nat → Int32) (s f : Nat) (pl : Int32) : Nat → Nat → Nat
  | 0, p => p
  | n + 1, p => if nv (r (55 + 1504 * s)) ≤ p then p else if pl < (r (62 + 1504 * s + 5 * p) - r (62 + 1504 * s + 5 * f)) * am_z 100 then p else rPosL r s f pl n (p + 1)
def rPos (r : Nat → Int32) (u : Nat) : Nat :=
  if r (9 + 8 * u) = am_z 1 then nv (r (55 + 1504 * nv (r (10 + 8 * u)))) else if r (9 + 8 * u) = am_z 2 then nv (r (11 + 8 * u))
  else rPosL r (nv (r (10 + 8 * u))) (nv (r (11 + 8 * u))) ((r 2 - r (12 + 8 * u)) * r (13 + 8 * u)) 300 (nv (r (11 + 8 * u)))
theorem rPosL_le {r : Nat → Int32} {s f : Nat} {pl : Int32} : ∀ n p, p ≤ nv (r (55 + 1504 * s)) → rPosL r s f pl n p ≤ nv (r (55 + 1504 * s))
  | 0, p, h => h
  | n + 1, p, h => by
    unfold rPosL
    split
    · exact h
    split
    · exact h
    · exact rPosL_le n (p + 1) (by omega)
/-- the way of a user is one of four -/
theorem vU_way {r : Nat → Int32} {u : Nat} (h : vU r nS u) : r (9 + 8 * u) = am_z 0 ∨ r (9 + 8 * u) = am_z 1 ∨ r (9 + 8 * u) = am_z 2 ∨ r (9 + 8 * u) = am_z 3 := by
  obtain ⟨-, -, ⟨w1, w2, w3⟩, -⟩ := h
  have : nv (r (9 + 8 * u)) = 0 ∨ nv (r (9 + 8 * u)) = 1 ∨ nv (r (9 + 8 * u)) = 2 ∨ nv (r (9 + 8 * u)) = 3 := by omega
  rcases this with q | q | q | q <;> rw [q] at w1
  · exact Or.inl w1
  · exact Or.inr (Or.inl w1)
  · exact Or.inr (Or.inr (Or.inl w1))
  · exact Or.inr (Or.inr (Or.inr w1))
theorem rPos_le {r : Nat → Int32} {u : Nat} (h : vU r nS u) (hw : r (9 + 8 * u) ≠ am_z 0) : rPos r u ≤ nv (r (55 + 1504 * nv (r (10 + 8 * u)))) := by
  have hway := vU_way h
  obtain ⟨-, -, -, -, w5, -⟩ := h
  unfold rPos
  split
  · exact Nat.le_refl _
  split
  · rename_i q
    exact (w5 (Or.inl q)).2.2
  · rename_i q1 q2
    refine rPosL_le _ _ (w5 (Or.inr ?_)).2.2
    rcases hway with q | q | q | q
    · exact absurd q hw
    · exact absurd q q1
    · exact absurd q q2
    · exact q
theorem c_num3 {hc : am_Hp} {r : Nat → Int32} {s e k : Nat} (hs : s < 4) (hE : sE hc s r) (h300 : nv (r (55 + 1504 * s)) ≤ 300) (he : e < nv (r (55 + 1504 * s))) (hk : k < 5) : f_X3_number N (165 + 7 * s) (am_z k) (am_z e) hc = some (r (59 + 1504 * s + 5 * e + k), hc) := by
  rw [rc_num hs hk (by omega), hE e he k hk]
theorem c_tb {hc : am_Hp} {r : Nat → Int32} {s e f : Nat} (hs : s < 4) (hE : sE hc s r) (h300 : nv (r (55 + 1504 * s)) ≤ 300) (he : e < nv (r (55 + 1504 * s))) (hf : f < nv (r (55 + 1504 * s))) : f_X3_timeBetween N (165 + 7 * s) (am_z f) (am_z e) hc = some (r (62 + 1504 * s + 5 * e) - r (62 + 1504 * s + 5 * f), hc) := by
  have a1 : f_X3_number N (165 + 7 * s) (am_z 3) (am_z e) hc = _ := c_num3 (k := 3) hs hE h300 he (by decide)
  have a2 : f_X3_number N (165 + 7 * s) (am_z 3) (am_z f) hc = _ := c_num3 (k := 3) hs hE h300 hf (by decide)
  unfold f_X3_timeBetween
  simp only [(rc_f s hs).1, cond_true, am_z_lit, a1, a2, am_bi_s]
  have e1 : 59 + 1504 * s + 5 * e + 3 = 62 + 1504 * s + 5 * e := by omega
  have e2 : 59 + 1504 * s + 5 * f + 3 = 62 + 1504 * s + 5 * f := by omega
  rw [e1, e2]
theorem c_posL {hc : am_Hp} {r : Nat → Int32} {s u f : Nat} {pl : Int32} (hs : s < 4) (hu : u < 6) (hE : sE hc s r) (hv : vn (r (55 + 1504 * s)) 0 300) (hf : hc (33 + u) 4 = am_z f) : ∀ (m p n : Nat), f ≤ p → p ≤ nv (r (55 + 1504 * s)) → nv (r (55 + 1504 * s)) ≤ p + m → m < n →
    l_X9_positionOf_69 N n (33 + u) (r (55 + 1504 * s)) (165 + 7 * s) pl (am_z p) hc = some (some (am_z (rPosL r s f pl m p)), hc)
  | m, p, 0, _, _, _, h => by omega
  | 0, p, n + 1, h0, h1, h2, h3 => by
    unfold l_X9_positionOf_69 rPosL
    have e : p = nv (r (55 + 1504 * s)) := by omega
    rw [if_pos]
    rw [hv.1, am_z_le (by have := hv.2.2; omega) (by have := hv.2.2; omega) (by have := hv.2.2; omega) (by have := hv.2.2; omega)]
    omega
  | m + 1, p, n + 1, h0, h1, h2, h3 => by
    have h300 := hv.2.2
    have ev := hv.1
    unfold l_X9_positionOf_69
    rw [rPosL]
    by_cases q : nv (r (55 + 1504 * s)) ≤ p
    · rw [if_pos q, if_pos]
      rw [ev, am_z_le (by omega) (by omega) (by omega) (by omega)]
      omega
    · rw [if_neg q, if_neg (by rw [ev, am_z_le (by omega) (by omega) (by omega) (by omega)]; omega)]
      simp only [(g_u u hu).2, (rc_f s hs).1, cond_true, hf, c_tb hs hE h300 (show p < _ by omega) (show f < _ by omega), am_bi_s, am_z_lit]
      by_cases q2 : pl < (r (62 + 1504 * s + 5 * p) - r (62 + 1504 * s + 5 * f)) * am_z 100
      · rw [if_pos q2, if_pos q2]
      · rw [if_neg q2, if_neg q2]
        have e1 : (p : Int) + 1 = ((p + 1 : Nat) : Int) := by omega
        rw [am_z_add, e1]
        exact c_posL hs hu hE hv hf m (p + 1) n (by omega) (by omega) (by omega) (by omega)
theorem c_pos {hc : am_Hp} {r : Nat → Int32} {u : Nat} (hN : 1000 ≤ N) (h1 : hc 15 4 = am_z nS) (hS : nS ≤ 4) (hU : nU ≤ 6) (hs : sS nS nU hc 24 r) (hv : vV nS nU r) (hu : u < nU) (hw : r (9 + 8 * u) ≠ am_z 0) :
    f_X9_positionOf N (33 + u) hc = some (some (am_z (rPos r u)), hc) := by
  obtain ⟨a1, a2, a3, a4, a5, a6⟩ := hs
  obtain ⟨b1, b2, b3, b4, b5, b6, b7⟩ := a6 u hu
  obtain ⟨v1, v2, v3⟩ := hv
  have hway := vU_way (v3 u hu)
  obtain ⟨w1, w2, w3, w4, w5, w6, w7, w8⟩ := v3 u hu
  obtain ⟨s1, s2⟩ := w4 hw
  have e33 : 24 + 9 + u = 33 + u := by omega
  rw [e33] at b1 b2 b3 b4 b5 b6 b7
  generalize hss : nv (r (10 + 8 * u)) = s at *
  obtain ⟨⟨c1, c2, c3, c4⟩, cE⟩ := a5 s s2
  obtain ⟨⟨d1, d2, d3⟩, dE⟩ := v2 s s2
  have e29 : 24 + 5 + s = 29 + s := by omega
  rw [e29] at c1 c2 c3 c4
  have e3 : hc (33 + u) 3 = am_z s := by rw [b4 hw, s1.1, hss]
  unfold f_X9_positionOf
  simp only [(g_u u (by omega)).2, cond_true, e3, c_desk h1 hS s2, am_bt_s, (g_d s (by omega)).2.2, am_z_lit, b3, c1, c_rec h1 hS s2]
  unfold rPos
  rw [hss]
  by_cases q1 : r (9 + 8 * u) = am_z 1
  · rw [if_pos q1, if_pos q1]
    rw [d1.1, nv_z (by have := d1.2.2; omega)]
  rw [if_neg q1, if_neg q1]
  by_cases q2 : r (9 + 8 * u) = am_z 2
  · rw [if_pos q2, if_pos q2, b5 (Or.inl q2), (w5 (Or.inl q2)).1, nv_z]
    have := (w5 (Or.inl q2)).2.2
    have := d1.2.2
    omega
  have q3 : r (9 + 8 * u) = am_z 3 := by
    rcases hway with q | q | q | q
    · exact absurd q hw
    · exact absurd q q1
    · exact absurd q q2
    · exact q
  have e4 : hc (33 + u) 4 = am_z (nv (r (11 + 8 * u))) := by rw [b5 (Or.inr q3)]; exact (w5 (Or.inr q3)).1
  have hfl := (w5 (Or.inr q3)).2.2
  have h300 := d1.2.2
  rw [if_neg q2, if_neg q2, a1, (b6 q3).1, (b6 q3).2, e4]
  exact c_posL (by omega) (by omega) cE d1 e4 300 _ N (Nat.le_refl _) hfl (by omega) (by omega)
theorem m_posL {hm : am_Hp} {r : Nat → Int32} {s u f : Nat} {t : Int32} (hr : hm 197 = r) (hs : s < 4) (hu : u < 6) (hv : vn (r (55 + 1504 * s)) 0 300) : ∀ (m p n : Nat), f ≤ p → p ≤ nv (r (55 + 1504 * s)) → nv (r (55 + 1504 * s)) ≤ p + m → m < n →
    l_X10_positionOf_60 N n (am_z u) (am_z s) (am_z p) (am_z f) t hm = some (am_z (rPosL r s f (t * r (13 + 8 * u)) m p), hm)
  | m, p, 0, _, _, _, h => by omega
  | 0, p, n + 1, h0, h1, h2, h3 => by
    unfold l_X10_positionOf_60 rPosL
    have e : p = nv (r (55 + 1504 * s)) := by omega
    have h300 := hv.2.2
    rw [m_ev hs, am_bi_s, if_pos]
    rw [hr, hv.1, am_z_le (by omega) (by omega) (by omega) (by omega)]
    omega
  | m + 1, p, n + 1, h0, h1, h2, h3 => by
    have h300 := hv.2.2
    have ev := hv.1
    unfold l_X10_positionOf_60
    rw [rPosL]
    rw [m_ev hs, am_bi_s, hr]
    by_cases q : nv (r (55 + 1504 * s)) ≤ p
    · rw [if_pos q, if_pos]
      rw [ev, am_z_le (by omega) (by omega) (by omega) (by omega)]
      omega
    · rw [if_neg q, if_neg (by rw [ev, am_z_le (by omega) (by omega) (by omega) (by omega)]; omega)]
      have a0 : f_X10_ofU N (am_z u) (am_z 6) hm = _ := qm_ofU (k := 6) hu (by decide)
      have a1 : f_X10_ofE N (am_z s) (am_z p) (am_z 3) hm = _ := qm_ofE (k := 3) hs (by omega) (by decide)
      have a2 : f_X10_ofE N (am_z s) (am_z f) (am_z 3) hm = _ := qm_ofE (k := 3) hs (by omega) (by decide)
      have e1 : qm_e hm s p 3 = r (62 + 1504 * s + 5 * p) := by unfold qm_e; rw [hr]; congr 1; omega
      have e2 : qm_e hm s f 3 = r (62 + 1504 * s + 5 * f) := by unfold qm_e; rw [hr]; congr 1; omega
      have e3 : 7 + 8 * u + 6 = 13 + 8 * u := by omega
      unfold f_X10_hasCome
      simp only [am_z_lit, a0, am_bi_s, a1, a2, e1, e2, hr, e3]
      by_cases q2 : t * r (13 + 8 * u) < (r (62 + 1504 * s + 5 * p) - r (62 + 1504 * s + 5 * f)) * am_z 100
      · rw [if_pos q2, if_pos q2, am_z_and0, if_pos rfl, am_bi_s, if_pos rfl]
      · rw [if_neg q2, if_neg q2, am_z_and1, if_pos rfl, am_bi_s, if_neg z_10]
        have e1 : (p : Int) + 1 = ((p + 1 : Nat) : Int) := by omega
        rw [am_z_add, e1]
        exact m_posL hr hs hu hv m (p + 1) n (by omega) (by omega) (by omega) (by omega)
theorem m_pos {hm : am_Hp} {r : Nat → Int32} {u : Nat} (hN : 1000 ≤ N) (hS : nS ≤ 4) (hU : nU ≤ 6) (hr : hm 197 = r) (hv : vV nS nU r) (hu : u < nU) (hw : r (9 + 8 * u) ≠ am_z 0) :
    f_X10_positionOf N (am_z u) hm = some (am_z (rPos r u), hm) := by
  obtain ⟨v1, v2, v3⟩ := hv
  have hway := vU_way (v3 u hu)
  obtain ⟨w1, w2, w3, w4, w5, w6, w7, w8⟩ := v3 u hu
  obtain ⟨s1, s2⟩ := w4 hw
  generalize hss : nv (r (10 + 8 * u)) = s at *
  obtain ⟨⟨d1, d2, d3⟩, dE⟩ := v2 s s2
  have u6 : u < 6 := by omega
  have a2 : f_X10_ofU N (am_z u) (am_z 2) hm = _ := qm_ofU (k := 2) u6 (by decide)
  have a3 : f_X10_ofU N (am_z u) (am_z 3) hm = _ := qm_ofU (k := 3) u6 (by decide)
  have a4 : f_X10_ofU N (am_z u) (am_z 4) hm = _ := qm_ofU (k := 4) u6 (by decide)
  have a5 : f_X10_ofU N (am_z u) (am_z 5) hm = _ := qm_ofU (k := 5) u6 (by decide)
  have e2 : 7 + 8 * u + 2 = 9 + 8 * u := by omega
  have e3 : 7 + 8 * u + 3 = 10 + 8 * u := by omega
  have e4 : 7 + 8 * u + 4 = 11 + 8 * u := by omega
  have e5 : 7 + 8 * u + 5 = 12 + 8 * u := by omega
  rw [hr, e2] at a2
  rw [hr, e3, s1.1, hss] at a3
  rw [hr, e4] at a4
  rw [hr, e5] at a5
  have i2 : am_in (am_z 2) 6071 = true := by decide
  unfold f_X10_positionOf
  simp only [am_z_lit, a2, a3, a4, a5, am_bi_s, m_ev (show s < 4 by omega), hr, i2, cond_true]
  unfold rPos
  rw [hss]
  by_cases q1 : r (9 + 8 * u) = am_z 1
  · rw [if_pos q1, if_pos q1]
    rw [d1.1, nv_z (by have := d1.2.2; omega)]
  rw [if_neg q1, if_neg q1]
  by_cases q2 : r (9 + 8 * u) = am_z 2
  · rw [if_pos q2, if_pos q2, (w5 (Or.inl q2)).1, nv_z]
    have := (w5 (Or.inl q2)).2.2
    have := d1.2.2
    omega
  have q3 : r (9 + 8 * u) = am_z 3 := by
    rcases hway with q | q | q | q
    · exact absurd q hw
    · exact absurd q q1
    · exact absurd q q2
    · exact q
  have hfl := (w5 (Or.inr q3)).2.2
  have h300 := d1.2.2
  rw [if_neg q2, if_neg q2]
  have e4 : r (11 + 8 * u) = am_z (nv (r (11 + 8 * u))) := (w5 (Or.inr q3)).1
  have step := m_posL (N := N) (t := r 2 - r (12 + 8 * u)) hr (show s < 4 by omega) u6 d1 300 (nv (r (11 + 8 * u))) N (Nat.le_refl _) hfl (by omega) (by omega)
  rw [← e4] at step
  exact step
end POS
