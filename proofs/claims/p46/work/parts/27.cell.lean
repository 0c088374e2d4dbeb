section CELL
variable {N : Nat}
theorem m_u0 {h : am_Hp} {r : Nat → Int32} {u : Nat} (hr : h 197 = r) (hu : u < 6) : f_X10_ofU N (am_z u) (am_z 0) h = some (r (7 + 8 * u), h) := by
  have a : f_X10_ofU N (am_z u) (am_z 0) h = _ := qm_ofU (k := 0) hu (by decide)
  have e : 7 + 8 * u + 0 = 7 + 8 * u := by omega
  rw [a, hr, e]
theorem w_u0 {h : am_Hp} {u : Nat} {v : Int32} (hu : u < 6) : f_X10_setU N (am_z u) (am_z 0) v h = some ((), am_pi h 197 (7 + 8 * u) v) := by
  have a : f_X10_setU N (am_z u) (am_z 0) v h = _ := qm_setU (k := 0) hu (by decide)
  have e : 7 + 8 * u + 0 = 7 + 8 * u := by omega
  rw [a, e]
theorem m_u1 {h : am_Hp} {r : Nat → Int32} {u : Nat} (hr : h 197 = r) (hu : u < 6) : f_X10_ofU N (am_z u) (am_z 1) h = some (r (8 + 8 * u), h) := by
  have a : f_X10_ofU N (am_z u) (am_z 1) h = _ := qm_ofU (k := 1) hu (by decide)
  have e : 7 + 8 * u + 1 = 8 + 8 * u := by omega
  rw [a, hr, e]
theorem w_u1 {h : am_Hp} {u : Nat} {v : Int32} (hu : u < 6) : f_X10_setU N (am_z u) (am_z 1) v h = some ((), am_pi h 197 (8 + 8 * u) v) := by
  have a : f_X10_setU N (am_z u) (am_z 1) v h = _ := qm_setU (k := 1) hu (by decide)
  have e : 7 + 8 * u + 1 = 8 + 8 * u := by omega
  rw [a, e]
theorem m_u2 {h : am_Hp} {r : Nat → Int32} {u : Nat} (hr : h 197 = r) (hu : u < 6) : f_X10_ofU N (am_z u) (am_z 2) h = some (r (9 + 8 * u), h) := by
  have a : f_X10_ofU N (am_z u) (am_z 2) h = _ := qm_ofU (k := 2) hu (by decide)
  have e : 7 + 8 * u + 2 = 9 + 8 * u := by omega
  rw [a, hr, e]
theorem w_u2 {h : am_Hp} {u : Nat} {v : Int32} (hu : u < 6) : f_X10_setU N (am_z u) (am_z 2) v h = some ((), am_pi h 197 (9 + 8 * u) v) := by
  have a : f_X10_setU N (am_z u) (am_z 2) v h = _ := qm_setU (k := 2) hu (by decide)
  have e : 7 + 8 * u + 2 = 9 + 8 * u := by omega
  rw [a, e]
theorem m_u3 {h : am_Hp} {r : Nat → Int32} {u : Nat} (hr : h 197 = r) (hu : u < 6) : f_X10_ofU N (am_z u) (am_z 3) h = some (r (10 + 8 * u), h) := by
  have a : f_X10_ofU N (am_z u) (am_z 3) h = _ := qm_ofU (k := 3) hu (by decide)
  have e : 7 + 8 * u + 3 = 10 + 8 * u := by omega
  rw [a, hr, e]
theorem w_u3 {h : am_Hp} {u : Nat} {v : Int32} (hu : u < 6) : f_X10_setU N (am_z u) (am_z 3) v h = some ((), am_pi h 197 (10 + 8 * u) v) := by
  have a : f_X10_setU N (am_z u) (am_z 3) v h = _ := qm_setU (k := 3) hu (by decide)
  have e : 7 + 8 * u + 3 = 10 + 8 * u := by omega
  rw [a, e]
theorem m_u4 {h : am_Hp} {r : Nat → Int32} {u : Nat} (hr : h 197 = r) (hu : u < 6) : f_X10_ofU N (am_z u) (am_z 4) h = some (r (11 + 8 * u), h) := by
  have a : f_X10_ofU N (am_z u) (am_z 4) h = _ := qm_ofU (k := 4) hu (by decide)
  have e : 7 + 8 * u + 4 = 11 + 8 * u := by omega
  rw [a, hr, e]
theorem w_u4 {h : am_Hp} {u : Nat} {v : Int32} (hu : u < 6) : f_X10_setU N (am_z u) (am_z 4) v h = some ((), am_pi h 197 (11 + 8 * u) v) := by
  have a : f_X10_setU N (am_z u) (am_z 4) v h = _ := qm_setU (k := 4) hu (by decide)
  have e : 7 + 8 * u + 4 = 11 + 8 * u := by omega
  rw [a, e]
theorem m_u5 {h : am_Hp} {r : Nat → Int32} {u : Nat} (hr : h 197 = r) (hu : u < 6) : f_X10_ofU N (am_z u) (am_z 5) h = some (r (12 + 8 * u), h) := by
  have a : f_X10_ofU N (am_z u) (am_z 5) h = _ := qm_ofU (k := 5) hu (by decide)
  have e : 7 + 8 * u + 5 = 12 + 8 * u := by omega
  rw [a, hr, e]
theorem w_u5 {h : am_Hp} {u : Nat} {v : Int32} (hu : u < 6) : f_X10_setU N (am_z u) (am_z 5) v h = some ((), am_pi h 197 (12 + 8 * u) v) := by
  have a : f_X10_setU N (am_z u) (am_z 5) v h = _ := qm_setU (k := 5) hu (by decide)
  have e : 7 + 8 * u + 5 = 12 + 8 * u := by omega
  rw [a, e]
theorem m_u6 {h : am_Hp} {r : Nat → Int32} {u : Nat} (hr : h 197 = r) (hu : u < 6) : f_X10_ofU N (am_z u) (am_z 6) h = some (r (13 + 8 * u), h) := by
  have a : f_X10_ofU N (am_z u) (am_z 6) h = _ := qm_ofU (k := 6) hu (by decide)
  have e : 7 + 8 * u + 6 = 13 + 8 * u := by omega
  rw [a, hr, e]
theorem w_u6 {h : am_Hp} {u : Nat} {v : Int32} (hu : u < 6) : f_X10_setU N (am_z u) (am_z 6) v h = some ((), am_pi h 197 (13 + 8 * u) v) := by
  have a : f_X10_setU N (am_z u) (am_z 6) v h = _ := qm_setU (k := 6) hu (by decide)
  have e : 7 + 8 * u + 6 = 13 + 8 * u := by omega
  rw [a, e]
theorem m_u7 {h : am_Hp} {r : Nat → Int32} {u : Nat} (hr : h 197 = r) (hu : u < 6) : f_X10_ofU N (am_z u) (am_z 7) h = some (r (14 + 8 * u), h) := by
  have a : f_X10_ofU N (am_z u) (am_z 7) h = _ := qm_ofU (k := 7) hu (by decide)
  have e : 7 + 8 * u + 7 = 14 + 8 * u := by omega
  rw [a, hr, e]
theorem w_u7 {h : am_Hp} {u : Nat} {v : Int32} (hu : u < 6) : f_X10_setU N (am_z u) (am_z 7) v h = some ((), am_pi h 197 (14 + 8 * u) v) := by
  have a : f_X10_setU N (am_z u) (am_z 7) v h = _ := qm_setU (k := 7) hu (by decide)
  have e : 7 + 8 * u + 7 = 14 + 8 * u := by omega
  rw [a, e]
theorem m_s0 {h : am_Hp} {r : Nat → Int32} {s : Nat} (hr : h 197 = r) (hs : s < 4) : f_X10_ofS N (am_z s) (am_z 0) h = some (r (55 + 1504 * s), h) := by
  have a : f_X10_ofS N (am_z s) (am_z 0) h = _ := qm_ofS (k := 0) hs (by decide)
  have e : 55 + 1504 * s + 0 = 55 + 1504 * s := by omega
  rw [a, hr, e]
theorem w_s0 {h : am_Hp} {s : Nat} {v : Int32} (hs : s < 4) : f_X10_setS N (am_z s) (am_z 0) v h = some ((), am_pi h 197 (55 + 1504 * s) v) := by
  have a : f_X10_setS N (am_z s) (am_z 0) v h = _ := qm_setS (k := 0) hs (by decide)
  have e : 55 + 1504 * s + 0 = 55 + 1504 * s := by omega
  rw [a, e]
theorem m_s1 {h : am_Hp} {r : Nat → Int32} {s : Nat} (hr : h 197 = r) (hs : s < 4) : f_X10_ofS N (am_z s) (am_z 1) h = some (r (56 + 1504 * s), h) := by
  have a : f_X10_ofS N (am_z s) (am_z 1) h = _ := qm_ofS (k := 1) hs (by decide)
  have e : 55 + 1504 * s + 1 = 56 + 1504 * s := by omega
  rw [a, hr, e]
theorem w_s1 {h : am_Hp} {s : Nat} {v : Int32} (hs : s < 4) : f_X10_setS N (am_z s) (am_z 1) v h = some ((), am_pi h 197 (56 + 1504 * s) v) := by
  have a : f_X10_setS N (am_z s) (am_z 1) v h = _ := qm_setS (k := 1) hs (by decide)
  have e : 55 + 1504 * s + 1 = 56 + 1504 * s := by omega
  rw [a, e]
theorem m_s2 {h : am_Hp} {r : Nat → Int32} {s : Nat} (hr : h 197 = r) (hs : s < 4) : f_X10_ofS N (am_z s) (am_z 2) h = some (r (57 + 1504 * s), h) := by
  have a : f_X10_ofS N (am_z s) (am_z 2) h = _ := qm_ofS (k := 2) hs (by decide)
  have e : 55 + 1504 * s + 2 = 57 + 1504 * s := by omega
  rw [a, hr, e]
theorem w_s2 {h : am_Hp} {s : Nat} {v : Int32} (hs : s < 4) : f_X10_setS N (am_z s) (am_z 2) v h = some ((), am_pi h 197 (57 + 1504 * s) v) := by
  have a : f_X10_setS N (am_z s) (am_z 2) v h = _ := qm_setS (k := 2) hs (by decide)
  have e : 55 + 1504 * s + 2 = 57 + 1504 * s := by omega
  rw [a, e]
theorem m_s3 {h : am_Hp} {r : Nat → Int32} {s : Nat} (hr : h 197 = r) (hs : s < 4) : f_X10_ofS N (am_z s) (am_z 3) h = some (r (58 + 1504 * s), h) := by
  have a : f_X10_ofS N (am_z s) (am_z 3) h = _ := qm_ofS (k := 3) hs (by decide)
  have e : 55 + 1504 * s + 3 = 58 + 1504 * s := by omega
  rw [a, hr, e]
theorem w_s3 {h : am_Hp} {s : Nat} {v : Int32} (hs : s < 4) : f_X10_setS N (am_z s) (am_z 3) v h = some ((), am_pi h 197 (58 + 1504 * s) v) := by
  have a : f_X10_setS N (am_z s) (am_z 3) v h = _ := qm_setS (k := 3) hs (by decide)
  have e : 55 + 1504 * s + 3 = 58 + 1504 * s := by omega
  rw [a, e]
theorem m_e0 {h : am_Hp} {r : Nat → Int32} {s e : Nat} (hr : h 197 = r) (hs : s < 4) (he : e < 300) : f_X10_ofE N (am_z s) (am_z e) (am_z 0) h = some (r (59 + 1504 * s + 5 * e), h) := by
  have a : f_X10_ofE N (am_z s) (am_z e) (am_z 0) h = _ := qm_ofE (k := 0) hs he (by decide)
  have e : 59 + 1504 * s + 5 * e + 0 = 59 + 1504 * s + 5 * e := by omega
  rw [a]
  unfold qm_e
  rw [hr, e]
theorem m_e1 {h : am_Hp} {r : Nat → Int32} {s e : Nat} (hr : h 197 = r) (hs : s < 4) (he : e < 300) : f_X10_ofE N (am_z s) (am_z e) (am_z 1) h = some (r (60 + 1504 * s + 5 * e), h) := by
  have a : f_X10_ofE N (am_z s) (am_z e) (am_z 1) h = _ := qm_ofE (k := 1) hs he (by decide)
  have e : 59 + 1504 * s + 5 * e + 1 = 60 + 1504 * s + 5 * e := by omega
  rw [a]
  unfold qm_e
  rw [hr, e]
theorem m_e2 {h : am_Hp} {r : Nat → Int32} {s e : Nat} (hr : h 197 = r) (hs : s < 4) (he : e < 300) : f_X10_ofE N (am_z s) (am_z e) (am_z 2) h = some (r (61 + 1504 * s + 5 * e), h) := by
  have a : f_X10_ofE N (am_z s) (am_z e) (am_z 2) h = _ := qm_ofE (k := 2) hs he (by decide)
  have e : 59 + 1504 * s + 5 * e + 2 = 61 + 1504 * s + 5 * e := by omega
  rw [a]
  unfold qm_e
  rw [hr, e]
theorem m_e3 {h : am_Hp} {r : Nat → Int32} {s e : Nat} (hr : h 197 = r) (hs : s < 4) (he : e < 300) : f_X10_ofE N (am_z s) (am_z e) (am_z 3) h = some (r (62 + 1504 * s + 5 * e), h) := by
  have a : f_X10_ofE N (am_z s) (am_z e) (am_z 3) h = _ := qm_ofE (k := 3) hs he (by decide)
  have e : 59 + 1504 * s + 5 * e + 3 = 62 + 1504 * s + 5 * e := by omega
  rw [a]
  unfold qm_e
  rw [hr, e]
theorem m_e4 {h : am_Hp} {r : Nat → Int32} {s e : Nat} (hr : h 197 = r) (hs : s < 4) (he : e < 300) : f_X10_ofE N (am_z s) (am_z e) (am_z 4) h = some (r (63 + 1504 * s + 5 * e), h) := by
  have a : f_X10_ofE N (am_z s) (am_z e) (am_z 4) h = _ := qm_ofE (k := 4) hs he (by decide)
  have e : 59 + 1504 * s + 5 * e + 4 = 63 + 1504 * s + 5 * e := by omega
  rw [a]
  unfold qm_e
  rw [hr, e]
theorem m_evr {h : am_Hp} {r : Nat → Int32} {s : Nat} (hr : h 197 = r) (hs : s < 4) : f_X10_events N (am_z s) h = some (r (55 + 1504 * s), h) := by
  rw [m_ev hs, hr]
theorem m_wat {h : am_Hp} {r : Nat → Int32} {u : Nat} (hr : h 197 = r) (hu : u < 6) : f_X10_watches N (am_z u) h = some (if r (9 + 8 * u) = am_z 0 then am_z 0 else am_z 1, h) := by
  unfold f_X10_watches
  simp only [am_z_lit, m_u2 hr hu, am_bi_s, am_z_and0, am_z_and1, if_true]
  split <;> rfl
theorem m_live {h : am_Hp} {r : Nat → Int32} {u : Nat} {x : Int32} (hr : h 197 = r) (hu : u < 6) : f_X10_isLive N (am_z u) x h = some (if r (9 + 8 * u) = am_z 1 ∧ r (10 + 8 * u) = x then am_z 1 else am_z 0, h) := by
  unfold f_X10_isLive
  simp only [am_z_lit, m_u2 hr hu, m_u3 hr hu, am_bi_s, am_z_and0, am_z_and1, if_true]
  by_cases q : r (9 + 8 * u) = am_z 1
  · by_cases q2 : r (10 + 8 * u) = x
    · rw [if_pos q, if_pos q2, if_pos ⟨q, q2⟩]
    · rw [if_pos q, if_neg q2, if_neg (fun z => q2 z.2)]
  · rw [if_neg q, if_neg (fun z => q z.1)]
-- ---- what the relation says of a session, of a user
theorem qr_S {nS nU : Nat} {hc hm : am_Hp} (R : qr_R nS nU hc hm) {s : Nat} (hs : s < nS) : hc (29 + s) 0 = hm 197 (55 + 1504 * s) ∧ hc (29 + s) 1 = hm 197 (56 + 1504 * s) ∧ hc (29 + s) 2 = hm 197 (57 + 1504 * s) ∧ (hm 197 (57 + 1504 * s) ≠ am_z (-1) → hc (29 + s) 3 = hm 197 (58 + 1504 * s)) ∧ sE hc s (hm 197) ∧ vD (hm 197) nU s ∧ vE (hm 197) s := by
  obtain ⟨t, b, ⟨a1, a2, a3, a4, a5, a6⟩, v, y⟩ := R
  obtain ⟨⟨c1, c2, c3, c4⟩, cE⟩ := a5 s hs
  have e : 24 + 5 + s = 29 + s := by omega
  rw [e] at c1 c2 c3 c4
  exact ⟨c1, c2, c3, c4, cE, (v.2.1 s hs).1, (v.2.1 s hs).2⟩
theorem qr_U {nS nU : Nat} {hc hm : am_Hp} (R : qr_R nS nU hc hm) {u : Nat} (hu : u < nU) : hc (33 + u) 0 = hm 197 (7 + 8 * u) ∧ hc (33 + u) 1 = hm 197 (8 + 8 * u) ∧ hc (33 + u) 2 = hm 197 (9 + 8 * u) ∧
  (hm 197 (9 + 8 * u) ≠ am_z 0 → hc (33 + u) 3 = hm 197 (10 + 8 * u)) ∧ (hm 197 (9 + 8 * u) = am_z 2 ∨ hm 197 (9 + 8 * u) = am_z 3 → hc (33 + u) 4 = hm 197 (11 + 8 * u)) ∧
  (hm 197 (9 + 8 * u) = am_z 3 → hc (33 + u) 5 = hm 197 (12 + 8 * u) ∧ hc (33 + u) 6 = hm 197 (13 + 8 * u)) ∧ hc (33 + u) 7 = hm 197 (14 + 8 * u) ∧ vU (hm 197) nS u := by
  obtain ⟨t, b, ⟨a1, a2, a3, a4, a5, a6⟩, v, y⟩ := R
  have c := a6 u hu
  unfold sU at c
  have e : 24 + 9 + u = 33 + u := by omega
  rw [e] at c
  exact ⟨c.1, c.2.1, c.2.2.1, c.2.2.2.1, c.2.2.2.2.1, c.2.2.2.2.2.1, c.2.2.2.2.2.2, v.2.2 u hu⟩
/-- counts of things, on both sides -/
theorem qr_n {nS nU : Nat} {hc hm : am_Hp} (R : qr_R nS nU hc hm) : nS ≤ 4 ∧ nU ≤ 6 ∧ hc 15 4 = am_z nS ∧ hc 19 4 = am_z nU ∧ hm 195 0 = am_z nS ∧ hm 195 1 = am_z nU := by
  obtain ⟨⟨a1, a2, a3, a4, a5, a6, a7, a8, a9, a10, -⟩, -⟩ := R
  exact ⟨a1, a2, a7, a8, a9, a10⟩
theorem thr_e {h : am_Hp} {x : Int32} {a : Nat} (ha : a ≠ 193) : am_pi h 193 0 x a = h a := qc_pia ha
end CELL
