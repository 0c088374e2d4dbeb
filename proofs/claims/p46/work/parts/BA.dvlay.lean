section DVB
variable {N nS nU : Nat} {hm : am_Hp}
theorem dv_sh0 (S : dm_S) : dm_sh S (dm_h S) = S := rfl
/-- a new screen of the law, blank -/
theorem dv_beg {S : dm_S} {w hh : Nat} (hN : 2000 ≤ N) (w1 : w ≤ 16) (h6 : hh ≤ 6) (hn : 1000 ≤ dm_n S) (hb : dm_n S + 3000 < dm_bg) :
    ∃ S', e_X10_blank N (dm_n S) (am_z (hh : Int)) (dm_wr (dm_sc S) (dm_n S) 3 (am_z (w : Int))) = some ((), S') ∧ dV (dm_n S) S' (dm_n S) (qc_beg w hh) ∧ dvF (dm_n S) (3 + hh) (46 + hh + hh * w) S S' := by
  have ka : dm_k (dm_sc S) (dm_n S) = (1, 10, 6) := by
    show (if dm_n S = dm_n S + 1 then _ else if dm_n S = dm_n S then _ else _) = _
    rw [if_neg (by omega), if_pos rfl]
  have kl : dm_k (dm_sc S) (dm_n S + 1) = (3, 6, 40) := if_pos rfl
  have ga : ∀ j, dm_g (dm_sc S) (dm_n S) j = if j = 0 then am_z (-1) else if j = 4 then am_z ((dm_n S + 1 : Nat) : Int) else 0 := fun j => by
    show (if dm_n S = dm_n S + 1 then _ else if dm_n S = dm_n S then _ else _) = _
    rw [if_neg (by omega), if_pos rfl]
  have en : dm_n (dm_sc S) = dm_n S + 2 := rfl
  have ez : dm_zz (dm_sc S) = dm_zz S + 6 + 40 := rfl
  have old : ∀ b, b < dm_n S → dm_k (dm_sc S) b = dm_k S b ∧ dm_g (dm_sc S) b = dm_g S b := fun b hb => by
    constructor
    · show (if b = dm_n S + 1 then _ else if b = dm_n S then _ else _) = _
      rw [if_neg (by omega), if_neg (by omega)]
    · funext j
      show (if b = dm_n S + 1 then _ else if b = dm_n S then _ else _) = _
      rw [if_neg (by omega), if_neg (by omega)]
  obtain ⟨S', e, f1, f2, f3, f4, f5, f6, f7, f8⟩ := dv_blank (N := N) (a := dm_n S) (w := w) (hh := hh) (S := dm_wr (dm_sc S) (dm_n S) 3 (am_z (w : Int))) hN (by omega) (by omega) (dv_okm (by rw [dv_k_wr, ka]) hn (by rw [dv_n_wr, en]; omega)) dv_g_w1 (by rw [dv_n_wr, en]; omega) (by rw [dv_n_wr, en]; omega)
  rw [dv_n_wr, en] at f2 f4 f5 f7 f8
  rw [dv_z_wr, ez] at f3
  rw [dv_k_wr] at f4
  have a0 := f4 (dm_n S) (by omega)
  have a1 := f4 (dm_n S + 1) (by omega)
  have gg : ∀ j, j ≠ 0 → j ≠ 3 → dm_g S' (dm_n S) j = if j = 4 then am_z ((dm_n S + 1 : Nat) : Int) else 0 := fun j j0 j3 => by
    rw [f6 j j0, dv_g_w2 j3, ga, if_neg j0]
  refine ⟨S', e, ⟨dm_n S + 2, dm_n S + 1, fun l => dm_n S + 2 + 1 + l, ⟨⟨dv_okm (by rw [a0.1, ka]) hn (by omega), dv_okm (by rw [f7]) (by omega) (by omega), dv_okm (by rw [a1.1, kl]) (by omega) (by omega), by omega, Nat.le_refl _, by omega, by omega⟩, ⟨by unfold dm_len; rw [f7], by unfold dm_len; rw [a1.1, kl], f5, ?_, ?_⟩, fun i hi => ?_, fun k hk => ?_, fun l hl => ?_, fun l m hl hm z => ?_⟩, ⟨?_, fun l _ hl => ?_⟩, ?_, ?_⟩, ⟨f1, by omega, by omega, by omega, fun b hb9 => ⟨by rw [(f4 b (by omega)).1, (old b hb9).1], by rw [(f4 b (by omega)).2 (by omega), dv_g_w3 (by omega), (old b hb9).2]⟩⟩⟩
  · rw [gg 4 (by decide) (by decide), if_pos rfl]
  · rw [gg 5 (by decide) (by decide), if_neg (by decide)]; rfl
  · rw [(f8 i hi).1]
    show am_z ((dm_n S + 2 + 1 + i : Nat) : Int) = am_z ((dm_n S + 2 + 1 + (0 + i) : Nat) : Int)
    rw [Nat.zero_add]
  · exact absurd hk (Nat.not_lt_zero k)
  · have hl : l < hh := by have hl' : l < 0 + hh := hl; omega
    obtain ⟨-, p2, p3⟩ := f8 l hl
    have lw : dm_len S' (dm_n S + 2 + 1 + l) = w := by unfold dm_len; rw [p2]
    show dm_n S ≤ dm_n S + 2 + 1 + l ∧ _ ∧ dm_len S' (dm_n S + 2 + 1 + l) ≤ 16 ∧ (∀ c, c < dm_len S' (dm_n S + 2 + 1 + l) → _) ∧ ∀ c, _ → _
    rw [lw]
    exact ⟨by omega, dv_okm (b := dm_n S + 2 + 1 + l) (by rw [p2]) (by omega) (by omega), w1, p3, fun _ _ => rfl⟩
  · have z : dm_n S + 2 + 1 + l = dm_n S + 2 + 1 + m := z
    omega
  · rw [f6 3 (by decide), dv_g_w1]
  · have hl : l < hh := by have hl' : l < 0 + hh := hl; omega
    show dm_len S' (dm_n S + 2 + 1 + l) = w
    unfold dm_len
    rw [(f8 l hl).2.1]
  · rw [gg 1 (by decide) (by decide), if_neg (by decide)]; rfl
  · rw [gg 2 (by decide) (by decide), if_neg (by decide)]; rfl
/-- one event -/
theorem dv_Play {lo : Nat} {S : dm_S} {a : Nat} {t : qc_T} {ev : Nat → Int32} (hN : 2000 ≤ N) (h : dV lo S a t) (hK : qc_OK t) (hE : qc_EV ev) (hlo : 1000 ≤ lo) (hlo2 : lo ≤ dm_n S) (hb : dm_n S + 3000 < dm_bg) :
    (ev 0 = 0 ∧ ∃ S', e_X10_typed N a (ev 1) S = some ((), S') ∧ dV lo S' a (qc_play ev t) ∧ dvF lo 13 198 S S') ∨ (ev 0 ≠ 0 ∧ ∃ S', e_X10_sized N a (ev 1) (ev 2) S = some ((), S') ∧ dV lo S' a (qc_play ev t) ∧ dvF lo 13 198 S S') := by
  obtain ⟨w, hh, row, col, up, L⟩ := t
  rcases hE with ⟨e0, w', h', e1, e2, b1, b2, b3, b4⟩ | ⟨e0, v, e1, b1, b2⟩
  · right
    obtain ⟨S', e, f1, f2⟩ := dv_Siz (N := N) hN h hK b1 b2 b3 b4 hlo hlo2 hb
    refine ⟨by rw [e0]; decide, S', by rw [e1, e2]; exact e, ?_, f2⟩
    unfold qc_play
    rw [if_pos e0, e1, e2, am_z_cl (by omega) (by omega), am_z_cl (by omega) (by omega), Int.toNat_natCast, Int.toNat_natCast]
    exact f1
  · left
    obtain ⟨S', e, f1, f2⟩ := dv_Typ (N := N) hN h hK b2 hlo hlo2 (by omega)
    refine ⟨e0, S', by rw [e1]; exact e, ?_, dvF_m f2 (by omega) (by omega)⟩
    unfold qc_play
    rw [if_neg (by rw [e0]; decide), e1]
    exact f1
theorem dv_layL {lo a s q : Nat} {S0 : dm_S} {w hh : Nat} (hN : 2000 ≤ N) (R : qr_R nS nU (dm_h S0) hm) (hs : s < nS) (hq : q ≤ nv (hm 197 (55 + 1504 * s))) (hb : 2 ≤ w ∧ w ≤ 16 ∧ 1 ≤ hh ∧ hh ≤ 6) (hlo : 1000 ≤ lo) : ∀ (k e n : Nat) (S : dm_S), e + k = q → k < n → dm_h S = dm_h S0 → dV lo S a (qc_lay w hh (rEv (hm 197) s) e) → lo ≤ dm_n S → dm_n S + 13 * k + 3000 < dm_bg →
    ∃ S', el_L_screen_31 N n (am_z (s : Int)) (am_z (q : Int)) a (am_z (e : Int)) S = some (a, S') ∧ dV lo S' a (qc_lay w hh (rEv (hm 197) s) q) ∧ dvF lo (13 * k) (198 * k) S S'
  | k, e, 0, S, _, h, _, _, _, _ => by omega
  | 0, e, n + 1, S, h1, _, hh9, hV, hn, hbg => by
    have e1 : e = q := by omega
    subst e1
    refine ⟨S, ?_, hV, rfl, Nat.le_refl _, Nat.le_refl _, Nat.le_refl _, fun _ _ => ⟨rfl, rfl⟩⟩
    unfold el_L_screen_31
    rw [if_pos (Int32.le_refl _)]
  | k + 1, e, n + 1, S, h1, h2, hh9, hV, hn, hbg => by
    have he : e < nv (hm 197 (55 + 1504 * s)) := by omega
    obtain ⟨c0, c1, c2, c3, cE, ⟨d1, -⟩, dE⟩ := qr_S R hs
    have d2 := d1.2.2
    have hlt : ¬ (am_z q ≤ am_z e) := by rw [am_z_le (by omega) (by omega) (by omega) (by omega)]; omega
    have k0 : f_X9_event N (am_z (s : Int)) (am_z (e : Int)) (0 : Int32) (dm_h S) = some (some (rEv (hm 197) s e 0), dm_h S) := by rw [hh9]; exact dva_event (k := 0) R hs he (by decide)
    have k1 : f_X9_event N (am_z (s : Int)) (am_z (e : Int)) (1 : Int32) (dm_h S) = some (some (rEv (hm 197) s e 1), dm_h S) := by rw [hh9]; exact dva_event (k := 1) R hs he (by decide)
    have k2 : f_X9_event N (am_z (s : Int)) (am_z (e : Int)) (2 : Int32) (dm_h S) = some (some (rEv (hm 197) s e 2), dm_h S) := by rw [hh9]; exact dva_event (k := 2) R hs he (by decide)
    have oa : dm_ok S 1 a = true := by
      obtain ⟨R0, Ln, A, hW, -⟩ := hV
      exact hW.1.1
    have ok := qc_lay_ok hb e (fun x hx => (dE x (by omega)).1)
    have ee : (am_z (e : Int)) + (1 : Int32) = am_z ((e + 1 : Nat) : Int) := dv_p1 (by omega)
    unfold el_L_screen_31
    simp only [if_neg hlt, k0, am_bt_s, dv_sh0, k1, k2, oa, cond_true, ee]
    rcases dv_Play (N := N) hN hV ok (dE e he).1 hlo hn (by omega) with ⟨z0, S', e1, f1, f2⟩ | ⟨z0, S', e1, f1, f2⟩
    · obtain ⟨v1, v2, v3, v4, v5⟩ := f2
      obtain ⟨S2, g1, g2, g3⟩ := dv_layL hN R hs hq hb hlo k (e + 1) n S' (by omega) (by omega) (v1.trans hh9) f1 (by omega) (by omega)
      refine ⟨S2, ?_, g2, dvF_m (dvF_t ⟨v1, v2, v3, v4, v5⟩ g3) (by omega) (by omega)⟩
      have z0 : rEv (hm 197) s e 0 = 0 := z0
      rw [if_pos z0]
      have e1' : e_X10_typed N a (rEv (hm 197) s e 1) S = some ((), S') := e1
      rw [e1']
      exact g1
    · obtain ⟨v1, v2, v3, v4, v5⟩ := f2
      obtain ⟨S2, g1, g2, g3⟩ := dv_layL hN R hs hq hb hlo k (e + 1) n S' (by omega) (by omega) (v1.trans hh9) f1 (by omega) (by omega)
      refine ⟨S2, ?_, g2, dvF_m (dvF_t ⟨v1, v2, v3, v4, v5⟩ g3) (by omega) (by omega)⟩
      have z0 : ¬ rEv (hm 197) s e 0 = 0 := z0
      rw [if_neg z0]
      have e1' : e_X10_sized N a (rEv (hm 197) s e 1) (rEv (hm 197) s e 2) S = some ((), S') := e1
      rw [e1']
      exact g1
/-- the law's own screen shows what the class's events make of it -/
theorem dv_screen {S : dm_S} {s q : Nat} (hN : 2000 ≤ N) (R : qr_R nS nU (dm_h S) hm) (hs : s < nS) (hq : q ≤ nv (hm 197 (55 + 1504 * s))) (hn : 1000 ≤ dm_n S) (hb : dm_n S + 8000 < dm_bg) :
    ∃ S', e_L_screen N (am_z (s : Int)) (am_z (q : Int)) S = some (dm_n S, S') ∧ dV (dm_n S) S' (dm_n S) (rLay hm s q) ∧ dvF (dm_n S) 3909 59548 S S' := by
  obtain ⟨-, -, -, t1, t2⟩ := R.1.2.2.2.2.2.2.2.2.2.2.1 s hs
  obtain ⟨c0, c1, c2, c3, cE, ⟨d1, -⟩, dE⟩ := qr_S R hs
  have d2 := d1.2.2
  have hbb : 2 ≤ nv (hm 195 (12 + s)) ∧ nv (hm 195 (12 + s)) ≤ 16 ∧ 1 ≤ nv (hm 195 (16 + s)) ∧ nv (hm 195 (16 + s)) ≤ 6 := ⟨t1.2.1, t1.2.2, t2.2.1, t2.2.2⟩
  obtain ⟨S1, e1, f1, f2⟩ := dv_beg (N := N) (S := S) (w := nv (hm 195 (12 + s))) (hh := nv (hm 195 (16 + s))) hN hbb.2.1 hbb.2.2.2 hn (by omega)
  obtain ⟨v1, v2, v3, v4, v5⟩ := f2
  obtain ⟨S2, g1, g2, g3⟩ := dv_layL (N := N) (a := dm_n S) (q := q) hN R hs hq hbb hn q 0 N S1 (by omega) (by omega) v1 f1 (by omega) (by omega)
  have hp : nv (hm 195 (16 + s)) * nv (hm 195 (12 + s)) ≤ 6 * 16 := Nat.mul_le_mul hbb.2.2.2 hbb.2.1
  refine ⟨S2, ?_, g2, dvF_m (dvF_t ⟨v1, v2, v3, v4, v5⟩ g3) (by omega) (by omega)⟩
  have z0 : f_X9_session N (am_z (s : Int)) (0 : Int32) (dm_h (dm_sc S)) = some (some (am_z (nv (hm 195 (12 + s)) : Int)), dm_h (dm_sc S)) := by
    rw [← t1.1]
    exact dva_session0 R hs
  have z1 : f_X9_session N (am_z (s : Int)) (1 : Int32) (dm_h (dm_wr (dm_sc S) (dm_n S) 3 (am_z (nv (hm 195 (12 + s)) : Int)))) = some (some (am_z (nv (hm 195 (16 + s)) : Int)), dm_h (dm_wr (dm_sc S) (dm_n S) 3 (am_z (nv (hm 195 (12 + s)) : Int)))) := by
    rw [← t2.1]
    exact dva_session1 R hs
  have oa : dm_ok (dm_sc S) 1 (dm_n S) = true := by
    have ka : dm_k (dm_sc S) (dm_n S) = (1, 10, 6) := by
      show (if dm_n S = dm_n S + 1 then _ else if dm_n S = dm_n S then _ else _) = _
      rw [if_neg (by omega), if_pos rfl]
    exact dv_okm (by rw [ka]) hn (by show dm_n S < dm_n S + 2; omega)
  have oa2 : dm_ok (dm_wr (dm_sc S) (dm_n S) 3 (am_z (nv (hm 195 (12 + s)) : Int))) 1 (dm_n S) = true := oa
  have hbl : Nat.blt (dm_n S + 2000) dm_bg = true := Nat.blt_eq.mpr (by omega)
  unfold e_L_screen
  simp only [hbl, cond_true, z0, am_bt_s, dv_sh0, oa, z1, oa2, e1, dv_bi]
  exact g1
end DVB
