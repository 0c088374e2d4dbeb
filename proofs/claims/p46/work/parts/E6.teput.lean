section TE6
variable {S S' S1 S2 : dm_S} {a b n0 m v c : Nat} {L M T : List Nat} {X : tm_X} {N : Nat}
theorem te_c42 : ∀ x, x < 128 → ((((tm_b (am_z ((x : Nat) : Int))) &&& ((Int16.ofInt (255)).toInt32)).toUInt32 % 65536).toInt32) = am_z ((x : Nat) : Int) ∧ tm_ri 44 (am_z ((x : Nat) : Int)) = true ∧ tm_ri 42 (am_z ((x : Nat) : Int)) = true := by decide +kernel
theorem te_charAt {j : Nat} (hT : te_S S m a T) (hby : ∀ x ∈ T, x < 128) (hj : j < T.length) (hl : T.length ≤ 600) (hb : dm_n S < dm_bg) : e_T_charAt X N a (am_z (j : Int)) S = some (am_z ((T.getD j 0 : Nat) : Int), S) := by
  obtain ⟨v, -, -, h1, h0, h2, h3, h4, h5⟩ := hT
  obtain ⟨-, a1, a2⟩ := dm_ok_s h1
  obtain ⟨-, v1, v2⟩ := dm_ok_s h3
  have q1 : v < dm_bg := by omega
  have qj : j < dm_bg := by unfold dm_bg; omega
  obtain ⟨w1, w2, w3⟩ := te_c42 _ (te_by hby j)
  have hla : e_T_strLat X N a S = some ((1 : Int32), S) := by
    unfold e_T_strLat
    rw [if_neg te_10, te_ncs a1, cond_false, h1, cond_true, h2, if_pos rfl, te_ri43, cond_true]
  have hck : e_T_chkIdx X N (am_z (j : Int)) (am_z (T.length : Int)) S = some ((), S) := by
    unfold e_T_chkIdx
    have c9 : ¬ (am_z (j : Int) < (0 : Int32)) := te_lti (y := 0) (by omega) (by omega) (by omega) (by omega) (by omega)
    rw [if_neg c9, if_pos (by rw [am_z_lt (by omega) (by omega) (by omega) (by omega)]; omega)]
  have hin : am_in (am_z (j : Int)) T.length = true := am_z_int (by omega) (by omega) (by omega)
  have hlc : e_T_latChar X N v (am_z (j : Int)) S = some (am_z ((T.getD j 0 : Nat) : Int), S) := by
    unfold e_T_latChar
    rw [te_ncb v1, cond_false, te_nbq v1 (show 950 < 1000 by decide), cond_false, h3, Bool.or_true, cond_true, h4, am_z_nat, hck, dv_bi, te_nbq v1 (show 940 < 1000 by decide), te_nbq v1 (show 941 < 1000 by decide), Bool.or_false, cond_false, h3, Bool.true_and, h4, hin, cond_true, dv_cl qj, h5 j hj, w1, w2, cond_true]
  unfold e_T_charAt
  rw [te_ncs a1, Bool.false_or, h1, cond_true, hla, dv_bi, if_neg te_10, cond_false, h1, cond_true, h0]
  simp only [dv_nn q1, if_false, dv_cl q1, hlc, dv_bi, w3, cond_true]
-- ---- how many semicolons
def te_cnt : List Nat → Nat
  | [] => 0
  | x :: r => (if x = 59 then 1 else 0) + te_cnt r
theorem te_cntA : ∀ (L M : List Nat), te_cnt (L ++ M) = te_cnt L + te_cnt M
  | [], M => by
    show te_cnt M = 0 + te_cnt M
    omega
  | x :: r, M => by
    have ih := te_cntA r M
    show (if x = 59 then 1 else 0) + te_cnt (r ++ M) = ((if x = 59 then 1 else 0) + te_cnt r) + te_cnt M
    omega
theorem te_cntl : ∀ L : List Nat, te_cnt L ≤ L.length
  | [] => Nat.le_refl _
  | x :: r => by
    have ih := te_cntl r
    show (if x = 59 then 1 else 0) + te_cnt r ≤ r.length + 1
    split <;> omega
theorem te_drop {j : Nat} (hj : j < T.length) : T.drop j = T.getD j 0 :: T.drop (j + 1) := by
  rw [List.drop_eq_getElem_cons hj, List.getD_eq_getElem?_getD, List.getElem?_eq_getElem hj]
  rfl
theorem te_st4 (hby : ∀ x ∈ T, x < 128) (hl : T.length ≤ 600) (hT : te_S S m a T) (hb : dm_n S < dm_bg) : ∀ (k j n q : Nat), j + k = T.length → k < n → q ≤ j → el_T_statements_4 X N n a (am_z (q : Int)) (am_z (j : Int)) S = some (am_z ((q + te_cnt (T.drop j) : Nat) : Int), S)
  | k, j, 0, q, _, hx, _ => by omega
  | 0, j, n + 1, q, hj, _, hq => by
    have hlen := te_len (X := X) (N := N) (Or.inr hT) hb
    have ht : (tm_cs a || dm_ok S 5 a) = true := te_tok (Or.inr hT)
    rw [el_T_statements_4, ht, cond_true, hlen, dv_bi, if_pos (te_lej (by omega) (by omega) (by omega) (by omega) (by omega)), te_ri8, cond_true, List.drop_eq_nil_of_le (by omega)]
    rfl
  | k + 1, j, n + 1, q, hj, hx, hq => by
    have hlen := te_len (X := X) (N := N) (Or.inr hT) hb
    have ht : (tm_cs a || dm_ok S 5 a) = true := te_tok (Or.inr hT)
    have hch := te_charAt (X := X) (N := N) hT hby (show j < T.length by omega) hl hb
    have k59 : (Int8.ofInt (59)).toInt32 = am_z 59 := by decide
    have b := te_by hby j
    have e0 : am_z (q : Int) + (0 : Int32) = am_z (q : Int) := Int32.add_zero _
    rw [el_T_statements_4, ht, cond_true, hlen, dv_bi, if_neg (te_lei (by omega) (by omega) (by omega) (by omega) (by omega)), ht, cond_true, hch, dv_bi, k59, te_p1, te_p1, e0, te_drop (show j < T.length by omega)]
    by_cases h : T.getD j 0 = 59
    · rw [if_pos (by rw [h]; rfl), te_st4 hby hl hT hb k (j + 1) n (q + 1) (by omega) (by omega) (by omega)]
      have : q + 1 + te_cnt (T.drop (j + 1)) = q + te_cnt (T.getD j 0 :: T.drop (j + 1)) := by
        show _ = q + ((if T.getD j 0 = 59 then 1 else 0) + te_cnt (T.drop (j + 1)))
        rw [if_pos h]; omega
      rw [this]
    · rw [if_neg (te_eqi (y := 59) (by omega) (by omega) (by omega) (by omega) (by omega)), te_st4 hby hl hT hb k (j + 1) n q (by omega) (by omega) (by omega)]
      have : q + te_cnt (T.drop (j + 1)) = q + te_cnt (T.getD j 0 :: T.drop (j + 1)) := by
        show _ = q + ((if T.getD j 0 = 59 then 1 else 0) + te_cnt (T.drop (j + 1)))
        rw [if_neg h]; omega
      rw [this]
theorem te_statements (hN : 1000 ≤ N) (hby : ∀ x ∈ T, x < 128) (hl : T.length ≤ 600) (hT : te_S S m a T) (hb : dm_n S < dm_bg) : e_T_statements X N a S = some (am_z ((te_cnt T : Nat) : Int), S) := by
  have h := te_st4 (X := X) (N := N) hby hl hT hb T.length 0 N 0 (by omega) (by omega) (by omega)
  rw [Nat.zero_add, List.drop_zero] at h
  exact h
-- ---- a block of 20 bytes
theorem te_pw4 {p m : Nat} (h : 4 ≤ m) : te_pw T p m = te_pw T p 4 := by
  unfold te_pw
  rw [if_pos (show 0 < m by omega), if_pos (show 1 < m by omega), if_pos (show 2 < m by omega), if_pos (show 3 < m by omega)]
  simp
theorem te_53 {K : Nat → Int32 → dm_S → Option (Unit × dm_S)} {t A p : Nat} (hby : ∀ x ∈ T, x < 128) (hp : p + 20 ≤ T.length) (hl : T.length ≤ 600) (hmA : m ≤ A) : ∀ (r i n : Nat) (S : dm_S), i + r = 20 → r < n → te_S S m t T → dm_ok S 2 A = true → dm_len S A = 5 → dm_n S < dm_bg → (∀ j, j < 5 → dm_g S A j = am_z ((te_pw T (p + 4 * j) (i - 4 * j) : Nat) : Int)) →
    ∃ S', el_T_put_53 X N K n t (am_z (p : Int)) A (am_z (i : Int)) S = am_bi (f_X9_feed N (am_z ((te_pw T p 4 : Nat) : Int)) (am_z ((te_pw T (p + 4) 4 : Nat) : Int)) (am_z ((te_pw T (p + 8) 4 : Nat) : Int)) (am_z ((te_pw T (p + 12) 4 : Nat) : Int)) (am_z ((te_pw T (p + 16) 4 : Nat) : Int)) (dm_h S)) (fun _ h => K t (am_z ((p + 20 : Nat) : Int)) (dm_sh S' h)) ∧ te_F A 0 0 S S'
  | r, i, 0, S, _, hx, _, _, _, _, _ => by omega
  | 0, i, n + 1, S, hi, _, hT, o2, hA, hb, hg => by
    obtain ⟨-, A1, A2⟩ := dm_ok_s o2
    have k20 : (Int8.ofInt (20)).toInt32 = am_z 20 := by decide
    have ei : i = 20 := by omega
    subst ei
    have e20 : am_z (p : Int) + (20 : Int32) = am_z ((p + 20 : Nat) : Int) := am_z_add (p : Int) 20
    have g0 := hg 0 (by decide)
    have g1 := hg 1 (by decide)
    have g2 := hg 2 (by decide)
    have g3 := hg 3 (by decide)
    have g4 := hg 4 (by decide)
    rw [te_pw4 (by omega)] at g0 g1 g2 g3 g4
    have g0 : dm_g S A 0 = am_z ((te_pw T p 4 : Nat) : Int) := g0
    have g1 : dm_g S A 1 = am_z ((te_pw T (p + 4) 4 : Nat) : Int) := g1
    have g2 : dm_g S A 2 = am_z ((te_pw T (p + 8) 4 : Nat) : Int) := g2
    have g3 : dm_g S A 3 = am_z ((te_pw T (p + 12) 4 : Nat) : Int) := g3
    have g4 : dm_g S A 4 = am_z ((te_pw T (p + 16) 4 : Nat) : Int) := g4
    have i0 : am_in (0 : Int32) 5 = true := by decide
    have i1 : am_in (1 : Int32) 5 = true := by decide
    have i2 : am_in (2 : Int32) 5 = true := by decide
    have i3 : am_in (3 : Int32) 5 = true := by decide
    have i4 : am_in (4 : Int32) 5 = true := by decide
    refine ⟨S, ?_, te_F0⟩
    rw [el_T_put_53, k20, if_pos (te_lej (by omega) (by omega) (by omega) (by omega) (by omega))]
    simp only [te_nbq A1 (show 950 < 1000 by decide), cond_false, o2, hA, i0, i1, i2, i3, i4, Bool.and_true, cond_true, g0, g1, g2, g3, g4, e20]
  | r + 1, i, n + 1, S, hi, hx, hT, o2, hA, hb, hg => by
    obtain ⟨-, A1, A2⟩ := dm_ok_s o2
    have k20 : (Int8.ofInt (20)).toInt32 = am_z 20 := by decide
    have n4 : ¬ ((4 : Int32) = 0) := by decide
    have e4 : am_z (i : Int) / (4 : Int32) = am_z ((i / 4 : Nat) : Int) := by
      have : am_z (i : Int) / am_z 4 = am_z ((i : Int).tdiv 4) := am_z_div (by omega) (by omega) (by omega) (by omega)
      have h2 : (i : Int).tdiv 4 = ((i / 4 : Nat) : Int) := by rw [Int.tdiv_eq_ediv_of_nonneg (by omega)]; omega
      rw [h2] at this
      exact this
    have e6 : ((Int8.ofInt (24)).toInt32) - (((Int8.ofInt (8)).toInt32) * (am_z (i : Int) - am_z ((i / 4 : Nat) : Int) * (4 : Int32))) = am_z ((24 - 8 * (i % 4) : Nat) : Int) := by
      have k24 : (Int8.ofInt (24)).toInt32 = am_z 24 := by decide
      have k8 : (Int8.ofInt (8)).toInt32 = am_z 8 := by decide
      have k4 : (4 : Int32) = am_z 4 := rfl
      rw [k24, k8, k4, am_z_mul, am_z_sub, am_z_mul, am_z_sub]
      congr 1
      omega
    have e5 : am_z (p : Int) + am_z (i : Int) = am_z ((p + i : Nat) : Int) := am_z_add _ _
    have hin : am_in (am_z ((i / 4 : Nat) : Int)) 5 = true := am_z_int (by omega) (by omega) (by omega)
    have hch := te_charAt (X := X) (N := N) hT hby (show p + i < T.length by omega) hl hb
    have ht : (tm_cs t || dm_ok S 5 t) = true := te_tok (Or.inr hT)
    have qi : i / 4 < dm_bg := by unfold dm_bg; omega
    have hpw := te_pws hby (p := p + 4 * (i / 4)) (m := i % 4) (by omega)
    have h9 : p + 4 * (i / 4) + i % 4 = p + i := by omega
    have h8 : i - 4 * (i / 4) = i % 4 := by omega
    have hgi := hg (i / 4) (by omega)
    rw [h8] at hgi
    rw [h9] at hpw
    have hF : te_F A 0 0 S (dm_wr S A (i / 4) (am_z ((te_pw T (p + 4 * (i / 4)) (i % 4 + 1) : Nat) : Int))) := ⟨rfl, Nat.le_refl _, Nat.le_refl _, Nat.le_refl _, fun _ _ => rfl, fun y hy => dv_g_w3 (by omega)⟩
    obtain ⟨S', e, f⟩ := te_53 (K := K) (t := t) (p := p) hby hp hl hmA r (i + 1) n (dm_wr S A (i / 4) (am_z ((te_pw T (p + 4 * (i / 4)) (i % 4 + 1) : Nat) : Int))) (by omega) (by omega) (te_S_G hT (te_Gw hmA hF.2)) o2 hA hb (fun j hj => by
      by_cases hj4 : j = i / 4
      · subst hj4
        rw [dv_g_w1]
        have : i + 1 - 4 * (i / 4) = i % 4 + 1 := by omega
        rw [this]
      · rw [dv_g_w2 hj4, hg j hj]
        by_cases h7 : j < i / 4
        · rw [te_pw4 (show 4 ≤ i - 4 * j by omega), te_pw4 (show 4 ≤ i + 1 - 4 * j by omega)]
        · have q1 : i - 4 * j = 0 := by omega
          have q2 : i + 1 - 4 * j = 0 := by omega
          rw [q1, q2])
    refine ⟨S', ?_, te_Ft hF f⟩
    rw [el_T_put_53, k20, if_neg (te_lei (by omega) (by omega) (by omega) (by omega) (by omega)), if_neg n4, te_nbq A1 (show 950 < 1000 by decide), cond_false, e4, o2, hA, hin, Bool.true_and, cond_true, ht, cond_true, e5, hch, dv_bi, if_neg n4, o2, hA, hin, Bool.true_and, cond_true, e6, te_p1, dv_cl qi, hgi, hpw]
    exact e
theorem te_37 {nS nU t : Nat} (hN : 60000 ≤ N) (hby : ∀ x ∈ T, x < 128) (hl : T.length ≤ 600) : ∀ (q p n : Nat) (S : dm_S) (hm : am_Hp), p + 20 * q = T.length → q < n → te_S S m t T → m ≤ dm_n S → 1000 ≤ dm_n S → dm_n S + 8000 + q < dm_bg → qr_R nS nU (dm_h S) hm → dm_h S 1 1 = am_z (p : Int) → (∀ i, i < p → dm_h S 2 i = am_z ((T.getD i 0 : Nat) : Int)) →
    ∃ S' hm', el_T_put_37 X N n t (am_z (p : Int)) S = some ((), S') ∧ te_S S' m t T ∧ te_G m q (5 * q) S S' ∧ qr_R nS nU (dm_h S') hm' ∧ dm_h S' 1 1 = am_z (T.length : Int) ∧ ∀ i, i < T.length → dm_h S' 2 i = am_z ((T.getD i 0 : Nat) : Int)
  | q, p, 0, S, hm, _, hx, _, _, _, _, _, _, _ => by omega
  | 0, p, n + 1, S, hm, hp, _, hT, hmn, hn, hb, R, h1, h2 => by
    have hlen := te_len (X := X) (N := N) (Or.inr hT) (by omega)
    have ht : (tm_cs t || dm_ok S 5 t) = true := te_tok (Or.inr hT)
    have ep : p = T.length := by omega
    refine ⟨S, hm, ?_, hT, te_F0.2, R, by rw [h1, ep], fun i hi => h2 i (by omega)⟩
    rw [el_T_put_37, ht, cond_true, hlen, dv_bi, if_pos (te_lej (by omega) (by omega) (by omega) (by omega) (by omega))]
  | q + 1, p, n + 1, S, hm, hp, hx, hT, hmn, hn, hb, R, h1, h2 => by
    have hlen := te_len (X := X) (N := N) (Or.inr hT) (by omega)
    have ht : (tm_cs t || dm_ok S 5 t) = true := te_tok (Or.inr hT)
    have t5 : (5 : Int32).toNatClampNeg = 5 := by decide
    have b5 : Nat.ble 5 100000 = true := by decide
    have l5 : ¬ ((5 : Int32) < 0) := by decide
    have hF1 : te_F (dm_n S) 1 5 S (dm_nw S (2, 0, 5) (fun _ => 0) 5) := ⟨rfl, Nat.le_succ _, Nat.le_refl _, Nat.le_refl _, fun y hy => if_neg (by omega), fun y hy => by funext j; exact if_neg (by omega)⟩
    have o2 : dm_ok (dm_nw S (2, 0, 5) (fun _ => 0) 5) 2 (dm_n S) = true := dv_okm (by rw [te_nk, if_pos rfl]) hn (Nat.lt_succ_self _)
    have hA : dm_len (dm_nw S (2, 0, 5) (fun _ => 0) 5) (dm_n S) = 5 := by unfold dm_len; rw [te_nk, if_pos rfl]
    obtain ⟨S4, e53, hF4⟩ := te_53 (X := X) (N := N) (K := el_T_put_37 X N n) (t := t) (A := dm_n S) (p := p) hby (by omega) hl hmn 20 0 N (dm_nw S (2, 0, 5) (fun _ => 0) 5) (by omega) (by omega) (te_S_G hT (te_Gw hmn hF1.2)) o2 hA (by show dm_n S + 1 < dm_bg; omega) (fun j hj => by
      rw [te_ng, if_pos rfl, Nat.zero_sub]
      rfl)
    obtain ⟨v, hc', hm', f1, f2, f3, f4, f5⟩ := te_feed hN R h1 (by omega) (am_z ((te_pw T p 4 : Nat) : Int)) (am_z ((te_pw T (p + 4) 4 : Nat) : Int)) (am_z ((te_pw T (p + 8) 4 : Nat) : Int)) (am_z ((te_pw T (p + 12) 4 : Nat) : Int)) (am_z ((te_pw T (p + 16) 4 : Nat) : Int))
    have n4 : dm_n S4 = dm_n S + 1 := by
      have a1 := hF4.2.1
      have a2 := hF4.2.2.1
      have a3 : dm_n (dm_nw S (2, 0, 5) (fun _ => 0) 5) = dm_n S + 1 := rfl
      omega
    have hG4 : te_G m 0 0 (dm_nw S (2, 0, 5) (fun _ => 0) 5) (dm_sh S4 hc') := te_Gw hmn hF4.2
    have hG : te_G m 1 5 S (dm_sh S4 hc') := te_Gt (te_Gw hmn hF1.2) hG4
    have hT4 : te_S (dm_sh S4 hc') m t T := te_S_G hT hG
    obtain ⟨S', hm2, e37, k1, k2, k3, k4, k5⟩ := te_37 hN hby hl q (p + 20) n (dm_sh S4 hc') hm' (by omega) (by omega) hT4 (by show m ≤ dm_n S4; omega) (by show 1000 ≤ dm_n S4; omega) (by show dm_n S4 + 8000 + q < dm_bg; omega) f2 f3 (fun i hi => by
      show hc' 2 i = _
      by_cases c0 : i < p
      · rw [f4 i c0, h2 i c0]
      · obtain ⟨j, rfl⟩ : ∃ j, i = p + j := ⟨i - p, by omega⟩
        rw [f5 j (by omega)]
        unfold fsel
        by_cases c1 : j < 4
        · rw [if_pos c1, te_fb hby (by omega), show p + j % 4 = p + j by omega]
        rw [if_neg c1]
        by_cases c2 : j < 8
        · rw [if_pos c2, te_fb hby (by omega), show p + 4 + j % 4 = p + j by omega]
        rw [if_neg c2]
        by_cases c3 : j < 12
        · rw [if_pos c3, te_fb hby (by omega), show p + 8 + j % 4 = p + j by omega]
        rw [if_neg c3]
        by_cases c4 : j < 16
        · rw [if_pos c4, te_fb hby (by omega), show p + 12 + j % 4 = p + j by omega]
        rw [if_neg c4, te_fb hby (by omega), show p + 16 + j % 4 = p + j by omega])
    have G9 := te_Gt hG k2
    refine ⟨S', hm2, ?_, k1, te_Gm (by omega) (by omega) G9, k3, k4, k5⟩
    rw [el_T_put_37, ht, cond_true, hlen, dv_bi, if_neg (te_lei (by omega) (by omega) (by omega) (by omega) (by omega)), if_neg l5, t5, b5, cond_true]
    show el_T_put_53 X N (el_T_put_37 X N n) N t (am_z (p : Int)) (dm_n S) (am_z ((0 : Nat) : Int)) (dm_nw S (2, 0, 5) (fun _ => 0) 5) = _
    rw [e53]
    show am_bi (f_X9_feed N _ _ _ _ _ (dm_h S)) _ = _
    rw [f1, am_bi_s]
    exact e37
theorem te_2 (hN : 100 ≤ N) : ∀ (k n t : Nat) (T : List Nat) (S : dm_S), (T.length + k) % 20 = 0 → k < 20 → k < n → te_S S (dm_n S) t T → T.length + k ≤ 600 → 1000 ≤ dm_n S → dm_n S + 10000 + 20 * k < dm_bg →
    ∃ t' S', el_T_put_2 X N n t S = el_T_put_37 X N N t' (0 : Int32) S' ∧ te_S S' (dm_n S') t' (T ++ List.replicate k 32) ∧ te_F (dm_n S) (20 * k) (25000 * k) S S'
  | k, 0, t, T, S, _, _, hx, _, _, _, _ => by omega
  | 0, n + 1, t, T, S, hk, _, _, hT, hl, hn, hb => by
    have hlen := te_len (X := X) (N := N) (Or.inr hT) (by omega)
    have ht : (tm_cs t || dm_ok S 5 t) = true := te_tok (Or.inr hT)
    have k20 : (Int8.ofInt (20)).toInt32 = am_z 20 := by decide
    have n20 : ¬ (am_z 20 = (0 : Int32)) := by decide
    have e : am_z (T.length : Int) - am_z (T.length : Int) / am_z 20 * am_z 20 = 0 := by
      rw [am_z_div (by omega) (by omega) (by omega) (by omega), am_z_mul, am_z_sub]
      have : (T.length : Int) - (T.length : Int).tdiv 20 * 20 = 0 := by rw [Int.tdiv_eq_ediv_of_nonneg (by omega)]; omega
      rw [this]
      rfl
    refine ⟨t, S, ?_, ?_, te_F0⟩
    · rw [el_T_put_2, ht, cond_true, hlen, dv_bi, k20, if_neg n20, if_pos e]
    · rw [List.replicate_zero, List.append_nil]
      exact hT
  | k + 1, n + 1, t, T, S, hk, hk2, hx, hT, hl, hn, hb => by
    have hlen := te_len (X := X) (N := N) (Or.inr hT) (by omega)
    have ht : (tm_cs t || dm_ok S 5 t) = true := te_tok (Or.inr hT)
    have k20 : (Int8.ofInt (20)).toInt32 = am_z 20 := by decide
    have n20 : ¬ (am_z 20 = (0 : Int32)) := by decide
    have e : ¬ (am_z (T.length : Int) - am_z (T.length : Int) / am_z 20 * am_z 20 = 0) := by
      rw [am_z_div (by omega) (by omega) (by omega) (by omega), am_z_mul, am_z_sub]
      have : (T.length : Int) - (T.length : Int).tdiv 20 * 20 = ((T.length % 20 : Nat) : Int) := by rw [Int.tdiv_eq_ediv_of_nonneg (by omega)]; omega
      rw [this]
      exact te_eqi (y := 0) (by omega) (by omega) (by omega) (by omega) (by omega)
    obtain ⟨t1, t2, S1, t3, B1, F1⟩ := te_new (X := X) (N := N) hn (show dm_n S + 8000 < dm_bg by omega)
    have n1 := F1.2.1; have m1 := F1.2.2.1
    obtain ⟨S2, v2, c2, a2, B2, F2⟩ := te_app (X := X) (N := N) (te_T_F (Or.inr hT) F1) B1 (by simp only [List.length_nil]; omega) (by omega) (by omega)
    have n2 := F2.2.1; have m2 := F2.2.2.1
    have c0 : (te_C 0).length = 1 := rfl
    obtain ⟨S3, v3, c3, a3, B3, F3⟩ := te_app (X := X) (N := N) (m := 0) (te_cT (show 0 < 8 by decide)) B2 (by simp only [List.length_append, List.length_nil]; omega) (by omega) (by omega)
    have n3 := F3.2.1; have m3 := F3.2.2.1
    obtain ⟨r, S4, a4, T4, F4⟩ := te_str (X := X) (N := N) B3 (by omega)
    have n4 := F4.2.1; have m4 := F4.2.2.1
    have a3 : e_T_SBappS X N (dm_n S) 900 S2 = some (dm_n S, S3) := a3
    have o1 := B1.2.2.1
    have o2 := B2.2.2.1
    have o3 := B3.2.2.1
    have hFa : te_F (dm_n S) 20 25000 S S4 := te_Fm (by decide) (by decide) (te_Ft (te_Ft (te_Ft F1 F2) F3) (te_Fw (by omega) F4))
    rw [List.nil_append] at T4
    have n9 : dm_n S ≤ dm_n S4 := by omega
    obtain ⟨t', S', e5, f5, g5⟩ := te_2 hN k n r (T ++ te_C 0) S4 (by rw [List.length_append, c0]; omega) (by omega) (by omega) T4 (by rw [List.length_append, c0]; omega) (by omega) (by omega)
    have F9 := te_Ft hFa (te_Fw n9 g5)
    refine ⟨t', S', ?_, ?_, te_Fm (by omega) (by omega) F9⟩
    · rw [el_T_put_2, ht, cond_true, hlen, dv_bi, k20, if_neg n20, if_neg e, t1, cond_true]
      show (bif tm_r4 (dm_nw S (6, 12, 4) (fun j => if j = 0 then am_z (-1) else 0) 4) 10 [.ref (dm_n S)] then dm_bi (e_T_SBinit X N (dm_n S) (dm_nw S (6, 12, 4) (fun j => if j = 0 then am_z (-1) else 0) 4)) _ else none) = _
      rw [t2, cond_true, t3, dv_bi]
      simp only [o1, cond_true, a2, dv_bi, o2, a3, o3, a4]
      exact e5
    · have : T ++ List.replicate (k + 1) 32 = T ++ te_C 0 ++ List.replicate k 32 := by
        rw [List.append_assoc]
        rfl
      rw [this]
      exact f5
theorem te_put {nS nU t : Nat} {hm : am_Hp} (hN : 60000 ≤ N) (R : qr_R nS nU (dm_h S) hm) (h1 : dm_h S 1 1 = am_z 0) (hT : te_S S (dm_n S) t T) (hby : ∀ x ∈ T, x < 128) (hl : T.length ≤ 300) (hn : 1000 ≤ dm_n S) (hb : dm_n S + 20000 < dm_bg) : ∃ S' hm' F, e_T_put X N t S = some ((), S') ∧ te_G (dm_n S) 500 500000 S S' ∧ qr_R nS nU (dm_h S') hm' ∧ dm_h S' 1 1 = am_z ((F : Nat) : Int) ∧ T.length ≤ F ∧ F ≤ 600 ∧ ∀ i, i < T.length → dm_h S' 2 i = am_z ((T.getD i 0 : Nat) : Int) := by
  obtain ⟨k, hk, hk2⟩ : ∃ k, (T.length + k) % 20 = 0 ∧ k < 20 := ⟨(20 - T.length % 20) % 20, by omega, by omega⟩
  obtain ⟨t', S2, e2, hT2, F2⟩ := te_2 (X := X) (N := N) (by omega) k N t T S hk hk2 (by omega) hT (by omega) hn (by omega)
  have n2 := F2.2.1; have m2 := F2.2.2.1
  have hl2 : (T ++ List.replicate k 32).length = T.length + k := by rw [List.length_append, List.length_replicate]
  have hby2 : ∀ x ∈ T ++ List.replicate k 32, x < 128 := by
    intro x hx
    rcases List.mem_append.mp hx with h | h
    · exact hby x h
    · rw [List.eq_of_mem_replicate h]
      decide
  obtain ⟨S', hm', e3, k1, k2, k3, k4, k5⟩ := te_37 (X := X) (t := t') (nS := nS) (nU := nU) hN hby2 (by rw [hl2]; omega) ((T.length + k) / 20) 0 N S2 hm (by rw [hl2]; omega) (by omega) hT2 (Nat.le_refl _) (by omega) (by omega) (by rw [F2.1]; exact R) (by rw [F2.1]; exact h1) (fun i hi => by omega)
  have G9 := te_Gt F2.2 (te_Gw n2 k2)
  refine ⟨S', hm', T.length + k, ?_, te_Gm (by omega) (by omega) G9, k3, by rw [k4, hl2], by omega, by omega, fun i hi => ?_⟩
  · unfold e_T_put
    rw [e2]
    exact e3
  · rw [k5 i (by rw [hl2]; omega), te_gaL hi]
end TE6
