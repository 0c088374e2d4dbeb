section TMI
variable {l : Launch} {al : Nat → Nat} {dC : Nat → ClassId} {dI : Nat → Nat → Nat} {aC : Nat → ClassId} {aV : Nat → Nat} {x0 x1 : Nat}
theorem tm_chk0 (hA : dm_Al al x0 x1) (X : tm_X) (S : dm_S) (i n : Int32) (h0 : ¬ i < 0) (h1 : i < n) (hN0 : 1000 ≤ dm_n S) : Met l jk_yck (jk_ws jk_yck jk_cck 2 none) (jk_rm 1 22) (va_Pc [.int i, .int n] (tm_P al dC dI aC aV x0 x1 X S)) (tm_Q al dC dI aC x0 x1 none S) 0 0 (fun q => x0 ≤ q) := by
  refine Met.ofW (cc := jk_cck) (maxL := 2) (ret := none) (by decide +kernel) rfl ?_
  intro p e s m args below meth c s₁ B hml hv
  obtain ⟨rfl, hsz, hP, hK, hF0, hX⟩ := hv
  have hx01 := hA.2
  have hAB : ∀ q, s.heap.size ≤ q → x0 ≤ q := fun q z => by omega
  have hF : am_Fx al aV (fun q => s.heap.size ≤ q) s s.heap := am_fx_kept hF0 (State.WarmedH.refl s) (Nat.le_refl _) (fun _ _ _ => rfl) (fun q _ z => hAB q z) hAB
  have hts : ∀ w ∈ am_AT, w.before _ s = true := fun w hw => atoms_spec (ws := jk_ws jk_yck jk_cck 2 none) B.pre w (List.mem_cons_of_mem _ hw)
  have hown : s.vm.findClass "java/lang/String" = some m.cls := findClass_of_methodNamed B.named
  have hl := lv_entry [.int i, .int n] (n := 2) (Nat.le_of_ble_eq_true rfl)
  rw [lg_entry_eq]
  refine lv_iload_n B.exec B.bytes (k := 0) (i := 0) (by decide +kernel) rfl (hl.2.2 (0, _) List.mem_cons_self) ?_
  refine lv_iload_n B.exec B.bytes (k := 1) (i := 1) (by decide +kernel) rfl (hl.2.2 (1, _) (List.mem_cons_of_mem _ List.mem_cons_self)) ?_
  obtain ⟨v, hv, hZ⟩ : ∃ v : Value, (v = .null ∨ ∃ t, v = .ref t) ∧ va_Z "jdk/internal/util/Preconditions" "SIOOBE_FORMATTER" "Ljava/util/function/BiFunction;" v (fun q => s.heap.size ≤ q) s s.heap := by
    rcases hF.2.2.2.2.2.2.2.2.2.2.2.2 with h | ⟨t, h⟩
    · exact ⟨_, Or.inl rfl, h⟩
    · exact ⟨_, Or.inr ⟨t, rfl⟩, h⟩
  have hc : v.category = 1 := by rcases hv with rfl | ⟨t, rfl⟩ <;> rfl
  refine va_gets B.exec B.bytes (index := 1053) hZ va_S.rf hown (hts _ (jk_in (by simp [jk_L]; try decide))) (fun x h => h) (by decide +kernel) ?_
  refine va_calli (A1 := fun q => s.heap.size ≤ q) (rest := []) (va_runS (cc := jk_cck) (nL := 2) (Ts := am_AT) (own := "java/lang/String") (bytes := jk_cpc) (maxL := 3) (ret := some .int) (ws := jk_ws jk_ypc jk_cpc 3 (some .int)) (rm := jk_rm 0 0) (n := 3) (index := 1059) (As := [.int i, .int n, v]) ⟨B.exec, B.bytes, hml, hown, hts⟩ (jk_prec s.heap i n v h0 h1 hv)
    (va_cwS 3 hts (jk_goodS (by simp [jk_L]; try decide) (by simp [jk_L]; try decide) (by simp [jk_L, jk_ypc]; try decide) (by simp [jk_L]; try decide)) rfl rfl rfl ⟨by decide, by decide, by decide +kernel⟩ ⟨Nat.le_of_ble_eq_true rfl, Nat.le_of_ble_eq_true rfl⟩) ⟨jk_blind, jk_pre hF (fun q z => z)⟩ rfl rfl hl.1 rfl (Nat.le_of_ble_eq_true rfl) (show decode jk_cck 5 = _ by decide +kernel) ⟨Nat.zero_le _, Nat.zero_le _⟩) va_S.rf (fun q _ z => z) (fun q z => z) ?_
  intro r u t H1 locs1 e1 hal hr hb hsz2 hq hS
  obtain rfl : H1 = s.heap := e1.symm.trans hb
  have hS9 : va_S (fun q => x0 ≤ q) s.heap s.heap locs1 := ⟨Nat.le_refl _, fun _ _ _ => rfl, fun l9 hl9 => hAB _ (hS.2.2 l9 hl9)⟩
  refine lv_pop B.exec B.bytes (by decide +kernel) rfl ?_
  exact W.vret B.exec B.bytes B.returns (fun t ht _ => ⟨rfl, by rw [ht]; exact hsz, by rw [ht]; exact hP, hS9.F ht⟩) hS9.2.2 (by decide +kernel)
theorem em_T_chkIdx (hA : dm_Al al x0 x1) (X : tm_X) (S : dm_S) (i n : Int32) (h0 : ¬ i < 0) (h1 : i < n) : tm_Met l al dC dI aC aV x0 x1 X 45 [.int i, .int n] S none S := by
  intro hN0
  refine ⟨Nat.le_refl _, Nat.le_refl _, ?_⟩
  rw [Nat.sub_self, Nat.sub_self]
  exact tm_chk0 hA X S i n h0 h1 hN0
def e_T_chkIdx (X : tm_X) (N : Nat) (i0 : Int32) (i1 : Int32) (S : dm_S) : Option (Unit × dm_S) := if i0 < 0 then none else if i0 < i1 then some ((), S) else none
def ec_T_chkIdx (X : tm_X) (N : Nat) : dm_Cl := fun _ as S kk => am_s1 as (fun i0 w0 => am_s1 w0 (fun i1 w1 => am_st0 w1 (dm_bi (e_T_chkIdx X N i0 i1 S) (fun v S => kk none S))))
theorem es_T_chkIdx (hy : am_Hy l al) (hA : dm_Al al x0 x1) (X : tm_X) (N : Nat) : tm_CS l al dC dI aC aV x0 x1 X 45 (ec_T_chkIdx X N) := by
  intro γ as S kk g hc0
  obtain ⟨i0, w0, e_0, hc1⟩ := am_s1_some hc0
  obtain ⟨i1, w1, e_1, hc2⟩ := am_s1_some hc1
  obtain ⟨e_2, hc⟩ := am_st0_some hc2
  subst e_2
  subst e_1
  subst e_0
  obtain ⟨q, e1, e2⟩ := dm_bi_some hc
  have e1 : (if i0 < 0 then none else if i0 < i1 then some ((), S) else none) = some q := e1
  obtain ⟨h0, h1⟩ := dm_if0 e1
  by_cases h2 : i0 < i1
  · rw [if_pos h2] at h1
    cases h1
    exact ⟨_, _, em_T_chkIdx hA X S i0 i1 h0 h2, e2⟩
  · rw [if_neg h2] at h1
    cases h1
end TMI
