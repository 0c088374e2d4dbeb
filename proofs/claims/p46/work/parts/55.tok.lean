/-! ===== tokens: the class's advance against the model's next ===== -/
section TOK
variable {N L : Nat} {B : Nat → Nat}
theorem am_pi_id {h : am_Hp} {a k : Nat} {v : Int32} (e : h a k = v) : am_pi h a k v = h := by
  funext x y
  rw [am_pi_ap]
  split
  · rename_i q
    rw [q.1, q.2, e]
  · rfl
theorem am_pi_pi {h : am_Hp} {a k : Nat} {v w : Int32} : am_pi (am_pi h a k v) a k w = am_pi h a k w := by
  funext x y
  rw [am_pi_ap, am_pi_ap, am_pi_ap]
  split
  · rfl
  · rfl
def cB (h : am_Hp) (L : Nat) (B : Nat → Nat) : Prop := L ≤ 600 ∧ h 1 2 = am_z L ∧ ∀ i, i < L → h 2 i = am_z (B i) ∧ B i ≤ 255
def mB (h : am_Hp) (L : Nat) (B : Nat → Nat) : Prop := L ≤ 600 ∧ h 193 17 = am_z L ∧ ∀ i, i < L → h 194 i = am_z (B i) ∧ B i ≤ 255
theorem cB_p {h : am_Hp} {k : Nat} {v : Int32} (hk : k ≠ 2) (b : cB h L B) : cB (am_pi h 1 k v) L B :=
  ⟨b.1, by rw [am_pi_k (Ne.symm hk)]; exact b.2.1, fun i hi => by rw [am_pi_a (by decide)]; exact b.2.2 i hi⟩
theorem mB_p {h : am_Hp} {k : Nat} {v : Int32} (hk : k ≠ 17) (b : mB h L B) : mB (am_pi h 193 k v) L B :=
  ⟨b.1, by rw [am_pi_k (Ne.symm hk)]; exact b.2.1, fun i hi => by rw [am_pi_a (by decide)]; exact b.2.2 i hi⟩
def kd (b : Nat) : Nat := if 97 ≤ b ∧ b ≤ 122 then 1 else if 48 ≤ b ∧ b ≤ 57 then 2 else if b = 59 then 3 else 4
theorem kd_r (b : Nat) : 1 ≤ kd b ∧ kd b ≤ 4 := by unfold kd; split; omega; split; omega; split <;> omega
theorem kd_1 {b : Nat} (h : kd b = 1) : 97 ≤ b ∧ b ≤ 122 := by
  unfold kd at h
  split at h
  · assumption
  split at h
  · omega
  split at h <;> omega
theorem kd_2 {b : Nat} (h : kd b = 2) : 48 ≤ b ∧ b ≤ 57 := by
  unfold kd at h
  split at h
  · omega
  split at h
  · assumption
  split at h <;> omega
theorem kd_3 {b : Nat} (h : kd b = 3) : b = 59 := by
  unfold kd at h
  split at h
  · omega
  split at h
  · omega
  split at h
  · assumption
  · omega
theorem kd_4 {b : Nat} (h : kd b = 4) : b ≠ 59 := by
  unfold kd at h
  split at h
  · omega
  split at h
  · omega
  split at h
  · omega
  · assumption
def scE (B : Nat → Nat) (K : Nat) : Nat → Nat → Nat
  | 0, e => e
  | k + 1, e => if kd (B e) = K then scE B K k (e + 1) else e
theorem scE_le {K : Nat} : ∀ k e, e ≤ scE B K k e ∧ scE B K k e ≤ e + k ∧ ∀ i, e ≤ i → i < scE B K k e → kd (B i) = K
  | 0, e => ⟨Nat.le_refl _, Nat.le_refl _, fun i h1 h2 => by unfold scE at h2; omega⟩
  | k + 1, e => by
    obtain ⟨a1, a2, a3⟩ := scE_le (K := K) k (e + 1)
    unfold scE
    split
    · rename_i q
      refine ⟨by omega, by omega, fun i h1 h2 => ?_⟩
      by_cases z : i = e
      · subst z; exact q
      · exact a3 i (by omega) h2
    · exact ⟨Nat.le_refl _, by omega, fun i h1 h2 => by omega⟩
def scW (B : Nat → Nat) : Nat → Nat → Nat
  | 0, p => p
  | k + 1, p => if B p = 32 ∨ B p = 10 then scW B k (p + 1) else p
theorem scW_le : ∀ k p, p ≤ scW B k p ∧ scW B k p ≤ p + k ∧ (scW B k p < p + k → ¬ (B (scW B k p) = 32 ∨ B (scW B k p) = 10))
  | 0, p => ⟨Nat.le_refl _, Nat.le_refl _, fun h => by unfold scW at h; omega⟩
  | k + 1, p => by
    obtain ⟨a1, a2, a3⟩ := scW_le k (p + 1)
    unfold scW
    split
    · exact ⟨by omega, by omega, fun h => a3 (by omega)⟩
    · rename_i q
      exact ⟨Nat.le_refl _, by omega, fun _ => q⟩
-- ---- bytes and their kinds
theorem c_byte {h : am_Hp} {i : Nat} (b : cB h L B) (hi : i < L) : f_X7_byteAt N (am_z i) h = some (am_z (B i), h) := by
  obtain ⟨b1, b2, b3⟩ := b
  have z1 : ¬ (am_z (i : Int) < am_z 0) := by rw [am_z_lt (by omega) (by omega) (by omega) (by omega)]; omega
  have z2 : ¬ (am_z L ≤ am_z (i : Int)) := by rw [am_z_le (by omega) (by omega) (by omega) (by omega)]; omega
  have z3 : am_z (i : Int) < am_z 600 := by rw [am_z_lt (by omega) (by omega) (by omega) (by omega)]; omega
  have e6 : Int32.ofNat 600 = am_z 600 := am_z_nat 600
  have i1 : am_in (am_z (i : Int)) 600 = true := m_in (by omega) (by decide)
  unfold f_X7_byteAt
  simp (disch := omega) only [am_z_lit, if_neg z1, b2, if_neg z2, e6, if_pos z3, i1, cond_true, am_z_cl, Int.toNat_natCast, (b3 i hi).1]
theorem c_byten {h : am_Hp} {i : Nat} (b : cB h L B) (hi : L ≤ i) (h2 : i ≤ 100000) : f_X7_byteAt N (am_z i) h = some (am_z (-1), h) := by
  obtain ⟨b1, b2, b3⟩ := b
  have z1 : ¬ (am_z (i : Int) < am_z 0) := by rw [am_z_lt (by omega) (by omega) (by omega) (by omega)]; omega
  have z2 : am_z L ≤ am_z (i : Int) := by rw [am_z_le (by omega) (by omega) (by omega) (by omega)]; omega
  unfold f_X7_byteAt
  simp only [am_z_lit, am_z_neg, if_neg z1, b2, if_pos z2]
theorem c_kind {h : am_Hp} {b : Nat} (hb : b ≤ 255) : f_X7_kindOf N (am_z b) h = some (am_z (kd b), h) := by
  unfold f_X7_kindOf
  have z0 : am_z 0 ≤ am_z (b : Int) := by rw [am_z_le (by omega) (by omega) (by omega) (by omega)]; omega
  have e1 : (am_z (b : Int) < am_z 97) = (b < 97) := by rw [am_z_lt (by omega) (by omega) (by omega) (by omega)]; refine propext ?_; omega
  have e2 : (am_z (b : Int) < am_z 48) = (b < 48) := by rw [am_z_lt (by omega) (by omega) (by omega) (by omega)]; refine propext ?_; omega
  have e3 : (am_z 57 < am_z (b : Int)) = (57 < b) := by rw [am_z_lt (by omega) (by omega) (by omega) (by omega)]; refine propext ?_; omega
  have e4 : (am_z 122 < am_z (b : Int)) = (122 < b) := by rw [am_z_lt (by omega) (by omega) (by omega) (by omega)]; refine propext ?_; omega
  have e5 : (am_z (b : Int) = am_z 59) = (b = 59) := by rw [am_z_eq (by omega) (by omega) (by omega) (by omega)]; refine propext ?_; omega
  simp only [am_z_lit, if_pos z0, e1, e2, e3, e4, e5]
  by_cases c1 : 97 ≤ b ∧ b ≤ 122
  · have k : kd b = 1 := by unfold kd; rw [if_pos c1]
    rw [k, if_neg (show ¬ (b < 97) by omega), if_neg (show ¬ (122 < b) by omega)]
    rfl
  by_cases c2 : 48 ≤ b ∧ b ≤ 57
  · have k : kd b = 2 := by unfold kd; rw [if_neg c1, if_pos c2]
    rw [k, if_pos (show b < 97 by omega), if_neg (show ¬ (b < 48) by omega), if_neg (show ¬ (57 < b) by omega)]
    rfl
  by_cases c3 : b = 59
  · have k : kd b = 3 := by unfold kd; rw [if_neg c1, if_neg c2, if_pos c3]
    rw [k, if_pos (show b < 97 by omega), if_neg (show ¬ (b < 48) by omega), if_pos (show 57 < b by omega), if_pos c3]
    rfl
  · have k : kd b = 4 := by unfold kd; rw [if_neg c1, if_neg c2, if_neg c3]
    rw [k]
    simp only [if_neg c3]
    by_cases d1 : b < 97
    · rw [if_pos d1]
      by_cases d2 : b < 48
      · rw [if_pos d2]; rfl
      · rw [if_neg d2, if_pos (show 57 < b by omega)]; rfl
    · rw [if_neg d1, if_pos (show 122 < b by omega), if_neg (show ¬ (b < 48) by omega), if_pos (show 57 < b by omega)]; rfl
theorem c_kindn {h : am_Hp} : f_X7_kindOf N (am_z (-1)) h = some (am_z 0, h) := by
  unfold f_X7_kindOf
  simp only [am_z_lit]
  rw [if_neg (by decide)]
theorem m_here {h : am_Hp} {p : Nat} (b : mB h L B) (e : h 193 18 = am_z p) (hp : p < L) : f_X10_here N h = some (am_z (B p), h) := by
  obtain ⟨b1, b2, b3⟩ := b
  have z2 : ¬ (am_z L ≤ am_z (p : Int)) := by rw [am_z_le (by omega) (by omega) (by omega) (by omega)]; omega
  have i1 : am_in (am_z (p : Int)) 600 = true := m_in (by omega) (by decide)
  unfold f_X10_here
  simp (disch := omega) only [b2, e, if_neg z2, i1, cond_true, am_z_cl, Int.toNat_natCast, (b3 p hp).1]
theorem m_heren {h : am_Hp} {p : Nat} (b : mB h L B) (e : h 193 18 = am_z p) (hp : p = L) : f_X10_here N h = some (am_z (-1), h) := by
  obtain ⟨b1, b2, b3⟩ := b
  subst hp
  unfold f_X10_here
  simp only [am_z_lit, am_z_neg, b2, e, if_pos (Int32.le_refl _)]
theorem m_sm {h : am_Hp} {b : Nat} (hb : b ≤ 255) : f_X10_isSmall N (am_z b) h = some (if kd b = 1 then am_z 1 else am_z 0, h) := by
  unfold f_X10_isSmall
  have e1 : (am_z (b : Int) < am_z 97) = (b < 97) := by rw [am_z_lt (by omega) (by omega) (by omega) (by omega)]; refine propext ?_; omega
  have e4 : (am_z 122 < am_z (b : Int)) = (122 < b) := by rw [am_z_lt (by omega) (by omega) (by omega) (by omega)]; refine propext ?_; omega
  simp only [am_z_lit, e1, e4, am_z_and0, am_z_and1, if_true]
  by_cases c1 : kd b = 1
  · have := kd_1 c1
    rw [if_pos c1, if_neg (show ¬ (b < 97) by omega), if_neg (show ¬ (122 < b) by omega)]
  · rw [if_neg c1]
    have c2 : ¬ (97 ≤ b ∧ b ≤ 122) := fun z => c1 (by unfold kd; rw [if_pos z])
    by_cases d1 : b < 97
    · rw [if_pos d1]
    · rw [if_neg d1, if_pos (show 122 < b by omega)]
theorem m_smn {h : am_Hp} : f_X10_isSmall N (am_z (-1)) h = some (am_z 0, h) := by
  unfold f_X10_isSmall
  simp only [am_z_lit, am_z_and0, if_true]
  rw [if_pos (by decide)]
theorem m_dg {h : am_Hp} {b : Nat} (hb : b ≤ 255) : f_X10_isDigit N (am_z b) h = some (if kd b = 2 then am_z 1 else am_z 0, h) := by
  unfold f_X10_isDigit
  have e1 : (am_z (b : Int) < am_z 48) = (b < 48) := by rw [am_z_lt (by omega) (by omega) (by omega) (by omega)]; refine propext ?_; omega
  have e4 : (am_z 57 < am_z (b : Int)) = (57 < b) := by rw [am_z_lt (by omega) (by omega) (by omega) (by omega)]; refine propext ?_; omega
  simp only [am_z_lit, e1, e4, am_z_and0, am_z_and1, if_true]
  by_cases c1 : kd b = 2
  · have := kd_2 c1
    rw [if_pos c1, if_neg (show ¬ (b < 48) by omega), if_neg (show ¬ (57 < b) by omega)]
  · rw [if_neg c1]
    have c2 : ¬ (48 ≤ b ∧ b ≤ 57) := fun z => c1 (by unfold kd; rw [if_neg (show ¬ (97 ≤ b ∧ b ≤ 122) by omega), if_pos z])
    by_cases d1 : b < 48
    · rw [if_pos d1]
    · rw [if_neg d1, if_pos (show 57 < b by omega)]
theorem m_dgn {h : am_Hp} : f_X10_isDigit N (am_z (-1)) h = some (am_z 0, h) := by
  unfold f_X10_isDigit
  simp only [am_z_lit, am_z_and0, if_true]
  rw [if_pos (by decide)]
end TOK
