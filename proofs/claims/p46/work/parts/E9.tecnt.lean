section TE9
/-- the law's text: its bytes, its semicolons -/
theorem te_Cok : ∀ i, i < 8 → (∀ x ∈ te_C i, x < 128) ∧ te_cnt (te_C i) = (if i = 4 then 1 else 0) := by decide
theorem te_dok {x : Nat} (hx : x < 100) : (∀ y ∈ te_d x, y < 128) ∧ te_cnt (te_d x) = 0 := by
  unfold te_d
  by_cases h : x < 10
  · rw [if_pos h]
    refine ⟨fun y hy => ?_, ?_⟩
    · rcases List.mem_cons.mp hy with rfl | hy
      · omega
      · cases hy
    · show (if 48 + x = 59 then 1 else 0) + 0 = 0
      rw [if_neg (by omega)]
  · rw [if_neg h]
    refine ⟨fun y hy => ?_, ?_⟩
    · rcases List.mem_cons.mp hy with rfl | hy
      · omega
      rcases List.mem_cons.mp hy with rfl | hy
      · omega
      · cases hy
    · show (if 48 + x / 10 = 59 then 1 else 0) + ((if 48 + x % 10 = 59 then 1 else 0) + 0) = 0
      rw [if_neg (by omega), if_neg (by omega)]
theorem te_stok {k c i w t : Nat} (hk : k = 5 ∨ k = 6) (hc : c = 115 ∨ c = 117) (hi : i < 20) (hw : w < 100) (ht : t < 100) : (∀ x ∈ te_st k [c] i w t, x < 128) ∧ te_cnt (te_st k [c] i w t) = 1 := by
  obtain ⟨a1, a2⟩ := te_Cok k (by omega)
  obtain ⟨b1, b2⟩ := te_Cok 0 (by decide)
  obtain ⟨c1, c2⟩ := te_Cok 4 (by decide)
  obtain ⟨d1, d2⟩ := te_dok hw
  obtain ⟨e1, e2⟩ := te_dok ht
  unfold te_st
  refine ⟨fun x hx => ?_, ?_⟩
  · rcases List.mem_append.mp hx with hx | hx
    · exact a1 x hx
    rcases List.mem_append.mp hx with hx | hx
    · rcases List.mem_append.mp hx with hx | hx
      · rcases List.mem_cons.mp hx with rfl | hx
        · omega
        · cases hx
      · rcases List.mem_cons.mp hx with rfl | hx
        · omega
        · cases hx
    rcases List.mem_append.mp hx with hx | hx
    · exact b1 x hx
    rcases List.mem_append.mp hx with hx | hx
    · exact d1 x hx
    rcases List.mem_append.mp hx with hx | hx
    · exact b1 x hx
    rcases List.mem_append.mp hx with hx | hx
    · exact e1 x hx
    · exact c1 x hx
  · have f1 : te_cnt ([c] ++ [97 + i]) = 0 := by
      show (if c = 59 then 1 else 0) + ((if 97 + i = 59 then 1 else 0) + 0) = 0
      rw [if_neg (by omega), if_neg (by omega)]
    rw [te_cntA (te_C k), te_cntA ([c] ++ [97 + i]), te_cntA (te_C 0), te_cntA (te_d w), te_cntA (te_C 0), te_cntA (te_d t), a2, f1, b2, d2, e2, c2]
    rcases hk with rfl | rfl <;> rfl
theorem te_lsok {k c : Nat} {W : Nat → Nat × Nat} (hk : k = 5 ∨ k = 6) (hc : c = 115 ∨ c = 117) (hW : ∀ i, (W i).1 < 100 ∧ (W i).2 < 100) : ∀ (n i : Nat), i + n ≤ 20 → (∀ x ∈ te_ls k [c] W i n, x < 128) ∧ te_cnt (te_ls k [c] W i n) = n
  | 0, i, _ => ⟨fun x hx => absurd hx (List.not_mem_nil), rfl⟩
  | n + 1, i, h => by
    obtain ⟨a1, a2⟩ := te_stok (k := k) (c := c) (i := i) (w := (W i).1) (t := (W i).2) hk hc (by omega) (hW i).1 (hW i).2
    obtain ⟨b1, b2⟩ := te_lsok hk hc hW n (i + 1) (by omega)
    rw [te_ls]
    refine ⟨fun x hx => ?_, ?_⟩
    · rcases List.mem_append.mp hx with hx | hx
      · exact a1 x hx
      · exact b1 x hx
    · rw [te_cntA, a2, b2]
      omega
theorem te_txtok {k z nS nU : Nat} {W V : Nat → Nat × Nat} (hk : k < 100) (hz : z < 100) (hS : nS ≤ 20) (hU : nU ≤ 20) (hW : ∀ i, (W i).1 < 100 ∧ (W i).2 < 100) (hV : ∀ i, (V i).1 < 100 ∧ (V i).2 < 100) : (∀ x ∈ te_txt k W nS V nU z, x < 128) ∧ te_cnt (te_txt k W nS V nU z) = 2 + nS + nU := by
  obtain ⟨a1, a2⟩ := te_Cok 3 (by decide)
  obtain ⟨b1, b2⟩ := te_Cok 7 (by decide)
  obtain ⟨c1, c2⟩ := te_Cok 4 (by decide)
  obtain ⟨d1, d2⟩ := te_dok hk
  obtain ⟨e1, e2⟩ := te_dok hz
  obtain ⟨f1, f2⟩ := te_lsok (k := 5) (c := 115) (Or.inl rfl) (Or.inl rfl) hW nS 0 (by omega)
  obtain ⟨g1, g2⟩ := te_lsok (k := 6) (c := 117) (Or.inr rfl) (Or.inr rfl) hV nU 0 (by omega)
  unfold te_txt
  refine ⟨fun x hx => ?_, ?_⟩
  · rcases List.mem_append.mp hx with hx | hx
    · rcases List.mem_append.mp hx with hx | hx
      · exact a1 x hx
      rcases List.mem_append.mp hx with hx | hx
      · exact d1 x hx
      · exact c1 x hx
    rcases List.mem_append.mp hx with hx | hx
    · exact f1 x hx
    rcases List.mem_append.mp hx with hx | hx
    · exact g1 x hx
    rcases List.mem_append.mp hx with hx | hx
    · exact b1 x hx
    rcases List.mem_append.mp hx with hx | hx
    · exact e1 x hx
    · exact c1 x hx
  · rw [te_cntA (te_C 3 ++ (te_d k ++ te_C 4)), te_cntA (te_C 3), te_cntA (te_d k), te_cntA (te_ls 5 [115] W 0 nS), te_cntA (te_ls 6 [117] V 0 nU), te_cntA (te_C 7), te_cntA (te_d z), a2, b2, c2, d2, e2, f2, g2]
    show 0 + (0 + 1) + (nS + (nU + (0 + (0 + 1)))) = 2 + nS + nU
    omega
end TE9
