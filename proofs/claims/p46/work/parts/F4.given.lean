section LGA
def lg_F : List Cond := flatC (Cond.and given_1 narrow_1)
def lg_t (w : Cond) : Bool := lw_tbl.any (fun q => decide (q = w))
def lg_n (w : Cond) : Bool := lg_F.any (fun q => decide (q = w))
/-- the strings: the class's five, then the law's eight -/
def lg_so (i : Nat) : String × Nat := [("SharedConsole$Draft", 53), ("SharedConsole$Draft", 63), ("SharedConsole$Draft", 65), ("SharedConsole$Draft", 96), ("SharedConsole$Draft", 98), (RL, 21), (RL, 47), (RL, 49), (RL, 54), (RL, 62), (RL, 68), (RL, 81), (RL, 83)].getD i ("", 0)
def lg_tx (i : Nat) : String := ["session", "user", "set", "wait", "shrink", " ", "u", "s", "set wait ", ";", "session ", "user ", "set shrink "].getD i ""
def lg_s (i : Nat) : Term := .string (lg_so i).1 (lg_so i).2
def lg_v (i : Nat) : Term := .field (lg_s i) "java/lang/String" "value" "[B"
def lg_lenL : List Nat := [7, 4, 3, 4, 6, 1, 1, 1, 9, 1, 8, 5, 11]
def lg_bytL : List (List Int32) := am_sbyt.take 5 ++ tm_sbL
def lg_base : List Nat := [385, 404, 421, 438, 457, 338, 321, 329, 288, 301, 307, 348, 363]
def lg_b (i : Nat) : Nat := lg_base.getD i 0
def lg_dL : List (List Nat) := [[0, 840, 872, 908, 950, 803, 799, 801, 793, 795, 797, 805, 807], [841, 0, 874, 910, 952, 835, 831, 833, 825, 827, 829, 837, 839], [873, 875, 0, 912, 954, 867, 863, 865, 857, 859, 861, 869, 871], [909, 911, 913, 0, 956, 903, 899, 901, 893, 895, 897, 905, 907], [951, 953, 955, 957, 0, 945, 941, 943, 935, 937, 939, 947, 949], [802, 834, 866, 902, 944, 0, 693, 695, 687, 689, 691, 724, 766], [798, 830, 862, 898, 940, 692, 0, 674, 653, 655, 657, 720, 762], [800, 832, 864, 900, 942, 694, 675, 0, 669, 671, 673, 722, 764], [792, 824, 856, 892, 934, 686, 652, 668, 0, 612, 638, 714, 756], [794, 826, 858, 894, 936, 688, 654, 670, 613, 0, 640, 716, 758], [796, 828, 860, 896, 938, 690, 656, 672, 639, 641, 0, 718, 760], [804, 836, 868, 904, 946, 725, 721, 723, 715, 717, 719, 0, 768], [806, 838, 870, 906, 948, 767, 763, 765, 757, 759, 761, 769, 0]]
def lg_d (i j : Nat) : Nat := (lg_dL.getD i []).getD j 0
set_option maxRecDepth 1000000 in
theorem lg_str : (List.range 13).all (fun i => decide (lg_F[lg_b i]? = some (.exactly (lg_s i) "java/lang/String")) && decide (lg_F[lg_b i + 1]? = some (.eq (.field (lg_s i) "java/lang/String" "coder" "B") (.int 0))) && decide (lg_F[lg_b i + 2]? = some (.arrayOf (lg_v i) .byte)) && decide (lg_F[lg_b i + 3]? = some (.eq (.length (lg_v i)) (.int (Int32.ofNat (lg_lenL.getD i 0))))) && Nat.blt (lg_lenL.getD i 0) 100) = true := by decide +kernel
set_option maxRecDepth 1000000 in
theorem lg_ref : (List.range 13).all (fun i => lg_t (.stringRef (lg_so i).1 (lg_so i).2 (lg_tx i))) = true := by decide +kernel
set_option maxRecDepth 1000000 in
theorem lg_chr : (List.range 13).all (fun i => (List.range (lg_lenL.getD i 0)).all (fun j => decide (lg_F[lg_b i + 4 + j]? = some (.eq (.elem (lg_v i) (.int (Int32.ofNat j))) (.int ((lg_bytL.getD i []).getD j 0)))))) = true := by decide +kernel
set_option maxRecDepth 1000000 in
theorem lg_dif : (List.range 13).all (fun i => (List.range 13).all (fun j => Nat.beq i j || bif Nat.beq (lg_d i j % 2) 0 then decide (lg_F[lg_d i j / 2]? = some (.not (.eq (lg_s i) (lg_s j)))) else decide (lg_F[lg_d i j / 2]? = some (.not (.eq (lg_s j) (lg_s i)))))) = true := by decide +kernel
theorem lg_eql : (∀ i, i < 5 → lg_lenL.getD i 0 = (am_stL.map (fun t => t.length)).getD i 0 ∧ lg_bytL.getD i [] = am_sbyt.getD i [] ∧ lg_tx i = am_stL.getD i "") ∧ ∀ i, i < 8 → lg_lenL.getD (5 + i) 0 = tm_slL.getD i 0 ∧ lg_bytL.getD (5 + i) [] = tm_sbL.getD i [] ∧ lg_tx (5 + i) = tm_stL.getD i "" := by decide +kernel
set_option maxRecDepth 1000000 in
theorem lg_ck : (List.range 14).all (fun o => (am_ckL.getD o []).all (fun q => match q.2.1 with
    | .inl v => lg_t (.constant (am_R o) q.1 v)
    | .inr i => Nat.ble 208 i && Nat.blt i 213 && decide (lg_so (i - 208) = (am_R o, q.1)))) = true := by decide +kernel
set_option maxRecDepth 1000000 in
theorem lg_sf : am_sfL.all (fun q => lg_t (.laysStatic q.2.1 q.2.2.1 q.2.2.2) && lg_t (.initialized q.2.1) && lg_n (.arrayOf (.static q.2.1 q.2.2.1 q.2.2.2) .int) && Nat.beq (am_len q.1) 2 && lg_n (.eq (.length (.static q.2.1 q.2.2.1 q.2.2.2)) (.int 2)) && lg_n (.eq (.elem (.static q.2.1 q.2.2.1 q.2.2.2) (.int 0)) (.int (am_sx q.1 0))) && lg_n (.eq (.elem (.static q.2.1 q.2.2.1 q.2.2.2) (.int 1)) (.int (am_sx q.1 1)))) = true := by decide +kernel
set_option maxRecDepth 1000000 in
theorem lg_sk : (List.range 14).all (fun o => (am_skL.getD o []).all (fun q => am_sfL.all (fun z => !(Nat.beq z.1 q.2.1) || (Nat.beq q.2.2.1 0 && lg_t (.fieldLink (am_R o) q.1 z.2.1 z.2.2.1 z.2.2.2)) || (Nat.beq q.2.2.1 1 && lg_t (.fieldLinkNest (am_R o) q.1 z.2.1 z.2.2.1 z.2.2.2 "SharedConsole"))))) = true := by decide +kernel
set_option maxRecDepth 1000000 in
theorem lg_etc : (am_TB.all lg_t && lg_t (.methodLinkNest "SharedConsole" 11 ⟨"SharedConsole$Text", "<init>", "()V"⟩ "SharedConsole") && lg_t (.classLink RX9 317 "java/lang/IndexOutOfBoundsException") && lg_t (.initialized "java/lang/IndexOutOfBoundsException") && cn_NB.all lg_t &&
    lg_t (.laysStatic "java/lang/String" "COMPACT_STRINGS" "Z") && lg_t (.initialized "java/lang/String") && lg_n (.eq (.static "java/lang/String" "COMPACT_STRINGS" "Z") (.int 1)) &&
    lg_t (.laysStatic "jdk/internal/util/Preconditions" "SIOOBE_FORMATTER" "Ljava/util/function/BiFunction;") && lg_t (.initialized "jdk/internal/util/Preconditions") && lg_n (.isRef (.static "jdk/internal/util/Preconditions" "SIOOBE_FORMATTER" "Ljava/util/function/BiFunction;")) &&
    lg_t (.laysStatic Bundle.tN "UNASSIGNED_STACK" Bundle.steD) && lg_t (.laysStatic Bundle.tN "SUPPRESSED_SENTINEL" Bundle.listD) && lg_t (.initialized Bundle.tN) && lg_n (.isRef (.static Bundle.tN "UNASSIGNED_STACK" Bundle.steD)) && lg_n (.isRef (.static Bundle.tN "SUPPRESSED_SENTINEL" Bundle.listD)) &&
    (List.range 11).all (fun ci => cn_inT (.instantiable (am_R ci) (am_N ci)))) = true := by decide +kernel
set_option maxRecDepth 1000000 in
theorem lg_et2 : (dm_NB.all lg_t && tm_kc.all (fun q => lg_t (.constant q.1 q.2.1 q.2.2)) && lg_t (.selects RJ4 (tm_y 31) (tm_y 31)) && tm_pv.all (fun y => lg_t (.privateMethod y) && lg_t (.instanceMethod y) && decide (y.cls ≠ "java/lang/invoke/MethodHandle") && decide (y.cls ≠ "java/lang/invoke/VarHandle") && decide ((tm_y 31).cls = y.cls)) && lg_t (.castable "[B" "java/lang/Cloneable") && cn_inT (.arrayClass .byte) && cn_inT (.instantiable RJ0 4) && cn_inT (.instantiable RJ4 4) && lg_t (.laysStatic "java/lang/Integer" "DigitOnes" "[B") && lg_t (.laysStatic "java/lang/Integer" "DigitTens" "[B") && lg_t (.initialized "java/lang/Integer") && lg_n (.arrayOf (.static "java/lang/Integer" "DigitOnes" "[B") .byte) && lg_n (.arrayOf (.static "java/lang/Integer" "DigitTens" "[B") .byte) && lg_n (.eq (.length (.static "java/lang/Integer" "DigitOnes" "[B")) (.int (Int32.ofNat 100))) && lg_n (.eq (.length (.static "java/lang/Integer" "DigitTens" "[B")) (.int (Int32.ofNat 100)))) = true := by decide +kernel
set_option maxRecDepth 1000000 in
theorem lg_dig0 : (List.range 100).all (fun j => decide (lg_F[19 + j]? = some (Cond.eq (.elem (.static "java/lang/Integer" "DigitOnes" "[B") (.int (Int32.ofNat j))) (.int (tm_dg 0 j))))) = true := by decide +kernel
set_option maxRecDepth 1000000 in
theorem lg_dig1 : (List.range 100).all (fun j => decide (lg_F[122 + j]? = some (Cond.eq (.elem (.static "java/lang/Integer" "DigitTens" "[B") (.int (Int32.ofNat j))) (.int (tm_dg 1 j))))) = true := by decide +kernel
end LGA
