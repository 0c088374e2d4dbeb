section LWG
def lg_F : List Cond := flatC (Cond.and given_1 narrow_1)
def lg_t (w : Cond) : Bool := lw_tbl.any (fun q => decide (q = w))
def lg_n (w : Cond) : Bool := lg_F.any (fun q => decide (q = w))
def lg_so (i : Nat) : String × Nat := [("SharedConsole$Draft", 53), ("SharedConsole$Draft", 63), ("SharedConsole$Draft", 65), ("SharedConsole$Draft", 96), ("SharedConsole$Draft", 98), ("SharedConsoleModel", 229), ("SharedConsoleModel", 214)].getD i ("", 0)
def lg_s (i : Nat) : Term := .string (lg_so i).1 (lg_so i).2
def lg_v (i : Nat) : Term := .field (lg_s i) "java/lang/String" "value" "[B"
def lg_len (i : Nat) : Nat := (am_stL.map (fun t => t.length)).getD i 0
def lg_byt (i j : Nat) : Int32 := (am_sbyt.getD i []).getD j 0
set_option maxRecDepth 1000000 in
theorem lg_str : (List.range 7).all (fun i => lg_n (.exactly (lg_s i) "java/lang/String") && lg_n (.eq (.field (lg_s i) "java/lang/String" "coder" "B") (.int 0)) && lg_n (.arrayOf (lg_v i) .byte) && lg_n (.eq (.length (lg_v i)) (.int (Int32.ofNat (lg_len i)))) && (List.range (lg_len i)).all (fun j => lg_n (.eq (.elem (lg_v i) (.int (Int32.ofNat j))) (.int (lg_byt i j)))) &&
    (List.range 7).all (fun j => Nat.beq i j || lg_n (.not (.eq (lg_s i) (lg_s j))) || lg_n (.not (.eq (lg_s j) (lg_s i)))) && lg_t (.stringRef (lg_so i).1 (lg_so i).2 (am_stL.getD i "")) && Nat.blt (lg_len i) 100) = true := by decide +kernel
set_option maxRecDepth 1000000 in
theorem lg_ck : (List.range 13).all (fun o => (am_ckL.getD o []).all (fun q => match q.2.1 with
    | .inl v => lg_t (.constant (am_R o) q.1 v)
    | .inr i => Nat.ble 208 i && Nat.blt i 215 && decide (lg_so (i - 208) = (am_R o, q.1)))) = true := by decide +kernel
set_option maxRecDepth 1000000 in
theorem lg_sf : am_sfL.all (fun q => lg_t (.laysStatic q.2.1 q.2.2.1 q.2.2.2) && lg_t (.initialized q.2.1) && lg_n (.arrayOf (.static q.2.1 q.2.2.1 q.2.2.2) .int) && Nat.beq (am_len q.1) 2 && lg_n (.eq (.length (.static q.2.1 q.2.2.1 q.2.2.2)) (.int 2)) && lg_n (.eq (.elem (.static q.2.1 q.2.2.1 q.2.2.2) (.int 0)) (.int (am_sx q.1 0))) && lg_n (.eq (.elem (.static q.2.1 q.2.2.1 q.2.2.2) (.int 1)) (.int (am_sx q.1 1)))) = true := by decide +kernel
set_option maxRecDepth 1000000 in
theorem lg_sk : (List.range 13).all (fun o => (am_skL.getD o []).all (fun q => am_sfL.all (fun z => !(Nat.beq z.1 q.2.1) || (Nat.beq q.2.2.1 0 && lg_t (.fieldLink (am_R o) q.1 z.2.1 z.2.2.1 z.2.2.2)) || (Nat.beq q.2.2.1 1 && lg_t (.fieldLinkNest (am_R o) q.1 z.2.1 z.2.2.1 z.2.2.2 "SharedConsole"))))) = true := by decide +kernel
set_option maxRecDepth 1000000 in
theorem lg_etc : (am_TB.all lg_t && lg_t (.methodLinkNest "SharedConsole$Screen" 52 ⟨"SharedConsole", "groupAt", "(II)I"⟩ "SharedConsole") && lg_t (.classLink RX9 317 "java/lang/IndexOutOfBoundsException") && lg_t (.initialized "java/lang/IndexOutOfBoundsException") && cn_NB.all lg_t &&
    lg_t (.laysStatic "java/lang/String" "COMPACT_STRINGS" "Z") && lg_t (.initialized "java/lang/String") && lg_n (.eq (.static "java/lang/String" "COMPACT_STRINGS" "Z") (.int 1)) &&
    lg_t (.laysStatic "jdk/internal/util/Preconditions" "SIOOBE_FORMATTER" "Ljava/util/function/BiFunction;") && lg_t (.initialized "jdk/internal/util/Preconditions") && lg_n (.isRef (.static "jdk/internal/util/Preconditions" "SIOOBE_FORMATTER" "Ljava/util/function/BiFunction;")) &&
    lg_t (.laysStatic Bundle.tN "UNASSIGNED_STACK" Bundle.steD) && lg_t (.laysStatic Bundle.tN "SUPPRESSED_SENTINEL" Bundle.listD) && lg_t (.initialized Bundle.tN) && lg_n (.isRef (.static Bundle.tN "UNASSIGNED_STACK" Bundle.steD)) && lg_n (.isRef (.static Bundle.tN "SUPPRESSED_SENTINEL" Bundle.listD)) &&
    (List.range 11).all (fun ci => cn_inT (.instantiable (am_R ci) (am_N ci)))) = true := by decide +kernel
end LWG
