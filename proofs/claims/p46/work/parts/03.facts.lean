/-! ===== facts of the tables, decided by the kernel ===== -/
def am_T (ci : Nat) : u_T := ((vwCl[ci]?).map (fun q => q.2.1)).getD (fun _ => ("", "", "", false))
def am_N (ci : Nat) : Nat := ((vwCl[ci]?).map (fun q => q.2.2)).getD 0
def am_mkb (o : Nat) (q : Nat × Nat × Nat × List Nat) : Bool := match q with
  | (ix, 0, mid, [a, b, c, d]) => am_hs a (.methodLink (am_R o) ix (am_y mid)) && am_hs b (.instanceMethod (am_y mid)) && am_hs c (.selects (am_y mid).cls (am_y mid) (am_y mid)) && am_hs d (.initialized (am_y mid).cls) && Nat.ble 1 (am_na mid) && decide ((parseMethodDescriptor (am_y mid).desc).map (fun d => d.parameters.length) = some (am_na mid - 1)) && Nat.blt mid 109
  | (ix, 1, mid, [a, b, c]) => am_hs a (.methodLink (am_R o) ix (am_y mid)) && am_hs b (.static (am_y mid)) && am_hs c (.initialized (am_y mid).cls) && decide ((parseMethodDescriptor (am_y mid).desc).map (fun d => d.parameters.length) = some (am_na mid)) && Nat.blt mid 109
  | (ix, 3, mid, [_, b, c]) => decide (Cond.methodLinkNest (am_R o) ix (am_y mid) "SharedConsole" = Cond.methodLinkNest "SharedConsole" 11 ⟨"SharedConsole$Text", "<init>", "()V"⟩ "SharedConsole") && am_hs b (.static (am_y mid)) && am_hs c (.initialized (am_y mid).cls) && decide ((parseMethodDescriptor (am_y mid).desc).map (fun d => d.parameters.length) = some (am_na mid)) && Nat.blt mid 109
  | _ => false
set_option maxRecDepth 100000 in
theorem am_mk_all : (List.range 14).all (fun o => (am_mkL.getD o []).all (am_mkb o)) = true := by decide +kernel
def am_mdb (m : Nat) : Bool := am_hs (am_cwL.getD m 0) (.code (am_y m) (am_cc m) (am_ml m) (am_re m)) && decide ((am_y m).cls = am_own m) && decide ((am_y m).cls ≠ "java/lang/invoke/MethodHandle") && decide ((am_y m).cls ≠ "java/lang/invoke/VarHandle") && (plainName (am_y m).cls || Nat.blt m 3)
set_option maxRecDepth 100000 in
theorem am_md_0 : ((List.range 109).drop 0 |>.take 12).all am_mdb = true := by decide +kernel
set_option maxRecDepth 100000 in
theorem am_md_1 : ((List.range 109).drop 12 |>.take 12).all am_mdb = true := by decide +kernel
set_option maxRecDepth 100000 in
theorem am_md_2 : ((List.range 109).drop 24 |>.take 12).all am_mdb = true := by decide +kernel
set_option maxRecDepth 100000 in
theorem am_md_3 : ((List.range 109).drop 36 |>.take 12).all am_mdb = true := by decide +kernel
set_option maxRecDepth 100000 in
theorem am_md_4 : ((List.range 109).drop 48 |>.take 12).all am_mdb = true := by decide +kernel
set_option maxRecDepth 100000 in
theorem am_md_5 : ((List.range 109).drop 60 |>.take 12).all am_mdb = true := by decide +kernel
set_option maxRecDepth 100000 in
theorem am_md_6 : ((List.range 109).drop 72 |>.take 12).all am_mdb = true := by decide +kernel
set_option maxRecDepth 100000 in
theorem am_md_7 : ((List.range 109).drop 84 |>.take 12).all am_mdb = true := by decide +kernel
set_option maxRecDepth 100000 in
theorem am_md_8 : ((List.range 109).drop 96 |>.take 12).all am_mdb = true := by decide +kernel
set_option maxRecDepth 100000 in
theorem am_md_9 : ((List.range 109).drop 108 |>.take 12).all am_mdb = true := by decide +kernel
def am_fkb (o : Nat) (q : Nat × Nat × Nat × Nat) : Bool := am_hs q.2.2.2 (.fieldLink (am_R o) q.1 (am_T q.2.1 q.2.2.1).1 (am_T q.2.1 q.2.2.1).2.1 (am_T q.2.1 q.2.2.1).2.2.1) && Nat.blt q.2.1 11 && Nat.blt q.2.2.1 (am_N q.2.1)
set_option maxRecDepth 100000 in
theorem am_fk_all : (List.range 14).all (fun o => (am_fkL.getD o []).all (am_fkb o)) = true := by decide +kernel
set_option maxRecDepth 100000 in
theorem am_fi_all : (List.range 11).all (fun ci => (List.range (am_N ci)).all (fun j => am_fi ci j == decide ((am_T ci j).2.2.1 = "I") && (am_fw ci j == (am_fi ci j && !(am_T ci j).2.2.2)))) = true := by decide +kernel
set_option maxRecDepth 100000 in
theorem am_uw_all : (List.range 11).all (fun ci => (u_ws (am_R ci) (am_T ci) (am_N ci)).all (fun w => decide (w ∈ lw_tbl) && goodWord w)) = true := by decide +kernel
set_option maxRecDepth 100000 in
theorem am_nF_all : (List.range 11).all (fun ci => Nat.beq (am_nF ci) (am_N ci) && decide ((vwCl[ci]?).map (fun q => q.1) = some (am_R ci))) = true := by decide +kernel
set_option maxRecDepth 100000 in
theorem am_kd_all : (List.range am_kdL.length).all (fun a => Nat.beq (am_kd a).1 0 || Nat.beq (am_kd a).1 7 || (Nat.beq (am_kd a).1 1 && Nat.blt a am_n0 && Nat.blt (am_kd a).2.1 11) || (Nat.beq (am_kd a).1 2 && Nat.blt a am_n0 && Nat.beq (am_kd a).2.1 0) || (Nat.beq (am_kd a).1 5 && Nat.blt a am_n0 && Nat.beq (am_kd a).2.1 1) || (Nat.beq (am_kd a).1 3 && Nat.blt a am_n0 && Nat.blt 1 (am_kd a).2.1 && Nat.blt (am_kd a).2.1 7) || (Nat.beq (am_kd a).1 4 && Nat.ble am_n0 a && Nat.blt a 208) || (Nat.beq (am_kd a).1 6 && Nat.ble 208 a && Nat.blt a 213)) = true := by decide +kernel
/-- the words of the throws that don't lie in the tables for good -/
abbrev am_tw : List Cond := vx_at0 RX9 319 "java/lang/IndexOutOfBoundsException" ["java/lang/RuntimeException", "java/lang/Exception"]
set_option maxRecDepth 100000 in
theorem am_tw_good : (am_tw.filter goodWord).all (fun w => decide (w ∈ lw_tbl)) = true := by decide +kernel
