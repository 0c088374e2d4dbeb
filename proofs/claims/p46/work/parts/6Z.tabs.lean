section TABS
theorem tb_of {args : Array Value} {s : State} (T : Jvm.Cond) : (∀ c ∈ flatC T, c.before args s = true) → T.before args s = true := by
  induction T with
  | and a b iha ihb =>
    intro h
    have h1 := iha (fun c hc => h c (List.mem_append_left _ hc))
    have h2 := ihb (fun c hc => h c (List.mem_append_right _ hc))
    rw [Cond.before_and, Bool.and_eq_true]
    exact ⟨h1, h2⟩
  | _ => intro h; exact h _ List.mem_cons_self
def tb_ok (T : Cond) : Bool := (flatC T).all (fun w => lw_tbl.any (fun q => decide (q = w)))
set_option maxRecDepth 1000000 in
theorem tb_1 : tb_ok Jvm.Free.SB.SBInit.tab = true := by decide +kernel
set_option maxRecDepth 1000000 in
theorem tb_2 : tb_ok Jvm.Free.SB.SBAppendS.tab = true := by decide +kernel
set_option maxRecDepth 1000000 in
theorem tb_3 : tb_ok Jvm.Free.SB.SBAppendSG.tab = true := by decide +kernel
set_option maxRecDepth 1000000 in
theorem tb_4 : tb_ok Jvm.Free.SB.SBAppendC.tab = true := by decide +kernel
set_option maxRecDepth 1000000 in
theorem tb_5 : tb_ok Jvm.Free.SB.SBAppendCG.tab = true := by decide +kernel
set_option maxRecDepth 1000000 in
theorem tb_6 : tb_ok Jvm.Free.SBG.SbAppendI.tab = true := by decide +kernel
set_option maxRecDepth 1000000 in
theorem tb_7 : tb_ok Jvm.Free.SB.SBToString.tab = true := by decide +kernel
set_option maxRecDepth 1000000 in
theorem tb_8 : tb_ok Jvm.Free.SB.SBToStringF.tab = true := by decide +kernel
def tb_L (l : List Cond) : Bool := l.all (fun w => lw_tbl.any (fun q => decide (q = w)))
set_option maxRecDepth 1000000 in
theorem tb_9 : tb_L Jvm.Free.SBG.sbLays = true := by decide +kernel
set_option maxRecDepth 1000000 in
theorem tb_A : tb_L Jvm.Free.SBG.strLays = true := by decide +kernel
end TABS
