section TM4
def tm_dsc (m n : Nat) : Bool := decide ((parseMethodDescriptor (tm_y m).desc).map (fun d => d.parameters.length) = some n)
def tm_oi : MethodName := Lib.objectInit
def tm_acn : MethodName := arraycopyName
def tm_bcl : MethodName := ⟨"[B", "clone", "()Ljava/lang/Object;"⟩
def tm_ocl : MethodName := ⟨"java/lang/Object", "clone", "()Ljava/lang/Object;"⟩
def tm_lok (me : Nat) (q : Nat × Nat × Nat) : Bool :=
  bif Nat.beq q.2.1 0 then decide (tm_own me = RL) && decide (am_mk 108 q.1 = some (0, q.2.2))
  else bif Nat.beq q.2.1 6 then dm_inT (.methodLink (tm_own me) q.1 tm_oi) && dm_inT (.instanceMethod tm_oi)
  else bif Nat.beq q.2.1 7 then dm_inT (.methodLink (tm_own me) q.1 tm_acn) && dm_inT (.native tm_acn) && dm_inT (.static tm_acn) && dm_inT (.initialized "java/lang/System")
  else bif Nat.beq q.2.1 8 then dm_inT (.methodLink (tm_own me) q.1 tm_bcl) && dm_inT (.sameMethod "[B" "java/lang/Object" "clone" "()Ljava/lang/Object;") && dm_inT (.native tm_ocl) && dm_inT (.instanceMethod tm_ocl) && dm_inT (.selects "[B" tm_bcl tm_ocl)
  else bif Nat.beq q.2.1 3 then Nat.blt q.2.2 46 && dm_inT (.methodLink (tm_own me) q.1 (tm_y q.2.2)) && dm_inT (.static (tm_y q.2.2)) && dm_inT (.initialized (tm_own q.2.2)) && tm_dsc q.2.2 (tm_na q.2.2)
  else bif Nat.beq q.2.1 2 && Nat.beq q.2.2 38 then dm_inT (.methodLink (tm_own me) q.1 (tm_y 37)) && dm_inT (.sameMethod (tm_own 37) (tm_own 37) "length" "()I") && dm_inT (.instanceMethod (tm_y 37)) && dm_inT (.selects RJ4 (tm_y 37) (tm_y 38)) && dm_inT (.instanceMethod (tm_y 38)) && dm_inT (.initialized RJ4)
  else Nat.blt q.2.2 46 && dm_inT (.methodLink (tm_own me) q.1 (tm_y q.2.2)) && dm_inT (.instanceMethod (tm_y q.2.2)) && dm_inT (.initialized (tm_own q.2.2)) && tm_dsc q.2.2 (tm_na q.2.2 - 1) && Nat.ble 1 (tm_na q.2.2) &&
    (bif Nat.beq q.2.1 1 then decide (tm_own q.2.2 = RJ0) && dm_inT (.selects RJ0 (tm_y q.2.2) (tm_y q.2.2))
     else bif Nat.beq q.2.1 2 then dm_inT (.selects RJ4 (tm_y q.2.2) (tm_y q.2.2))
     else bif Nat.beq q.2.1 4 then decide ((tm_y q.2.2).name = "<init>") && decide (tm_re q.2.2 = none)
     else bif Nat.beq q.2.1 5 then decide (tm_own me = RJ4) && dm_inT (.sameMethod (tm_own q.2.2) (tm_own q.2.2) (tm_y q.2.2).name (tm_y q.2.2).desc) && dm_inT (.superclass RJ4 (tm_own q.2.2)) && decide ((tm_y q.2.2).name ≠ "<init>")
     else Nat.beq q.2.1 9 && decide (tm_y q.2.2 ∈ tm_pv))
set_option maxRecDepth 1000000 in
theorem tm_lok0 : (tm_lkL.getD 0 []).all (tm_lok 0) = true := by decide +kernel
set_option maxRecDepth 1000000 in
theorem tm_lok1 : (tm_lkL.getD 1 []).all (tm_lok 1) = true := by decide +kernel
set_option maxRecDepth 1000000 in
theorem tm_lok2 : (tm_lkL.getD 2 []).all (tm_lok 2) = true := by decide +kernel
set_option maxRecDepth 1000000 in
theorem tm_lok3 : (tm_lkL.getD 3 []).all (tm_lok 3) = true := by decide +kernel
set_option maxRecDepth 1000000 in
theorem tm_lok4 : (tm_lkL.getD 4 []).all (tm_lok 4) = true := by decide +kernel
set_option maxRecDepth 1000000 in
theorem tm_lok5 : (tm_lkL.getD 5 []).all (tm_lok 5) = true := by decide +kernel
set_option maxRecDepth 1000000 in
theorem tm_lok6 : (tm_lkL.getD 6 []).all (tm_lok 6) = true := by decide +kernel
set_option maxRecDepth 1000000 in
theorem tm_lok7 : (tm_lkL.getD 7 []).all (tm_lok 7) = true := by decide +kernel
set_option maxRecDepth 1000000 in
theorem tm_lok8 : (tm_lkL.getD 8 []).all (tm_lok 8) = true := by decide +kernel
set_option maxRecDepth 1000000 in
theorem tm_lok9 : (tm_lkL.getD 9 []).all (tm_lok 9) = true := by decide +kernel
set_option maxRecDepth 1000000 in
theorem tm_lok10 : (tm_lkL.getD 10 []).all (tm_lok 10) = true := by decide +kernel
set_option maxRecDepth 1000000 in
theorem tm_lok11 : (tm_lkL.getD 11 []).all (tm_lok 11) = true := by decide +kernel
set_option maxRecDepth 1000000 in
theorem tm_lok12 : (tm_lkL.getD 12 []).all (tm_lok 12) = true := by decide +kernel
set_option maxRecDepth 1000000 in
theorem tm_lok13 : (tm_lkL.getD 13 []).all (tm_lok 13) = true := by decide +kernel
set_option maxRecDepth 1000000 in
theorem tm_lok14 : (tm_lkL.getD 14 []).all (tm_lok 14) = true := by decide +kernel
set_option maxRecDepth 1000000 in
theorem tm_lok15 : (tm_lkL.getD 15 []).all (tm_lok 15) = true := by decide +kernel
set_option maxRecDepth 1000000 in
theorem tm_lok16 : (tm_lkL.getD 16 []).all (tm_lok 16) = true := by decide +kernel
set_option maxRecDepth 1000000 in
theorem tm_lok17 : (tm_lkL.getD 17 []).all (tm_lok 17) = true := by decide +kernel
set_option maxRecDepth 1000000 in
theorem tm_lok18 : (tm_lkL.getD 18 []).all (tm_lok 18) = true := by decide +kernel
set_option maxRecDepth 1000000 in
theorem tm_lok19 : (tm_lkL.getD 19 []).all (tm_lok 19) = true := by decide +kernel
set_option maxRecDepth 1000000 in
theorem tm_lok20 : (tm_lkL.getD 20 []).all (tm_lok 20) = true := by decide +kernel
set_option maxRecDepth 1000000 in
theorem tm_lok21 : (tm_lkL.getD 21 []).all (tm_lok 21) = true := by decide +kernel
set_option maxRecDepth 1000000 in
theorem tm_lok22 : (tm_lkL.getD 22 []).all (tm_lok 22) = true := by decide +kernel
set_option maxRecDepth 1000000 in
theorem tm_lok23 : (tm_lkL.getD 23 []).all (tm_lok 23) = true := by decide +kernel
set_option maxRecDepth 1000000 in
theorem tm_lok24 : (tm_lkL.getD 24 []).all (tm_lok 24) = true := by decide +kernel
set_option maxRecDepth 1000000 in
theorem tm_lok25 : (tm_lkL.getD 25 []).all (tm_lok 25) = true := by decide +kernel
set_option maxRecDepth 1000000 in
theorem tm_lok26 : (tm_lkL.getD 26 []).all (tm_lok 26) = true := by decide +kernel
set_option maxRecDepth 1000000 in
theorem tm_lok27 : (tm_lkL.getD 27 []).all (tm_lok 27) = true := by decide +kernel
set_option maxRecDepth 1000000 in
theorem tm_lok28 : (tm_lkL.getD 28 []).all (tm_lok 28) = true := by decide +kernel
set_option maxRecDepth 1000000 in
theorem tm_lok29 : (tm_lkL.getD 29 []).all (tm_lok 29) = true := by decide +kernel
set_option maxRecDepth 1000000 in
theorem tm_lok30 : (tm_lkL.getD 30 []).all (tm_lok 30) = true := by decide +kernel
set_option maxRecDepth 1000000 in
theorem tm_lok31 : (tm_lkL.getD 31 []).all (tm_lok 31) = true := by decide +kernel
set_option maxRecDepth 1000000 in
theorem tm_lok32 : (tm_lkL.getD 32 []).all (tm_lok 32) = true := by decide +kernel
set_option maxRecDepth 1000000 in
theorem tm_lok33 : (tm_lkL.getD 33 []).all (tm_lok 33) = true := by decide +kernel
set_option maxRecDepth 1000000 in
theorem tm_lok34 : (tm_lkL.getD 34 []).all (tm_lok 34) = true := by decide +kernel
set_option maxRecDepth 1000000 in
theorem tm_lok35 : (tm_lkL.getD 35 []).all (tm_lok 35) = true := by decide +kernel
set_option maxRecDepth 1000000 in
theorem tm_lok36 : (tm_lkL.getD 36 []).all (tm_lok 36) = true := by decide +kernel
set_option maxRecDepth 1000000 in
theorem tm_lok37 : (tm_lkL.getD 37 []).all (tm_lok 37) = true := by decide +kernel
set_option maxRecDepth 1000000 in
theorem tm_lok38 : (tm_lkL.getD 38 []).all (tm_lok 38) = true := by decide +kernel
set_option maxRecDepth 1000000 in
theorem tm_lok39 : (tm_lkL.getD 39 []).all (tm_lok 39) = true := by decide +kernel
set_option maxRecDepth 1000000 in
theorem tm_lok40 : (tm_lkL.getD 40 []).all (tm_lok 40) = true := by decide +kernel
set_option maxRecDepth 1000000 in
theorem tm_lok41 : (tm_lkL.getD 41 []).all (tm_lok 41) = true := by decide +kernel
set_option maxRecDepth 1000000 in
theorem tm_lok42 : (tm_lkL.getD 42 []).all (tm_lok 42) = true := by decide +kernel
set_option maxRecDepth 1000000 in
theorem tm_lok43 : (tm_lkL.getD 43 []).all (tm_lok 43) = true := by decide +kernel
set_option maxRecDepth 1000000 in
theorem tm_lok44 : (tm_lkL.getD 44 []).all (tm_lok 44) = true := by decide +kernel
theorem tm_lokA : ∀ m, m < 45 → (tm_lkL.getD m []).all (tm_lok m) = true
  | 0, _ => tm_lok0
  | 1, _ => tm_lok1
  | 2, _ => tm_lok2
  | 3, _ => tm_lok3
  | 4, _ => tm_lok4
  | 5, _ => tm_lok5
  | 6, _ => tm_lok6
  | 7, _ => tm_lok7
  | 8, _ => tm_lok8
  | 9, _ => tm_lok9
  | 10, _ => tm_lok10
  | 11, _ => tm_lok11
  | 12, _ => tm_lok12
  | 13, _ => tm_lok13
  | 14, _ => tm_lok14
  | 15, _ => tm_lok15
  | 16, _ => tm_lok16
  | 17, _ => tm_lok17
  | 18, _ => tm_lok18
  | 19, _ => tm_lok19
  | 20, _ => tm_lok20
  | 21, _ => tm_lok21
  | 22, _ => tm_lok22
  | 23, _ => tm_lok23
  | 24, _ => tm_lok24
  | 25, _ => tm_lok25
  | 26, _ => tm_lok26
  | 27, _ => tm_lok27
  | 28, _ => tm_lok28
  | 29, _ => tm_lok29
  | 30, _ => tm_lok30
  | 31, _ => tm_lok31
  | 32, _ => tm_lok32
  | 33, _ => tm_lok33
  | 34, _ => tm_lok34
  | 35, _ => tm_lok35
  | 36, _ => tm_lok36
  | 37, _ => tm_lok37
  | 38, _ => tm_lok38
  | 39, _ => tm_lok39
  | 40, _ => tm_lok40
  | 41, _ => tm_lok41
  | 42, _ => tm_lok42
  | 43, _ => tm_lok43
  | 44, _ => tm_lok44
  | n + 45, h => absurd h (by omega)
set_option maxRecDepth 100000 in
theorem tm_cw0 : (Cond.code (tm_y 0) (tm_cc 0) (tm_ml 0) (tm_re 0)) ∈ am_AT := List.mem_filter.mpr ⟨List.mem_of_getElem? (i := 166) (by rfl), by rfl⟩
set_option maxRecDepth 100000 in
theorem tm_cw1 : (Cond.code (tm_y 1) (tm_cc 1) (tm_ml 1) (tm_re 1)) ∈ am_AT := List.mem_filter.mpr ⟨List.mem_of_getElem? (i := 163) (by rfl), by rfl⟩
set_option maxRecDepth 100000 in
theorem tm_cw2 : (Cond.code (tm_y 2) (tm_cc 2) (tm_ml 2) (tm_re 2)) ∈ am_AT := List.mem_filter.mpr ⟨List.mem_of_getElem? (i := 696) (by rfl), by rfl⟩
set_option maxRecDepth 100000 in
theorem tm_cw3 : (Cond.code (tm_y 3) (tm_cc 3) (tm_ml 3) (tm_re 3)) ∈ am_AT := List.mem_filter.mpr ⟨List.mem_of_getElem? (i := 731) (by rfl), by rfl⟩
set_option maxRecDepth 100000 in
theorem tm_cw4 : (Cond.code (tm_y 4) (tm_cc 4) (tm_ml 4) (tm_re 4)) ∈ am_AT := List.mem_filter.mpr ⟨List.mem_of_getElem? (i := 728) (by rfl), by rfl⟩
set_option maxRecDepth 100000 in
theorem tm_cw5 : (Cond.code (tm_y 5) (tm_cc 5) (tm_ml 5) (tm_re 5)) ∈ am_AT := List.mem_filter.mpr ⟨List.mem_of_getElem? (i := 607) (by rfl), by rfl⟩
set_option maxRecDepth 100000 in
theorem tm_cw6 : (Cond.code (tm_y 6) (tm_cc 6) (tm_ml 6) (tm_re 6)) ∈ am_AT := List.mem_filter.mpr ⟨List.mem_of_getElem? (i := 700) (by rfl), by rfl⟩
set_option maxRecDepth 100000 in
theorem tm_cw7 : (Cond.code (tm_y 7) (tm_cc 7) (tm_ml 7) (tm_re 7)) ∈ am_AT := List.mem_filter.mpr ⟨List.mem_of_getElem? (i := 451) (by rfl), by rfl⟩
set_option maxRecDepth 100000 in
theorem tm_cw8 : (Cond.code (tm_y 8) (tm_cc 8) (tm_ml 8) (tm_re 8)) ∈ am_AT := List.mem_filter.mpr ⟨List.mem_of_getElem? (i := 872) (by rfl), by rfl⟩
set_option maxRecDepth 100000 in
theorem tm_cw9 : (Cond.code (tm_y 9) (tm_cc 9) (tm_ml 9) (tm_re 9)) ∈ am_AT := List.mem_filter.mpr ⟨List.mem_of_getElem? (i := 736) (by rfl), by rfl⟩
set_option maxRecDepth 100000 in
theorem tm_cw10 : (Cond.code (tm_y 10) (tm_cc 10) (tm_ml 10) (tm_re 10)) ∈ am_AT := List.mem_filter.mpr ⟨List.mem_of_getElem? (i := 456) (by rfl), by rfl⟩
set_option maxRecDepth 100000 in
theorem tm_cw11 : (Cond.code (tm_y 11) (tm_cc 11) (tm_ml 11) (tm_re 11)) ∈ am_AT := List.mem_filter.mpr ⟨List.mem_of_getElem? (i := 459) (by rfl), by rfl⟩
set_option maxRecDepth 100000 in
theorem tm_cw12 : (Cond.code (tm_y 12) (tm_cc 12) (tm_ml 12) (tm_re 12)) ∈ am_AT := List.mem_filter.mpr ⟨List.mem_of_getElem? (i := 488) (by rfl), by rfl⟩
set_option maxRecDepth 100000 in
theorem tm_cw13 : (Cond.code (tm_y 13) (tm_cc 13) (tm_ml 13) (tm_re 13)) ∈ am_AT := List.mem_filter.mpr ⟨List.mem_of_getElem? (i := 611) (by rfl), by rfl⟩
set_option maxRecDepth 100000 in
theorem tm_cw14 : (Cond.code (tm_y 14) (tm_cc 14) (tm_ml 14) (tm_re 14)) ∈ am_AT := List.mem_filter.mpr ⟨List.mem_of_getElem? (i := 706) (by rfl), by rfl⟩
set_option maxRecDepth 100000 in
theorem tm_cw15 : (Cond.code (tm_y 15) (tm_cc 15) (tm_ml 15) (tm_re 15)) ∈ am_AT := List.mem_filter.mpr ⟨List.mem_of_getElem? (i := 491) (by rfl), by rfl⟩
set_option maxRecDepth 100000 in
theorem tm_cw16 : (Cond.code (tm_y 16) (tm_cc 16) (tm_ml 16) (tm_re 16)) ∈ am_AT := List.mem_filter.mpr ⟨List.mem_of_getElem? (i := 614) (by rfl), by rfl⟩
set_option maxRecDepth 100000 in
theorem tm_cw17 : (Cond.code (tm_y 17) (tm_cc 17) (tm_ml 17) (tm_re 17)) ∈ am_AT := List.mem_filter.mpr ⟨List.mem_of_getElem? (i := 709) (by rfl), by rfl⟩
set_option maxRecDepth 100000 in
theorem tm_cw18 : (Cond.code (tm_y 18) (tm_cc 18) (tm_ml 18) (tm_re 18)) ∈ am_AT := List.mem_filter.mpr ⟨List.mem_of_getElem? (i := 499) (by rfl), by rfl⟩
set_option maxRecDepth 100000 in
theorem tm_cw19 : (Cond.code (tm_y 19) (tm_cc 19) (tm_ml 19) (tm_re 19)) ∈ am_AT := List.mem_filter.mpr ⟨List.mem_of_getElem? (i := 503) (by rfl), by rfl⟩
set_option maxRecDepth 100000 in
theorem tm_cw20 : (Cond.code (tm_y 20) (tm_cc 20) (tm_ml 20) (tm_re 20)) ∈ am_AT := List.mem_filter.mpr ⟨List.mem_of_getElem? (i := 506) (by rfl), by rfl⟩
set_option maxRecDepth 100000 in
theorem tm_cw21 : (Cond.code (tm_y 21) (tm_cc 21) (tm_ml 21) (tm_re 21)) ∈ am_AT := List.mem_filter.mpr ⟨List.mem_of_getElem? (i := 509) (by rfl), by rfl⟩
set_option maxRecDepth 100000 in
theorem tm_cw22 : (Cond.code (tm_y 22) (tm_cc 22) (tm_ml 22) (tm_re 22)) ∈ am_AT := List.mem_filter.mpr ⟨List.mem_of_getElem? (i := 527) (by rfl), by rfl⟩
set_option maxRecDepth 100000 in
theorem tm_cw23 : (Cond.code (tm_y 23) (tm_cc 23) (tm_ml 23) (tm_re 23)) ∈ am_AT := List.mem_filter.mpr ⟨List.mem_of_getElem? (i := 517) (by rfl), by rfl⟩
set_option maxRecDepth 100000 in
theorem tm_cw24 : (Cond.code (tm_y 24) (tm_cc 24) (tm_ml 24) (tm_re 24)) ∈ am_AT := List.mem_filter.mpr ⟨List.mem_of_getElem? (i := 574) (by rfl), by rfl⟩
set_option maxRecDepth 100000 in
theorem tm_cw25 : (Cond.code (tm_y 25) (tm_cc 25) (tm_ml 25) (tm_re 25)) ∈ am_AT := List.mem_filter.mpr ⟨List.mem_of_getElem? (i := 578) (by rfl), by rfl⟩
set_option maxRecDepth 100000 in
theorem tm_cw26 : (Cond.code (tm_y 26) (tm_cc 26) (tm_ml 26) (tm_re 26)) ∈ am_AT := List.mem_filter.mpr ⟨List.mem_of_getElem? (i := 602) (by rfl), by rfl⟩
set_option maxRecDepth 100000 in
theorem tm_cw27 : (Cond.code (tm_y 27) (tm_cc 27) (tm_ml 27) (tm_re 27)) ∈ am_AT := List.mem_filter.mpr ⟨List.mem_of_getElem? (i := 565) (by rfl), by rfl⟩
set_option maxRecDepth 100000 in
theorem tm_cw28 : (Cond.code (tm_y 28) (tm_cc 28) (tm_ml 28) (tm_re 28)) ∈ am_AT := List.mem_filter.mpr ⟨List.mem_of_getElem? (i := 569) (by rfl), by rfl⟩
set_option maxRecDepth 100000 in
theorem tm_cw29 : (Cond.code (tm_y 29) (tm_cc 29) (tm_ml 29) (tm_re 29)) ∈ am_AT := List.mem_filter.mpr ⟨List.mem_of_getElem? (i := 617) (by rfl), by rfl⟩
set_option maxRecDepth 100000 in
theorem tm_cw30 : (Cond.code (tm_y 30) (tm_cc 30) (tm_ml 30) (tm_re 30)) ∈ am_AT := List.mem_filter.mpr ⟨List.mem_of_getElem? (i := 620) (by rfl), by rfl⟩
set_option maxRecDepth 100000 in
theorem tm_cw31 : (Cond.code (tm_y 31) (tm_cc 31) (tm_ml 31) (tm_re 31)) ∈ am_AT := List.mem_filter.mpr ⟨List.mem_of_getElem? (i := 535) (by rfl), by rfl⟩
set_option maxRecDepth 100000 in
theorem tm_cw32 : (Cond.code (tm_y 32) (tm_cc 32) (tm_ml 32) (tm_re 32)) ∈ am_AT := List.mem_filter.mpr ⟨List.mem_of_getElem? (i := 712) (by rfl), by rfl⟩
set_option maxRecDepth 100000 in
theorem tm_cw33 : (Cond.code (tm_y 33) (tm_cc 33) (tm_ml 33) (tm_re 33)) ∈ am_AT := List.mem_filter.mpr ⟨List.mem_of_getElem? (i := 637) (by rfl), by rfl⟩
set_option maxRecDepth 100000 in
theorem tm_cw34 : (Cond.code (tm_y 34) (tm_cc 34) (tm_ml 34) (tm_re 34)) ∈ am_AT := List.mem_filter.mpr ⟨List.mem_of_getElem? (i := 642) (by rfl), by rfl⟩
set_option maxRecDepth 100000 in
theorem tm_cw35 : (Cond.code (tm_y 35) (tm_cc 35) (tm_ml 35) (tm_re 35)) ∈ am_AT := List.mem_filter.mpr ⟨List.mem_of_getElem? (i := 645) (by rfl), by rfl⟩
set_option maxRecDepth 100000 in
theorem tm_cw36 : (Cond.code (tm_y 36) (tm_cc 36) (tm_ml 36) (tm_re 36)) ∈ am_AT := List.mem_filter.mpr ⟨List.mem_of_getElem? (i := 651) (by rfl), by rfl⟩
set_option maxRecDepth 100000 in
theorem tm_cw37 : (Cond.code (tm_y 37) (tm_cc 37) (tm_ml 37) (tm_re 37)) ∈ am_AT := List.mem_filter.mpr ⟨List.mem_of_getElem? (i := 659) (by rfl), by rfl⟩
set_option maxRecDepth 100000 in
theorem tm_cw38 : (Cond.code (tm_y 38) (tm_cc 38) (tm_ml 38) (tm_re 38)) ∈ am_AT := List.mem_filter.mpr ⟨List.mem_of_getElem? (i := 657) (by rfl), by rfl⟩
set_option maxRecDepth 100000 in
theorem tm_cw39 : (Cond.code (tm_y 39) (tm_cc 39) (tm_ml 39) (tm_re 39)) ∈ am_AT := List.mem_filter.mpr ⟨List.mem_of_getElem? (i := 663) (by rfl), by rfl⟩
set_option maxRecDepth 100000 in
theorem tm_cw40 : (Cond.code (tm_y 40) (tm_cc 40) (tm_ml 40) (tm_re 40)) ∈ am_AT := List.mem_filter.mpr ⟨List.mem_of_getElem? (i := 666) (by rfl), by rfl⟩
set_option maxRecDepth 100000 in
theorem tm_cw41 : (Cond.code (tm_y 41) (tm_cc 41) (tm_ml 41) (tm_re 41)) ∈ am_AT := List.mem_filter.mpr ⟨List.mem_of_getElem? (i := 669) (by rfl), by rfl⟩
set_option maxRecDepth 100000 in
theorem tm_cw42 : (Cond.code (tm_y 42) (tm_cc 42) (tm_ml 42) (tm_re 42)) ∈ am_AT := List.mem_filter.mpr ⟨List.mem_of_getElem? (i := 741) (by rfl), by rfl⟩
set_option maxRecDepth 100000 in
theorem tm_cw43 : (Cond.code (tm_y 43) (tm_cc 43) (tm_ml 43) (tm_re 43)) ∈ am_AT := List.mem_filter.mpr ⟨List.mem_of_getElem? (i := 745) (by rfl), by rfl⟩
set_option maxRecDepth 100000 in
theorem tm_cw44 : (Cond.code (tm_y 44) (tm_cc 44) (tm_ml 44) (tm_re 44)) ∈ am_AT := List.mem_filter.mpr ⟨List.mem_of_getElem? (i := 748) (by rfl), by rfl⟩
set_option maxRecDepth 100000 in
theorem tm_cw45 : (Cond.code (tm_y 45) (tm_cc 45) (tm_ml 45) (tm_re 45)) ∈ am_AT := List.mem_filter.mpr ⟨List.mem_of_getElem? (i := 721) (by rfl), by rfl⟩
theorem tm_cwA : ∀ m, m < 46 → (Cond.code (tm_y m) (tm_cc m) (tm_ml m) (tm_re m)) ∈ am_AT
  | 0, _ => tm_cw0
  | 1, _ => tm_cw1
  | 2, _ => tm_cw2
  | 3, _ => tm_cw3
  | 4, _ => tm_cw4
  | 5, _ => tm_cw5
  | 6, _ => tm_cw6
  | 7, _ => tm_cw7
  | 8, _ => tm_cw8
  | 9, _ => tm_cw9
  | 10, _ => tm_cw10
  | 11, _ => tm_cw11
  | 12, _ => tm_cw12
  | 13, _ => tm_cw13
  | 14, _ => tm_cw14
  | 15, _ => tm_cw15
  | 16, _ => tm_cw16
  | 17, _ => tm_cw17
  | 18, _ => tm_cw18
  | 19, _ => tm_cw19
  | 20, _ => tm_cw20
  | 21, _ => tm_cw21
  | 22, _ => tm_cw22
  | 23, _ => tm_cw23
  | 24, _ => tm_cw24
  | 25, _ => tm_cw25
  | 26, _ => tm_cw26
  | 27, _ => tm_cw27
  | 28, _ => tm_cw28
  | 29, _ => tm_cw29
  | 30, _ => tm_cw30
  | 31, _ => tm_cw31
  | 32, _ => tm_cw32
  | 33, _ => tm_cw33
  | 34, _ => tm_cw34
  | 35, _ => tm_cw35
  | 36, _ => tm_cw36
  | 37, _ => tm_cw37
  | 38, _ => tm_cw38
  | 39, _ => tm_cw39
  | 40, _ => tm_cw40
  | 41, _ => tm_cw41
  | 42, _ => tm_cw42
  | 43, _ => tm_cw43
  | 44, _ => tm_cw44
  | 45, _ => tm_cw45
  | n + 46, h => absurd h (by omega)
set_option maxRecDepth 100000 in
theorem tm_md : (List.range 46).all (fun m => decide (tm_own m ≠ "java/lang/invoke/MethodHandle") && decide (tm_own m ≠ "java/lang/invoke/VarHandle")) = true := by decide +kernel
theorem tm_md_spec {m : Nat} (hm : m < 46) : (tm_y m).cls ≠ "java/lang/invoke/MethodHandle" ∧ (tm_y m).cls ≠ "java/lang/invoke/VarHandle" := by
  have h := List.all_eq_true.mp tm_md m (List.mem_range.mpr hm)
  simp only [Bool.and_eq_true, decide_eq_true_eq] at h
  exact h
theorem tm_wsG {mid : Nat} (h : mid < 46) : GoodIn am_AT (tm_ws mid) := am_AT_sub (fun w hw => by
  rcases List.mem_cons.mp hw with rfl | hw
  · exact tm_cwA mid h
  · exact hw)
theorem tm_lk_spec {me ix kd mid : Nat} (hm : me < 45) (h : tm_lk me ix = some (kd, mid)) : tm_lok me (ix, kd, mid) = true :=
  List.all_eq_true.mp (tm_lokA me hm) _ (am_lk_mem _ _ _ h)
/-- a private method is taken whatever the receiver -/
theorem tm_sel_priv {y : MethodName} {s : State} {args : Array Value} {y0 : MethodName} {C : String} (hy : y.cls ≠ "java/lang/invoke/MethodHandle" ∧ y.cls ≠ "java/lang/invoke/VarHandle")
    (h0 : (Cond.selects C y0 y0).before args s = true) (hc0 : y0.cls = y.cls) (hpriv : (Cond.privateMethod y).before args s = true) (hinst : (Cond.instanceMethod y).before args s = true) :
    (Cond.selects C y y).before args s = true := by
  obtain ⟨c, r0, m0, hc, -, hm0, -, k0, hk0, hni⟩ := Cond.selects_spec h0
  obtain ⟨mk, methM, hnamed, hmethM, -, habM⟩ := Cond.instanceMethod_spec hinst
  have hfound : s.methodFound? y.cls y.name y.desc = some mk := State.methodFound?_of_named hnamed hy
  have hsel : selectMethod {} s.vm c mk = .method mk := selectMethod_private hmethM (Cond.privateMethod_at hpriv mk methM hnamed hmethM)
  have e1 := findClass_of_methodNamed hnamed
  have e0 := findClass_of_methodNamed hm0
  rw [hc0] at e0
  have e2 : m0.cls = mk.cls := Option.some.inj (e0.symm.trans e1)
  rw [e2] at hk0
  simp only [Cond.before, Cond.holds, Cond.value, hc, hfound, hnamed, hsel, hk0]
  simp
  exact hni
end TM4
