section
section NAN
theorem lf_n32 {r : UInt32} (h : r &&& 0x7fffffff ≤ 0x7f800000) : FP.fIsNaN r = false := by
  cases hn : FP.fIsNaN r with
  | false => rfl
  | true =>
    have h1 := (FP.Core.isNaN_bits32 r).mp hn
    have h2 := UInt32.le_iff_toNat_le.mp h
    rw [UInt32.toNat_and, show (0x7fffffff : UInt32).toNat = 2 ^ 31 - 1 by decide, Nat.and_two_pow_sub_one_eq_mod, show (0x7f800000 : UInt32).toNat = 2139095040 by decide] at h2
    omega
theorem lf_n64 {r : UInt64} (h : FP.dIsNaN r = false) : vf_n64 r := by
  unfold vf_n64
  rw [UInt64.le_iff_toNat_le, UInt64.toNat_and, show (0x7fffffffffffffff : UInt64).toNat = 2 ^ 63 - 1 by decide, Nat.and_two_pow_sub_one_eq_mod, show (0x7ff0000000000000 : UInt64).toNat = 9218868437227405312 by decide]
  refine Nat.not_lt.mp (fun z => ?_)
  have h1 := (FP.Core.isNaN_bits r).mpr z
  rw [show FP.Core.dIsNaN r = FP.dIsNaN r from rfl, h] at h1
  cases h1
theorem lf_f2d {v : UInt32} (h : v &&& 0x7fffffff ≤ 0x7f800000) : vf_n64 (FP.f2d v) := lf_n64 ((FP.f2d_nan v).trans (lf_n32 h))
theorem lf_dcmp {v : UInt32} (h : v &&& 0x7fffffff ≤ 0x7f800000) : FP.dcmp (FP.f2d v) (FP.f2d v) = some .eq :=
  FP.Core.dcmp_self ((FP.Core.notNaN_iff _).mp ((FP.f2d_nan v).trans (lf_n32 h)))
theorem lf_cmp {v : UInt32} {op : CmpOp} (h : v &&& 0x7fffffff ≤ 0x7f800000) : Op.cmpValue (FP.dcmp (FP.f2d v) (FP.f2d v)) op = 0 := by
  rw [lf_dcmp h]
  cases op <;> rfl
end NAN
end
section
-- ===== PART A: goes FIRST, ahead of the names: the tables' words, and 'selects' of the private methods out of them =====
/-- a private method of a class that the tables say can be made, by its rows of tables_1 -/
def lw_okq (q : MethodName × Nat) : Prop := (q.1.cls ≠ "java/lang/invoke/MethodHandle" ∧ q.1.cls ≠ "java/lang/invoke/VarHandle") ∧ Cond.instantiable q.1.cls q.2 ∈ tables_1 ∧ Cond.privateMethod q.1 ∈ tables_1 ∧ Cond.instanceMethod q.1 ∈ tables_1
theorem lw_p0 : lw_okq (⟨"SharedConsole", "usersWhoWatch", "()I"⟩, 12) := ⟨⟨by decide +kernel, by decide +kernel⟩, List.mem_of_getElem? (i := 34) (by decide +kernel), List.mem_of_getElem? (i := 32) (by decide +kernel), List.mem_of_getElem? (i := 33) (by decide +kernel)⟩
theorem lw_p1 : lw_okq (⟨"SharedConsole", "seatOf", "(I)LSharedConsole$Seat;"⟩, 12) := ⟨⟨by decide +kernel, by decide +kernel⟩, List.mem_of_getElem? (i := 34) (by decide +kernel), List.mem_of_getElem? (i := 37) (by decide +kernel), List.mem_of_getElem? (i := 38) (by decide +kernel)⟩
theorem lw_p2 : lw_okq (⟨"java/lang/Throwable", "fillInStackTrace", "(I)Ljava/lang/Throwable;"⟩, 6) := ⟨⟨by decide +kernel, by decide +kernel⟩, List.mem_of_getElem? (i := 83) (by decide +kernel), List.mem_of_getElem? (i := 81) (by decide +kernel), List.mem_of_getElem? (i := 82) (by decide +kernel)⟩
theorem lw_p3 : lw_okq (⟨"SharedConsole", "deskOf", "(I)LSharedConsole$Desk;"⟩, 12) := ⟨⟨by decide +kernel, by decide +kernel⟩, List.mem_of_getElem? (i := 34) (by decide +kernel), List.mem_of_getElem? (i := 112) (by decide +kernel), List.mem_of_getElem? (i := 113) (by decide +kernel)⟩
theorem lw_p4 : lw_okq (⟨"SharedConsole$Text", "byteAt", "(I)I"⟩, 6) := ⟨⟨by decide +kernel, by decide +kernel⟩, List.mem_of_getElem? (i := 136) (by decide +kernel), List.mem_of_getElem? (i := 733) (by decide +kernel), List.mem_of_getElem? (i := 734) (by decide +kernel)⟩
theorem lw_p5 : lw_okq (⟨"SharedConsole$Draft", "restart", "()V"⟩, 4) := ⟨⟨by decide +kernel, by decide +kernel⟩, List.mem_of_getElem? (i := 165) (by decide +kernel), List.mem_of_getElem? (i := 744) (by decide +kernel), List.mem_of_getElem? (i := 745) (by decide +kernel)⟩
theorem lw_p6 : lw_okq (⟨"SharedConsole$Draft", "readStatement", "(LSharedConsole$Text;)I"⟩, 4) := ⟨⟨by decide +kernel, by decide +kernel⟩, List.mem_of_getElem? (i := 165) (by decide +kernel), List.mem_of_getElem? (i := 749) (by decide +kernel), List.mem_of_getElem? (i := 750) (by decide +kernel)⟩
theorem lw_p7 : lw_okq (⟨"SharedConsole$Draft", "readDeclaration", "(LSharedConsole$Text;LSharedConsole$Things;)I"⟩, 4) := ⟨⟨by decide +kernel, by decide +kernel⟩, List.mem_of_getElem? (i := 165) (by decide +kernel), List.mem_of_getElem? (i := 764) (by decide +kernel), List.mem_of_getElem? (i := 765) (by decide +kernel)⟩
theorem lw_p8 : lw_okq (⟨"SharedConsole$Draft", "readNumber", "(LSharedConsole$Text;II)I"⟩, 4) := ⟨⟨by decide +kernel, by decide +kernel⟩, List.mem_of_getElem? (i := 165) (by decide +kernel), List.mem_of_getElem? (i := 782) (by decide +kernel), List.mem_of_getElem? (i := 783) (by decide +kernel)⟩
theorem lw_p9 : lw_okq (⟨"SharedConsole$Draft", "readSetting", "(LSharedConsole$Text;)I"⟩, 4) := ⟨⟨by decide +kernel, by decide +kernel⟩, List.mem_of_getElem? (i := 165) (by decide +kernel), List.mem_of_getElem? (i := 798) (by decide +kernel), List.mem_of_getElem? (i := 799) (by decide +kernel)⟩
theorem lw_p10 : lw_okq (⟨"SharedConsole", "positionOf", "(LSharedConsole$Seat;)I"⟩, 12) := ⟨⟨by decide +kernel, by decide +kernel⟩, List.mem_of_getElem? (i := 34) (by decide +kernel), List.mem_of_getElem? (i := 840) (by decide +kernel), List.mem_of_getElem? (i := 841) (by decide +kernel)⟩
theorem lw_p11 : lw_okq (⟨"SharedConsole", "recordingOf", "(I)LSharedConsole$Recording;"⟩, 12) := ⟨⟨by decide +kernel, by decide +kernel⟩, List.mem_of_getElem? (i := 34) (by decide +kernel), List.mem_of_getElem? (i := 844) (by decide +kernel), List.mem_of_getElem? (i := 845) (by decide +kernel)⟩
theorem lw_p12 : lw_okq (⟨"SharedConsole", "loseControl", "(ILSharedConsole$Seat;)V"⟩, 12) := ⟨⟨by decide +kernel, by decide +kernel⟩, List.mem_of_getElem? (i := 34) (by decide +kernel), List.mem_of_getElem? (i := 880) (by decide +kernel), List.mem_of_getElem? (i := 881) (by decide +kernel)⟩
theorem lw_p13 : lw_okq (⟨"SharedConsole", "recordRightSizes", "()V"⟩, 12) := ⟨⟨by decide +kernel, by decide +kernel⟩, List.mem_of_getElem? (i := 34) (by decide +kernel), List.mem_of_getElem? (i := 888) (by decide +kernel), List.mem_of_getElem? (i := 889) (by decide +kernel)⟩
theorem lw_p14 : lw_okq (⟨"SharedConsole", "sizeThatIsRight", "(IZ)I"⟩, 12) := ⟨⟨by decide +kernel, by decide +kernel⟩, List.mem_of_getElem? (i := 34) (by decide +kernel), List.mem_of_getElem? (i := 892) (by decide +kernel), List.mem_of_getElem? (i := 893) (by decide +kernel)⟩
theorem lw_p15 : lw_okq (⟨"SharedConsole", "userWithLeastWindow", "(IZ)I"⟩, 12) := ⟨⟨by decide +kernel, by decide +kernel⟩, List.mem_of_getElem? (i := 34) (by decide +kernel), List.mem_of_getElem? (i := 896) (by decide +kernel), List.mem_of_getElem? (i := 897) (by decide +kernel)⟩
def lw_privs_1 : List (MethodName × Nat) := [(⟨"SharedConsole", "usersWhoWatch", "()I"⟩, 12), (⟨"SharedConsole", "seatOf", "(I)LSharedConsole$Seat;"⟩, 12), (⟨"java/lang/Throwable", "fillInStackTrace", "(I)Ljava/lang/Throwable;"⟩, 6), (⟨"SharedConsole", "deskOf", "(I)LSharedConsole$Desk;"⟩, 12), (⟨"SharedConsole$Text", "byteAt", "(I)I"⟩, 6), (⟨"SharedConsole$Draft", "restart", "()V"⟩, 4), (⟨"SharedConsole$Draft", "readStatement", "(LSharedConsole$Text;)I"⟩, 4), (⟨"SharedConsole$Draft", "readDeclaration", "(LSharedConsole$Text;LSharedConsole$Things;)I"⟩, 4), (⟨"SharedConsole$Draft", "readNumber", "(LSharedConsole$Text;II)I"⟩, 4), (⟨"SharedConsole$Draft", "readSetting", "(LSharedConsole$Text;)I"⟩, 4), (⟨"SharedConsole", "positionOf", "(LSharedConsole$Seat;)I"⟩, 12), (⟨"SharedConsole", "recordingOf", "(I)LSharedConsole$Recording;"⟩, 12), (⟨"SharedConsole", "loseControl", "(ILSharedConsole$Seat;)V"⟩, 12), (⟨"SharedConsole", "recordRightSizes", "()V"⟩, 12), (⟨"SharedConsole", "sizeThatIsRight", "(IZ)I"⟩, 12), (⟨"SharedConsole", "userWithLeastWindow", "(IZ)I"⟩, 12)]
theorem lw_r1 : ∀ q ∈ lw_privs_1, lw_okq q := List.forall_mem_cons.mpr ⟨lw_p0, List.forall_mem_cons.mpr ⟨lw_p1, List.forall_mem_cons.mpr ⟨lw_p2, List.forall_mem_cons.mpr ⟨lw_p3, List.forall_mem_cons.mpr ⟨lw_p4, List.forall_mem_cons.mpr ⟨lw_p5, List.forall_mem_cons.mpr ⟨lw_p6, List.forall_mem_cons.mpr ⟨lw_p7, List.forall_mem_cons.mpr ⟨lw_p8, List.forall_mem_cons.mpr ⟨lw_p9, List.forall_mem_cons.mpr ⟨lw_p10, List.forall_mem_cons.mpr ⟨lw_p11, List.forall_mem_cons.mpr ⟨lw_p12, List.forall_mem_cons.mpr ⟨lw_p13, List.forall_mem_cons.mpr ⟨lw_p14, List.forall_mem_cons.mpr ⟨lw_p15, fun _ h => absurd h List.not_mem_nil⟩⟩⟩⟩⟩⟩⟩⟩⟩⟩⟩⟩⟩⟩⟩⟩
theorem lw_p16 : lw_okq (⟨"SharedConsole", "lastSize", "(IZ)I"⟩, 12) := ⟨⟨by decide +kernel, by decide +kernel⟩, List.mem_of_getElem? (i := 34) (by decide +kernel), List.mem_of_getElem? (i := 908) (by decide +kernel), List.mem_of_getElem? (i := 909) (by decide +kernel)⟩
theorem lw_p17 : lw_okq (⟨"SharedConsole$Recording", "put", "(IIII)V"⟩, 1) := ⟨⟨by decide +kernel, by decide +kernel⟩, List.mem_of_getElem? (i := 360) (by decide +kernel), List.mem_of_getElem? (i := 917) (by decide +kernel), List.mem_of_getElem? (i := 918) (by decide +kernel)⟩
theorem lw_p18 : lw_okq (⟨"SharedConsole$Recording", "putOrigin", "(III)V"⟩, 1) := ⟨⟨by decide +kernel, by decide +kernel⟩, List.mem_of_getElem? (i := 360) (by decide +kernel), List.mem_of_getElem? (i := 921) (by decide +kernel), List.mem_of_getElem? (i := 922) (by decide +kernel)⟩
theorem lw_p19 : lw_okq (⟨"SharedConsole", "usersWhoWatchSession", "(I)I"⟩, 12) := ⟨⟨by decide +kernel, by decide +kernel⟩, List.mem_of_getElem? (i := 34) (by decide +kernel), List.mem_of_getElem? (i := 925) (by decide +kernel), List.mem_of_getElem? (i := 926) (by decide +kernel)⟩
theorem lw_p20 : lw_okq (⟨"SharedConsole", "reasonNotToType", "(ILSharedConsole$Seat;)I"⟩, 12) := ⟨⟨by decide +kernel, by decide +kernel⟩, List.mem_of_getElem? (i := 34) (by decide +kernel), List.mem_of_getElem? (i := 946) (by decide +kernel), List.mem_of_getElem? (i := 947) (by decide +kernel)⟩
theorem lw_p21 : lw_okq (⟨"SharedConsole", "controlsItsSession", "(ILSharedConsole$Seat;)Z"⟩, 12) := ⟨⟨by decide +kernel, by decide +kernel⟩, List.mem_of_getElem? (i := 34) (by decide +kernel), List.mem_of_getElem? (i := 958) (by decide +kernel), List.mem_of_getElem? (i := 959) (by decide +kernel)⟩
theorem lw_p22 : lw_okq (⟨"SharedConsole", "whyNotAWatcher", "(I)I"⟩, 12) := ⟨⟨by decide +kernel, by decide +kernel⟩, List.mem_of_getElem? (i := 34) (by decide +kernel), List.mem_of_getElem? (i := 970) (by decide +kernel), List.mem_of_getElem? (i := 971) (by decide +kernel)⟩
theorem lw_p23 : lw_okq (⟨"SharedConsole", "grantOldRequests", "()I"⟩, 12) := ⟨⟨by decide +kernel, by decide +kernel⟩, List.mem_of_getElem? (i := 34) (by decide +kernel), List.mem_of_getElem? (i := 1004) (by decide +kernel), List.mem_of_getElem? (i := 1005) (by decide +kernel)⟩
theorem lw_p24 : lw_okq (⟨"SharedConsoleLaw$Screen", "blank", "(I)V"⟩, 6) := ⟨⟨by decide +kernel, by decide +kernel⟩, List.mem_of_getElem? (i := 1014) (by decide +kernel), List.mem_of_getElem? (i := 1046) (by decide +kernel), List.mem_of_getElem? (i := 1047) (by decide +kernel)⟩
theorem lw_p25 : lw_okq (⟨"SharedConsoleLaw$Screen", "typed", "(I)V"⟩, 6) := ⟨⟨by decide +kernel, by decide +kernel⟩, List.mem_of_getElem? (i := 1014) (by decide +kernel), List.mem_of_getElem? (i := 1055) (by decide +kernel), List.mem_of_getElem? (i := 1056) (by decide +kernel)⟩
theorem lw_p26 : lw_okq (⟨"SharedConsoleLaw$Screen", "down", "()V"⟩, 6) := ⟨⟨by decide +kernel, by decide +kernel⟩, List.mem_of_getElem? (i := 1014) (by decide +kernel), List.mem_of_getElem? (i := 1059) (by decide +kernel), List.mem_of_getElem? (i := 1060) (by decide +kernel)⟩
theorem lw_p27 : lw_okq (⟨"SharedConsoleLaw$Screen", "up", "()V"⟩, 6) := ⟨⟨by decide +kernel, by decide +kernel⟩, List.mem_of_getElem? (i := 1014) (by decide +kernel), List.mem_of_getElem? (i := 1063) (by decide +kernel), List.mem_of_getElem? (i := 1064) (by decide +kernel)⟩
theorem lw_p28 : lw_okq (⟨"SharedConsoleLaw$Screen", "row", "()[I"⟩, 6) := ⟨⟨by decide +kernel, by decide +kernel⟩, List.mem_of_getElem? (i := 1014) (by decide +kernel), List.mem_of_getElem? (i := 1067) (by decide +kernel), List.mem_of_getElem? (i := 1068) (by decide +kernel)⟩
theorem lw_p29 : lw_okq (⟨"SharedConsoleLaw$Screen", "sized", "(II)V"⟩, 6) := ⟨⟨by decide +kernel, by decide +kernel⟩, List.mem_of_getElem? (i := 1014) (by decide +kernel), List.mem_of_getElem? (i := 1072) (by decide +kernel), List.mem_of_getElem? (i := 1073) (by decide +kernel)⟩
theorem lw_p30 : lw_okq (⟨"SharedConsole", "draw", "(LSharedConsole$Screen;II)V"⟩, 12) := ⟨⟨by decide +kernel, by decide +kernel⟩, List.mem_of_getElem? (i := 34) (by decide +kernel), List.mem_of_getElem? (i := 1080) (by decide +kernel), List.mem_of_getElem? (i := 1081) (by decide +kernel)⟩
theorem lw_p31 : lw_okq (⟨"SharedConsole$Screen", "addRow", "()V"⟩, 7) := ⟨⟨by decide +kernel, by decide +kernel⟩, List.mem_of_getElem? (i := 328) (by decide +kernel), List.mem_of_getElem? (i := 1088) (by decide +kernel), List.mem_of_getElem? (i := 1089) (by decide +kernel)⟩
def lw_privs_2 : List (MethodName × Nat) := [(⟨"SharedConsole", "lastSize", "(IZ)I"⟩, 12), (⟨"SharedConsole$Recording", "put", "(IIII)V"⟩, 1), (⟨"SharedConsole$Recording", "putOrigin", "(III)V"⟩, 1), (⟨"SharedConsole", "usersWhoWatchSession", "(I)I"⟩, 12), (⟨"SharedConsole", "reasonNotToType", "(ILSharedConsole$Seat;)I"⟩, 12), (⟨"SharedConsole", "controlsItsSession", "(ILSharedConsole$Seat;)Z"⟩, 12), (⟨"SharedConsole", "whyNotAWatcher", "(I)I"⟩, 12), (⟨"SharedConsole", "grantOldRequests", "()I"⟩, 12), (⟨"SharedConsoleLaw$Screen", "blank", "(I)V"⟩, 6), (⟨"SharedConsoleLaw$Screen", "typed", "(I)V"⟩, 6), (⟨"SharedConsoleLaw$Screen", "down", "()V"⟩, 6), (⟨"SharedConsoleLaw$Screen", "up", "()V"⟩, 6), (⟨"SharedConsoleLaw$Screen", "row", "()[I"⟩, 6), (⟨"SharedConsoleLaw$Screen", "sized", "(II)V"⟩, 6), (⟨"SharedConsole", "draw", "(LSharedConsole$Screen;II)V"⟩, 12), (⟨"SharedConsole$Screen", "addRow", "()V"⟩, 7)]
theorem lw_r2 : ∀ q ∈ lw_privs_2, lw_okq q := List.forall_mem_cons.mpr ⟨lw_p16, List.forall_mem_cons.mpr ⟨lw_p17, List.forall_mem_cons.mpr ⟨lw_p18, List.forall_mem_cons.mpr ⟨lw_p19, List.forall_mem_cons.mpr ⟨lw_p20, List.forall_mem_cons.mpr ⟨lw_p21, List.forall_mem_cons.mpr ⟨lw_p22, List.forall_mem_cons.mpr ⟨lw_p23, List.forall_mem_cons.mpr ⟨lw_p24, List.forall_mem_cons.mpr ⟨lw_p25, List.forall_mem_cons.mpr ⟨lw_p26, List.forall_mem_cons.mpr ⟨lw_p27, List.forall_mem_cons.mpr ⟨lw_p28, List.forall_mem_cons.mpr ⟨lw_p29, List.forall_mem_cons.mpr ⟨lw_p30, List.forall_mem_cons.mpr ⟨lw_p31, fun _ h => absurd h List.not_mem_nil⟩⟩⟩⟩⟩⟩⟩⟩⟩⟩⟩⟩⟩⟩⟩⟩
theorem lw_p32 : lw_okq (⟨"SharedConsole$Screen", "emptyFrom", "(II)V"⟩, 7) := ⟨⟨by decide +kernel, by decide +kernel⟩, List.mem_of_getElem? (i := 328) (by decide +kernel), List.mem_of_getElem? (i := 1092) (by decide +kernel), List.mem_of_getElem? (i := 1093) (by decide +kernel)⟩
theorem lw_p33 : lw_okq (⟨"SharedConsole$Screen", "startOf", "(I)I"⟩, 7) := ⟨⟨by decide +kernel, by decide +kernel⟩, List.mem_of_getElem? (i := 328) (by decide +kernel), List.mem_of_getElem? (i := 1096) (by decide +kernel), List.mem_of_getElem? (i := 1097) (by decide +kernel)⟩
theorem lw_p34 : lw_okq (⟨"SharedConsole$Screen", "resize", "(II)V"⟩, 7) := ⟨⟨by decide +kernel, by decide +kernel⟩, List.mem_of_getElem? (i := 328) (by decide +kernel), List.mem_of_getElem? (i := 1107) (by decide +kernel), List.mem_of_getElem? (i := 1108) (by decide +kernel)⟩
theorem lw_p35 : lw_okq (⟨"SharedConsole$Screen", "sendUppermostRowUp", "()V"⟩, 7) := ⟨⟨by decide +kernel, by decide +kernel⟩, List.mem_of_getElem? (i := 328) (by decide +kernel), List.mem_of_getElem? (i := 1112) (by decide +kernel), List.mem_of_getElem? (i := 1113) (by decide +kernel)⟩
theorem lw_p36 : lw_okq (⟨"SharedConsole$Screen", "goDown", "()V"⟩, 7) := ⟨⟨by decide +kernel, by decide +kernel⟩, List.mem_of_getElem? (i := 328) (by decide +kernel), List.mem_of_getElem? (i := 1116) (by decide +kernel), List.mem_of_getElem? (i := 1117) (by decide +kernel)⟩
theorem lw_p37 : lw_okq (⟨"SharedConsole$Screen", "clear", "()V"⟩, 7) := ⟨⟨by decide +kernel, by decide +kernel⟩, List.mem_of_getElem? (i := 328) (by decide +kernel), List.mem_of_getElem? (i := 1120) (by decide +kernel), List.mem_of_getElem? (i := 1121) (by decide +kernel)⟩
theorem lw_p38 : lw_okq (⟨"SharedConsole$Screen", "put", "(I)V"⟩, 7) := ⟨⟨by decide +kernel, by decide +kernel⟩, List.mem_of_getElem? (i := 328) (by decide +kernel), List.mem_of_getElem? (i := 1124) (by decide +kernel), List.mem_of_getElem? (i := 1125) (by decide +kernel)⟩
theorem lw_p39 : lw_okq (⟨"SharedConsole", "uppermostLine", "(LSharedConsole$Seat;)I"⟩, 12) := ⟨⟨by decide +kernel, by decide +kernel⟩, List.mem_of_getElem? (i := 34) (by decide +kernel), List.mem_of_getElem? (i := 1165) (by decide +kernel), List.mem_of_getElem? (i := 1166) (by decide +kernel)⟩
theorem lw_p40 : lw_okq (⟨"SharedConsole", "putOut", "(I)V"⟩, 12) := ⟨⟨by decide +kernel, by decide +kernel⟩, List.mem_of_getElem? (i := 34) (by decide +kernel), List.mem_of_getElem? (i := 1182) (by decide +kernel), List.mem_of_getElem? (i := 1183) (by decide +kernel)⟩
def lw_privs_3 : List (MethodName × Nat) := [(⟨"SharedConsole$Screen", "emptyFrom", "(II)V"⟩, 7), (⟨"SharedConsole$Screen", "startOf", "(I)I"⟩, 7), (⟨"SharedConsole$Screen", "resize", "(II)V"⟩, 7), (⟨"SharedConsole$Screen", "sendUppermostRowUp", "()V"⟩, 7), (⟨"SharedConsole$Screen", "goDown", "()V"⟩, 7), (⟨"SharedConsole$Screen", "clear", "()V"⟩, 7), (⟨"SharedConsole$Screen", "put", "(I)V"⟩, 7), (⟨"SharedConsole", "uppermostLine", "(LSharedConsole$Seat;)I"⟩, 12), (⟨"SharedConsole", "putOut", "(I)V"⟩, 12)]
theorem lw_r3 : ∀ q ∈ lw_privs_3, lw_okq q := List.forall_mem_cons.mpr ⟨lw_p32, List.forall_mem_cons.mpr ⟨lw_p33, List.forall_mem_cons.mpr ⟨lw_p34, List.forall_mem_cons.mpr ⟨lw_p35, List.forall_mem_cons.mpr ⟨lw_p36, List.forall_mem_cons.mpr ⟨lw_p37, List.forall_mem_cons.mpr ⟨lw_p38, List.forall_mem_cons.mpr ⟨lw_p39, List.forall_mem_cons.mpr ⟨lw_p40, fun _ h => absurd h List.not_mem_nil⟩⟩⟩⟩⟩⟩⟩⟩⟩
def lw_privs : List (MethodName × Nat) := lw_privs_1 ++ (lw_privs_2 ++ (lw_privs_3))
def lw_tbl : List Cond := k2_sels lw_privs ++ tables_1
theorem lw_privs_ok : ∀ q ∈ lw_privs, lw_okq q := by
  show ∀ q ∈ lw_privs_1 ++ (lw_privs_2 ++ (lw_privs_3)), lw_okq q
  exact List.forall_mem_append.mpr ⟨lw_r1, List.forall_mem_append.mpr ⟨lw_r2, lw_r3⟩⟩
/-- the streams that the claim lets the run draw from -/
abbrev lw_cs : List Choice := [Jvm.Choice.named "NaN.bits"]
theorem lw_bits : nanBits ∈ lw_cs := by first | decide | exact List.mem_cons_self | simp [lw_cs, nanBits]
-- ===== names of the program (from NAMES.whole) =====
def RX0 : String := "SharedConsole$Desk"
def TX0 : u_T := fun k => match k with
  | 0 => ("SharedConsole$Desk", "events", "I", false)
  | 1 => ("SharedConsole$Desk", "holder", "I", false)
  | 2 => ("SharedConsole$Desk", "asker", "I", false)
  | _ => ("SharedConsole$Desk", "askedAt", "I", false)
def tyX0 : Nat → FieldType := fun k => match k with
  | 0 => .int
  | 1 => .int
  | 2 => .int
  | _ => .int
theorem nmX0 : ∀ a, a < 4 → ∀ b, b < 4 → a ≠ b → (TX0 a).2.1 ≠ (TX0 b).2.1 := by decide +kernel
theorem tyX0_ok : ∀ k, k < 4 → parseFieldDescriptor (TX0 k).2.2.1 = some (tyX0 k) := by decide +kernel
def RX1 : String := "SharedConsole$Draft"
def TX1 : u_T := fun k => match k with
  | 0 => ("SharedConsole$Draft", "sessions", "LSharedConsole$Things;", true)
  | 1 => ("SharedConsole$Draft", "users", "LSharedConsole$Things;", true)
  | 2 => ("SharedConsole$Draft", "settings", "[I", true)
  | _ => ("SharedConsole$Draft", "given", "[Z", true)
def tyX1 : Nat → FieldType := fun k => match k with
  | 0 => .object "SharedConsole$Things"
  | 1 => .object "SharedConsole$Things"
  | 2 => .array .int
  | _ => .array .boolean
theorem nmX1 : ∀ a, a < 4 → ∀ b, b < 4 → a ≠ b → (TX1 a).2.1 ≠ (TX1 b).2.1 := by decide +kernel
theorem tyX1_ok : ∀ k, k < 4 → parseFieldDescriptor (TX1 k).2.2.1 = some (tyX1 k) := by decide +kernel
def RX2 : String := "SharedConsole$History"
def TX2 : u_T := fun k => match k with
  | 0 => ("SharedConsole$History", "states", "[LSharedConsole$State;", true)
  | 1 => ("SharedConsole$History", "next", "I", false)
  | _ => ("SharedConsole$History", "count", "I", false)
def tyX2 : Nat → FieldType := fun k => match k with
  | 0 => .array (.object "SharedConsole$State")
  | 1 => .int
  | _ => .int
theorem nmX2 : ∀ a, a < 3 → ∀ b, b < 3 → a ≠ b → (TX2 a).2.1 ≠ (TX2 b).2.1 := by decide +kernel
theorem tyX2_ok : ∀ k, k < 3 → parseFieldDescriptor (TX2 k).2.2.1 = some (tyX2 k) := by decide +kernel
def RX3 : String := "SharedConsole$Recording"
def TX3 : u_T := fun k => match k with
  | _ => ("SharedConsole$Recording", "numbers", "[[I", true)
def tyX3 : Nat → FieldType := fun k => match k with
  | _ => .array (.array .int)
theorem nmX3 : ∀ a, a < 1 → ∀ b, b < 1 → a ≠ b → (TX3 a).2.1 ≠ (TX3 b).2.1 := by decide +kernel
theorem tyX3_ok : ∀ k, k < 1 → parseFieldDescriptor (TX3 k).2.2.1 = some (tyX3 k) := by decide +kernel
def RX4 : String := "SharedConsole$Screen"
def TX4 : u_T := fun k => match k with
  | 0 => ("SharedConsole$Screen", "places", "[I", true)
  | 1 => ("SharedConsole$Screen", "first", "I", false)
  | 2 => ("SharedConsole$Screen", "up", "I", false)
  | 3 => ("SharedConsole$Screen", "width", "I", false)
  | 4 => ("SharedConsole$Screen", "height", "I", false)
  | 5 => ("SharedConsole$Screen", "row", "I", false)
  | _ => ("SharedConsole$Screen", "column", "I", false)
def tyX4 : Nat → FieldType := fun k => match k with
  | 0 => .array .int
  | 1 => .int
  | 2 => .int
  | 3 => .int
  | 4 => .int
  | 5 => .int
  | _ => .int
theorem nmX4 : ∀ a, a < 7 → ∀ b, b < 7 → a ≠ b → (TX4 a).2.1 ≠ (TX4 b).2.1 := by decide +kernel
theorem tyX4_ok : ∀ k, k < 7 → parseFieldDescriptor (TX4 k).2.2.1 = some (tyX4 k) := by decide +kernel
def RX5 : String := "SharedConsole$Seat"
def TX5 : u_T := fun k => match k with
  | 0 => ("SharedConsole$Seat", "width", "I", false)
  | 1 => ("SharedConsole$Seat", "height", "I", false)
  | 2 => ("SharedConsole$Seat", "way", "I", false)
  | 3 => ("SharedConsole$Seat", "session", "I", false)
  | 4 => ("SharedConsole$Seat", "position", "I", false)
  | 5 => ("SharedConsole$Seat", "startedAt", "I", false)
  | 6 => ("SharedConsole$Seat", "speed", "I", false)
  | _ => ("SharedConsole$Seat", "linesBack", "I", false)
def tyX5 : Nat → FieldType := fun k => match k with
  | 0 => .int
  | 1 => .int
  | 2 => .int
  | 3 => .int
  | 4 => .int
  | 5 => .int
  | 6 => .int
  | _ => .int
theorem nmX5 : ∀ a, a < 8 → ∀ b, b < 8 → a ≠ b → (TX5 a).2.1 ≠ (TX5 b).2.1 := by decide +kernel
theorem tyX5_ok : ∀ k, k < 8 → parseFieldDescriptor (TX5 k).2.2.1 = some (tyX5 k) := by decide +kernel
def RX6 : String := "SharedConsole$State"
def TX6 : u_T := fun k => match k with
  | 0 => ("SharedConsole$State", "time", "I", false)
  | 1 => ("SharedConsole$State", "settings", "[I", true)
  | 2 => ("SharedConsole$State", "accounts", "[I", true)
  | 3 => ("SharedConsole$State", "desks", "[LSharedConsole$Desk;", true)
  | _ => ("SharedConsole$State", "seats", "[LSharedConsole$Seat;", true)
def tyX6 : Nat → FieldType := fun k => match k with
  | 0 => .int
  | 1 => .array .int
  | 2 => .array .int
  | 3 => .array (.object "SharedConsole$Desk")
  | _ => .array (.object "SharedConsole$Seat")
theorem nmX6 : ∀ a, a < 5 → ∀ b, b < 5 → a ≠ b → (TX6 a).2.1 ≠ (TX6 b).2.1 := by decide +kernel
theorem tyX6_ok : ∀ k, k < 5 → parseFieldDescriptor (TX6 k).2.2.1 = some (tyX6 k) := by decide +kernel
def RX7 : String := "SharedConsole$Text"
def TX7 : u_T := fun k => match k with
  | 0 => ("SharedConsole$Text", "bytes", "[I", true)
  | 1 => ("SharedConsole$Text", "filled", "I", false)
  | 2 => ("SharedConsole$Text", "length", "I", false)
  | 3 => ("SharedConsole$Text", "kind", "I", false)
  | 4 => ("SharedConsole$Text", "start", "I", false)
  | _ => ("SharedConsole$Text", "end", "I", false)
def tyX7 : Nat → FieldType := fun k => match k with
  | 0 => .array .int
  | 1 => .int
  | 2 => .int
  | 3 => .int
  | 4 => .int
  | _ => .int
theorem nmX7 : ∀ a, a < 6 → ∀ b, b < 6 → a ≠ b → (TX7 a).2.1 ≠ (TX7 b).2.1 := by decide +kernel
theorem tyX7_ok : ∀ k, k < 6 → parseFieldDescriptor (TX7 k).2.2.1 = some (tyX7 k) := by decide +kernel
def RX8 : String := "SharedConsole$Things"
def TX8 : u_T := fun k => match k with
  | 0 => ("SharedConsole$Things", "most", "I", true)
  | 1 => ("SharedConsole$Things", "names", "[I", true)
  | 2 => ("SharedConsole$Things", "widths", "[I", true)
  | 3 => ("SharedConsole$Things", "heights", "[I", true)
  | _ => ("SharedConsole$Things", "count", "I", false)
def tyX8 : Nat → FieldType := fun k => match k with
  | 0 => .int
  | 1 => .array .int
  | 2 => .array .int
  | 3 => .array .int
  | _ => .int
theorem nmX8 : ∀ a, a < 5 → ∀ b, b < 5 → a ≠ b → (TX8 a).2.1 ≠ (TX8 b).2.1 := by decide +kernel
theorem tyX8_ok : ∀ k, k < 5 → parseFieldDescriptor (TX8 k).2.2.1 = some (tyX8 k) := by decide +kernel
def RX9 : String := "SharedConsole"
def TX9 : u_T := fun k => match k with
  | 0 => ("SharedConsole", "text", "LSharedConsole$Text;", true)
  | 1 => ("SharedConsole", "draft", "LSharedConsole$Draft;", true)
  | 2 => ("SharedConsole", "errorAt", "I", false)
  | 3 => ("SharedConsole", "output", "[I", true)
  | 4 => ("SharedConsole", "outputLength", "I", false)
  | 5 => ("SharedConsole", "sessions", "LSharedConsole$Things;", true)
  | 6 => ("SharedConsole", "users", "LSharedConsole$Things;", true)
  | 7 => ("SharedConsole", "recordings", "[LSharedConsole$Recording;", true)
  | 8 => ("SharedConsole", "now", "LSharedConsole$State;", true)
  | 9 => ("SharedConsole", "history", "LSharedConsole$History;", true)
  | 10 => ("SharedConsole", "screen", "LSharedConsole$Screen;", true)
  | _ => ("SharedConsole", "otherScreen", "LSharedConsole$Screen;", true)
def tyX9 : Nat → FieldType := fun k => match k with
  | 0 => .object "SharedConsole$Text"
  | 1 => .object "SharedConsole$Draft"
  | 2 => .int
  | 3 => .array .int
  | 4 => .int
  | 5 => .object "SharedConsole$Things"
  | 6 => .object "SharedConsole$Things"
  | 7 => .array (.object "SharedConsole$Recording")
  | 8 => .object "SharedConsole$State"
  | 9 => .object "SharedConsole$History"
  | 10 => .object "SharedConsole$Screen"
  | _ => .object "SharedConsole$Screen"
theorem nmX9 : ∀ a, a < 12 → ∀ b, b < 12 → a ≠ b → (TX9 a).2.1 ≠ (TX9 b).2.1 := by decide +kernel
theorem tyX9_ok : ∀ k, k < 12 → parseFieldDescriptor (TX9 k).2.2.1 = some (tyX9 k) := by decide +kernel
def RX10 : String := "SharedConsoleLaw$Screen"
def TX10 : u_T := fun k => match k with
  | 0 => ("SharedConsoleLaw$Screen", "rows", "[[I", false)
  | 1 => ("SharedConsoleLaw$Screen", "y", "I", false)
  | 2 => ("SharedConsoleLaw$Screen", "x", "I", false)
  | 3 => ("SharedConsoleLaw$Screen", "wide", "I", false)
  | 4 => ("SharedConsoleLaw$Screen", "lines", "[[I", true)
  | _ => ("SharedConsoleLaw$Screen", "gone", "I", false)
def tyX10 : Nat → FieldType := fun k => match k with
  | 0 => .array (.array .int)
  | 1 => .int
  | 2 => .int
  | 3 => .int
  | 4 => .array (.array .int)
  | _ => .int
theorem nmX10 : ∀ a, a < 6 → ∀ b, b < 6 → a ≠ b → (TX10 a).2.1 ≠ (TX10 b).2.1 := by decide +kernel
theorem tyX10_ok : ∀ k, k < 6 → parseFieldDescriptor (TX10 k).2.2.1 = some (tyX10 k) := by decide +kernel
def RJ0 : String := "java/lang/String"
def TJ0 : u_T := fun k => match k with
  | 0 => ("java/lang/String", "value", "[B", true)
  | 1 => ("java/lang/String", "coder", "B", true)
  | 2 => ("java/lang/String", "hash", "I", false)
  | _ => ("java/lang/String", "hashIsZero", "Z", false)
def RJ4 : String := "java/lang/StringBuilder"
def TJ4 : u_T := fun k => match k with
  | 0 => ("java/lang/AbstractStringBuilder", "value", "[B", false)
  | 1 => ("java/lang/AbstractStringBuilder", "coder", "B", false)
  | 2 => ("java/lang/AbstractStringBuilder", "maybeLatin1", "Z", false)
  | _ => ("java/lang/AbstractStringBuilder", "count", "I", false)
def RJ9 : String := "java/lang/Math"
def RL : String := "SharedConsoleLaw"
abbrev vwCl : List vw_C := [(RX0, TX0, 4), (RX1, TX1, 4), (RX2, TX2, 3), (RX3, TX3, 1), (RX4, TX4, 7), (RX5, TX5, 8), (RX6, TX6, 5), (RX7, TX7, 6), (RX8, TX8, 5), (RX9, TX9, 12), (RX10, TX10, 6), (RJ0, TJ0, 4), (RJ4, TJ4, 4)]
abbrev cX0_init : ByteArray := prog_2_method_1_code
def yX0_init : MethodName := ⟨RX0, "<init>", "()V"⟩
abbrev cX0_handOver : ByteArray := prog_2_method_2_code
def yX0_handOver : MethodName := ⟨RX0, "handOver", "()V"⟩
abbrev cX0_restart : ByteArray := prog_2_method_3_code
def yX0_restart : MethodName := ⟨RX0, "restart", "()V"⟩
abbrev cX0_copyFrom : ByteArray := prog_2_method_4_code
def yX0_copyFrom : MethodName := ⟨RX0, "copyFrom", "(LSharedConsole$Desk;)V"⟩
abbrev cX1_init : ByteArray := prog_3_method_1_code
def yX1_init : MethodName := ⟨RX1, "<init>", "()V"⟩
abbrev cX1_read : ByteArray := prog_3_method_2_code
def yX1_read : MethodName := ⟨RX1, "read", "(LSharedConsole$Text;)I"⟩
abbrev cX1_restart : ByteArray := prog_3_method_3_code
def yX1_restart : MethodName := ⟨RX1, "restart", "()V"⟩
abbrev cX1_readStatement : ByteArray := prog_3_method_4_code
def yX1_readStatement : MethodName := ⟨RX1, "readStatement", "(LSharedConsole$Text;)I"⟩
abbrev cX1_readDeclaration : ByteArray := prog_3_method_5_code
def yX1_readDeclaration : MethodName := ⟨RX1, "readDeclaration", "(LSharedConsole$Text;LSharedConsole$Things;)I"⟩
abbrev cX1_readSetting : ByteArray := prog_3_method_6_code
def yX1_readSetting : MethodName := ⟨RX1, "readSetting", "(LSharedConsole$Text;)I"⟩
abbrev cX1_readNumber : ByteArray := prog_3_method_7_code
def yX1_readNumber : MethodName := ⟨RX1, "readNumber", "(LSharedConsole$Text;II)I"⟩
abbrev cX2_init : ByteArray := prog_4_method_1_code
def yX2_init : MethodName := ⟨RX2, "<init>", "()V"⟩
abbrev cX2_keep : ByteArray := prog_4_method_2_code
def yX2_keep : MethodName := ⟨RX2, "keep", "(LSharedConsole$State;)V"⟩
abbrev cX2_forget : ByteArray := prog_4_method_4_code
def yX2_forget : MethodName := ⟨RX2, "forget", "()V"⟩
abbrev cX3_init : ByteArray := prog_5_method_1_code
def yX3_init : MethodName := ⟨RX3, "<init>", "()V"⟩
abbrev cX3_number : ByteArray := prog_5_method_2_code
def yX3_number : MethodName := ⟨RX3, "number", "(II)I"⟩
abbrev cX3_putTyped : ByteArray := prog_5_method_3_code
def yX3_putTyped : MethodName := ⟨RX3, "putTyped", "(IIII)V"⟩
abbrev cX3_putSized : ByteArray := prog_5_method_4_code
def yX3_putSized : MethodName := ⟨RX3, "putSized", "(IIII)V"⟩
abbrev cX3_timeBetween : ByteArray := prog_5_method_5_code
def yX3_timeBetween : MethodName := ⟨RX3, "timeBetween", "(II)I"⟩
abbrev cX3_put : ByteArray := prog_5_method_7_code
def yX3_put : MethodName := ⟨RX3, "put", "(IIII)V"⟩
abbrev cX3_putOrigin : ByteArray := prog_5_method_8_code
def yX3_putOrigin : MethodName := ⟨RX3, "putOrigin", "(III)V"⟩
abbrev cX4_init : ByteArray := prog_6_method_1_code
def yX4_init : MethodName := ⟨RX4, "<init>", "()V"⟩
abbrev cX4_restart : ByteArray := prog_6_method_2_code
def yX4_restart : MethodName := ⟨RX4, "restart", "(II)V"⟩
abbrev cX4_cursorLine : ByteArray := prog_6_method_3_code
def yX4_cursorLine : MethodName := ⟨RX4, "cursorLine", "()I"⟩
abbrev cX4_symbolInLine : ByteArray := prog_6_method_4_code
def yX4_symbolInLine : MethodName := ⟨RX4, "symbolInLine", "(II)I"⟩
abbrev cX4_symbolOnScreen : ByteArray := prog_6_method_5_code
def yX4_symbolOnScreen : MethodName := ⟨RX4, "symbolOnScreen", "(II)I"⟩
abbrev cX4_fullPlaces : ByteArray := prog_6_method_6_code
def yX4_fullPlaces : MethodName := ⟨RX4, "fullPlaces", "()I"⟩
abbrev cX4_play : ByteArray := prog_6_method_9_code
def yX4_play : MethodName := ⟨RX4, "play", "(LSharedConsole$Recording;I)V"⟩
abbrev cX4_resize : ByteArray := prog_6_method_10_code
def yX4_resize : MethodName := ⟨RX4, "resize", "(II)V"⟩
abbrev cX4_goDown : ByteArray := prog_6_method_11_code
def yX4_goDown : MethodName := ⟨RX4, "goDown", "()V"⟩
abbrev cX4_clear : ByteArray := prog_6_method_12_code
def yX4_clear : MethodName := ⟨RX4, "clear", "()V"⟩
abbrev cX4_sendUppermostRowUp : ByteArray := prog_6_method_13_code
def yX4_sendUppermostRowUp : MethodName := ⟨RX4, "sendUppermostRowUp", "()V"⟩
abbrev cX4_addRow : ByteArray := prog_6_method_14_code
def yX4_addRow : MethodName := ⟨RX4, "addRow", "()V"⟩
abbrev cX4_put : ByteArray := prog_6_method_15_code
def yX4_put : MethodName := ⟨RX4, "put", "(I)V"⟩
abbrev cX4_emptyFrom : ByteArray := prog_6_method_16_code
def yX4_emptyFrom : MethodName := ⟨RX4, "emptyFrom", "(II)V"⟩
abbrev cX4_startOf : ByteArray := prog_6_method_17_code
def yX4_startOf : MethodName := ⟨RX4, "startOf", "(I)I"⟩
abbrev cX5_init : ByteArray := prog_7_method_1_code
def yX5_init : MethodName := ⟨RX5, "<init>", "()V"⟩
abbrev cX5_watches : ByteArray := prog_7_method_2_code
def yX5_watches : MethodName := ⟨RX5, "watches", "(II)Z"⟩
abbrev cX5_windowSize : ByteArray := prog_7_method_3_code
def yX5_windowSize : MethodName := ⟨RX5, "windowSize", "(Z)I"⟩
abbrev cX5_restart : ByteArray := prog_7_method_4_code
def yX5_restart : MethodName := ⟨RX5, "restart", "(II)V"⟩
abbrev cX5_copyFrom : ByteArray := prog_7_method_5_code
def yX5_copyFrom : MethodName := ⟨RX5, "copyFrom", "(LSharedConsole$Seat;)V"⟩
abbrev cX6_init : ByteArray := prog_8_method_1_code
def yX6_init : MethodName := ⟨RX6, "<init>", "()V"⟩
abbrev cX6_restart : ByteArray := prog_8_method_2_code
def yX6_restart : MethodName := ⟨RX6, "restart", "(LSharedConsole$Things;[I)V"⟩
abbrev cX6_copyFrom : ByteArray := prog_8_method_3_code
def yX6_copyFrom : MethodName := ⟨RX6, "copyFrom", "(LSharedConsole$State;)V"⟩
abbrev cX7_init : ByteArray := prog_9_method_1_code
def yX7_init : MethodName := ⟨RX7, "<init>", "()V"⟩
abbrev cX7_append : ByteArray := prog_9_method_2_code
def yX7_append : MethodName := ⟨RX7, "append", "(I)V"⟩
abbrev cX7_open : ByteArray := prog_9_method_3_code
def yX7_open : MethodName := ⟨RX7, "open", "(I)V"⟩
abbrev cX7_advance : ByteArray := prog_9_method_4_code
def yX7_advance : MethodName := ⟨RX7, "advance", "()V"⟩
abbrev cX7_tokenLength : ByteArray := prog_9_method_5_code
def yX7_tokenLength : MethodName := ⟨RX7, "tokenLength", "()I"⟩
abbrev cX7_isWord : ByteArray := prog_9_method_6_code
def yX7_isWord : MethodName := ⟨RX7, "isWord", "(Ljava/lang/String;)Z"⟩
abbrev cX7_letters : ByteArray := prog_9_method_7_code
def yX7_letters : MethodName := ⟨RX7, "letters", "()I"⟩
abbrev cX7_number : ByteArray := prog_9_method_8_code
def yX7_number : MethodName := ⟨RX7, "number", "()I"⟩
abbrev cX7_kindOf : ByteArray := prog_9_method_9_code
def yX7_kindOf : MethodName := ⟨RX7, "kindOf", "(I)I"⟩
abbrev cX7_byteAt : ByteArray := prog_9_method_10_code
def yX7_byteAt : MethodName := ⟨RX7, "byteAt", "(I)I"⟩
abbrev cX8_init : ByteArray := prog_10_method_1_code
def yX8_init : MethodName := ⟨RX8, "<init>", "(I)V"⟩
abbrev cX8_has : ByteArray := prog_10_method_2_code
def yX8_has : MethodName := ⟨RX8, "has", "(I)Z"⟩
abbrev cX8_isFull : ByteArray := prog_10_method_3_code
def yX8_isFull : MethodName := ⟨RX8, "isFull", "()Z"⟩
abbrev cX8_indexOf : ByteArray := prog_10_method_4_code
def yX8_indexOf : MethodName := ⟨RX8, "indexOf", "(I)I"⟩
abbrev cX8_sizeOf : ByteArray := prog_10_method_5_code
def yX8_sizeOf : MethodName := ⟨RX8, "sizeOf", "(IZ)I"⟩
abbrev cX8_add : ByteArray := prog_10_method_6_code
def yX8_add : MethodName := ⟨RX8, "add", "(III)V"⟩
abbrev cX8_copyFrom : ByteArray := prog_10_method_7_code
def yX8_copyFrom : MethodName := ⟨RX8, "copyFrom", "(LSharedConsole$Things;)V"⟩
abbrev cX9_init : ByteArray := prog_1_method_1_code
def yX9_init : MethodName := ⟨RX9, "<init>", "()V"⟩
abbrev cX9_feed : ByteArray := prog_1_method_2_code
def yX9_feed : MethodName := ⟨RX9, "feed", "(IIIII)I"⟩
abbrev cX9_load : ByteArray := prog_1_method_3_code
def yX9_load : MethodName := ⟨RX9, "load", "(I)I"⟩
abbrev cX9_count : ByteArray := prog_1_method_5_code
def yX9_count : MethodName := ⟨RX9, "count", "(I)I"⟩
abbrev cX9_session : ByteArray := prog_1_method_9_code
def yX9_session : MethodName := ⟨RX9, "session", "(II)I"⟩
abbrev cX9_event : ByteArray := prog_1_method_10_code
def yX9_event : MethodName := ⟨RX9, "event", "(III)I"⟩
abbrev cX9_screen : ByteArray := prog_1_method_11_code
def yX9_screen : MethodName := ⟨RX9, "screen", "(III)I"⟩
abbrev cX9_at : ByteArray := prog_1_method_12_code
def yX9_at : MethodName := ⟨RX9, "at", "(IIII)I"⟩
abbrev cX9_above : ByteArray := prog_1_method_13_code
def yX9_above : MethodName := ⟨RX9, "above", "(IIII)I"⟩
abbrev cX9_user : ByteArray := prog_1_method_14_code
def yX9_user : MethodName := ⟨RX9, "user", "(II)I"⟩
abbrev cX9_shown : ByteArray := prog_1_method_15_code
def yX9_shown : MethodName := ⟨RX9, "shown", "(III)I"⟩
abbrev cX9_cursorRow : ByteArray := prog_1_method_16_code
def yX9_cursorRow : MethodName := ⟨RX9, "cursorRow", "(I)I"⟩
abbrev cX9_firstDifference : ByteArray := prog_1_method_25_code
def yX9_firstDifference : MethodName := ⟨RX9, "firstDifference", "(III)I"⟩
abbrev cX9_fullness : ByteArray := prog_1_method_26_code
def yX9_fullness : MethodName := ⟨RX9, "fullness", "(II)F"⟩
abbrev cX9_attach : ByteArray := prog_1_method_29_code
def yX9_attach : MethodName := ⟨RX9, "attach", "(II)I"⟩
abbrev cX9_detach : ByteArray := prog_1_method_30_code
def yX9_detach : MethodName := ⟨RX9, "detach", "(I)I"⟩
abbrev cX9_goTo : ByteArray := prog_1_method_31_code
def yX9_goTo : MethodName := ⟨RX9, "goTo", "(II)I"⟩
abbrev cX9_goLive : ByteArray := prog_1_method_32_code
def yX9_goLive : MethodName := ⟨RX9, "goLive", "(I)I"⟩
abbrev cX9_replay : ByteArray := prog_1_method_33_code
def yX9_replay : MethodName := ⟨RX9, "replay", "(III)I"⟩
abbrev cX9_lookBack : ByteArray := prog_1_method_34_code
def yX9_lookBack : MethodName := ⟨RX9, "lookBack", "(II)I"⟩
abbrev cX9_window : ByteArray := prog_1_method_35_code
def yX9_window : MethodName := ⟨RX9, "window", "(III)I"⟩
abbrev cX9_type : ByteArray := prog_1_method_36_code
def yX9_type : MethodName := ⟨RX9, "type", "(II)I"⟩
abbrev cX9_request : ByteArray := prog_1_method_37_code
def yX9_request : MethodName := ⟨RX9, "request", "(I)I"⟩
abbrev cX9_answer : ByteArray := prog_1_method_38_code
def yX9_answer : MethodName := ⟨RX9, "answer", "(IZ)I"⟩
abbrev cX9_yield : ByteArray := prog_1_method_39_code
def yX9_yield : MethodName := ⟨RX9, "yield", "(I)I"⟩
abbrev cX9_pass : ByteArray := prog_1_method_40_code
def yX9_pass : MethodName := ⟨RX9, "pass", "(I)I"⟩
abbrev cX9_setSetting : ByteArray := prog_1_method_41_code
def yX9_setSetting : MethodName := ⟨RX9, "setSetting", "(II)I"⟩
abbrev cX9_write : ByteArray := prog_1_method_43_code
def yX9_write : MethodName := ⟨RX9, "write", "(I)I"⟩
abbrev cX9_outputAt : ByteArray := prog_1_method_44_code
def yX9_outputAt : MethodName := ⟨RX9, "outputAt", "(I)I"⟩
abbrev cX9_deskOf : ByteArray := prog_1_method_45_code
def yX9_deskOf : MethodName := ⟨RX9, "deskOf", "(I)LSharedConsole$Desk;"⟩
abbrev cX9_recordingOf : ByteArray := prog_1_method_46_code
def yX9_recordingOf : MethodName := ⟨RX9, "recordingOf", "(I)LSharedConsole$Recording;"⟩
abbrev cX9_seatOf : ByteArray := prog_1_method_47_code
def yX9_seatOf : MethodName := ⟨RX9, "seatOf", "(I)LSharedConsole$Seat;"⟩
abbrev cX9_whyNotAWatcher : ByteArray := prog_1_method_48_code
def yX9_whyNotAWatcher : MethodName := ⟨RX9, "whyNotAWatcher", "(I)I"⟩
abbrev cX9_usersWhoWatch : ByteArray := prog_1_method_49_code
def yX9_usersWhoWatch : MethodName := ⟨RX9, "usersWhoWatch", "()I"⟩
abbrev cX9_usersWhoWatchSession : ByteArray := prog_1_method_50_code
def yX9_usersWhoWatchSession : MethodName := ⟨RX9, "usersWhoWatchSession", "(I)I"⟩
abbrev cX9_draw : ByteArray := prog_1_method_51_code
def yX9_draw : MethodName := ⟨RX9, "draw", "(LSharedConsole$Screen;II)V"⟩
abbrev cX9_positionOf : ByteArray := prog_1_method_52_code
def yX9_positionOf : MethodName := ⟨RX9, "positionOf", "(LSharedConsole$Seat;)I"⟩
abbrev cX9_uppermostLine : ByteArray := prog_1_method_53_code
def yX9_uppermostLine : MethodName := ⟨RX9, "uppermostLine", "(LSharedConsole$Seat;)I"⟩
abbrev cX9_userWithLeastWindow : ByteArray := prog_1_method_54_code
def yX9_userWithLeastWindow : MethodName := ⟨RX9, "userWithLeastWindow", "(IZ)I"⟩
abbrev cX9_sizeThatIsRight : ByteArray := prog_1_method_55_code
def yX9_sizeThatIsRight : MethodName := ⟨RX9, "sizeThatIsRight", "(IZ)I"⟩
abbrev cX9_recordRightSizes : ByteArray := prog_1_method_56_code
def yX9_recordRightSizes : MethodName := ⟨RX9, "recordRightSizes", "()V"⟩
abbrev cX9_lastSize : ByteArray := prog_1_method_57_code
def yX9_lastSize : MethodName := ⟨RX9, "lastSize", "(IZ)I"⟩
abbrev cX9_reasonNotToType : ByteArray := prog_1_method_58_code
def yX9_reasonNotToType : MethodName := ⟨RX9, "reasonNotToType", "(ILSharedConsole$Seat;)I"⟩
abbrev cX9_controlsItsSession : ByteArray := prog_1_method_59_code
def yX9_controlsItsSession : MethodName := ⟨RX9, "controlsItsSession", "(ILSharedConsole$Seat;)Z"⟩
abbrev cX9_loseControl : ByteArray := prog_1_method_60_code
def yX9_loseControl : MethodName := ⟨RX9, "loseControl", "(ILSharedConsole$Seat;)V"⟩
abbrev cX9_grantOldRequests : ByteArray := prog_1_method_61_code
def yX9_grantOldRequests : MethodName := ⟨RX9, "grantOldRequests", "()I"⟩
abbrev cX9_putOut : ByteArray := prog_1_method_62_code
def yX9_putOut : MethodName := ⟨RX9, "putOut", "(I)V"⟩
abbrev cX9_characterFor : ByteArray := prog_1_method_63_code
def yX9_characterFor : MethodName := ⟨RX9, "characterFor", "(I)I"⟩
abbrev cX9_groupAt : ByteArray := prog_1_method_64_code
def yX9_groupAt : MethodName := ⟨RX9, "groupAt", "(II)I"⟩
abbrev cX9_groupsIn : ByteArray := prog_1_method_65_code
def yX9_groupsIn : MethodName := ⟨RX9, "groupsIn", "(II)I"⟩
abbrev cX10_init : ByteArray := prog_12_method_1_code
def yX10_init : MethodName := ⟨RX10, "<init>", "()V"⟩
abbrev cX10_blank : ByteArray := prog_12_method_2_code
def yX10_blank : MethodName := ⟨RX10, "blank", "(I)V"⟩
abbrev cX10_up : ByteArray := prog_12_method_3_code
def yX10_up : MethodName := ⟨RX10, "up", "()V"⟩
abbrev cX10_row : ByteArray := prog_12_method_4_code
def yX10_row : MethodName := ⟨RX10, "row", "()[I"⟩
abbrev cX10_down : ByteArray := prog_12_method_5_code
def yX10_down : MethodName := ⟨RX10, "down", "()V"⟩
abbrev cX10_typed : ByteArray := prog_12_method_6_code
def yX10_typed : MethodName := ⟨RX10, "typed", "(I)V"⟩
abbrev cX10_sized : ByteArray := prog_12_method_7_code
def yX10_sized : MethodName := ⟨RX10, "sized", "(II)V"⟩
abbrev cJ9_floorMod_7cf53 : ByteArray := prog_19_method_50_code
def yJ9_floorMod_7cf53 : MethodName := ⟨RJ9, "floorMod", "(II)I"⟩
abbrev cJ9_max_7cf53 : ByteArray := prog_19_method_65_code
def yJ9_max_7cf53 : MethodName := ⟨RJ9, "max", "(II)I"⟩
abbrev cJ9_min_7cf53 : ByteArray := prog_19_method_69_code
def yJ9_min_7cf53 : MethodName := ⟨RJ9, "min", "(II)I"⟩
abbrev cL_cell : ByteArray := method_2_code
def yL_cell : MethodName := ⟨RL, "cell", "([II)I"⟩
abbrev cL_in : ByteArray := method_3_code
def yL_in : MethodName := ⟨RL, "in", "(II)I"⟩
abbrev cL_put : ByteArray := method_4_code
def yL_put : MethodName := ⟨RL, "put", "(LSharedConsole;Ljava/lang/String;)V"⟩
abbrev cL_statements : ByteArray := method_5_code
def yL_statements : MethodName := ⟨RL, "statements", "(Ljava/lang/String;)I"⟩
abbrev cL_sessions : ByteArray := method_6_code
def yL_sessions : MethodName := ⟨RL, "sessions", "([I)I"⟩
abbrev cL_users : ByteArray := method_7_code
def yL_users : MethodName := ⟨RL, "users", "([I)I"⟩
abbrev cL_size : ByteArray := method_8_code
def yL_size : MethodName := ⟨RL, "size", "([IZII)I"⟩
abbrev cL_setting : ByteArray := method_9_code
def yL_setting : MethodName := ⟨RL, "setting", "([II)I"⟩
abbrev cL_name : ByteArray := method_10_code
def yL_name : MethodName := ⟨RL, "name", "(ZI)Ljava/lang/String;"⟩
abbrev cL_text : ByteArray := method_11_code
def yL_text : MethodName := ⟨RL, "text", "([I)Ljava/lang/String;"⟩
abbrev cL_console : ByteArray := method_12_code
def yL_console : MethodName := ⟨RL, "console", "([I)LSharedConsole;"⟩
abbrev cL_symbols : ByteArray := method_13_code
def yL_symbols : MethodName := ⟨RL, "symbols", "(I)I"⟩
abbrev cL_changes : ByteArray := method_14_code
def yL_changes : MethodName := ⟨RL, "changes", "(LSharedConsole;I)V"⟩
abbrev cL_screen : ByteArray := method_16_code
def yL_screen : MethodName := ⟨RL, "screen", "(LSharedConsole;II)LSharedConsoleLaw$Screen;"⟩
abbrev cL_isDrawn : ByteArray := method_17_code
def yL_isDrawn : MethodName := ⟨RL, "isDrawn", "(LSharedConsole;II)Z"⟩
abbrev cL_isSeen : ByteArray := method_18_code
def yL_isSeen : MethodName := ⟨RL, "isSeen", "(LSharedConsole;I)Z"⟩
abbrev cL_isUnlike : ByteArray := method_19_code
def yL_isUnlike : MethodName := ⟨RL, "isUnlike", "(LSharedConsole;III)Z"⟩
abbrev cL_law : ByteArray := code
def yL_law : MethodName := ⟨RL, "law", "([I)Z"⟩
-- ===== tables of my interpreter (by program: gen3.py) =====
def am_lk {α : Type} : List (Nat × α) → Nat → Option α
  | [], _ => none
  | q :: l, i => bif Nat.beq q.1 i then some q.2 else am_lk l i
def am_kdL : List (Nat × Nat × Nat) := [(1, 9, 0), (1, 7, 0), (2, 0, 600), (1, 1, 0), (1, 8, 0), (2, 0, 6), (2, 0, 6), (2, 0, 6), (1, 8, 0), (2, 0, 6), (2, 0, 6), (2, 0, 6), (2, 0, 2), (5, 1, 2), (2, 0, 102), (1, 8, 0), (2, 0, 6), (2, 0, 6), (2, 0, 6), (1, 8, 0), (2, 0, 6), (2, 0, 6), (2, 0, 6), (3, 2, 4), (1, 6, 0), (2, 0, 2), (2, 0, 4), (3, 3, 4), (3, 4, 6), (1, 0, 0), (1, 0, 0), (1, 0, 0), (1, 0, 0), (1, 5, 0), (1, 5, 0), (1, 5, 0), (1, 5, 0), (1, 5, 0), (1, 5, 0), (1, 2, 0), (3, 5, 8), (1, 6, 0), (2, 0, 2), (2, 0, 4), (3, 3, 4), (3, 4, 6), (1, 0, 0), (1, 0, 0), (1, 0, 0), (1, 0, 0), (1, 5, 0), (1, 5, 0), (1, 5, 0), (1, 5, 0), (1, 5, 0), (1, 5, 0), (1, 6, 0), (2, 0, 2), (2, 0, 4), (3, 3, 4), (3, 4, 6), (1, 0, 0), (1, 0, 0), (1, 0, 0), (1, 0, 0), (1, 5, 0), (1, 5, 0), (1, 5, 0), (1, 5, 0), (1, 5, 0), (1, 5, 0), (1, 6, 0), (2, 0, 2), (2, 0, 4), (3, 3, 4), (3, 4, 6), (1, 0, 0), (1, 0, 0), (1, 0, 0), (1, 0, 0), (1, 5, 0), (1, 5, 0), (1, 5, 0), (1, 5, 0), (1, 5, 0), (1, 5, 0), (1, 6, 0), (2, 0, 2), (2, 0, 4), (3, 3, 4), (3, 4, 6), (1, 0, 0), (1, 0, 0), (1, 0, 0), (1, 0, 0), (1, 5, 0), (1, 5, 0), (1, 5, 0), (1, 5, 0), (1, 5, 0), (1, 5, 0), (1, 6, 0), (2, 0, 2), (2, 0, 4), (3, 3, 4), (3, 4, 6), (1, 0, 0), (1, 0, 0), (1, 0, 0), (1, 0, 0), (1, 5, 0), (1, 5, 0), (1, 5, 0), (1, 5, 0), (1, 5, 0), (1, 5, 0), (1, 6, 0), (2, 0, 2), (2, 0, 4), (3, 3, 4), (3, 4, 6), (1, 0, 0), (1, 0, 0), (1, 0, 0), (1, 0, 0), (1, 5, 0), (1, 5, 0), (1, 5, 0), (1, 5, 0), (1, 5, 0), (1, 5, 0), (1, 6, 0), (2, 0, 2), (2, 0, 4), (3, 3, 4), (3, 4, 6), (1, 0, 0), (1, 0, 0), (1, 0, 0), (1, 0, 0), (1, 5, 0), (1, 5, 0), (1, 5, 0), (1, 5, 0), (1, 5, 0), (1, 5, 0), (1, 6, 0), (2, 0, 2), (2, 0, 4), (3, 3, 4), (3, 4, 6), (1, 0, 0), (1, 0, 0), (1, 0, 0), (1, 0, 0), (1, 5, 0), (1, 5, 0), (1, 5, 0), (1, 5, 0), (1, 5, 0), (1, 5, 0), (1, 4, 0), (2, 0, 736), (1, 4, 0), (2, 0, 736), (1, 3, 0), (3, 6, 5), (2, 0, 300), (2, 0, 300), (2, 0, 300), (2, 0, 300), (2, 0, 300), (1, 3, 0), (3, 6, 5), (2, 0, 300), (2, 0, 300), (2, 0, 300), (2, 0, 300), (2, 0, 300), (1, 3, 0), (3, 6, 5), (2, 0, 300), (2, 0, 300), (2, 0, 300), (2, 0, 300), (2, 0, 300), (1, 3, 0), (3, 6, 5), (2, 0, 300), (2, 0, 300), (2, 0, 300), (2, 0, 300), (2, 0, 300), (0, 0, 0), (0, 0, 0), (0, 0, 0), (0, 0, 0), (0, 0, 0), (0, 0, 0), (0, 0, 0), (0, 0, 0), (0, 0, 0), (0, 0, 0), (0, 0, 0), (0, 0, 0), (4, 0, 2), (4, 0, 2), (4, 0, 2), (6, 0, 7), (6, 0, 4), (6, 0, 3), (6, 0, 4), (6, 0, 6)]
def am_kd (a : Nat) : Nat × Nat × Nat := am_kdL.getD a (0, 0, 0)
def am_grL : List (List (Option Nat)) := [[some 1, some 3, none, some 14, none, some 15, some 19, some 23, some 24, some 39, some 161, some 163], [some 2, none, none, none, none, none], [], [some 4, some 8, some 12, some 13], [none, some 5, some 6, some 7, none], [], [], [], [none, some 9, some 10, some 11, none], [], [], [], [], [], [], [none, some 16, some 17, some 18, none], [], [], [], [none, some 20, some 21, some 22, none], [], [], [], [some 165, some 172, some 179, some 186], [none, some 25, some 26, some 27, some 28], [], [], [some 29, some 30, some 31, some 32], [some 33, some 34, some 35, some 36, some 37, some 38], [], [], [], [], [], [], [], [], [], [], [some 40, none, none], [some 41, some 56, some 71, some 86, some 101, some 116, some 131, some 146], [none, some 42, some 43, some 44, some 45], [], [], [some 46, some 47, some 48, some 49], [some 50, some 51, some 52, some 53, some 54, some 55], [], [], [], [], [], [], [], [], [], [], [none, some 57, some 58, some 59, some 60], [], [], [some 61, some 62, some 63, some 64], [some 65, some 66, some 67, some 68, some 69, some 70], [], [], [], [], [], [], [], [], [], [], [none, some 72, some 73, some 74, some 75], [], [], [some 76, some 77, some 78, some 79], [some 80, some 81, some 82, some 83, some 84, some 85], [], [], [], [], [], [], [], [], [], [], [none, some 87, some 88, some 89, some 90], [], [], [some 91, some 92, some 93, some 94], [some 95, some 96, some 97, some 98, some 99, some 100], [], [], [], [], [], [], [], [], [], [], [none, some 102, some 103, some 104, some 105], [], [], [some 106, some 107, some 108, some 109], [some 110, some 111, some 112, some 113, some 114, some 115], [], [], [], [], [], [], [], [], [], [], [none, some 117, some 118, some 119, some 120], [], [], [some 121, some 122, some 123, some 124], [some 125, some 126, some 127, some 128, some 129, some 130], [], [], [], [], [], [], [], [], [], [], [none, some 132, some 133, some 134, some 135], [], [], [some 136, some 137, some 138, some 139], [some 140, some 141, some 142, some 143, some 144, some 145], [], [], [], [], [], [], [], [], [], [], [none, some 147, some 148, some 149, some 150], [], [], [some 151, some 152, some 153, some 154], [some 155, some 156, some 157, some 158, some 159, some 160], [], [], [], [], [], [], [], [], [], [], [some 162, none, none, none, none, none, none], [], [some 164, none, none, none, none, none, none], [], [some 166], [some 167, some 168, some 169, some 170, some 171], [], [], [], [], [], [some 173], [some 174, some 175, some 176, some 177, some 178], [], [], [], [], [], [some 180], [some 181, some 182, some 183, some 184, some 185], [], [], [], [], [], [some 187], [some 188, some 189, some 190, some 191, some 192], [], [], [], [], [], [], [], [], [], [], [], [], [], [], [], [], [], [], [], [], [], [], [], [], []]
def am_G (a k : Nat) : Option Nat := (am_grL.getD a []).getD k none
def am_n0 : Nat := 193
def am_fiL : List (List Bool) := [[true, true, true, true], [false, false, false, false], [false, true, true], [false], [false, true, true, true, true, true, true], [true, true, true, true, true, true, true, true], [true, false, false, false, false], [false, true, true, true, true, true], [true, false, false, false, true], [false, false, true, false, true, false, false, false, false, false, false, false], [false, true, true, true, false, true]]
def am_fi (ci k : Nat) : Bool := (am_fiL.getD ci []).getD k false
def am_fwL : List (List Bool) := [[true, true, true, true], [false, false, false, false], [false, true, true], [false], [false, true, true, true, true, true, true], [true, true, true, true, true, true, true, true], [true, false, false, false, false], [false, true, true, true, true, true], [false, false, false, false, true], [false, false, true, false, true, false, false, false, false, false, false, false], [false, true, true, true, false, true]]
def am_fw (ci k : Nat) : Bool := (am_fwL.getD ci []).getD k false
def am_nFL : List Nat := [4, 4, 3, 1, 7, 8, 5, 6, 5, 12, 6]
def am_nF (ci : Nat) : Nat := am_nFL.getD ci 0
def am_tyL : List FieldType := [.int, .boolean, .object "SharedConsole$Recording", .object "SharedConsole$Desk", .object "SharedConsole$Seat", .object "SharedConsole$State", .array .int]
def am_sxL : List (Nat × List Int32) := [(205, [10, 0]), (206, [1, 0]), (207, [99, 1])]
def am_sx (a i : Nat) : Int32 := ((am_lk am_sxL a).getD []).getD i 0
def am_sfL : List (Nat × String × String × String) := [(205, "SharedConsole", "INITIAL_SETTING", "[I"), (206, "SharedConsole", "LEAST_SETTING", "[I"), (207, "SharedConsole", "MOST_SETTING", "[I")]
def am_stL : List String := ["session", "user", "set", "wait", "shrink"]
def am_s0 : Nat := 208
def am_yL : List MethodName := [⟨"java/lang/Math", "max", "(II)I"⟩, ⟨"java/lang/Math", "min", "(II)I"⟩, yJ9_floorMod_7cf53, ⟨"java/lang/String", "length", "()I"⟩, ⟨"java/lang/String", "charAt", "(I)C"⟩, yX0_handOver, yX0_restart, yX0_copyFrom, yX1_read, yX1_restart, yX1_readStatement, yX1_readDeclaration, yX1_readSetting, yX1_readNumber, yX2_keep, yX2_forget, yX3_number, yX3_putTyped, yX3_putSized, yX3_timeBetween, yX3_put, yX3_putOrigin, yX4_restart, yX4_cursorLine, yX4_symbolInLine, yX4_symbolOnScreen, yX4_fullPlaces, yX4_play, yX4_resize, yX4_goDown, yX4_clear, yX4_sendUppermostRowUp, yX4_addRow, yX4_put, yX4_emptyFrom, yX4_startOf, yX5_watches, yX5_windowSize, yX5_restart, yX5_copyFrom, yX6_restart, yX6_copyFrom, yX7_append, yX7_open, yX7_advance, yX7_tokenLength, yX7_isWord, yX7_letters, yX7_number, yX7_kindOf, yX7_byteAt, yX8_has, yX8_isFull, yX8_indexOf, yX8_sizeOf, yX8_add, yX8_copyFrom, yX9_feed, yX9_load, yX9_count, yX9_session, yX9_event, yX9_screen, yX9_at, yX9_above, yX9_user, yX9_shown, yX9_cursorRow, yX9_firstDifference, yX9_fullness, yX9_attach, yX9_detach, yX9_goTo, yX9_goLive, yX9_replay, yX9_lookBack, yX9_window, yX9_type, yX9_request, yX9_answer, yX9_yield, yX9_pass, yX9_setSetting, yX9_write, yX9_outputAt, yX9_deskOf, yX9_recordingOf, yX9_seatOf, yX9_whyNotAWatcher, yX9_usersWhoWatch, yX9_usersWhoWatchSession, yX9_draw, yX9_positionOf, yX9_uppermostLine, yX9_userWithLeastWindow, yX9_sizeThatIsRight, yX9_recordRightSizes, yX9_lastSize, yX9_reasonNotToType, yX9_controlsItsSession, yX9_loseControl, yX9_grantOldRequests, yX9_putOut, yX9_characterFor, yX9_groupAt, yX9_groupsIn]
def am_y (m : Nat) : MethodName := am_yL.getD m ⟨"", "", ""⟩
def am_ccL : List ByteArray := [prog_19_method_65_code, prog_19_method_69_code, cJ9_floorMod_7cf53, prog_21_method_54_code, prog_21_method_56_code, cX0_handOver, cX0_restart, cX0_copyFrom, cX1_read, cX1_restart, cX1_readStatement, cX1_readDeclaration, cX1_readSetting, cX1_readNumber, cX2_keep, cX2_forget, cX3_number, cX3_putTyped, cX3_putSized, cX3_timeBetween, cX3_put, cX3_putOrigin, cX4_restart, cX4_cursorLine, cX4_symbolInLine, cX4_symbolOnScreen, cX4_fullPlaces, cX4_play, cX4_resize, cX4_goDown, cX4_clear, cX4_sendUppermostRowUp, cX4_addRow, cX4_put, cX4_emptyFrom, cX4_startOf, cX5_watches, cX5_windowSize, cX5_restart, cX5_copyFrom, cX6_restart, cX6_copyFrom, cX7_append, cX7_open, cX7_advance, cX7_tokenLength, cX7_isWord, cX7_letters, cX7_number, cX7_kindOf, cX7_byteAt, cX8_has, cX8_isFull, cX8_indexOf, cX8_sizeOf, cX8_add, cX8_copyFrom, cX9_feed, cX9_load, cX9_count, cX9_session, cX9_event, cX9_screen, cX9_at, cX9_above, cX9_user, cX9_shown, cX9_cursorRow, cX9_firstDifference, cX9_fullness, cX9_attach, cX9_detach, cX9_goTo, cX9_goLive, cX9_replay, cX9_lookBack, cX9_window, cX9_type, cX9_request, cX9_answer, cX9_yield, cX9_pass, cX9_setSetting, cX9_write, cX9_outputAt, cX9_deskOf, cX9_recordingOf, cX9_seatOf, cX9_whyNotAWatcher, cX9_usersWhoWatch, cX9_usersWhoWatchSession, cX9_draw, cX9_positionOf, cX9_uppermostLine, cX9_userWithLeastWindow, cX9_sizeThatIsRight, cX9_recordRightSizes, cX9_lastSize, cX9_reasonNotToType, cX9_controlsItsSession, cX9_loseControl, cX9_grantOldRequests, cX9_putOut, cX9_characterFor, cX9_groupAt, cX9_groupsIn]
def am_cc (m : Nat) : ByteArray := am_ccL.getD m ⟨#[]⟩
def am_mlL : List Nat := [2, 2, 3, 1, 2, 1, 1, 2, 4, 2, 3, 6, 4, 4, 2, 1, 3, 5, 5, 3, 5, 4, 4, 1, 3, 3, 4, 4, 4, 1, 2, 1, 1, 2, 5, 2, 3, 2, 3, 2, 4, 3, 3, 2, 1, 1, 3, 3, 3, 1, 2, 2, 1, 3, 3, 4, 3, 6, 3, 2, 4, 6, 4, 5, 5, 4, 5, 4, 8, 4, 4, 4, 6, 5, 6, 6, 6, 8, 4, 6, 4, 4, 4, 6, 2, 2, 2, 2, 2, 3, 5, 6, 6, 2, 7, 4, 6, 5, 4, 3, 4, 4, 2, 1, 2, 5]
def am_ml (m : Nat) : Nat := am_mlL.getD m 0
def am_reL : List (Option FieldType) := [some .int, some .int, some .int, some .int, some .char, none, none, none, some .int, none, some .int, some .int, some .int, some .int, none, none, some .int, none, none, some .int, none, none, none, some .int, some .int, some .int, some .int, none, none, none, none, none, none, none, none, some .int, some .boolean, some .int, none, none, none, none, none, none, none, some .int, some .boolean, some .int, some .int, some .int, some .int, some .boolean, some .boolean, some .int, some .int, none, none, some .int, some .int, some .int, some .int, some .int, some .int, some .int, some .int, some .int, some .int, some .int, some .int, some .float, some .int, some .int, some .int, some .int, some .int, some .int, some .int, some .int, some .int, some .int, some .int, some .int, some .int, some .int, some .int, some (.object "SharedConsole$Desk"), some (.object "SharedConsole$Recording"), some (.object "SharedConsole$Seat"), some .int, some .int, some .int, none, some .int, some .int, some .int, some .int, none, some .int, some .int, some .boolean, none, some .int, none, some .int, some .int, some .int]
def am_re (m : Nat) : Option FieldType := am_reL.getD m none
def am_rk (m : Nat) : Nat := match am_re m with
  | some .int => 1
  | some .boolean => 2
  | some .float => 3
  | some (.object _) => 4
  | none => 5
  | _ => 0
def am_owL : List Nat := [11, 11, 11, 12, 12, 0, 0, 0, 1, 1, 1, 1, 1, 1, 2, 2, 3, 3, 3, 3, 3, 3, 4, 4, 4, 4, 4, 4, 4, 4, 4, 4, 4, 4, 4, 4, 5, 5, 5, 5, 6, 6, 7, 7, 7, 7, 7, 7, 7, 7, 7, 8, 8, 8, 8, 8, 8, 9, 9, 9, 9, 9, 9, 9, 9, 9, 9, 9, 9, 9, 9, 9, 9, 9, 9, 9, 9, 9, 9, 9, 9, 9, 9, 9, 9, 9, 9, 9, 9, 9, 9, 9, 9, 9, 9, 9, 9, 9, 9, 9, 9, 9, 9, 9, 9, 9]
def am_ow (m : Nat) : Nat := am_owL.getD m 99
def am_RL : List String := [RX0, RX1, RX2, RX3, RX4, RX5, RX6, RX7, RX8, RX9, RX10, RJ9, "java/lang/String"]
def am_R (i : Nat) : String := am_RL.getD i ""
def am_own (m : Nat) : String := am_R (am_ow m)
def am_naL : List Nat := [2, 2, 2, 1, 2, 1, 1, 2, 2, 1, 2, 3, 2, 4, 2, 1, 3, 5, 5, 3, 5, 4, 3, 1, 3, 3, 1, 3, 3, 1, 1, 1, 1, 2, 3, 2, 3, 2, 3, 2, 3, 2, 2, 2, 1, 1, 2, 1, 1, 1, 2, 2, 1, 2, 3, 4, 2, 6, 2, 2, 3, 4, 4, 5, 5, 3, 4, 2, 4, 3, 3, 2, 3, 2, 4, 3, 4, 3, 2, 3, 2, 2, 3, 2, 2, 2, 2, 2, 2, 1, 2, 4, 2, 2, 3, 3, 1, 3, 3, 3, 3, 1, 2, 1, 2, 2]
def am_na (m : Nat) : Nat := am_naL.getD m 0
def am_frL : List Nat := [0, 0, 0, 3, 6, 0, 0, 0, 10, 0, 9, 3, 8, 2, 2, 0, 0, 1, 1, 1, 0, 0, 4, 0, 2, 3, 4, 5, 4, 4, 3, 1, 3, 2, 2, 1, 0, 0, 0, 0, 2, 1, 0, 2, 1, 0, 7, 1, 1, 0, 0, 0, 0, 0, 1, 1, 2, 1, 11, 8, 7, 7, 8, 8, 8, 8, 8, 8, 8, 8, 10, 10, 10, 10, 10, 10, 10, 10, 10, 10, 10, 10, 10, 8, 0, 6, 6, 6, 7, 7, 7, 7, 7, 1, 7, 8, 9, 7, 7, 7, 7, 7, 0, 0, 0, 1]
def am_fr (m : Nat) : Nat := am_frL.getD m 0
def am_loL : List Nat := [0, 0, 0, 60, 140, 0, 0, 0, 228, 0, 206, 66, 183, 43, 43, 0, 0, 24, 24, 22, 0, 0, 87, 0, 43, 65, 87, 110, 87, 87, 67, 22, 67, 43, 43, 22, 0, 0, 0, 0, 43, 21, 0, 41, 21, 0, 161, 21, 21, 0, 0, 0, 0, 0, 21, 20, 43, 22, 251, 143, 121, 121, 158, 158, 158, 146, 158, 158, 158, 158, 195, 195, 195, 195, 195, 195, 195, 195, 195, 195, 195, 195, 195, 158, 0, 100, 100, 100, 121, 121, 121, 133, 121, 21, 121, 147, 170, 121, 121, 121, 121, 121, 0, 0, 0, 21]
def am_lo (m : Nat) : Nat := am_loL.getD m 0
def am_stat (m : Nat) : Bool := List.contains [0, 1, 2, 49, 103, 104, 105] m
def am_mk0 : List (Nat × Nat × Nat × List Nat) := []
def am_mk1 : List (Nat × Nat × Nat × List Nat) := [(31, 0, 9, [784, 786, 5, 44]), (40, 0, 10, [789, 791, 6, 44]), (44, 0, 44, [812, 770, 771, 43]), (55, 0, 46, [794, 795, 796, 43]), (59, 0, 11, [804, 806, 7, 44]), (67, 0, 12, [838, 840, 9, 44]), (70, 0, 52, [808, 809, 810, 45]), (74, 0, 45, [813, 799, 800, 43]), (78, 0, 47, [814, 815, 816, 43]), (81, 0, 53, [818, 819, 820, 45]), (85, 0, 13, [822, 824, 8, 44]), (89, 0, 48, [826, 827, 828, 43]), (92, 0, 55, [831, 832, 833, 45])]
def am_mk2 : List (Nat × Nat × Nat × List Nat) := [(25, 1, 2, [904, 905, 57]), (31, 0, 41, [907, 908, 909, 46]), (35, 1, 1, [919, 526, 57])]
def am_mk3 : List (Nat × Nat × Nat × List Nat) := [(16, 0, 20, [957, 959, 17, 51]), (20, 0, 21, [961, 963, 18, 51]), (24, 0, 16, [892, 893, 894, 51])]
def am_mk4 : List (Nat × Nat × Nat × List Nat) := [(34, 0, 32, [1128, 1130, 31, 50]), (37, 0, 35, [1136, 1138, 33, 50]), (41, 0, 24, [1180, 1181, 1182, 50]), (45, 0, 25, [1197, 1177, 1178, 50]), (57, 0, 16, [1146, 893, 894, 51]), (60, 0, 28, [1147, 1149, 34, 50]), (64, 0, 29, [1156, 1158, 36, 50]), (67, 1, 0, [1141, 508, 57]), (72, 0, 30, [1160, 1162, 37, 50]), (75, 0, 33, [1164, 1166, 38, 50]), (79, 0, 34, [1132, 1134, 32, 50]), (82, 1, 1, [1151, 526, 57]), (85, 0, 31, [1152, 1154, 35, 50]), (88, 1, 2, [1140, 905, 57]), (91, 0, 23, [1168, 1169, 1170, 50])]
def am_mk5 : List (Nat × Nat × Nat × List Nat) := []
def am_mk6 : List (Nat × Nat × Nat × List Nat) := [(39, 0, 6, [857, 858, 859, 47]), (42, 0, 54, [861, 157, 158, 45]), (48, 0, 38, [862, 863, 864, 48]), (51, 0, 7, [911, 912, 913, 47]), (55, 0, 39, [915, 916, 917, 48])]
def am_mk7 : List (Nat × Nat × Nat × List Nat) := [(31, 0, 44, [769, 770, 771, 43]), (34, 0, 50, [773, 775, 4, 43]), (38, 1, 49, [777, 778, 43]), (41, 0, 45, [798, 799, 800, 43]), (45, 0, 3, [802, 563, 564, 54]), (49, 0, 4, [803, 739, 740, 54]), (53, 1, 1, [830, 526, 57])]
def am_mk8 : List (Nat × Nat × Nat × List Nat) := [(28, 0, 51, [160, 82, 83, 45]), (32, 0, 52, [835, 809, 810, 45]), (36, 0, 55, [852, 832, 833, 45])]
def am_mk9 : List (Nat × Nat × Nat × List Nat) := [(80, 0, 42, [757, 758, 759, 43]), (83, 0, 43, [765, 766, 767, 43]), (86, 0, 8, [780, 781, 782, 44]), (94, 0, 56, [848, 849, 850, 45]), (102, 0, 40, [853, 854, 855, 46]), (106, 0, 15, [866, 867, 868, 49]), (112, 0, 89, [72, 74, 0, 42]), (125, 0, 85, [152, 154, 3, 42]), (129, 0, 54, [156, 157, 158, 45]), (147, 0, 86, [884, 886, 11, 42]), (151, 0, 16, [952, 893, 894, 51]), (155, 0, 91, [1120, 1122, 30, 42]), (174, 0, 25, [1176, 1177, 1178, 50]), (177, 0, 24, [1188, 1181, 1182, 50]), (180, 0, 87, [77, 79, 1, 42]), (194, 0, 92, [880, 882, 10, 42]), (204, 0, 93, [1205, 1207, 39, 42]), (207, 0, 23, [1209, 1169, 1170, 50]), (210, 0, 36, [940, 941, 942, 48]), (214, 0, 95, [932, 934, 14, 42]), (217, 0, 94, [936, 938, 15, 42]), (220, 0, 98, [986, 988, 20, 42]), (224, 1, 0, [1210, 508, 57]), (235, 0, 19, [888, 889, 890, 51]), (238, 1, 105, [980, 981, 42]), (241, 0, 27, [1142, 1143, 1144, 50]), (249, 1, 1, [1238, 526, 57]), (252, 0, 26, [1193, 1194, 1195, 50]), (261, 0, 51, [81, 82, 83, 45]), (264, 0, 14, [900, 901, 902, 49]), (268, 0, 100, [920, 922, 12, 42]), (272, 0, 96, [928, 930, 13, 42]), (275, 0, 90, [965, 967, 19, 42]), (278, 0, 88, [1010, 1012, 22, 42]), (281, 1, 104, [983, 984, 42]), (284, 0, 17, [990, 991, 992, 51]), (288, 0, 5, [924, 925, 926, 47]), (291, 0, 99, [998, 1000, 21, 42]), (295, 0, 101, [1044, 1046, 23, 42]), (307, 1, 103, [1219, 1220, 42]), (310, 0, 102, [1222, 1224, 40, 42]), (324, 0, 22, [1124, 1125, 1126, 50]), (327, 0, 37, [944, 945, 946, 48]), (331, 0, 97, [948, 950, 16, 42]), (334, 0, 18, [953, 954, 955, 51])]
def am_mk10 : List (Nat × Nat × Nat × List Nat) := []
def am_mk11 : List (Nat × Nat × Nat × List Nat) := []
def am_mk12 : List (Nat × Nat × Nat × List Nat) := []
def am_mkL : List (List (Nat × Nat × Nat × List Nat)) := [am_mk0, am_mk1, am_mk2, am_mk3, am_mk4, am_mk5, am_mk6, am_mk7, am_mk8, am_mk9, am_mk10, am_mk11, am_mk12]
def am_mk (m ix : Nat) : Option (Nat × Nat) := (am_lk (am_mkL.getD (am_ow m) []) ix).map (fun q => (q.1, q.2.1))
def am_fk0 : List (Nat × Nat × Nat × Nat) := [(9, 0, 0, 273), (15, 0, 1, 275), (18, 0, 2, 277), (21, 0, 3, 279)]
def am_fk1 : List (Nat × Nat × Nat × Nat) := [(14, 1, 0, 235), (20, 1, 1, 237), (23, 1, 2, 239), (27, 1, 3, 241), (34, 7, 3, 187), (47, 8, 4, 222)]
def am_fk2 : List (Nat × Nat × Nat × Nat) := [(11, 2, 0, 358), (17, 2, 1, 359), (21, 2, 2, 360)]
def am_fk3 : List (Nat × Nat × Nat × Nat) := [(13, 3, 0, 408)]
def am_fk4 : List (Nat × Nat × Nat × Nat) := [(11, 4, 0, 374), (15, 4, 1, 375), (19, 4, 2, 376), (22, 4, 3, 378), (25, 4, 4, 380), (28, 4, 5, 382), (31, 4, 6, 384)]
def am_fk5 : List (Nat × Nat × Nat × Nat) := [(9, 5, 0, 295), (15, 5, 1, 297), (18, 5, 2, 299), (21, 5, 3, 301), (24, 5, 4, 303), (27, 5, 5, 305), (30, 5, 6, 307), (33, 5, 7, 309)]
def am_fk6 : List (Nat × Nat × Nat × Nat) := [(9, 6, 0, 328), (15, 6, 1, 330), (19, 6, 2, 332), (24, 6, 3, 334), (30, 6, 4, 336)]
def am_fk7 : List (Nat × Nat × Nat × Nat) := [(9, 7, 0, 182), (15, 7, 1, 183), (19, 7, 2, 185), (22, 7, 3, 186), (25, 7, 4, 188), (28, 7, 5, 190)]
def am_fk8 : List (Nat × Nat × Nat × Nat) := [(9, 8, 1, 218), (15, 8, 2, 219), (18, 8, 3, 220), (21, 8, 4, 221), (25, 8, 0, 217)]
def am_fk9 : List (Nat × Nat × Nat × Nat) := [(12, 9, 0, 412), (19, 9, 1, 413), (23, 9, 2, 414), (27, 9, 3, 415), (31, 9, 4, 416), (39, 9, 5, 417), (43, 9, 6, 418), (48, 9, 7, 419), (55, 9, 8, 420), (62, 9, 9, 421), (69, 9, 10, 422), (73, 9, 11, 423), (77, 7, 1, 184), (90, 7, 4, 189), (93, 1, 0, 236), (98, 1, 1, 238), (99, 1, 2, 240), (109, 8, 4, 223), (116, 6, 0, 329), (124, 6, 1, 331), (133, 0, 0, 274), (138, 0, 1, 276), (141, 0, 2, 278), (144, 0, 3, 280), (159, 4, 3, 379), (162, 4, 4, 381), (165, 4, 5, 383), (168, 4, 6, 385), (171, 4, 2, 377), (184, 5, 0, 296), (187, 5, 1, 298), (188, 5, 2, 300), (191, 5, 3, 302), (198, 5, 7, 310), (201, 5, 6, 308), (229, 5, 4, 304), (232, 5, 5, 306), (258, 6, 2, 333), (313, 6, 3, 335), (320, 6, 4, 337)]
def am_fk10 : List (Nat × Nat × Nat × Nat) := []
def am_fk11 : List (Nat × Nat × Nat × Nat) := []
def am_fk12 : List (Nat × Nat × Nat × Nat) := []
def am_fkL : List (List (Nat × Nat × Nat × Nat)) := [am_fk0, am_fk1, am_fk2, am_fk3, am_fk4, am_fk5, am_fk6, am_fk7, am_fk8, am_fk9, am_fk10, am_fk11, am_fk12]
def am_fk (m ix : Nat) : Option (Nat × Nat) := (am_lk (am_fkL.getD (am_ow m) []) ix).map (fun q => (q.1, q.2.1))
def am_skL : List (List (Nat × Nat × Nat × Nat)) := [[], [(50, 205, 1, 788), (100, 206, 1, 844), (103, 207, 1, 846)], [], [], [], [], [(34, 205, 1, 266)], [], [], [(298, 206, 0, 1038), (301, 207, 0, 1039)], [], [], []]
def am_sk (m ix : Nat) : Option Nat := (am_lk (am_skL.getD (am_ow m) []) ix).map (fun q => q.1)
def am_ckL : List (List (Nat × (Int32 ⊕ Nat) × Nat)) := [[], [(53, .inr 208, 793), (63, .inr 209, 836), (65, .inr 210, 837), (96, .inr 211, 842), (98, .inr 212, 843)], [], [], [], [], [], [], [], [], [], [], []]
def am_cst (m ix : Nat) : Option (Int32 ⊕ Nat) := (am_lk (am_ckL.getD (am_ow m) []) ix).map (fun q => q.1)
def am_thL : List (Nat × Nat × Nat) := [(85, 23, 317), (86, 20, 317), (87, 23, 317), (91, 16, 317)]
def am_thr (m pc ix : Nat) : Bool := am_thL.any (fun q => Nat.beq q.1 m && Nat.beq q.2.1 pc && Nat.beq q.2.2 ix)
def am_cwL : List Nat := [509, 527, 906, 565, 741, 927, 860, 914, 783, 787, 792, 807, 841, 825, 903, 869, 895, 993, 956, 891, 960, 964, 1127, 1171, 1183, 1179, 1196, 1145, 1150, 1159, 1163, 1155, 1131, 1167, 1135, 1139, 943, 947, 865, 918, 856, 910, 760, 768, 772, 801, 797, 817, 829, 779, 776, 84, 811, 821, 159, 834, 851, 756, 764, 71, 151, 1094, 1119, 1175, 1187, 879, 1204, 1214, 1237, 1192, 899, 1033, 1009, 1017, 1021, 1025, 1029, 979, 972, 997, 1005, 1043, 1037, 1218, 1230, 155, 887, 80, 1013, 76, 968, 1123, 883, 1208, 939, 935, 931, 951, 989, 1001, 923, 1047, 1225, 1221, 985, 982]
def am_AT : List Cond := lw_tbl.filter goodWord
def am_hs (i : Nat) (w : Cond) : Bool := decide (lw_tbl[i]? = some w) && goodWord w
theorem am_hs_in {i : Nat} {w : Cond} (h : am_hs i w = true) : w ∈ am_AT := by
  simp only [am_hs, Bool.and_eq_true, decide_eq_true_eq] at h
  exact List.mem_filter.mpr ⟨List.mem_of_getElem? h.1, h.2⟩
def tMMAX : List (Nat × Instr × Nat) := [(0, .iload_n 0, 1), (1, .iload_n 1, 1), (2, .if_icmp .lt 7, 3), (5, .iload_n 0, 1), (6, .goto 4, 3), (9, .iload_n 1, 1), (10, .ireturn, 1)]
def tMMIN : List (Nat × Instr × Nat) := [(0, .iload_n 0, 1), (1, .iload_n 1, 1), (2, .if_icmp .gt 7, 3), (5, .iload_n 0, 1), (6, .goto 4, 3), (9, .iload_n 1, 1), (10, .ireturn, 1)]
def tJ9_floorMod_7cf53 : List (Nat × Instr × Nat) := [(0, .iload_n 0, 1), (1, .iload_n 1, 1), (2, .irem, 1), (3, .istore_n 2, 1), (4, .iload_n 0, 1), (5, .iload_n 1, 1), (6, .ixor, 1), (7, .ifCond .ge 11, 3), (10, .iload_n 2, 1), (11, .ifCond .eq 7, 3), (14, .iload_n 2, 1), (15, .iload_n 1, 1), (16, .iadd, 1), (17, .ireturn, 1), (18, .iload_n 2, 1), (19, .ireturn, 1)]
def tX0_handOver : List (Nat × Instr × Nat) := [(0, .aload_n 0, 1), (1, .aload_n 0, 1), (2, .getfield 18, 3), (5, .putfield 15, 3), (8, .aload_n 0, 1), (9, .iconst (-1), 1), (10, .putfield 18, 3), (13, .return_, 1)]
def tX0_restart : List (Nat × Instr × Nat) := [(0, .aload_n 0, 1), (1, .iconst 0, 1), (2, .putfield 9, 3), (5, .aload_n 0, 1), (6, .iconst (-1), 1), (7, .putfield 15, 3), (10, .aload_n 0, 1), (11, .iconst (-1), 1), (12, .putfield 18, 3), (15, .aload_n 0, 1), (16, .iconst 0, 1), (17, .putfield 21, 3), (20, .return_, 1)]
def tX0_copyFrom : List (Nat × Instr × Nat) := [(0, .aload_n 0, 1), (1, .aload_n 1, 1), (2, .getfield 9, 3), (5, .putfield 9, 3), (8, .aload_n 0, 1), (9, .aload_n 1, 1), (10, .getfield 15, 3), (13, .putfield 15, 3), (16, .aload_n 0, 1), (17, .aload_n 1, 1), (18, .getfield 18, 3), (21, .putfield 18, 3), (24, .aload_n 0, 1), (25, .aload_n 1, 1), (26, .getfield 21, 3), (29, .putfield 21, 3), (32, .return_, 1)]
def tX1_read : List (Nat × Instr × Nat) := [(0, .aload_n 0, 1), (1, .invokevirtual 31, 3), (4, .iconst 0, 1), (5, .istore_n 2, 1), (6, .iload_n 2, 1), (7, .sipush 600, 3), (10, .if_icmp .ge 32, 3), (13, .aload_n 1, 1), (14, .getfield 34, 3), (17, .ifCond .eq 25, 3), (20, .aload_n 0, 1), (21, .aload_n 1, 1), (22, .invokevirtual 40, 3), (25, .istore_n 3, 1), (26, .iload_n 3, 1), (27, .ifCond .eq 5, 3), (30, .iload_n 3, 1), (31, .ireturn, 1), (32, .iinc 2 1, 3), (35, .aload_n 1, 1), (36, .invokevirtual 44, 3), (39, .goto (-33), 3), (42, .iload_n 2, 1), (43, .ireturn, 1)]
def tX1_restart : List (Nat × Instr × Nat) := [(0, .aload_n 0, 1), (1, .getfield 14, 3), (4, .iconst 0, 1), (5, .putfield 47, 3), (8, .aload_n 0, 1), (9, .getfield 20, 3), (12, .iconst 0, 1), (13, .putfield 47, 3), (16, .iconst 0, 1), (17, .istore_n 1, 1), (18, .iload_n 1, 1), (19, .iconst 2, 1), (20, .if_icmp .ge 27, 3), (23, .aload_n 0, 1), (24, .getfield 23, 3), (27, .iload_n 1, 1), (28, .getstatic 50, 3), (31, .iload_n 1, 1), (32, .iaload, 1), (33, .iastore, 1), (34, .aload_n 0, 1), (35, .getfield 27, 3), (38, .iload_n 1, 1), (39, .iconst 0, 1), (40, .bastore, 1), (41, .iinc 1 1, 3), (44, .goto (-26), 3), (47, .return_, 1)]
def tX1_readStatement : List (Nat × Instr × Nat) := [(0, .aload_n 1, 1), (1, .ldc 53, 2), (3, .invokevirtual 55, 3), (6, .ifCond .eq 16, 3), (9, .aload_n 0, 1), (10, .aload_n 1, 1), (11, .aload_n 0, 1), (12, .getfield 14, 3), (15, .invokevirtual 59, 3), (18, .istore_n 2, 1), (19, .goto 46, 3), (22, .aload_n 1, 1), (23, .ldc 63, 2), (25, .invokevirtual 55, 3), (28, .ifCond .eq 16, 3), (31, .aload_n 0, 1), (32, .aload_n 1, 1), (33, .aload_n 0, 1), (34, .getfield 20, 3), (37, .invokevirtual 59, 3), (40, .istore_n 2, 1), (41, .goto 24, 3), (44, .aload_n 1, 1), (45, .ldc 65, 2), (47, .invokevirtual 55, 3), (50, .ifCond .eq 12, 3), (53, .aload_n 0, 1), (54, .aload_n 1, 1), (55, .invokevirtual 67, 3), (58, .istore_n 2, 1), (59, .goto 6, 3), (62, .bipush (-11), 2), (64, .istore_n 2, 1), (65, .iload_n 2, 1), (66, .ifCond .eq 5, 3), (69, .iload_n 2, 1), (70, .ireturn, 1), (71, .aload_n 1, 1), (72, .invokevirtual 44, 3), (75, .aload_n 1, 1), (76, .getfield 34, 3), (79, .iconst 3, 1), (80, .if_icmp .ne 7, 3), (83, .iconst 0, 1), (84, .goto 5, 3), (87, .bipush (-11), 2), (89, .ireturn, 1)]
def tX1_readDeclaration : List (Nat × Instr × Nat) := [(0, .aload_n 2, 1), (1, .invokevirtual 70, 3), (4, .ifCond .eq 6, 3), (7, .bipush (-15), 2), (9, .ireturn, 1), (10, .aload_n 1, 1), (11, .invokevirtual 44, 3), (14, .aload_n 1, 1), (15, .getfield 34, 3), (18, .iconst 1, 1), (19, .if_icmp .ne 12, 3), (22, .aload_n 1, 1), (23, .invokevirtual 74, 3), (26, .bipush 6, 2), (28, .if_icmp .le 6, 3), (31, .bipush (-11), 2), (33, .ireturn, 1), (34, .aload_n 1, 1), (35, .invokevirtual 78, 3), (38, .istore_n 3, 1), (39, .aload_n 2, 1), (40, .iload_n 3, 1), (41, .invokevirtual 81, 3), (44, .iconst (-1), 1), (45, .if_icmp .eq 6, 3), (48, .bipush (-14), 2), (50, .ireturn, 1), (51, .aload_n 0, 1), (52, .aload_n 1, 1), (53, .iconst 2, 1), (54, .bipush 16, 2), (56, .invokevirtual 85, 3), (59, .istore 4, 2), (61, .iload 4, 2), (63, .ifCond .eq 6, 3), (66, .iload 4, 2), (68, .ireturn, 1), (69, .aload_n 1, 1), (70, .invokevirtual 89, 3), (73, .istore 5, 2), (75, .aload_n 0, 1), (76, .aload_n 1, 1), (77, .iconst 1, 1), (78, .bipush 6, 2), (80, .invokevirtual 85, 3), (83, .istore 4, 2), (85, .iload 4, 2), (87, .ifCond .eq 6, 3), (90, .iload 4, 2), (92, .ireturn, 1), (93, .aload_n 2, 1), (94, .iload_n 3, 1), (95, .iload 5, 2), (97, .aload_n 1, 1), (98, .invokevirtual 89, 3), (101, .invokevirtual 92, 3), (104, .iconst 0, 1), (105, .ireturn, 1)]
def tX1_readSetting : List (Nat × Instr × Nat) := [(0, .aload_n 1, 1), (1, .invokevirtual 44, 3), (4, .aload_n 1, 1), (5, .ldc 96, 2), (7, .invokevirtual 55, 3), (10, .ifCond .ne 15, 3), (13, .aload_n 1, 1), (14, .ldc 98, 2), (16, .invokevirtual 55, 3), (19, .ifCond .ne 6, 3), (22, .bipush (-11), 2), (24, .ireturn, 1), (25, .aload_n 1, 1), (26, .ldc 96, 2), (28, .invokevirtual 55, 3), (31, .ifCond .eq 7, 3), (34, .iconst 0, 1), (35, .goto 4, 3), (38, .iconst 1, 1), (39, .istore_n 2, 1), (40, .aload_n 0, 1), (41, .getfield 27, 3), (44, .iload_n 2, 1), (45, .baload, 1), (46, .ifCond .eq 6, 3), (49, .bipush (-14), 2), (51, .ireturn, 1), (52, .aload_n 0, 1), (53, .aload_n 1, 1), (54, .getstatic 100, 3), (57, .iload_n 2, 1), (58, .iaload, 1), (59, .getstatic 103, 3), (62, .iload_n 2, 1), (63, .iaload, 1), (64, .invokevirtual 85, 3), (67, .istore_n 3, 1), (68, .iload_n 3, 1), (69, .ifCond .eq 5, 3), (72, .iload_n 3, 1), (73, .ireturn, 1), (74, .aload_n 0, 1), (75, .getfield 27, 3), (78, .iload_n 2, 1), (79, .iconst 1, 1), (80, .bastore, 1), (81, .aload_n 0, 1), (82, .getfield 23, 3), (85, .iload_n 2, 1), (86, .aload_n 1, 1), (87, .invokevirtual 89, 3), (90, .iastore, 1), (91, .iconst 0, 1), (92, .ireturn, 1)]
def tX1_readNumber : List (Nat × Instr × Nat) := [(0, .aload_n 1, 1), (1, .invokevirtual 44, 3), (4, .aload_n 1, 1), (5, .getfield 34, 3), (8, .iconst 2, 1), (9, .if_icmp .eq 6, 3), (12, .bipush (-11), 2), (14, .ireturn, 1), (15, .aload_n 1, 1), (16, .invokevirtual 89, 3), (19, .iload_n 2, 1), (20, .if_icmp .lt 11, 3), (23, .aload_n 1, 1), (24, .invokevirtual 89, 3), (27, .iload_n 3, 1), (28, .if_icmp .le 8, 3), (31, .bipush (-12), 2), (33, .goto 4, 3), (36, .iconst 0, 1), (37, .ireturn, 1)]
def tX2_keep : List (Nat × Instr × Nat) := [(0, .aload_n 0, 1), (1, .getfield 11, 3), (4, .aload_n 0, 1), (5, .getfield 17, 3), (8, .bipush 8, 2), (10, .invokestatic 25, 3), (13, .aaload, 1), (14, .aload_n 1, 1), (15, .invokevirtual 31, 3), (18, .aload_n 0, 1), (19, .aload_n 0, 1), (20, .getfield 17, 3), (23, .iconst 1, 1), (24, .iadd, 1), (25, .bipush 8, 2), (27, .invokestatic 25, 3), (30, .putfield 17, 3), (33, .aload_n 0, 1), (34, .aload_n 0, 1), (35, .getfield 21, 3), (38, .iconst 1, 1), (39, .iadd, 1), (40, .bipush 8, 2), (42, .invokestatic 35, 3), (45, .putfield 21, 3), (48, .return_, 1)]
def tX2_forget : List (Nat × Instr × Nat) := [(0, .aload_n 0, 1), (1, .iconst 0, 1), (2, .putfield 21, 3), (5, .return_, 1)]
def tX3_number : List (Nat × Instr × Nat) := [(0, .iload_n 1, 1), (1, .ifCond .lt 19, 3), (4, .iload_n 1, 1), (5, .iconst 5, 1), (6, .if_icmp .ge 14, 3), (9, .iload_n 2, 1), (10, .ifCond .lt 10, 3), (13, .iload_n 2, 1), (14, .sipush 300, 3), (17, .if_icmp .lt 5, 3), (20, .iconst 0, 1), (21, .ireturn, 1), (22, .aload_n 0, 1), (23, .getfield 13, 3), (26, .iload_n 1, 1), (27, .aaload, 1), (28, .iload_n 2, 1), (29, .iaload, 1), (30, .ireturn, 1)]
def tX3_putTyped : List (Nat × Instr × Nat) := [(0, .aload_n 0, 1), (1, .iload_n 1, 1), (2, .iconst 0, 1), (3, .iload_n 2, 1), (4, .iconst 0, 1), (5, .invokevirtual 16, 3), (8, .aload_n 0, 1), (9, .iload_n 1, 1), (10, .iload_n 3, 1), (11, .iload 4, 2), (13, .invokevirtual 20, 3), (16, .return_, 1)]
def tX3_putSized : List (Nat × Instr × Nat) := [(0, .aload_n 0, 1), (1, .iload_n 1, 1), (2, .iconst 1, 1), (3, .iload_n 2, 1), (4, .iload_n 3, 1), (5, .invokevirtual 16, 3), (8, .aload_n 0, 1), (9, .iload_n 1, 1), (10, .iload 4, 2), (12, .iconst (-1), 1), (13, .invokevirtual 20, 3), (16, .return_, 1)]
def tX3_timeBetween : List (Nat × Instr × Nat) := [(0, .aload_n 0, 1), (1, .iconst 3, 1), (2, .iload_n 2, 1), (3, .invokevirtual 24, 3), (6, .aload_n 0, 1), (7, .iconst 3, 1), (8, .iload_n 1, 1), (9, .invokevirtual 24, 3), (12, .isub, 1), (13, .ireturn, 1)]
def tX3_put : List (Nat × Instr × Nat) := [(0, .iload_n 1, 1), (1, .ifCond .lt 38, 3), (4, .iload_n 1, 1), (5, .sipush 300, 3), (8, .if_icmp .ge 31, 3), (11, .aload_n 0, 1), (12, .getfield 13, 3), (15, .iconst 0, 1), (16, .aaload, 1), (17, .iload_n 1, 1), (18, .iload_n 2, 1), (19, .iastore, 1), (20, .aload_n 0, 1), (21, .getfield 13, 3), (24, .iconst 1, 1), (25, .aaload, 1), (26, .iload_n 1, 1), (27, .iload_n 3, 1), (28, .iastore, 1), (29, .aload_n 0, 1), (30, .getfield 13, 3), (33, .iconst 2, 1), (34, .aaload, 1), (35, .iload_n 1, 1), (36, .iload 4, 2), (38, .iastore, 1), (39, .return_, 1)]
def tX3_putOrigin : List (Nat × Instr × Nat) := [(0, .iload_n 1, 1), (1, .ifCond .lt 28, 3), (4, .iload_n 1, 1), (5, .sipush 300, 3), (8, .if_icmp .ge 21, 3), (11, .aload_n 0, 1), (12, .getfield 13, 3), (15, .iconst 3, 1), (16, .aaload, 1), (17, .iload_n 1, 1), (18, .iload_n 2, 1), (19, .iastore, 1), (20, .aload_n 0, 1), (21, .getfield 13, 3), (24, .iconst 4, 1), (25, .aaload, 1), (26, .iload_n 1, 1), (27, .iload_n 3, 1), (28, .iastore, 1), (29, .return_, 1)]
def tX4_restart : List (Nat × Instr × Nat) := [(0, .aload_n 0, 1), (1, .iconst 0, 1), (2, .putfield 15, 3), (5, .aload_n 0, 1), (6, .iconst 0, 1), (7, .putfield 19, 3), (10, .aload_n 0, 1), (11, .iload_n 1, 1), (12, .putfield 22, 3), (15, .aload_n 0, 1), (16, .iconst 0, 1), (17, .putfield 25, 3), (20, .aload_n 0, 1), (21, .iconst 0, 1), (22, .putfield 28, 3), (25, .aload_n 0, 1), (26, .iconst 0, 1), (27, .putfield 31, 3), (30, .iconst 0, 1), (31, .istore_n 3, 1), (32, .iload_n 3, 1), (33, .iload_n 2, 1), (34, .if_icmp .ge 13, 3), (37, .aload_n 0, 1), (38, .invokevirtual 34, 3), (41, .iinc 3 1, 3), (44, .goto (-12), 3), (47, .return_, 1)]
def tX4_cursorLine : List (Nat × Instr × Nat) := [(0, .aload_n 0, 1), (1, .getfield 19, 3), (4, .aload_n 0, 1), (5, .getfield 28, 3), (8, .iadd, 1), (9, .ireturn, 1)]
def tX4_symbolInLine : List (Nat × Instr × Nat) := [(0, .iload_n 1, 1), (1, .ifCond .lt 26, 3), (4, .iload_n 1, 1), (5, .aload_n 0, 1), (6, .getfield 19, 3), (9, .aload_n 0, 1), (10, .getfield 25, 3), (13, .iadd, 1), (14, .if_icmp .ge 13, 3), (17, .iload_n 2, 1), (18, .ifCond .lt 9, 3), (21, .iload_n 2, 1), (22, .bipush 16, 2), (24, .if_icmp .lt 6, 3), (27, .bipush 27, 2), (29, .ireturn, 1), (30, .aload_n 0, 1), (31, .getfield 11, 3), (34, .aload_n 0, 1), (35, .iload_n 1, 1), (36, .invokevirtual 37, 3), (39, .iload_n 2, 1), (40, .iadd, 1), (41, .iaload, 1), (42, .ireturn, 1)]
def tX4_symbolOnScreen : List (Nat × Instr × Nat) := [(0, .aload_n 0, 1), (1, .aload_n 0, 1), (2, .getfield 19, 3), (5, .iload_n 1, 1), (6, .iadd, 1), (7, .iload_n 2, 1), (8, .invokevirtual 41, 3), (11, .ireturn, 1)]
def tX4_fullPlaces : List (Nat × Instr × Nat) := [(0, .iconst 0, 1), (1, .istore_n 1, 1), (2, .iconst 0, 1), (3, .istore_n 2, 1), (4, .iload_n 2, 1), (5, .aload_n 0, 1), (6, .getfield 25, 3), (9, .if_icmp .ge 39, 3), (12, .iconst 0, 1), (13, .istore_n 3, 1), (14, .iload_n 3, 1), (15, .aload_n 0, 1), (16, .getfield 22, 3), (19, .if_icmp .ge 23, 3), (22, .aload_n 0, 1), (23, .iload_n 2, 1), (24, .iload_n 3, 1), (25, .invokevirtual 45, 3), (28, .bipush 27, 2), (30, .if_icmp .eq 6, 3), (33, .iinc 1 1, 3), (36, .iinc 3 1, 3), (39, .goto (-25), 3), (42, .iinc 2 1, 3), (45, .goto (-41), 3), (48, .iload_n 1, 1), (49, .ireturn, 1)]
def tX4_play : List (Nat × Instr × Nat) := [(0, .aload_n 1, 1), (1, .iconst 1, 1), (2, .iload_n 2, 1), (3, .invokevirtual 57, 3), (6, .istore_n 3, 1), (7, .aload_n 1, 1), (8, .iconst 0, 1), (9, .iload_n 2, 1), (10, .invokevirtual 57, 3), (13, .iconst 1, 1), (14, .if_icmp .ne 15, 3), (17, .aload_n 0, 1), (18, .iload_n 3, 1), (19, .aload_n 1, 1), (20, .iconst 2, 1), (21, .iload_n 2, 1), (22, .invokevirtual 57, 3), (25, .invokevirtual 60, 3), (28, .return_, 1), (29, .iload_n 3, 1), (30, .tableswitch 69 28 31 #[30, 37, 45, 62], 30), (60, .aload_n 0, 1), (61, .invokevirtual 64, 3), (64, .goto 40, 3), (67, .aload_n 0, 1), (68, .iconst 0, 1), (69, .putfield 31, 3), (72, .goto 32, 3), (75, .aload_n 0, 1), (76, .aload_n 0, 1), (77, .getfield 31, 3), (80, .iconst 1, 1), (81, .isub, 1), (82, .iconst 0, 1), (83, .invokestatic 67, 3), (86, .putfield 31, 3), (89, .goto 15, 3), (92, .aload_n 0, 1), (93, .invokevirtual 72, 3), (96, .goto 8, 3), (99, .aload_n 0, 1), (100, .iload_n 3, 1), (101, .invokevirtual 75, 3), (104, .aload_n 0, 1), (105, .getfield 31, 3), (108, .aload_n 0, 1), (109, .getfield 22, 3), (112, .if_icmp .lt 7, 3), (115, .aload_n 0, 1), (116, .invokevirtual 64, 3), (119, .return_, 1)]
def tX4_resize : List (Nat × Instr × Nat) := [(0, .iconst 0, 1), (1, .istore_n 3, 1), (2, .iload_n 3, 1), (3, .aload_n 0, 1), (4, .getfield 25, 3), (7, .if_icmp .ge 20, 3), (10, .aload_n 0, 1), (11, .aload_n 0, 1), (12, .getfield 19, 3), (15, .iload_n 3, 1), (16, .iadd, 1), (17, .iload_n 1, 1), (18, .invokevirtual 79, 3), (21, .iinc 3 1, 3), (24, .goto (-22), 3), (27, .aload_n 0, 1), (28, .iload_n 1, 1), (29, .putfield 22, 3), (32, .aload_n 0, 1), (33, .aload_n 0, 1), (34, .getfield 31, 3), (37, .iload_n 1, 1), (38, .iconst 1, 1), (39, .isub, 1), (40, .invokestatic 82, 3), (43, .putfield 31, 3), (46, .aload_n 0, 1), (47, .getfield 28, 3), (50, .iload_n 2, 1), (51, .isub, 1), (52, .iconst 1, 1), (53, .iadd, 1), (54, .istore_n 3, 1), (55, .iload_n 3, 1), (56, .ifCond .le 23, 3), (59, .aload_n 0, 1), (60, .invokevirtual 85, 3), (63, .aload_n 0, 1), (64, .dup, 1), (65, .getfield 28, 3), (68, .iconst 1, 1), (69, .isub, 1), (70, .putfield 28, 3), (73, .iinc 3 (-1), 3), (76, .goto (-21), 3), (79, .aload_n 0, 1), (80, .aload_n 0, 1), (81, .getfield 25, 3), (84, .iload_n 2, 1), (85, .invokestatic 82, 3), (88, .putfield 25, 3), (91, .aload_n 0, 1), (92, .getfield 25, 3), (95, .istore_n 3, 1), (96, .iload_n 3, 1), (97, .iload_n 2, 1), (98, .if_icmp .ge 13, 3), (101, .aload_n 0, 1), (102, .invokevirtual 34, 3), (105, .iinc 3 1, 3), (108, .goto (-12), 3), (111, .return_, 1)]
def tX4_goDown : List (Nat × Instr × Nat) := [(0, .aload_n 0, 1), (1, .iconst 0, 1), (2, .putfield 31, 3), (5, .aload_n 0, 1), (6, .getfield 28, 3), (9, .aload_n 0, 1), (10, .getfield 25, 3), (13, .iconst 1, 1), (14, .isub, 1), (15, .if_icmp .ge 16, 3), (18, .aload_n 0, 1), (19, .dup, 1), (20, .getfield 28, 3), (23, .iconst 1, 1), (24, .iadd, 1), (25, .putfield 28, 3), (28, .goto 11, 3), (31, .aload_n 0, 1), (32, .invokevirtual 85, 3), (35, .aload_n 0, 1), (36, .invokevirtual 34, 3), (39, .return_, 1)]
def tX4_clear : List (Nat × Instr × Nat) := [(0, .aload_n 0, 1), (1, .iconst 0, 1), (2, .putfield 28, 3), (5, .aload_n 0, 1), (6, .iconst 0, 1), (7, .putfield 31, 3), (10, .iconst 0, 1), (11, .istore_n 1, 1), (12, .iload_n 1, 1), (13, .aload_n 0, 1), (14, .getfield 25, 3), (17, .if_icmp .ge 20, 3), (20, .aload_n 0, 1), (21, .aload_n 0, 1), (22, .getfield 19, 3), (25, .iload_n 1, 1), (26, .iadd, 1), (27, .iconst 0, 1), (28, .invokevirtual 79, 3), (31, .iinc 1 1, 3), (34, .goto (-22), 3), (37, .return_, 1)]
def tX4_sendUppermostRowUp : List (Nat × Instr × Nat) := [(0, .aload_n 0, 1), (1, .getfield 19, 3), (4, .bipush 40, 2), (6, .if_icmp .ge 16, 3), (9, .aload_n 0, 1), (10, .dup, 1), (11, .getfield 19, 3), (14, .iconst 1, 1), (15, .iadd, 1), (16, .putfield 19, 3), (19, .goto 18, 3), (22, .aload_n 0, 1), (23, .aload_n 0, 1), (24, .getfield 15, 3), (27, .iconst 1, 1), (28, .iadd, 1), (29, .bipush 46, 2), (31, .invokestatic 88, 3), (34, .putfield 15, 3), (37, .aload_n 0, 1), (38, .dup, 1), (39, .getfield 25, 3), (42, .iconst 1, 1), (43, .isub, 1), (44, .putfield 25, 3), (47, .return_, 1)]
def tX4_addRow : List (Nat × Instr × Nat) := [(0, .aload_n 0, 1), (1, .dup, 1), (2, .getfield 25, 3), (5, .iconst 1, 1), (6, .iadd, 1), (7, .putfield 25, 3), (10, .aload_n 0, 1), (11, .aload_n 0, 1), (12, .getfield 19, 3), (15, .aload_n 0, 1), (16, .getfield 25, 3), (19, .iadd, 1), (20, .iconst 1, 1), (21, .isub, 1), (22, .iconst 0, 1), (23, .invokevirtual 79, 3), (26, .return_, 1)]
def tX4_put : List (Nat × Instr × Nat) := [(0, .aload_n 0, 1), (1, .getfield 31, 3), (4, .ifCond .lt 31, 3), (7, .aload_n 0, 1), (8, .getfield 31, 3), (11, .bipush 16, 2), (13, .if_icmp .ge 22, 3), (16, .aload_n 0, 1), (17, .getfield 11, 3), (20, .aload_n 0, 1), (21, .aload_n 0, 1), (22, .invokevirtual 91, 3), (25, .invokevirtual 37, 3), (28, .aload_n 0, 1), (29, .getfield 31, 3), (32, .iadd, 1), (33, .iload_n 1, 1), (34, .iastore, 1), (35, .aload_n 0, 1), (36, .dup, 1), (37, .getfield 31, 3), (40, .iconst 1, 1), (41, .iadd, 1), (42, .putfield 31, 3), (45, .return_, 1)]
def tX4_emptyFrom : List (Nat × Instr × Nat) := [(0, .aload_n 0, 1), (1, .iload_n 1, 1), (2, .invokevirtual 37, 3), (5, .istore_n 3, 1), (6, .iload_n 2, 1), (7, .iconst 0, 1), (8, .invokestatic 67, 3), (11, .istore 4, 2), (13, .iload 4, 2), (15, .bipush 16, 2), (17, .if_icmp .ge 20, 3), (20, .aload_n 0, 1), (21, .getfield 11, 3), (24, .iload_n 3, 1), (25, .iload 4, 2), (27, .iadd, 1), (28, .bipush 27, 2), (30, .iastore, 1), (31, .iinc 4 1, 3), (34, .goto (-21), 3), (37, .return_, 1)]
def tX4_startOf : List (Nat × Instr × Nat) := [(0, .aload_n 0, 1), (1, .getfield 15, 3), (4, .iload_n 1, 1), (5, .iadd, 1), (6, .bipush 46, 2), (8, .invokestatic 88, 3), (11, .bipush 16, 2), (13, .imul, 1), (14, .ireturn, 1)]
def tX5_watches : List (Nat × Instr × Nat) := [(0, .aload_n 0, 1), (1, .getfield 18, 3), (4, .iload_n 2, 1), (5, .if_icmp .ne 15, 3), (8, .aload_n 0, 1), (9, .getfield 21, 3), (12, .iload_n 1, 1), (13, .if_icmp .ne 7, 3), (16, .iconst 1, 1), (17, .goto 4, 3), (20, .iconst 0, 1), (21, .ireturn, 1)]
def tX5_windowSize : List (Nat × Instr × Nat) := [(0, .iload_n 1, 1), (1, .ifCond .eq 10, 3), (4, .aload_n 0, 1), (5, .getfield 15, 3), (8, .goto 7, 3), (11, .aload_n 0, 1), (12, .getfield 9, 3), (15, .ireturn, 1)]
def tX5_restart : List (Nat × Instr × Nat) := [(0, .aload_n 0, 1), (1, .iload_n 1, 1), (2, .putfield 9, 3), (5, .aload_n 0, 1), (6, .iload_n 2, 1), (7, .putfield 15, 3), (10, .aload_n 0, 1), (11, .iconst 0, 1), (12, .putfield 18, 3), (15, .aload_n 0, 1), (16, .iconst 0, 1), (17, .putfield 21, 3), (20, .aload_n 0, 1), (21, .iconst 0, 1), (22, .putfield 24, 3), (25, .aload_n 0, 1), (26, .iconst 0, 1), (27, .putfield 27, 3), (30, .aload_n 0, 1), (31, .iconst 0, 1), (32, .putfield 30, 3), (35, .aload_n 0, 1), (36, .iconst 0, 1), (37, .putfield 33, 3), (40, .return_, 1)]
def tX5_copyFrom : List (Nat × Instr × Nat) := [(0, .aload_n 0, 1), (1, .aload_n 1, 1), (2, .getfield 9, 3), (5, .putfield 9, 3), (8, .aload_n 0, 1), (9, .aload_n 1, 1), (10, .getfield 15, 3), (13, .putfield 15, 3), (16, .aload_n 0, 1), (17, .aload_n 1, 1), (18, .getfield 18, 3), (21, .putfield 18, 3), (24, .aload_n 0, 1), (25, .aload_n 1, 1), (26, .getfield 21, 3), (29, .putfield 21, 3), (32, .aload_n 0, 1), (33, .aload_n 1, 1), (34, .getfield 24, 3), (37, .putfield 24, 3), (40, .aload_n 0, 1), (41, .aload_n 1, 1), (42, .getfield 27, 3), (45, .putfield 27, 3), (48, .aload_n 0, 1), (49, .aload_n 1, 1), (50, .getfield 30, 3), (53, .putfield 30, 3), (56, .aload_n 0, 1), (57, .aload_n 1, 1), (58, .getfield 33, 3), (61, .putfield 33, 3), (64, .return_, 1)]
def tX6_restart : List (Nat × Instr × Nat) := [(0, .aload_n 0, 1), (1, .iconst 0, 1), (2, .putfield 9, 3), (5, .iconst 0, 1), (6, .istore_n 3, 1), (7, .iload_n 3, 1), (8, .iconst 2, 1), (9, .if_icmp .ge 24, 3), (12, .iload_n 3, 1), (13, .aload_n 2, 1), (14, .arraylength, 1), (15, .if_icmp .ge 18, 3), (18, .aload_n 0, 1), (19, .getfield 15, 3), (22, .iload_n 3, 1), (23, .aload_n 2, 1), (24, .iload_n 3, 1), (25, .iaload, 1), (26, .iastore, 1), (27, .iinc 3 1, 3), (30, .goto (-23), 3), (33, .iconst 0, 1), (34, .istore_n 3, 1), (35, .iload_n 3, 1), (36, .iconst 4, 1), (37, .if_icmp .ge 16, 3), (40, .aload_n 0, 1), (41, .getfield 19, 3), (44, .iload_n 3, 1), (45, .iconst 0, 1), (46, .iastore, 1), (47, .iinc 3 1, 3), (50, .goto (-15), 3), (53, .iconst 0, 1), (54, .istore_n 3, 1), (55, .iload_n 3, 1), (56, .iconst 4, 1), (57, .if_icmp .ge 18, 3), (60, .aload_n 0, 1), (61, .getfield 24, 3), (64, .iload_n 3, 1), (65, .aaload, 1), (66, .invokevirtual 39, 3), (69, .iinc 3 1, 3), (72, .goto (-17), 3), (75, .iconst 0, 1), (76, .istore_n 3, 1), (77, .iload_n 3, 1), (78, .bipush 6, 2), (80, .if_icmp .ge 30, 3), (83, .aload_n 0, 1), (84, .getfield 30, 3), (87, .iload_n 3, 1), (88, .aaload, 1), (89, .aload_n 1, 1), (90, .iload_n 3, 1), (91, .iconst 0, 1), (92, .invokevirtual 42, 3), (95, .aload_n 1, 1), (96, .iload_n 3, 1), (97, .iconst 1, 1), (98, .invokevirtual 42, 3), (101, .invokevirtual 48, 3), (104, .iinc 3 1, 3), (107, .goto (-30), 3), (110, .return_, 1)]
def tX6_copyFrom : List (Nat × Instr × Nat) := [(0, .aload_n 0, 1), (1, .aload_n 1, 1), (2, .getfield 9, 3), (5, .putfield 9, 3), (8, .iconst 0, 1), (9, .istore_n 2, 1), (10, .iload_n 2, 1), (11, .iconst 2, 1), (12, .if_icmp .ge 21, 3), (15, .aload_n 0, 1), (16, .getfield 15, 3), (19, .iload_n 2, 1), (20, .aload_n 1, 1), (21, .getfield 15, 3), (24, .iload_n 2, 1), (25, .iaload, 1), (26, .iastore, 1), (27, .iinc 2 1, 3), (30, .goto (-20), 3), (33, .iconst 0, 1), (34, .istore_n 2, 1), (35, .iload_n 2, 1), (36, .iconst 4, 1), (37, .if_icmp .ge 21, 3), (40, .aload_n 0, 1), (41, .getfield 19, 3), (44, .iload_n 2, 1), (45, .aload_n 1, 1), (46, .getfield 19, 3), (49, .iload_n 2, 1), (50, .iaload, 1), (51, .iastore, 1), (52, .iinc 2 1, 3), (55, .goto (-20), 3), (58, .iconst 0, 1), (59, .istore_n 2, 1), (60, .iload_n 2, 1), (61, .iconst 4, 1), (62, .if_icmp .ge 24, 3), (65, .aload_n 0, 1), (66, .getfield 24, 3), (69, .iload_n 2, 1), (70, .aaload, 1), (71, .aload_n 1, 1), (72, .getfield 24, 3), (75, .iload_n 2, 1), (76, .aaload, 1), (77, .invokevirtual 51, 3), (80, .iinc 2 1, 3), (83, .goto (-23), 3), (86, .iconst 0, 1), (87, .istore_n 2, 1), (88, .iload_n 2, 1), (89, .bipush 6, 2), (91, .if_icmp .ge 24, 3), (94, .aload_n 0, 1), (95, .getfield 30, 3), (98, .iload_n 2, 1), (99, .aaload, 1), (100, .aload_n 1, 1), (101, .getfield 30, 3), (104, .iload_n 2, 1), (105, .aaload, 1), (106, .invokevirtual 55, 3), (109, .iinc 2 1, 3), (112, .goto (-24), 3), (115, .return_, 1)]
def tX7_append : List (Nat × Instr × Nat) := [(0, .bipush 24, 2), (2, .istore_n 2, 1), (3, .iload_n 2, 1), (4, .ifCond .lt 47, 3), (7, .aload_n 0, 1), (8, .getfield 15, 3), (11, .aload_n 0, 1), (12, .getfield 9, 3), (15, .arraylength, 1), (16, .if_icmp .ge 29, 3), (19, .aload_n 0, 1), (20, .getfield 9, 3), (23, .aload_n 0, 1), (24, .getfield 15, 3), (27, .iload_n 1, 1), (28, .iload_n 2, 1), (29, .ishr, 1), (30, .sipush 255, 3), (33, .iand, 1), (34, .iastore, 1), (35, .aload_n 0, 1), (36, .dup, 1), (37, .getfield 15, 3), (40, .iconst 1, 1), (41, .iadd, 1), (42, .putfield 15, 3), (45, .iinc 2 (-8), 3), (48, .goto (-45), 3), (51, .return_, 1)]
def tX7_open : List (Nat × Instr × Nat) := [(0, .aload_n 0, 1), (1, .iload_n 1, 1), (2, .putfield 19, 3), (5, .aload_n 0, 1), (6, .iconst 0, 1), (7, .putfield 25, 3), (10, .aload_n 0, 1), (11, .iconst 0, 1), (12, .putfield 28, 3), (15, .aload_n 0, 1), (16, .invokevirtual 31, 3), (19, .return_, 1)]
def tX7_advance : List (Nat × Instr × Nat) := [(0, .aload_n 0, 1), (1, .aload_n 0, 1), (2, .getfield 28, 3), (5, .putfield 25, 3), (8, .aload_n 0, 1), (9, .getfield 25, 3), (12, .aload_n 0, 1), (13, .getfield 19, 3), (16, .if_icmp .ge 42, 3), (19, .aload_n 0, 1), (20, .aload_n 0, 1), (21, .getfield 25, 3), (24, .invokevirtual 34, 3), (27, .bipush 32, 2), (29, .if_icmp .eq 16, 3), (32, .aload_n 0, 1), (33, .aload_n 0, 1), (34, .getfield 25, 3), (37, .invokevirtual 34, 3), (40, .bipush 10, 2), (42, .if_icmp .ne 16, 3), (45, .aload_n 0, 1), (46, .dup, 1), (47, .getfield 25, 3), (50, .iconst 1, 1), (51, .iadd, 1), (52, .putfield 25, 3), (55, .goto (-47), 3), (58, .aload_n 0, 1), (59, .aload_n 0, 1), (60, .aload_n 0, 1), (61, .getfield 25, 3), (64, .invokevirtual 34, 3), (67, .invokestatic 38, 3), (70, .putfield 22, 3), (73, .aload_n 0, 1), (74, .aload_n 0, 1), (75, .getfield 25, 3), (78, .putfield 28, 3), (81, .aload_n 0, 1), (82, .getfield 22, 3), (85, .iconst 1, 1), (86, .if_icmp .eq 11, 3), (89, .aload_n 0, 1), (90, .getfield 22, 3), (93, .iconst 2, 1), (94, .if_icmp .ne 45, 3), (97, .aload_n 0, 1), (98, .getfield 28, 3), (101, .aload_n 0, 1), (102, .getfield 19, 3), (105, .if_icmp .ge 51, 3), (108, .aload_n 0, 1), (109, .aload_n 0, 1), (110, .getfield 28, 3), (113, .invokevirtual 34, 3), (116, .invokestatic 38, 3), (119, .aload_n 0, 1), (120, .getfield 22, 3), (123, .if_icmp .ne 33, 3), (126, .aload_n 0, 1), (127, .dup, 1), (128, .getfield 28, 3), (131, .iconst 1, 1), (132, .iadd, 1), (133, .putfield 28, 3), (136, .goto (-39), 3), (139, .aload_n 0, 1), (140, .getfield 22, 3), (143, .ifCond .eq 13, 3), (146, .aload_n 0, 1), (147, .dup, 1), (148, .getfield 28, 3), (151, .iconst 1, 1), (152, .iadd, 1), (153, .putfield 28, 3), (156, .return_, 1)]
def tX7_tokenLength : List (Nat × Instr × Nat) := [(0, .aload_n 0, 1), (1, .getfield 28, 3), (4, .aload_n 0, 1), (5, .getfield 25, 3), (8, .isub, 1), (9, .ireturn, 1)]
def tX7_isWord : List (Nat × Instr × Nat) := [(0, .aload_n 0, 1), (1, .getfield 22, 3), (4, .iconst 1, 1), (5, .if_icmp .ne 14, 3), (8, .aload_n 0, 1), (9, .invokevirtual 41, 3), (12, .aload_n 1, 1), (13, .invokevirtual 45, 3), (16, .if_icmp .eq 5, 3), (19, .iconst 0, 1), (20, .ireturn, 1), (21, .iconst 0, 1), (22, .istore_n 2, 1), (23, .iload_n 2, 1), (24, .aload_n 1, 1), (25, .invokevirtual 45, 3), (28, .if_icmp .ge 29, 3), (31, .aload_n 0, 1), (32, .aload_n 0, 1), (33, .getfield 25, 3), (36, .iload_n 2, 1), (37, .iadd, 1), (38, .invokevirtual 34, 3), (41, .aload_n 1, 1), (42, .iload_n 2, 1), (43, .invokevirtual 49, 3), (46, .if_icmp .eq 5, 3), (49, .iconst 0, 1), (50, .ireturn, 1), (51, .iinc 2 1, 3), (54, .goto (-31), 3), (57, .iconst 1, 1), (58, .ireturn, 1)]
def tX7_letters : List (Nat × Instr × Nat) := [(0, .iconst 0, 1), (1, .istore_n 1, 1), (2, .iconst 0, 1), (3, .istore_n 2, 1), (4, .iload_n 2, 1), (5, .bipush 6, 2), (7, .if_icmp .ge 44, 3), (10, .iload_n 1, 1), (11, .iconst 5, 1), (12, .ishl, 1), (13, .istore_n 1, 1), (14, .aload_n 0, 1), (15, .getfield 25, 3), (18, .iload_n 2, 1), (19, .iadd, 1), (20, .aload_n 0, 1), (21, .getfield 28, 3), (24, .if_icmp .ge 21, 3), (27, .iload_n 1, 1), (28, .aload_n 0, 1), (29, .aload_n 0, 1), (30, .getfield 25, 3), (33, .iload_n 2, 1), (34, .iadd, 1), (35, .invokevirtual 34, 3), (38, .bipush 97, 2), (40, .isub, 1), (41, .iconst 1, 1), (42, .iadd, 1), (43, .ior, 1), (44, .istore_n 1, 1), (45, .iinc 2 1, 3), (48, .goto (-44), 3), (51, .iload_n 1, 1), (52, .ireturn, 1)]
def tX7_number : List (Nat × Instr × Nat) := [(0, .iconst 0, 1), (1, .istore_n 1, 1), (2, .aload_n 0, 1), (3, .getfield 25, 3), (6, .istore_n 2, 1), (7, .iload_n 2, 1), (8, .aload_n 0, 1), (9, .getfield 28, 3), (12, .if_icmp .ge 29, 3), (15, .iload_n 1, 1), (16, .bipush 10, 2), (18, .imul, 1), (19, .aload_n 0, 1), (20, .iload_n 2, 1), (21, .invokevirtual 34, 3), (24, .iadd, 1), (25, .bipush 48, 2), (27, .isub, 1), (28, .sipush 1000, 3), (31, .invokestatic 53, 3), (34, .istore_n 1, 1), (35, .iinc 2 1, 3), (38, .goto (-31), 3), (41, .iload_n 1, 1), (42, .ireturn, 1)]
def tX7_kindOf : List (Nat × Instr × Nat) := [(0, .iload_n 0, 1), (1, .ifCond .ge 5, 3), (4, .iconst 0, 1), (5, .ireturn, 1), (6, .iload_n 0, 1), (7, .bipush 97, 2), (9, .if_icmp .lt 11, 3), (12, .iload_n 0, 1), (13, .bipush 122, 2), (15, .if_icmp .gt 5, 3), (18, .iconst 1, 1), (19, .ireturn, 1), (20, .iload_n 0, 1), (21, .bipush 48, 2), (23, .if_icmp .lt 11, 3), (26, .iload_n 0, 1), (27, .bipush 57, 2), (29, .if_icmp .gt 5, 3), (32, .iconst 2, 1), (33, .ireturn, 1), (34, .iload_n 0, 1), (35, .bipush 59, 2), (37, .if_icmp .ne 7, 3), (40, .iconst 3, 1), (41, .goto 4, 3), (44, .iconst 4, 1), (45, .ireturn, 1)]
def tX7_byteAt : List (Nat × Instr × Nat) := [(0, .iload_n 1, 1), (1, .ifCond .lt 20, 3), (4, .iload_n 1, 1), (5, .aload_n 0, 1), (6, .getfield 19, 3), (9, .if_icmp .ge 12, 3), (12, .iload_n 1, 1), (13, .aload_n 0, 1), (14, .getfield 9, 3), (17, .arraylength, 1), (18, .if_icmp .lt 5, 3), (21, .iconst (-1), 1), (22, .ireturn, 1), (23, .aload_n 0, 1), (24, .getfield 9, 3), (27, .iload_n 1, 1), (28, .iaload, 1), (29, .ireturn, 1)]
def tX8_has : List (Nat × Instr × Nat) := [(0, .iload_n 1, 1), (1, .ifCond .lt 24, 3), (4, .iload_n 1, 1), (5, .aload_n 0, 1), (6, .getfield 21, 3), (9, .if_icmp .ge 16, 3), (12, .iload_n 1, 1), (13, .aload_n 0, 1), (14, .getfield 9, 3), (17, .arraylength, 1), (18, .if_icmp .ge 7, 3), (21, .iconst 1, 1), (22, .goto 4, 3), (25, .iconst 0, 1), (26, .ireturn, 1)]
def tX8_isFull : List (Nat × Instr × Nat) := [(0, .aload_n 0, 1), (1, .getfield 21, 3), (4, .aload_n 0, 1), (5, .getfield 25, 3), (8, .if_icmp .ge 15, 3), (11, .aload_n 0, 1), (12, .getfield 21, 3), (15, .aload_n 0, 1), (16, .getfield 9, 3), (19, .arraylength, 1), (20, .if_icmp .lt 7, 3), (23, .iconst 1, 1), (24, .goto 4, 3), (27, .iconst 0, 1), (28, .ireturn, 1)]
def tX8_indexOf : List (Nat × Instr × Nat) := [(0, .iconst 0, 1), (1, .istore_n 2, 1), (2, .iload_n 2, 1), (3, .aload_n 0, 1), (4, .getfield 21, 3), (7, .if_icmp .ge 30, 3), (10, .iload_n 2, 1), (11, .aload_n 0, 1), (12, .getfield 9, 3), (15, .arraylength, 1), (16, .if_icmp .ge 21, 3), (19, .aload_n 0, 1), (20, .getfield 9, 3), (23, .iload_n 2, 1), (24, .iaload, 1), (25, .iload_n 1, 1), (26, .if_icmp .ne 5, 3), (29, .iload_n 2, 1), (30, .ireturn, 1), (31, .iinc 2 1, 3), (34, .goto (-32), 3), (37, .iconst (-1), 1), (38, .ireturn, 1)]
def tX8_sizeOf : List (Nat × Instr × Nat) := [(0, .aload_n 0, 1), (1, .iload_n 1, 1), (2, .invokevirtual 28, 3), (5, .ifCond .ne 5, 3), (8, .iconst 0, 1), (9, .ireturn, 1), (10, .iload_n 2, 1), (11, .ifCond .eq 12, 3), (14, .aload_n 0, 1), (15, .getfield 18, 3), (18, .iload_n 1, 1), (19, .iaload, 1), (20, .goto 9, 3), (23, .aload_n 0, 1), (24, .getfield 15, 3), (27, .iload_n 1, 1), (28, .iaload, 1), (29, .ireturn, 1)]
def tX8_add : List (Nat × Instr × Nat) := [(0, .aload_n 0, 1), (1, .invokevirtual 32, 3), (4, .ifCond .ne 43, 3), (7, .aload_n 0, 1), (8, .getfield 9, 3), (11, .aload_n 0, 1), (12, .getfield 21, 3), (15, .iload_n 1, 1), (16, .iastore, 1), (17, .aload_n 0, 1), (18, .getfield 15, 3), (21, .aload_n 0, 1), (22, .getfield 21, 3), (25, .iload_n 2, 1), (26, .iastore, 1), (27, .aload_n 0, 1), (28, .getfield 18, 3), (31, .aload_n 0, 1), (32, .getfield 21, 3), (35, .iload_n 3, 1), (36, .iastore, 1), (37, .aload_n 0, 1), (38, .dup, 1), (39, .getfield 21, 3), (42, .iconst 1, 1), (43, .iadd, 1), (44, .putfield 21, 3), (47, .return_, 1)]
def tX8_copyFrom : List (Nat × Instr × Nat) := [(0, .aload_n 0, 1), (1, .iconst 0, 1), (2, .putfield 21, 3), (5, .iconst 0, 1), (6, .istore_n 2, 1), (7, .iload_n 2, 1), (8, .aload_n 1, 1), (9, .getfield 21, 3), (12, .if_icmp .ge 40, 3), (15, .iload_n 2, 1), (16, .aload_n 1, 1), (17, .getfield 9, 3), (20, .arraylength, 1), (21, .if_icmp .ge 31, 3), (24, .aload_n 0, 1), (25, .aload_n 1, 1), (26, .getfield 9, 3), (29, .iload_n 2, 1), (30, .iaload, 1), (31, .aload_n 1, 1), (32, .getfield 15, 3), (35, .iload_n 2, 1), (36, .iaload, 1), (37, .aload_n 1, 1), (38, .getfield 18, 3), (41, .iload_n 2, 1), (42, .iaload, 1), (43, .invokevirtual 36, 3), (46, .iinc 2 1, 3), (49, .goto (-42), 3), (52, .return_, 1)]
def tX9_feed : List (Nat × Instr × Nat) := [(0, .aload_n 0, 1), (1, .getfield 12, 3), (4, .getfield 77, 3), (7, .bipush 20, 2), (9, .iadd, 1), (10, .sipush 600, 3), (13, .if_icmp .le 6, 3), (16, .bipush (-3), 2), (18, .ireturn, 1), (19, .aload_n 0, 1), (20, .getfield 12, 3), (23, .iload_n 1, 1), (24, .invokevirtual 80, 3), (27, .aload_n 0, 1), (28, .getfield 12, 3), (31, .iload_n 2, 1), (32, .invokevirtual 80, 3), (35, .aload_n 0, 1), (36, .getfield 12, 3), (39, .iload_n 3, 1), (40, .invokevirtual 80, 3), (43, .aload_n 0, 1), (44, .getfield 12, 3), (47, .iload 4, 2), (49, .invokevirtual 80, 3), (52, .aload_n 0, 1), (53, .getfield 12, 3), (56, .iload 5, 2), (58, .invokevirtual 80, 3), (61, .aload_n 0, 1), (62, .getfield 12, 3), (65, .getfield 77, 3), (68, .ireturn, 1)]
def tX9_load : List (Nat × Instr × Nat) := [(0, .iload_n 1, 1), (1, .ifCond .lt 14, 3), (4, .iload_n 1, 1), (5, .aload_n 0, 1), (6, .getfield 12, 3), (9, .getfield 77, 3), (12, .if_icmp .le 6, 3), (15, .bipush (-2), 2), (17, .ireturn, 1), (18, .aload_n 0, 1), (19, .getfield 12, 3), (22, .iload_n 1, 1), (23, .invokevirtual 83, 3), (26, .aload_n 0, 1), (27, .getfield 19, 3), (30, .aload_n 0, 1), (31, .getfield 12, 3), (34, .invokevirtual 86, 3), (37, .istore_n 2, 1), (38, .aload_n 0, 1), (39, .getfield 12, 3), (42, .iconst 0, 1), (43, .putfield 77, 3), (46, .iload_n 2, 1), (47, .ifCond .ge 16, 3), (50, .aload_n 0, 1), (51, .aload_n 0, 1), (52, .getfield 12, 3), (55, .getfield 90, 3), (58, .putfield 23, 3), (61, .iload_n 2, 1), (62, .ireturn, 1), (63, .aload_n 0, 1), (64, .iconst (-1), 1), (65, .putfield 23, 3), (68, .aload_n 0, 1), (69, .getfield 39, 3), (72, .aload_n 0, 1), (73, .getfield 19, 3), (76, .getfield 93, 3), (79, .invokevirtual 94, 3), (82, .aload_n 0, 1), (83, .getfield 43, 3), (86, .aload_n 0, 1), (87, .getfield 19, 3), (90, .getfield 98, 3), (93, .invokevirtual 94, 3), (96, .aload_n 0, 1), (97, .getfield 55, 3), (100, .aload_n 0, 1), (101, .getfield 43, 3), (104, .aload_n 0, 1), (105, .getfield 19, 3), (108, .getfield 99, 3), (111, .invokevirtual 102, 3), (114, .aload_n 0, 1), (115, .getfield 62, 3), (118, .invokevirtual 106, 3), (121, .iload_n 2, 1), (122, .ireturn, 1)]
def tX9_count : List (Nat × Instr × Nat) := [(0, .iload_n 1, 1), (1, .tableswitch 60 0 3 #[31, 39, 47, 52], 31), (32, .aload_n 0, 1), (33, .getfield 39, 3), (36, .getfield 109, 3), (39, .ireturn, 1), (40, .aload_n 0, 1), (41, .getfield 43, 3), (44, .getfield 109, 3), (47, .ireturn, 1), (48, .aload_n 0, 1), (49, .invokevirtual 112, 3), (52, .ireturn, 1), (53, .aload_n 0, 1), (54, .getfield 55, 3), (57, .getfield 116, 3), (60, .ireturn, 1), (61, .bipush (-2), 2), (63, .ireturn, 1)]
def tX9_session : List (Nat × Instr × Nat) := [(0, .aload_n 0, 1), (1, .iload_n 1, 1), (2, .invokevirtual 125, 3), (5, .astore_n 3, 1), (6, .iload_n 2, 1), (7, .tableswitch 89 0 5 #[37, 47, 57, 62, 67, 72], 37), (44, .aload_n 0, 1), (45, .getfield 39, 3), (48, .iload_n 1, 1), (49, .iconst 0, 1), (50, .invokevirtual 129, 3), (53, .ireturn, 1), (54, .aload_n 0, 1), (55, .getfield 39, 3), (58, .iload_n 1, 1), (59, .iconst 1, 1), (60, .invokevirtual 129, 3), (63, .ireturn, 1), (64, .aload_n 3, 1), (65, .getfield 133, 3), (68, .ireturn, 1), (69, .aload_n 3, 1), (70, .getfield 138, 3), (73, .ireturn, 1), (74, .aload_n 3, 1), (75, .getfield 141, 3), (78, .ireturn, 1), (79, .aload_n 3, 1), (80, .getfield 141, 3), (83, .iconst (-1), 1), (84, .if_icmp .ne 7, 3), (87, .iconst (-1), 1), (88, .goto 7, 3), (91, .aload_n 3, 1), (92, .getfield 144, 3), (95, .ireturn, 1), (96, .bipush (-2), 2), (98, .ireturn, 1)]
def tX9_event : List (Nat × Instr × Nat) := [(0, .aload_n 0, 1), (1, .iload_n 1, 1), (2, .invokevirtual 125, 3), (5, .astore 4, 2), (7, .iload_n 2, 1), (8, .ifCond .lt 12, 3), (11, .iload_n 2, 1), (12, .aload 4, 2), (14, .getfield 133, 3), (17, .if_icmp .lt 5, 3), (20, .iconst (-1), 1), (21, .ireturn, 1), (22, .aload_n 0, 1), (23, .iload_n 1, 1), (24, .invokevirtual 147, 3), (27, .astore 5, 2), (29, .iload_n 3, 1), (30, .tableswitch 62 0 3 #[30, 38, 46, 54], 30), (60, .aload 5, 2), (62, .iconst 0, 1), (63, .iload_n 2, 1), (64, .invokevirtual 151, 3), (67, .ireturn, 1), (68, .aload 5, 2), (70, .iconst 1, 1), (71, .iload_n 2, 1), (72, .invokevirtual 151, 3), (75, .ireturn, 1), (76, .aload 5, 2), (78, .iconst 2, 1), (79, .iload_n 2, 1), (80, .invokevirtual 151, 3), (83, .ireturn, 1), (84, .aload 5, 2), (86, .iconst 3, 1), (87, .iload_n 2, 1), (88, .invokevirtual 151, 3), (91, .ireturn, 1), (92, .bipush (-2), 2), (94, .ireturn, 1)]
def tX9_screen : List (Nat × Instr × Nat) := [(0, .aload_n 0, 1), (1, .aload_n 0, 1), (2, .getfield 69, 3), (5, .iload_n 1, 1), (6, .iload_n 2, 1), (7, .invokevirtual 155, 3), (10, .iload_n 3, 1), (11, .tableswitch 73 0 4 #[33, 41, 49, 57, 65], 33), (44, .aload_n 0, 1), (45, .getfield 69, 3), (48, .getfield 159, 3), (51, .ireturn, 1), (52, .aload_n 0, 1), (53, .getfield 69, 3), (56, .getfield 162, 3), (59, .ireturn, 1), (60, .aload_n 0, 1), (61, .getfield 69, 3), (64, .getfield 165, 3), (67, .ireturn, 1), (68, .aload_n 0, 1), (69, .getfield 69, 3), (72, .getfield 168, 3), (75, .ireturn, 1), (76, .aload_n 0, 1), (77, .getfield 69, 3), (80, .getfield 171, 3), (83, .ireturn, 1), (84, .bipush (-2), 2), (86, .ireturn, 1)]
def tX9_at : List (Nat × Instr × Nat) := [(0, .aload_n 0, 1), (1, .aload_n 0, 1), (2, .getfield 69, 3), (5, .iload_n 1, 1), (6, .iload_n 2, 1), (7, .invokevirtual 155, 3), (10, .iload_n 3, 1), (11, .ifCond .lt 31, 3), (14, .iload_n 3, 1), (15, .aload_n 0, 1), (16, .getfield 69, 3), (19, .getfield 162, 3), (22, .if_icmp .ge 20, 3), (25, .iload 4, 2), (27, .ifCond .lt 15, 3), (30, .iload 4, 2), (32, .aload_n 0, 1), (33, .getfield 69, 3), (36, .getfield 159, 3), (39, .if_icmp .lt 5, 3), (42, .iconst (-1), 1), (43, .ireturn, 1), (44, .aload_n 0, 1), (45, .getfield 69, 3), (48, .iload_n 3, 1), (49, .iload 4, 2), (51, .invokevirtual 174, 3), (54, .ireturn, 1)]
def tX9_above : List (Nat × Instr × Nat) := [(0, .aload_n 0, 1), (1, .aload_n 0, 1), (2, .getfield 69, 3), (5, .iload_n 1, 1), (6, .iload_n 2, 1), (7, .invokevirtual 155, 3), (10, .iload_n 3, 1), (11, .ifCond .lt 26, 3), (14, .iload_n 3, 1), (15, .aload_n 0, 1), (16, .getfield 69, 3), (19, .getfield 171, 3), (22, .if_icmp .ge 15, 3), (25, .iload 4, 2), (27, .ifCond .lt 10, 3), (30, .iload 4, 2), (32, .bipush 16, 2), (34, .if_icmp .lt 5, 3), (37, .iconst (-1), 1), (38, .ireturn, 1), (39, .aload_n 0, 1), (40, .getfield 69, 3), (43, .iload_n 3, 1), (44, .iload 4, 2), (46, .invokevirtual 177, 3), (49, .ireturn, 1)]
def tX9_user : List (Nat × Instr × Nat) := [(0, .aload_n 0, 1), (1, .iload_n 1, 1), (2, .invokevirtual 180, 3), (5, .astore_n 3, 1), (6, .iload_n 2, 1), (7, .tableswitch 111 0 6 #[41, 46, 51, 56, 72, 89, 94], 41), (48, .aload_n 3, 1), (49, .getfield 184, 3), (52, .ireturn, 1), (53, .aload_n 3, 1), (54, .getfield 187, 3), (57, .ireturn, 1), (58, .aload_n 3, 1), (59, .getfield 188, 3), (62, .ireturn, 1), (63, .aload_n 3, 1), (64, .getfield 188, 3), (67, .ifCond .ne 7, 3), (70, .iconst (-1), 1), (71, .goto 7, 3), (74, .aload_n 3, 1), (75, .getfield 191, 3), (78, .ireturn, 1), (79, .aload_n 3, 1), (80, .getfield 188, 3), (83, .ifCond .ne 7, 3), (86, .iconst (-1), 1), (87, .goto 8, 3), (90, .aload_n 0, 1), (91, .aload_n 3, 1), (92, .invokevirtual 194, 3), (95, .ireturn, 1), (96, .aload_n 3, 1), (97, .getfield 198, 3), (100, .ireturn, 1), (101, .aload_n 3, 1), (102, .getfield 188, 3), (105, .iconst 3, 1), (106, .if_icmp .ne 10, 3), (109, .aload_n 3, 1), (110, .getfield 201, 3), (113, .goto 4, 3), (116, .iconst 0, 1), (117, .ireturn, 1), (118, .bipush (-2), 2), (120, .ireturn, 1)]
def tX9_shown : List (Nat × Instr × Nat) := [(0, .aload_n 0, 1), (1, .iload_n 1, 1), (2, .invokevirtual 180, 3), (5, .astore 4, 2), (7, .aload 4, 2), (9, .getfield 188, 3), (12, .ifCond .eq 29, 3), (15, .iload_n 2, 1), (16, .ifCond .lt 25, 3), (19, .iload_n 2, 1), (20, .aload 4, 2), (22, .getfield 187, 3), (25, .if_icmp .ge 16, 3), (28, .iload_n 3, 1), (29, .ifCond .lt 12, 3), (32, .iload_n 3, 1), (33, .aload 4, 2), (35, .getfield 184, 3), (38, .if_icmp .lt 5, 3), (41, .iconst (-1), 1), (42, .ireturn, 1), (43, .aload_n 0, 1), (44, .aload_n 0, 1), (45, .getfield 69, 3), (48, .aload 4, 2), (50, .getfield 191, 3), (53, .aload_n 0, 1), (54, .aload 4, 2), (56, .invokevirtual 194, 3), (59, .invokevirtual 155, 3), (62, .aload_n 0, 1), (63, .getfield 69, 3), (66, .aload_n 0, 1), (67, .aload 4, 2), (69, .invokevirtual 204, 3), (72, .iload_n 2, 1), (73, .iadd, 1), (74, .iload_n 3, 1), (75, .invokevirtual 177, 3), (78, .ireturn, 1)]
def tX9_cursorRow : List (Nat × Instr × Nat) := [(0, .aload_n 0, 1), (1, .iload_n 1, 1), (2, .invokevirtual 180, 3), (5, .astore_n 2, 1), (6, .aload_n 2, 1), (7, .getfield 188, 3), (10, .ifCond .ne 5, 3), (13, .iconst (-1), 1), (14, .ireturn, 1), (15, .aload_n 0, 1), (16, .aload_n 0, 1), (17, .getfield 69, 3), (20, .aload_n 2, 1), (21, .getfield 191, 3), (24, .aload_n 0, 1), (25, .aload_n 2, 1), (26, .invokevirtual 194, 3), (29, .invokevirtual 155, 3), (32, .aload_n 0, 1), (33, .getfield 69, 3), (36, .invokevirtual 207, 3), (39, .aload_n 0, 1), (40, .aload_n 2, 1), (41, .invokevirtual 204, 3), (44, .isub, 1), (45, .istore_n 3, 1), (46, .iload_n 3, 1), (47, .aload_n 2, 1), (48, .getfield 187, 3), (51, .if_icmp .ge 7, 3), (54, .iload_n 3, 1), (55, .goto 4, 3), (58, .iconst (-1), 1), (59, .ireturn, 1)]
def tX9_firstDifference : List (Nat × Instr × Nat) := [(0, .aload_n 0, 1), (1, .aload_n 0, 1), (2, .getfield 69, 3), (5, .iload_n 1, 1), (6, .iload_n 2, 1), (7, .invokevirtual 155, 3), (10, .aload_n 0, 1), (11, .aload_n 0, 1), (12, .getfield 73, 3), (15, .iload_n 1, 1), (16, .iload_n 3, 1), (17, .invokevirtual 155, 3), (20, .aload_n 0, 1), (21, .getfield 69, 3), (24, .getfield 162, 3), (27, .aload_n 0, 1), (28, .getfield 73, 3), (31, .getfield 162, 3), (34, .invokestatic 249, 3), (37, .istore 4, 2), (39, .aload_n 0, 1), (40, .getfield 69, 3), (43, .getfield 159, 3), (46, .aload_n 0, 1), (47, .getfield 73, 3), (50, .getfield 159, 3), (53, .invokestatic 249, 3), (56, .istore 5, 2), (58, .iconst 0, 1), (59, .istore 6, 2), (61, .iload 6, 2), (63, .iload 4, 2), (65, .if_icmp .ge 59, 3), (68, .iconst 0, 1), (69, .istore 7, 2), (71, .iload 7, 2), (73, .iload 5, 2), (75, .if_icmp .ge 43, 3), (78, .aload_n 0, 1), (79, .getfield 69, 3), (82, .iload 6, 2), (84, .iload 7, 2), (86, .invokevirtual 174, 3), (89, .aload_n 0, 1), (90, .getfield 73, 3), (93, .iload 6, 2), (95, .iload 7, 2), (97, .invokevirtual 174, 3), (100, .if_icmp .eq 12, 3), (103, .bipush 16, 2), (105, .iload 6, 2), (107, .imul, 1), (108, .iload 7, 2), (110, .iadd, 1), (111, .ireturn, 1), (112, .iinc 7 1, 3), (115, .goto (-44), 3), (118, .iinc 6 1, 3), (121, .goto (-60), 3), (124, .iconst (-1), 1), (125, .ireturn, 1)]
def tX9_fullness : List (Nat × Instr × Nat) := [(0, .aload_n 0, 1), (1, .aload_n 0, 1), (2, .getfield 69, 3), (5, .iload_n 1, 1), (6, .iload_n 2, 1), (7, .invokevirtual 155, 3), (10, .aload_n 0, 1), (11, .getfield 69, 3), (14, .getfield 162, 3), (17, .aload_n 0, 1), (18, .getfield 69, 3), (21, .getfield 159, 3), (24, .imul, 1), (25, .istore_n 3, 1), (26, .iload_n 3, 1), (27, .ifCond .gt 5, 3), (30, .fconst 0, 1), (31, .freturn, 1), (32, .aload_n 0, 1), (33, .getfield 69, 3), (36, .invokevirtual 252, 3), (39, .i2f, 1), (40, .iload_n 3, 1), (41, .i2f, 1), (42, .fdiv, 1), (43, .freturn, 1)]
def tX9_attach : List (Nat × Instr × Nat) := [(0, .aload_n 0, 1), (1, .getfield 43, 3), (4, .iload_n 1, 1), (5, .invokevirtual 261, 3), (8, .ifCond .eq 14, 3), (11, .aload_n 0, 1), (12, .getfield 39, 3), (15, .iload_n 2, 1), (16, .invokevirtual 261, 3), (19, .ifCond .ne 5, 3), (22, .iconst (-1), 1), (23, .ireturn, 1), (24, .aload_n 0, 1), (25, .getfield 62, 3), (28, .aload_n 0, 1), (29, .getfield 55, 3), (32, .invokevirtual 264, 3), (35, .aload_n 0, 1), (36, .iload_n 1, 1), (37, .invokevirtual 180, 3), (40, .astore_n 3, 1), (41, .aload_n 0, 1), (42, .iload_n 1, 1), (43, .aload_n 3, 1), (44, .invokevirtual 268, 3), (47, .aload_n 3, 1), (48, .iconst 1, 1), (49, .putfield 188, 3), (52, .aload_n 3, 1), (53, .iload_n 2, 1), (54, .putfield 191, 3), (57, .aload_n 3, 1), (58, .iconst 0, 1), (59, .putfield 198, 3), (62, .aload_n 0, 1), (63, .invokevirtual 272, 3), (66, .aload_n 0, 1), (67, .iload_n 2, 1), (68, .invokevirtual 275, 3), (71, .ireturn, 1)]
def tX9_detach : List (Nat × Instr × Nat) := [(0, .aload_n 0, 1), (1, .iload_n 1, 1), (2, .invokevirtual 278, 3), (5, .istore_n 2, 1), (6, .iload_n 2, 1), (7, .ifCond .eq 5, 3), (10, .iload_n 2, 1), (11, .ireturn, 1), (12, .aload_n 0, 1), (13, .iload_n 1, 1), (14, .invokevirtual 180, 3), (17, .astore_n 3, 1), (18, .aload_n 0, 1), (19, .getfield 62, 3), (22, .aload_n 0, 1), (23, .getfield 55, 3), (26, .invokevirtual 264, 3), (29, .aload_n 0, 1), (30, .iload_n 1, 1), (31, .aload_n 3, 1), (32, .invokevirtual 268, 3), (35, .aload_n 3, 1), (36, .iconst 0, 1), (37, .putfield 188, 3), (40, .aload_n 0, 1), (41, .invokevirtual 272, 3), (44, .aload_n 0, 1), (45, .aload_n 3, 1), (46, .getfield 191, 3), (49, .invokevirtual 275, 3), (52, .ireturn, 1)]
def tX9_goTo : List (Nat × Instr × Nat) := [(0, .aload_n 0, 1), (1, .iload_n 1, 1), (2, .invokevirtual 278, 3), (5, .istore_n 3, 1), (6, .iload_n 3, 1), (7, .ifCond .eq 5, 3), (10, .iload_n 3, 1), (11, .ireturn, 1), (12, .aload_n 0, 1), (13, .iload_n 1, 1), (14, .invokevirtual 180, 3), (17, .astore 4, 2), (19, .iload_n 2, 1), (20, .ifCond .lt 19, 3), (23, .iload_n 2, 1), (24, .aload_n 0, 1), (25, .aload 4, 2), (27, .getfield 191, 3), (30, .invokevirtual 125, 3), (33, .getfield 133, 3), (36, .if_icmp .le 6, 3), (39, .bipush (-2), 2), (41, .ireturn, 1), (42, .aload_n 0, 1), (43, .getfield 62, 3), (46, .aload_n 0, 1), (47, .getfield 55, 3), (50, .invokevirtual 264, 3), (53, .aload_n 0, 1), (54, .aload 4, 2), (56, .invokevirtual 194, 3), (59, .istore 5, 2), (61, .aload_n 0, 1), (62, .iload_n 1, 1), (63, .aload 4, 2), (65, .invokevirtual 268, 3), (68, .aload 4, 2), (70, .iconst 2, 1), (71, .putfield 188, 3), (74, .aload 4, 2), (76, .iload_n 2, 1), (77, .putfield 229, 3), (80, .aload_n 0, 1), (81, .invokevirtual 272, 3), (84, .iload 5, 2), (86, .ireturn, 1)]
def tX9_goLive : List (Nat × Instr × Nat) := [(0, .aload_n 0, 1), (1, .iload_n 1, 1), (2, .invokevirtual 278, 3), (5, .istore_n 2, 1), (6, .iload_n 2, 1), (7, .ifCond .eq 5, 3), (10, .iload_n 2, 1), (11, .ireturn, 1), (12, .aload_n 0, 1), (13, .iload_n 1, 1), (14, .invokevirtual 180, 3), (17, .astore_n 3, 1), (18, .aload_n 0, 1), (19, .getfield 62, 3), (22, .aload_n 0, 1), (23, .getfield 55, 3), (26, .invokevirtual 264, 3), (29, .aload_n 0, 1), (30, .aload_n 3, 1), (31, .invokevirtual 194, 3), (34, .istore 4, 2), (36, .aload_n 3, 1), (37, .iconst 1, 1), (38, .putfield 188, 3), (41, .aload_n 0, 1), (42, .invokevirtual 272, 3), (45, .iload 4, 2), (47, .ireturn, 1)]
def tX9_replay : List (Nat × Instr × Nat) := [(0, .aload_n 0, 1), (1, .iload_n 1, 1), (2, .invokevirtual 278, 3), (5, .istore 4, 2), (7, .iload 4, 2), (9, .ifCond .eq 6, 3), (12, .iload 4, 2), (14, .ireturn, 1), (15, .aload_n 0, 1), (16, .iload_n 1, 1), (17, .invokevirtual 180, 3), (20, .astore 5, 2), (22, .iload_n 3, 1), (23, .bipush 10, 2), (25, .if_icmp .lt 30, 3), (28, .iload_n 3, 1), (29, .sipush 1000, 3), (32, .if_icmp .gt 23, 3), (35, .iload_n 2, 1), (36, .ifCond .lt 19, 3), (39, .iload_n 2, 1), (40, .aload_n 0, 1), (41, .aload 5, 2), (43, .getfield 191, 3), (46, .invokevirtual 125, 3), (49, .getfield 133, 3), (52, .if_icmp .le 6, 3), (55, .bipush (-2), 2), (57, .ireturn, 1), (58, .aload_n 0, 1), (59, .getfield 62, 3), (62, .aload_n 0, 1), (63, .getfield 55, 3), (66, .invokevirtual 264, 3), (69, .aload_n 0, 1), (70, .iload_n 1, 1), (71, .aload 5, 2), (73, .invokevirtual 268, 3), (76, .aload 5, 2), (78, .iconst 3, 1), (79, .putfield 188, 3), (82, .aload 5, 2), (84, .iload_n 2, 1), (85, .putfield 229, 3), (88, .aload 5, 2), (90, .iload_n 3, 1), (91, .putfield 201, 3), (94, .aload 5, 2), (96, .aload_n 0, 1), (97, .getfield 55, 3), (100, .getfield 116, 3), (103, .putfield 232, 3), (106, .aload_n 0, 1), (107, .invokevirtual 272, 3), (110, .aload_n 0, 1), (111, .aload 5, 2), (113, .invokevirtual 194, 3), (116, .ireturn, 1)]
def tX9_lookBack : List (Nat × Instr × Nat) := [(0, .aload_n 0, 1), (1, .iload_n 1, 1), (2, .invokevirtual 278, 3), (5, .istore_n 3, 1), (6, .iload_n 3, 1), (7, .ifCond .eq 5, 3), (10, .iload_n 3, 1), (11, .ireturn, 1), (12, .aload_n 0, 1), (13, .iload_n 1, 1), (14, .invokevirtual 180, 3), (17, .astore 4, 2), (19, .iload_n 2, 1), (20, .ifCond .lt 9, 3), (23, .iload_n 2, 1), (24, .bipush 40, 2), (26, .if_icmp .le 6, 3), (29, .bipush (-2), 2), (31, .ireturn, 1), (32, .aload_n 0, 1), (33, .getfield 62, 3), (36, .aload_n 0, 1), (37, .getfield 55, 3), (40, .invokevirtual 264, 3), (43, .aload 4, 2), (45, .getfield 198, 3), (48, .istore 5, 2), (50, .aload 4, 2), (52, .iload_n 2, 1), (53, .putfield 198, 3), (56, .aload_n 0, 1), (57, .invokevirtual 272, 3), (60, .iload 5, 2), (62, .ireturn, 1)]
def tX9_window : List (Nat × Instr × Nat) := [(0, .aload_n 0, 1), (1, .getfield 43, 3), (4, .iload_n 1, 1), (5, .invokevirtual 261, 3), (8, .ifCond .ne 5, 3), (11, .iconst (-1), 1), (12, .ireturn, 1), (13, .iload_n 2, 1), (14, .iconst 2, 1), (15, .if_icmp .lt 20, 3), (18, .iload_n 2, 1), (19, .bipush 16, 2), (21, .if_icmp .gt 14, 3), (24, .iload_n 3, 1), (25, .iconst 1, 1), (26, .if_icmp .lt 9, 3), (29, .iload_n 3, 1), (30, .bipush 6, 2), (32, .if_icmp .le 6, 3), (35, .bipush (-2), 2), (37, .ireturn, 1), (38, .aload_n 0, 1), (39, .getfield 62, 3), (42, .aload_n 0, 1), (43, .getfield 55, 3), (46, .invokevirtual 264, 3), (49, .aload_n 0, 1), (50, .iload_n 1, 1), (51, .invokevirtual 180, 3), (54, .astore 4, 2), (56, .aload 4, 2), (58, .getfield 184, 3), (61, .istore 5, 2), (63, .aload 4, 2), (65, .iload_n 2, 1), (66, .putfield 184, 3), (69, .aload 4, 2), (71, .iload_n 3, 1), (72, .putfield 187, 3), (75, .aload_n 0, 1), (76, .invokevirtual 272, 3), (79, .iload 5, 2), (81, .ireturn, 1)]
def tX9_type : List (Nat × Instr × Nat) := [(0, .aload_n 0, 1), (1, .getfield 43, 3), (4, .iload_n 1, 1), (5, .invokevirtual 261, 3), (8, .ifCond .ne 5, 3), (11, .iconst (-1), 1), (12, .ireturn, 1), (13, .iload_n 2, 1), (14, .bipush 31, 2), (16, .invokestatic 238, 3), (19, .istore_n 3, 1), (20, .iload_n 3, 1), (21, .ifCond .ne 6, 3), (24, .bipush (-2), 2), (26, .ireturn, 1), (27, .aload_n 0, 1), (28, .iload_n 1, 1), (29, .invokevirtual 180, 3), (32, .astore 4, 2), (34, .aload_n 0, 1), (35, .iload_n 1, 1), (36, .aload 4, 2), (38, .invokevirtual 220, 3), (41, .ifCond .eq 6, 3), (44, .bipush (-4), 2), (46, .ireturn, 1), (47, .aload_n 0, 1), (48, .aload 4, 2), (50, .getfield 191, 3), (53, .invokevirtual 125, 3), (56, .astore 5, 2), (58, .aload 5, 2), (60, .getfield 133, 3), (63, .iload_n 3, 1), (64, .iadd, 1), (65, .sipush 300, 3), (68, .if_icmp .le 6, 3), (71, .bipush (-3), 2), (73, .ireturn, 1), (74, .aload_n 0, 1), (75, .getfield 62, 3), (78, .aload_n 0, 1), (79, .getfield 55, 3), (82, .invokevirtual 264, 3), (85, .aload_n 0, 1), (86, .aload 4, 2), (88, .getfield 191, 3), (91, .invokevirtual 147, 3), (94, .astore 6, 2), (96, .iconst 0, 1), (97, .istore 7, 2), (99, .iload 7, 2), (101, .iload_n 3, 1), (102, .if_icmp .ge 44, 3), (105, .aload 6, 2), (107, .aload 5, 2), (109, .getfield 133, 3), (112, .iload_n 2, 1), (113, .iload 7, 2), (115, .invokestatic 281, 3), (118, .aload_n 0, 1), (119, .getfield 55, 3), (122, .getfield 116, 3), (125, .iload_n 1, 1), (126, .invokevirtual 284, 3), (129, .aload 5, 2), (131, .dup, 1), (132, .getfield 133, 3), (135, .iconst 1, 1), (136, .iadd, 1), (137, .putfield 133, 3), (140, .iinc 7 1, 3), (143, .goto (-44), 3), (146, .aload_n 0, 1), (147, .invokevirtual 272, 3), (150, .aload 5, 2), (152, .getfield 133, 3), (155, .ireturn, 1)]
def tX9_request : List (Nat × Instr × Nat) := [(0, .aload_n 0, 1), (1, .getfield 43, 3), (4, .iload_n 1, 1), (5, .invokevirtual 261, 3), (8, .ifCond .ne 5, 3), (11, .iconst (-1), 1), (12, .ireturn, 1), (13, .aload_n 0, 1), (14, .iload_n 1, 1), (15, .invokevirtual 180, 3), (18, .astore_n 2, 1), (19, .aload_n 2, 1), (20, .getfield 188, 3), (23, .iconst 1, 1), (24, .if_icmp .eq 6, 3), (27, .bipush (-4), 2), (29, .ireturn, 1), (30, .aload_n 0, 1), (31, .aload_n 2, 1), (32, .getfield 191, 3), (35, .invokevirtual 125, 3), (38, .astore_n 3, 1), (39, .aload_n 3, 1), (40, .getfield 138, 3), (43, .iload_n 1, 1), (44, .if_icmp .eq 11, 3), (47, .aload_n 3, 1), (48, .getfield 141, 3), (51, .iconst (-1), 1), (52, .if_icmp .eq 6, 3), (55, .bipush (-4), 2), (57, .ireturn, 1), (58, .aload_n 0, 1), (59, .getfield 62, 3), (62, .aload_n 0, 1), (63, .getfield 55, 3), (66, .invokevirtual 264, 3), (69, .aload_n 0, 1), (70, .getfield 55, 3), (73, .getfield 258, 3), (76, .iconst 0, 1), (77, .dup2, 1), (78, .iaload, 1), (79, .iconst 1, 1), (80, .iadd, 1), (81, .iastore, 1), (82, .aload_n 3, 1), (83, .iload_n 1, 1), (84, .putfield 141, 3), (87, .aload_n 3, 1), (88, .aload_n 0, 1), (89, .getfield 55, 3), (92, .getfield 116, 3), (95, .putfield 144, 3), (98, .aload_n 3, 1), (99, .getfield 138, 3), (102, .iconst (-1), 1), (103, .if_icmp .ne 7, 3), (106, .aload_n 3, 1), (107, .invokevirtual 288, 3), (110, .aload_n 0, 1), (111, .invokevirtual 272, 3), (114, .aload_n 3, 1), (115, .getfield 138, 3), (118, .iload_n 1, 1), (119, .if_icmp .ne 7, 3), (122, .iconst 1, 1), (123, .goto 4, 3), (126, .iconst 0, 1), (127, .ireturn, 1)]
def tX9_answer : List (Nat × Instr × Nat) := [(0, .aload_n 0, 1), (1, .getfield 43, 3), (4, .iload_n 1, 1), (5, .invokevirtual 261, 3), (8, .ifCond .ne 5, 3), (11, .iconst (-1), 1), (12, .ireturn, 1), (13, .aload_n 0, 1), (14, .iload_n 1, 1), (15, .invokevirtual 180, 3), (18, .astore_n 3, 1), (19, .aload_n 0, 1), (20, .iload_n 1, 1), (21, .aload_n 3, 1), (22, .invokevirtual 291, 3), (25, .ifCond .ne 6, 3), (28, .bipush (-4), 2), (30, .ireturn, 1), (31, .aload_n 0, 1), (32, .aload_n 3, 1), (33, .getfield 191, 3), (36, .invokevirtual 125, 3), (39, .astore 4, 2), (41, .aload 4, 2), (43, .getfield 141, 3), (46, .iconst (-1), 1), (47, .if_icmp .ne 6, 3), (50, .bipush (-4), 2), (52, .ireturn, 1), (53, .aload_n 0, 1), (54, .getfield 62, 3), (57, .aload_n 0, 1), (58, .getfield 55, 3), (61, .invokevirtual 264, 3), (64, .aload 4, 2), (66, .getfield 141, 3), (69, .istore 5, 2), (71, .iload_n 2, 1), (72, .ifCond .eq 24, 3), (75, .aload_n 0, 1), (76, .getfield 55, 3), (79, .getfield 258, 3), (82, .iconst 1, 1), (83, .dup2, 1), (84, .iaload, 1), (85, .iconst 1, 1), (86, .iadd, 1), (87, .iastore, 1), (88, .aload 4, 2), (90, .invokevirtual 288, 3), (93, .goto 22, 3), (96, .aload_n 0, 1), (97, .getfield 55, 3), (100, .getfield 258, 3), (103, .iconst 3, 1), (104, .dup2, 1), (105, .iaload, 1), (106, .iconst 1, 1), (107, .iadd, 1), (108, .iastore, 1), (109, .aload 4, 2), (111, .iconst (-1), 1), (112, .putfield 141, 3), (115, .aload_n 0, 1), (116, .invokevirtual 272, 3), (119, .iload 5, 2), (121, .ireturn, 1)]
def tX9_yield : List (Nat × Instr × Nat) := [(0, .aload_n 0, 1), (1, .getfield 43, 3), (4, .iload_n 1, 1), (5, .invokevirtual 261, 3), (8, .ifCond .ne 6, 3), (11, .bipush (-2), 2), (13, .ireturn, 1), (14, .aload_n 0, 1), (15, .iload_n 1, 1), (16, .invokevirtual 180, 3), (19, .astore_n 2, 1), (20, .aload_n 0, 1), (21, .iload_n 1, 1), (22, .aload_n 2, 1), (23, .invokevirtual 291, 3), (26, .ifCond .ne 6, 3), (29, .bipush (-4), 2), (31, .ireturn, 1), (32, .aload_n 0, 1), (33, .getfield 62, 3), (36, .aload_n 0, 1), (37, .getfield 55, 3), (40, .invokevirtual 264, 3), (43, .aload_n 0, 1), (44, .aload_n 2, 1), (45, .getfield 191, 3), (48, .invokevirtual 125, 3), (51, .astore_n 3, 1), (52, .aload_n 3, 1), (53, .invokevirtual 288, 3), (56, .aload_n 0, 1), (57, .invokevirtual 272, 3), (60, .aload_n 3, 1), (61, .getfield 138, 3), (64, .ireturn, 1)]
def tX9_pass : List (Nat × Instr × Nat) := [(0, .iload_n 1, 1), (1, .iconst 1, 1), (2, .if_icmp .lt 10, 3), (5, .iload_n 1, 1), (6, .sipush 500, 3), (9, .if_icmp .le 6, 3), (12, .bipush (-2), 2), (14, .ireturn, 1), (15, .aload_n 0, 1), (16, .getfield 55, 3), (19, .getfield 116, 3), (22, .iload_n 1, 1), (23, .iadd, 1), (24, .sipush 9999, 3), (27, .if_icmp .le 6, 3), (30, .bipush (-3), 2), (32, .ireturn, 1), (33, .aload_n 0, 1), (34, .getfield 62, 3), (37, .aload_n 0, 1), (38, .getfield 55, 3), (41, .invokevirtual 264, 3), (44, .iconst 0, 1), (45, .istore_n 2, 1), (46, .iconst 0, 1), (47, .istore_n 3, 1), (48, .iload_n 3, 1), (49, .iload_n 1, 1), (50, .if_icmp .ge 29, 3), (53, .aload_n 0, 1), (54, .getfield 55, 3), (57, .dup, 1), (58, .getfield 116, 3), (61, .iconst 1, 1), (62, .iadd, 1), (63, .putfield 116, 3), (66, .iload_n 2, 1), (67, .aload_n 0, 1), (68, .invokevirtual 295, 3), (71, .iadd, 1), (72, .istore_n 2, 1), (73, .iinc 3 1, 3), (76, .goto (-28), 3), (79, .aload_n 0, 1), (80, .invokevirtual 272, 3), (83, .iload_n 2, 1), (84, .ireturn, 1)]
def tX9_setSetting : List (Nat × Instr × Nat) := [(0, .iload_n 1, 1), (1, .ifCond .lt 26, 3), (4, .iload_n 1, 1), (5, .iconst 2, 1), (6, .if_icmp .ge 21, 3), (9, .iload_n 2, 1), (10, .getstatic 298, 3), (13, .iload_n 1, 1), (14, .iaload, 1), (15, .if_icmp .lt 12, 3), (18, .iload_n 2, 1), (19, .getstatic 301, 3), (22, .iload_n 1, 1), (23, .iaload, 1), (24, .if_icmp .le 6, 3), (27, .bipush (-2), 2), (29, .ireturn, 1), (30, .aload_n 0, 1), (31, .getfield 62, 3), (34, .aload_n 0, 1), (35, .getfield 55, 3), (38, .invokevirtual 264, 3), (41, .aload_n 0, 1), (42, .getfield 55, 3), (45, .getfield 124, 3), (48, .iload_n 1, 1), (49, .iaload, 1), (50, .istore_n 3, 1), (51, .aload_n 0, 1), (52, .getfield 55, 3), (55, .getfield 124, 3), (58, .iload_n 1, 1), (59, .iload_n 2, 1), (60, .iastore, 1), (61, .aload_n 0, 1), (62, .invokevirtual 272, 3), (65, .iload_n 3, 1), (66, .ireturn, 1)]
def tX9_write : List (Nat × Instr × Nat) := [(0, .aload_n 0, 1), (1, .iload_n 1, 1), (2, .invokevirtual 180, 3), (5, .astore_n 2, 1), (6, .aload_n 0, 1), (7, .iconst 0, 1), (8, .putfield 31, 3), (11, .aload_n 2, 1), (12, .getfield 188, 3), (15, .ifCond .ne 5, 3), (18, .iconst 0, 1), (19, .ireturn, 1), (20, .aload_n 0, 1), (21, .aload_n 0, 1), (22, .getfield 69, 3), (25, .aload_n 2, 1), (26, .getfield 191, 3), (29, .aload_n 0, 1), (30, .aload_n 2, 1), (31, .invokevirtual 194, 3), (34, .invokevirtual 155, 3), (37, .aload_n 0, 1), (38, .aload_n 2, 1), (39, .invokevirtual 204, 3), (42, .istore_n 3, 1), (43, .iconst 0, 1), (44, .istore 4, 2), (46, .iload 4, 2), (48, .aload_n 2, 1), (49, .getfield 187, 3), (52, .if_icmp .ge 53, 3), (55, .iconst 0, 1), (56, .istore 5, 2), (58, .iload 5, 2), (60, .aload_n 2, 1), (61, .getfield 184, 3), (64, .if_icmp .ge 29, 3), (67, .aload_n 0, 1), (68, .aload_n 0, 1), (69, .getfield 69, 3), (72, .iload_n 3, 1), (73, .iload 4, 2), (75, .iadd, 1), (76, .iload 5, 2), (78, .invokevirtual 177, 3), (81, .invokestatic 307, 3), (84, .invokevirtual 310, 3), (87, .iinc 5 1, 3), (90, .goto (-32), 3), (93, .aload_n 0, 1), (94, .bipush 10, 2), (96, .invokevirtual 310, 3), (99, .iinc 4 1, 3), (102, .goto (-56), 3), (105, .aload_n 0, 1), (106, .getfield 31, 3), (109, .ireturn, 1)]
def tX9_outputAt : List (Nat × Instr × Nat) := [(0, .iload_n 1, 1), (1, .ifCond .lt 20, 3), (4, .iload_n 1, 1), (5, .aload_n 0, 1), (6, .getfield 31, 3), (9, .if_icmp .ge 12, 3), (12, .iload_n 1, 1), (13, .aload_n 0, 1), (14, .getfield 27, 3), (17, .arraylength, 1), (18, .if_icmp .lt 5, 3), (21, .iconst (-1), 1), (22, .ireturn, 1), (23, .aload_n 0, 1), (24, .getfield 27, 3), (27, .iload_n 1, 1), (28, .iaload, 1), (29, .ireturn, 1)]
def tX9_deskOf : List (Nat × Instr × Nat) := [(0, .aload_n 0, 1), (1, .getfield 39, 3), (4, .iload_n 1, 1), (5, .invokevirtual 261, 3), (8, .ifCond .eq 15, 3), (11, .iload_n 1, 1), (12, .aload_n 0, 1), (13, .getfield 55, 3), (16, .getfield 313, 3), (19, .arraylength, 1), (20, .if_icmp .lt 11, 3), (23, .new 317, 3), (26, .dup, 1), (27, .invokespecial 319, 3), (30, .athrow, 1), (31, .aload_n 0, 1), (32, .getfield 55, 3), (35, .getfield 313, 3), (38, .iload_n 1, 1), (39, .aaload, 1), (40, .areturn, 1)]
def tX9_recordingOf : List (Nat × Instr × Nat) := [(0, .aload_n 0, 1), (1, .getfield 39, 3), (4, .iload_n 1, 1), (5, .invokevirtual 261, 3), (8, .ifCond .eq 12, 3), (11, .iload_n 1, 1), (12, .aload_n 0, 1), (13, .getfield 48, 3), (16, .arraylength, 1), (17, .if_icmp .lt 11, 3), (20, .new 317, 3), (23, .dup, 1), (24, .invokespecial 319, 3), (27, .athrow, 1), (28, .aload_n 0, 1), (29, .getfield 48, 3), (32, .iload_n 1, 1), (33, .aaload, 1), (34, .areturn, 1)]
def tX9_seatOf : List (Nat × Instr × Nat) := [(0, .aload_n 0, 1), (1, .getfield 43, 3), (4, .iload_n 1, 1), (5, .invokevirtual 261, 3), (8, .ifCond .eq 15, 3), (11, .iload_n 1, 1), (12, .aload_n 0, 1), (13, .getfield 55, 3), (16, .getfield 320, 3), (19, .arraylength, 1), (20, .if_icmp .lt 11, 3), (23, .new 317, 3), (26, .dup, 1), (27, .invokespecial 319, 3), (30, .athrow, 1), (31, .aload_n 0, 1), (32, .getfield 55, 3), (35, .getfield 320, 3), (38, .iload_n 1, 1), (39, .aaload, 1), (40, .areturn, 1)]
def tX9_whyNotAWatcher : List (Nat × Instr × Nat) := [(0, .aload_n 0, 1), (1, .getfield 43, 3), (4, .iload_n 1, 1), (5, .invokevirtual 261, 3), (8, .ifCond .ne 5, 3), (11, .iconst (-1), 1), (12, .ireturn, 1), (13, .aload_n 0, 1), (14, .iload_n 1, 1), (15, .invokevirtual 180, 3), (18, .getfield 188, 3), (21, .ifCond .ne 8, 3), (24, .bipush (-4), 2), (26, .goto 4, 3), (29, .iconst 0, 1), (30, .ireturn, 1)]
def tX9_usersWhoWatch : List (Nat × Instr × Nat) := [(0, .iconst 0, 1), (1, .istore_n 1, 1), (2, .iconst 0, 1), (3, .istore_n 2, 1), (4, .iload_n 2, 1), (5, .aload_n 0, 1), (6, .getfield 43, 3), (9, .getfield 109, 3), (12, .if_icmp .ge 23, 3), (15, .aload_n 0, 1), (16, .iload_n 2, 1), (17, .invokevirtual 180, 3), (20, .getfield 188, 3), (23, .ifCond .eq 6, 3), (26, .iinc 1 1, 3), (29, .iinc 2 1, 3), (32, .goto (-28), 3), (35, .iload_n 1, 1), (36, .ireturn, 1)]
def tX9_usersWhoWatchSession : List (Nat × Instr × Nat) := [(0, .iconst 0, 1), (1, .istore_n 2, 1), (2, .iconst 0, 1), (3, .istore_n 3, 1), (4, .iload_n 3, 1), (5, .aload_n 0, 1), (6, .getfield 43, 3), (9, .getfield 109, 3), (12, .if_icmp .ge 36, 3), (15, .aload_n 0, 1), (16, .iload_n 3, 1), (17, .invokevirtual 180, 3), (20, .astore 4, 2), (22, .aload 4, 2), (24, .getfield 188, 3), (27, .ifCond .eq 15, 3), (30, .aload 4, 2), (32, .getfield 191, 3), (35, .iload_n 1, 1), (36, .if_icmp .ne 6, 3), (39, .iinc 2 1, 3), (42, .iinc 3 1, 3), (45, .goto (-41), 3), (48, .iload_n 2, 1), (49, .ireturn, 1)]
def tX9_draw : List (Nat × Instr × Nat) := [(0, .iload_n 3, 1), (1, .ifCond .lt 15, 3), (4, .iload_n 3, 1), (5, .aload_n 0, 1), (6, .iload_n 2, 1), (7, .invokevirtual 125, 3), (10, .getfield 133, 3), (13, .if_icmp .le 11, 3), (16, .new 317, 3), (19, .dup, 1), (20, .invokespecial 319, 3), (23, .athrow, 1), (24, .aload_n 0, 1), (25, .iload_n 2, 1), (26, .invokevirtual 147, 3), (29, .astore 4, 2), (31, .aload_n 1, 1), (32, .aload_n 0, 1), (33, .getfield 39, 3), (36, .iload_n 2, 1), (37, .iconst 0, 1), (38, .invokevirtual 129, 3), (41, .aload_n 0, 1), (42, .getfield 39, 3), (45, .iload_n 2, 1), (46, .iconst 1, 1), (47, .invokevirtual 129, 3), (50, .invokevirtual 324, 3), (53, .iconst 0, 1), (54, .istore 5, 2), (56, .iload 5, 2), (58, .iload_n 3, 1), (59, .if_icmp .ge 17, 3), (62, .aload_n 1, 1), (63, .aload 4, 2), (65, .iload 5, 2), (67, .invokevirtual 241, 3), (70, .iinc 5 1, 3), (73, .goto (-17), 3), (76, .return_, 1)]
def tX9_positionOf : List (Nat × Instr × Nat) := [(0, .aload_n 0, 1), (1, .aload_n 1, 1), (2, .getfield 191, 3), (5, .invokevirtual 125, 3), (8, .getfield 133, 3), (11, .istore_n 2, 1), (12, .aload_n 1, 1), (13, .getfield 188, 3), (16, .iconst 1, 1), (17, .if_icmp .ne 5, 3), (20, .iload_n 2, 1), (21, .ireturn, 1), (22, .aload_n 1, 1), (23, .getfield 188, 3), (26, .iconst 2, 1), (27, .if_icmp .ne 8, 3), (30, .aload_n 1, 1), (31, .getfield 229, 3), (34, .ireturn, 1), (35, .aload_n 0, 1), (36, .aload_n 1, 1), (37, .getfield 191, 3), (40, .invokevirtual 147, 3), (43, .astore_n 3, 1), (44, .aload_n 0, 1), (45, .getfield 55, 3), (48, .getfield 116, 3), (51, .aload_n 1, 1), (52, .getfield 232, 3), (55, .isub, 1), (56, .aload_n 1, 1), (57, .getfield 201, 3), (60, .imul, 1), (61, .istore 4, 2), (63, .aload_n 1, 1), (64, .getfield 229, 3), (67, .istore 5, 2), (69, .iload 5, 2), (71, .iload_n 2, 1), (72, .if_icmp .ge 27, 3), (75, .aload_n 3, 1), (76, .aload_n 1, 1), (77, .getfield 229, 3), (80, .iload 5, 2), (82, .invokevirtual 235, 3), (85, .bipush 100, 2), (87, .imul, 1), (88, .iload 4, 2), (90, .if_icmp .gt 9, 3), (93, .iinc 5 1, 3), (96, .goto (-27), 3), (99, .iload 5, 2), (101, .ireturn, 1)]
def tX9_uppermostLine : List (Nat × Instr × Nat) := [(0, .aload_n 0, 1), (1, .getfield 69, 3), (4, .invokevirtual 207, 3), (7, .aload_n 1, 1), (8, .getfield 198, 3), (11, .isub, 1), (12, .aload_n 1, 1), (13, .getfield 187, 3), (16, .isub, 1), (17, .iconst 1, 1), (18, .iadd, 1), (19, .iconst 0, 1), (20, .invokestatic 224, 3), (23, .ireturn, 1)]
def tX9_userWithLeastWindow : List (Nat × Instr × Nat) := [(0, .aload_n 0, 1), (1, .getfield 39, 3), (4, .iload_n 1, 1), (5, .iload_n 2, 1), (6, .invokevirtual 129, 3), (9, .istore_n 3, 1), (10, .iconst (-1), 1), (11, .istore 4, 2), (13, .iconst 0, 1), (14, .istore 5, 2), (16, .iload 5, 2), (18, .aload_n 0, 1), (19, .getfield 43, 3), (22, .getfield 109, 3), (25, .if_icmp .ge 48, 3), (28, .aload_n 0, 1), (29, .iload 5, 2), (31, .invokevirtual 180, 3), (34, .astore 6, 2), (36, .aload 6, 2), (38, .iload_n 1, 1), (39, .iconst 1, 1), (40, .invokevirtual 210, 3), (43, .ifCond .eq 24, 3), (46, .aload 6, 2), (48, .iload_n 2, 1), (49, .invokevirtual 327, 3), (52, .iload_n 3, 1), (53, .if_icmp .ge 14, 3), (56, .aload 6, 2), (58, .iload_n 2, 1), (59, .invokevirtual 327, 3), (62, .istore_n 3, 1), (63, .iload 5, 2), (65, .istore 4, 2), (67, .iinc 5 1, 3), (70, .goto (-54), 3), (73, .iload 4, 2), (75, .ireturn, 1)]
def tX9_sizeThatIsRight : List (Nat × Instr × Nat) := [(0, .aload_n 0, 1), (1, .getfield 55, 3), (4, .getfield 124, 3), (7, .iconst 1, 1), (8, .iaload, 1), (9, .ifCond .ne 7, 3), (12, .iconst (-1), 1), (13, .goto 9, 3), (16, .aload_n 0, 1), (17, .iload_n 1, 1), (18, .iload_n 2, 1), (19, .invokevirtual 217, 3), (22, .istore_n 3, 1), (23, .iload_n 3, 1), (24, .iconst (-1), 1), (25, .if_icmp .ne 15, 3), (28, .aload_n 0, 1), (29, .getfield 39, 3), (32, .iload_n 1, 1), (33, .iload_n 2, 1), (34, .invokevirtual 129, 3), (37, .goto 12, 3), (40, .aload_n 0, 1), (41, .iload_n 3, 1), (42, .invokevirtual 180, 3), (45, .iload_n 2, 1), (46, .invokevirtual 327, 3), (49, .ireturn, 1)]
def tX9_recordRightSizes : List (Nat × Instr × Nat) := [(0, .iconst 0, 1), (1, .istore_n 1, 1), (2, .iload_n 1, 1), (3, .aload_n 0, 1), (4, .getfield 39, 3), (7, .getfield 109, 3), (10, .if_icmp .ge 105, 3), (13, .aload_n 0, 1), (14, .iload_n 1, 1), (15, .invokevirtual 125, 3), (18, .astore_n 2, 1), (19, .aload_n 0, 1), (20, .iload_n 1, 1), (21, .iconst 0, 1), (22, .invokevirtual 214, 3), (25, .istore_n 3, 1), (26, .aload_n 0, 1), (27, .iload_n 1, 1), (28, .iconst 1, 1), (29, .invokevirtual 214, 3), (32, .istore 4, 2), (34, .aload_n 0, 1), (35, .iload_n 1, 1), (36, .iconst 0, 1), (37, .invokevirtual 331, 3), (40, .iload_n 3, 1), (41, .if_icmp .ne 18, 3), (44, .aload_n 0, 1), (45, .iload_n 1, 1), (46, .iconst 1, 1), (47, .invokevirtual 331, 3), (50, .iload 4, 2), (52, .if_icmp .ne 7, 3), (55, .iconst 1, 1), (56, .goto 4, 3), (59, .iconst 0, 1), (60, .istore 5, 2), (62, .iload 5, 2), (64, .ifCond .ne 45, 3), (67, .aload_n 2, 1), (68, .getfield 133, 3), (71, .sipush 300, 3), (74, .if_icmp .ge 35, 3), (77, .aload_n 0, 1), (78, .iload_n 1, 1), (79, .invokevirtual 147, 3), (82, .aload_n 2, 1), (83, .getfield 133, 3), (86, .iload_n 3, 1), (87, .iload 4, 2), (89, .aload_n 0, 1), (90, .getfield 55, 3), (93, .getfield 116, 3), (96, .invokevirtual 334, 3), (99, .aload_n 2, 1), (100, .dup, 1), (101, .getfield 133, 3), (104, .iconst 1, 1), (105, .iadd, 1), (106, .putfield 133, 3), (109, .iinc 1 1, 3), (112, .goto (-110), 3), (115, .return_, 1)]
def tX9_lastSize : List (Nat × Instr × Nat) := [(0, .aload_n 0, 1), (1, .iload_n 1, 1), (2, .invokevirtual 147, 3), (5, .astore_n 3, 1), (6, .aload_n 0, 1), (7, .iload_n 1, 1), (8, .invokevirtual 125, 3), (11, .getfield 133, 3), (14, .iconst 1, 1), (15, .isub, 1), (16, .istore 4, 2), (18, .iload 4, 2), (20, .ifCond .lt 36, 3), (23, .aload_n 3, 1), (24, .iconst 0, 1), (25, .iload 4, 2), (27, .invokevirtual 151, 3), (30, .iconst 1, 1), (31, .if_icmp .ne 19, 3), (34, .aload_n 3, 1), (35, .iload_n 2, 1), (36, .ifCond .eq 7, 3), (39, .iconst 2, 1), (40, .goto 4, 3), (43, .iconst 1, 1), (44, .iload 4, 2), (46, .invokevirtual 151, 3), (49, .ireturn, 1), (50, .iinc 4 (-1), 3), (53, .goto (-35), 3), (56, .aload_n 0, 1), (57, .getfield 39, 3), (60, .iload_n 1, 1), (61, .iload_n 2, 1), (62, .invokevirtual 129, 3), (65, .ireturn, 1)]
def tX9_reasonNotToType : List (Nat × Instr × Nat) := [(0, .aload_n 2, 1), (1, .getfield 188, 3), (4, .ifCond .ne 5, 3), (7, .iconst 1, 1), (8, .ireturn, 1), (9, .aload_n 2, 1), (10, .getfield 188, 3), (13, .iconst 1, 1), (14, .if_icmp .eq 5, 3), (17, .iconst 2, 1), (18, .ireturn, 1), (19, .aload_n 0, 1), (20, .aload_n 2, 1), (21, .getfield 191, 3), (24, .invokevirtual 125, 3), (27, .astore_n 3, 1), (28, .aload_n 3, 1), (29, .getfield 138, 3), (32, .iconst (-1), 1), (33, .if_icmp .ne 5, 3), (36, .iconst 3, 1), (37, .ireturn, 1), (38, .aload_n 3, 1), (39, .getfield 138, 3), (42, .iload_n 1, 1), (43, .if_icmp .eq 5, 3), (46, .iconst 4, 1), (47, .ireturn, 1), (48, .aload_n 3, 1), (49, .getfield 133, 3), (52, .sipush 300, 3), (55, .if_icmp .lt 7, 3), (58, .iconst 5, 1), (59, .goto 4, 3), (62, .iconst 0, 1), (63, .ireturn, 1)]
def tX9_controlsItsSession : List (Nat × Instr × Nat) := [(0, .aload_n 2, 1), (1, .getfield 188, 3), (4, .iconst 1, 1), (5, .if_icmp .ne 22, 3), (8, .aload_n 0, 1), (9, .aload_n 2, 1), (10, .getfield 191, 3), (13, .invokevirtual 125, 3), (16, .getfield 138, 3), (19, .iload_n 1, 1), (20, .if_icmp .ne 7, 3), (23, .iconst 1, 1), (24, .goto 4, 3), (27, .iconst 0, 1), (28, .ireturn, 1)]
def tX9_loseControl : List (Nat × Instr × Nat) := [(0, .aload_n 2, 1), (1, .getfield 188, 3), (4, .iconst 1, 1), (5, .if_icmp .eq 4, 3), (8, .return_, 1), (9, .aload_n 0, 1), (10, .aload_n 2, 1), (11, .getfield 191, 3), (14, .invokevirtual 125, 3), (17, .astore_n 3, 1), (18, .aload_n 3, 1), (19, .getfield 141, 3), (22, .iload_n 1, 1), (23, .if_icmp .ne 8, 3), (26, .aload_n 3, 1), (27, .iconst (-1), 1), (28, .putfield 141, 3), (31, .aload_n 3, 1), (32, .getfield 138, 3), (35, .iload_n 1, 1), (36, .if_icmp .ne 7, 3), (39, .aload_n 3, 1), (40, .invokevirtual 288, 3), (43, .return_, 1)]
def tX9_grantOldRequests : List (Nat × Instr × Nat) := [(0, .iconst 0, 1), (1, .istore_n 1, 1), (2, .iconst 0, 1), (3, .istore_n 2, 1), (4, .iload_n 2, 1), (5, .aload_n 0, 1), (6, .getfield 39, 3), (9, .getfield 109, 3), (12, .if_icmp .ge 67, 3), (15, .aload_n 0, 1), (16, .iload_n 2, 1), (17, .invokevirtual 125, 3), (20, .astore_n 3, 1), (21, .aload_n 3, 1), (22, .getfield 141, 3), (25, .iconst (-1), 1), (26, .if_icmp .eq 47, 3), (29, .aload_n 0, 1), (30, .getfield 55, 3), (33, .getfield 116, 3), (36, .aload_n 3, 1), (37, .getfield 144, 3), (40, .isub, 1), (41, .aload_n 0, 1), (42, .getfield 55, 3), (45, .getfield 124, 3), (48, .iconst 0, 1), (49, .iaload, 1), (50, .if_icmp .lt 23, 3), (53, .aload_n 3, 1), (54, .invokevirtual 288, 3), (57, .aload_n 0, 1), (58, .getfield 55, 3), (61, .getfield 258, 3), (64, .iconst 2, 1), (65, .dup2, 1), (66, .iaload, 1), (67, .iconst 1, 1), (68, .iadd, 1), (69, .iastore, 1), (70, .iinc 1 1, 3), (73, .iinc 2 1, 3), (76, .goto (-72), 3), (79, .iload_n 1, 1), (80, .ireturn, 1)]
def tX9_putOut : List (Nat × Instr × Nat) := [(0, .aload_n 0, 1), (1, .getfield 31, 3), (4, .aload_n 0, 1), (5, .getfield 27, 3), (8, .arraylength, 1), (9, .if_icmp .ge 23, 3), (12, .aload_n 0, 1), (13, .getfield 27, 3), (16, .aload_n 0, 1), (17, .getfield 31, 3), (20, .iload_n 1, 1), (21, .iastore, 1), (22, .aload_n 0, 1), (23, .dup, 1), (24, .getfield 31, 3), (27, .iconst 1, 1), (28, .iadd, 1), (29, .putfield 31, 3), (32, .return_, 1)]
def tX9_characterFor : List (Nat × Instr × Nat) := [(0, .iload_n 0, 1), (1, .bipush 27, 2), (3, .if_icmp .ne 8, 3), (6, .bipush 32, 2), (8, .goto 9, 3), (11, .bipush 97, 2), (13, .iload_n 0, 1), (14, .iadd, 1), (15, .iconst 1, 1), (16, .isub, 1), (17, .ireturn, 1)]
def tX9_groupAt : List (Nat × Instr × Nat) := [(0, .iload_n 0, 1), (1, .iconst 5, 1), (2, .iconst 5, 1), (3, .iload_n 1, 1), (4, .isub, 1), (5, .imul, 1), (6, .ishr, 1), (7, .bipush 31, 2), (9, .iand, 1), (10, .ireturn, 1)]
def tX9_groupsIn : List (Nat × Instr × Nat) := [(0, .iload_n 0, 1), (1, .ifCond .le 10, 3), (4, .iload_n 0, 1), (5, .bipush 30, 2), (7, .ishr, 1), (8, .ifCond .eq 5, 3), (11, .iconst 0, 1), (12, .ireturn, 1), (13, .iconst 0, 1), (14, .istore_n 2, 1), (15, .iconst 0, 1), (16, .istore_n 3, 1), (17, .iload_n 3, 1), (18, .bipush 6, 2), (20, .if_icmp .ge 42, 3), (23, .iload_n 0, 1), (24, .iload_n 3, 1), (25, .invokestatic 281, 3), (28, .istore 4, 2), (30, .iload 4, 2), (32, .iload_n 1, 1), (33, .if_icmp .gt 13, 3), (36, .iload 4, 2), (38, .ifCond .eq 10, 3), (41, .iload_n 2, 1), (42, .iload_n 3, 1), (43, .if_icmp .ge 5, 3), (46, .iconst 0, 1), (47, .ireturn, 1), (48, .iload 4, 2), (50, .ifCond .eq 6, 3), (53, .iinc 2 1, 3), (56, .iinc 3 1, 3), (59, .goto (-42), 3), (62, .iload_n 2, 1), (63, .ireturn, 1)]
end
section
/-! ===== BEGIN words of one list among another's, by their places ===== -/
theorem goodIn_r {big : List Cond} (ws : List Cond) (ps : List Nat) (hp : ws = ps.filterMap (fun i => big[i]?)) (h : ws.all goodWord = true) : GoodIn big ws := by
  intro w hw
  have h1 := List.all_eq_true.mp h w hw
  rw [hp] at hw
  obtain ⟨i, -, hi⟩ := List.mem_filterMap.mp hw
  have hm : w ∈ big := by first | exact List.mem_of_getElem? hi | exact List.getElem?_mem hi
  exact ⟨hm, good_of_word h1⟩
theorem goodIn_app {big a b : List Cond} (ha : GoodIn big a) (hb : GoodIn big b) : GoodIn big (a ++ b) := fun w h => (List.mem_append.mp h).elim (ha w) (hb w)
theorem goodIn_ca {big a b : List Cond} {c : Cond} (ha : GoodIn big (c :: a)) (hb : GoodIn big b) : GoodIn big (c :: (a ++ b)) := fun w h => (List.mem_cons.mp h).elim (fun e => ha w (List.mem_cons.mpr (Or.inl e))) (fun h => (List.mem_append.mp h).elim (fun h => ha w (List.mem_cons.mpr (Or.inr h))) (hb w))
theorem goodIn_sub {big ws : List Cond} (hm : ∀ w ∈ ws, w ∈ big) (h : ws.all goodWord = true) : GoodIn big ws := fun w hw => ⟨hm w hw, good_of_word (List.all_eq_true.mp h w hw)⟩
/-! ===== END ===== -/
/-! ===== BEGIN exceptions that leave a method, and their catching by the caller (launches without stack traces) ===== -/
section VXA
/-! The laws vx_back, vx_callV, vx_callS, vx_callSW, vx_throw0, vx_throwS follow proofs of the library, with one case more: JvmDerived/Free/Laws.lean (Back.of_free), Shelf42/LK1.lean (callV, callS), Shelf/KitTraced.lean (throwNew0V, throwNewS). -/
/-- where a method has thrown q: the class by its name, the cell, what was written, the world -/
def vx_T (XC : String → State → State → Prop) (st : State) (q : Addr) (t : State) (mc ms : Nat) (free : Addr → Prop) : Prop :=
  ∃ (E : String) (ce : Cell) (L : List Loc), XC E st t ∧ t.heap[q]? = some ce ∧ ce.vm = .none ∧ st.vm.findClass E = some ce.cls ∧ st.WarmedH t.vm ∧ st.sameButNew ({ t with vm := st.vm } : State) L mc ms ∧ ∀ z ∈ L, free z.base
def vx_Q (Qc : Array Value → State → Outcome → State → Prop) (XC : String → State → State → Prop) (mc ms : Nat) (free : Addr → Prop) : Array Value → State → Outcome → State → Prop := fun a st o t =>
  (Qc a st o t ∧ ∃ L, FrameEnd st o t L mc ms ∧ ∀ q ∈ L, free q.base) ∨ ∃ q, o = .threw q ∧ vx_T XC st q t mc ms free
/-- a callee that returns or throws -/
def vx_Met (l : Launch) (y : MethodName) (ws : List Cond) (rm : Room) (Pc : Array Value → State → Prop) (Qc : Array Value → State → Outcome → State → Prop) (XC : String → State → State → Prop) (mc ms : Nat) (free : Addr → Prop) : Prop :=
  MetFree l y (headSpec ws rm) Pc (fun _ _ _ _ _ => True) (vx_Q Qc XC mc ms free)
def vx_Post (XC : String → State → State → Prop) (mc ms : Nat) (free : Addr → Prop) : Pt → Array Value → Addr → Pt → Prop := fun A a q B =>
  ∃ (g : JFrame) (mk : MethodId) (t : State) (L : List Loc) (E : String) (ce : Cell), B.U.heap = t.heap ∧ B.U.vm = t.vm ∧ XC E (A.U.calling g mk a) t ∧ t.heap[q]? = some ce ∧ ce.vm = .none ∧ A.U.vm.findClass E = some ce.cls ∧ B.locs = A.locs ++ L ∧ (∀ z ∈ L, free z.base) ∧ B.cells = A.cells + mc ∧ B.slots = A.slots + ms
def vx_Back (l : Launch) (R : Room) (p : Program) (e : Env) (below : List Frame) (s : State) (sargs : Array Value) (y : MethodName) (len W9 : Nat)
    (Pre : Pt → Array Value → Prop) (Post : Pt → Array Value → Option Value → Pt → Prop) (PostX : Pt → Array Value → Addr → Pt → Prop) : Prop :=
  ∀ (m : MethodId) (meth : Method) (c : Code) (A : Pt) (g : JFrame) (ig : Instr) (mk : MethodId) (a : Array Value),
    Stand p l e R s m sargs below meth c A.U A.locs A.cells A.slots → g.method = m → g.locals.size = c.maxLocals → decode c.code g.pc = .ok (ig, len) →
    2 * g.monitorRoom + (g.stack.map fun v => v.category).sum ≤ W9 → A.U.methodNamed? y = some mk → Pre A a →
    (∃ (v : Option Value) (B : Pt), Stand p l e R s m sargs below meth c B.U B.locs B.cells B.slots ∧ Post A a v B ∧
      Steps p.tables e below (doInvoke e (A.U.setTop g) [] mk a).1 (B.U.setTop { g with pc := g.pc + len, stack := v.toList ++ g.stack })) ∨
    (∃ (q : Addr) (B : Pt), Stand p l e R s m sargs below meth c B.U B.locs B.cells B.slots ∧ PostX A a q B ∧
      Steps p.tables e below (doInvoke e (A.U.setTop g) [] mk a).1 ((B.U.setTop g).pushFrame (.throwing q)))
section Payer
variable {l : Launch} {R : Room} {p : Program} {e : Env} {below : List Frame} {s : State} {sargs : Array Value} {y : MethodName} {len W9 : Nat}
theorem vx_back {ws : List Cond} {rm : Room} {Pc : Array Value → State → Prop} {Qc : Array Value → State → Outcome → State → Prop} {XC : String → State → State → Prop} {mc ms : Nat} {free : Addr → Prop} {bytes : ByteArray} {maxL : Nat} {ret : Option FieldType}
    (hM : vx_Met l y ws rm Pc Qc XC mc ms free) (hblind : FrameBlind Pc) (hrc : rm.cells = mc) (hrs : rm.slots = ms)
    (hframes : rm.frames + 1 ≤ R.frames) (hlocals : W9 + (maxL + 11) + rm.locals ≤ R.locals)
    (hws : ∀ w ∈ ws, ∀ a' U, s.WarmedH U.vm → w.before a' U = true) (hcode : Cond.code y bytes maxL ret ∈ ws) (hinit : ∀ a' U, s.WarmedH U.vm → (Cond.initialized y.cls).before a' U = true) :
    vx_Back l R p e below s sargs y len W9 (PreOf R mc ms Pc) (PostOf Qc mc ms free) (vx_Post XC mc ms free) := by
  intro m meth c A g ig mk a X hg hsize hdg hW hn hp
  have h1 : (headSpec ws rm).pre.before a A.U = true := atoms_intro fun w hw => hws w hw _ _ X.warmed
  have h2 : (Cond.code y bytes maxL ret).before a A.U = true := hws _ hcode _ _ X.warmed
  have h3 : (Cond.initialized y.cls).before a A.U = true := hinit _ _ X.warmed
  have h4 : A.cells + (headSpec ws rm).room.cells ≤ R.cells := by rw [show (headSpec ws rm).room.cells = mc from hrc]; exact hp.1
  have h5 : A.slots + (headSpec ws rm).room.slots ≤ R.slots := by rw [show (headSpec ws rm).room.slots = ms from hrs]; exact hp.2.1
  have hPc : Pc a (A.U.calling g mk a) := hblind _ _ _ _ hp.2.2
  obtain ⟨U, Ls, c0, s0⟩ := A
  dsimp only [Pt.U, Pt.locs, Pt.cells, Pt.slots] at h1 h2 h3 h4 h5 X hn hPc ⊢
  obtain ⟨methY, cY, hmY, hcY, -, hlY, -, -, -, -⟩ := Cond.code_spec hn h2
  obtain ⟨kY, hkY, -⟩ := className_of_methodNamed hn
  have hinitY : kY.init = .initialized := Cond.initialized_spec (findClass_of_methodNamed hn) hkY h3
  have h : At U g.method c below := by rw [hg]; exact X.here
  have hlocals9 : W9 + (maxL + 11) + (headSpec ws rm).room.locals ≤ R.locals := hlocals
  have happ : (headSpec ws rm).appliesLoose y e.platform (U.calling g mk a) = true :=
    Spec.appliesLoose_calling (g := g) h hdg hn hkY hinitY
      (X.room_calling (g := g) (R' := (headSpec ws rm).room) hsize hmY hcY hframes (by rw [hlY]; omega) h4 h5) h1
  obtain ⟨mid, hmid⟩ := h.above
  have hfr : (U.setTop g).frames = (.java g :: mid) ++ below := by rw [State.frames_setTop' g h.top, hmid]; rfl
  obtain ⟨o, s₂, hsteps, -, hend, hq⟩ := Steps.callFree hM p X.admits X.cas X.clock (acts := []) hfr happ hPc trivial
  have hq' : vx_Q Qc XC mc ms free a (U.calling g mk a) o s₂ := hq
  rw [State.frames_setTop' g h.top] at hend
  obtain ⟨g₀, hg0⟩ := Option.isSome_iff_exists.mp h.top
  obtain ⟨r, hr⟩ := State.topJava?_eq_some.mp hg0
  have hr' : (({ U with heap := s₂.heap, slotsUsed := s₂.slotsUsed } : State).setVm s₂.vm).frames = .java g₀ :: r := hr
  rcases hq' with ⟨hqc, L, hfe, hL⟩ | ⟨q, rfl, E, ce, L, hx, hce, hcv, hcl, hW₂, hsm, hL⟩
  · obtain ⟨⟨v, rfl⟩, hW₂, e2, q2, q3, q4, q5, q6⟩ := id hfe
    have e3 : s₂ = ({ (U.calling g mk a).setFrames s₂.frames with heap := s₂.heap, slotsUsed := s₂.slotsUsed } : State).setVm s₂.vm := by
      have : s₂ = ({ s₂ with vm := (U.calling g mk a).vm } : State).setVm s₂.vm := rfl
      rw [e2] at this
      exact this
    obtain ⟨c₂, i₂, len₂, hc₂, hd₂, hf₂⟩ := hend
    have hW' : U.WarmedH s₂.vm := hW₂
    have hcc : c₂ = c := by
      have h1 : s₂.code? g.method = U.code? g.method := by
        rw [State.code?_eq, State.code?_eq, hW'.alike.method?]
      exact Option.some.inj (hc₂.symm.trans (h1.trans h.code))
    subst hcc
    have hlen : len₂ = len := by rw [hdg] at hd₂; cases hd₂; rfl
    subst hlen
    have hs₂ : s₂ = (({ U with heap := s₂.heap, slotsUsed := s₂.slotsUsed } : State).setVm s₂.vm).setTop { g with pc := g.pc + len₂, stack := v.toList ++ g.stack } := by
      refine e3.trans ?_
      rw [hf₂, State.calling_eq h.top, State.setFrames_setFrames, State.setTop_of_frames _ hr', hr]
      rfl
    have hsame : U.sameButNew ({ U with heap := s₂.heap, slotsUsed := s₂.slotsUsed } : State) L mc ms := by
      refine ⟨?_, q2, q3, q4, q5, q6⟩
      obtain ⟨t, ht, -⟩ := State.frames_cons hr
      show ({ U with heap := s₂.heap, slotsUsed := s₂.slotsUsed } : State) = { U.setFrames U.frames with heap := s₂.heap, slotsUsed := s₂.slotsUsed }
      rw [State.setFrames_self ht]
    subst hg
    refine Or.inl ⟨v, ⟨(({ U with heap := s₂.heap, slotsUsed := s₂.slotsUsed } : State).setVm s₂.vm), Ls ++ L, c0 + mc, s0 + ms⟩,
      ⟨X.admits, X.cas, X.clock, X.frames, X.room, X.hears, X.method, X.code, (X.here.setHeapUsed s₂.heap s₂.slotsUsed).setVm hW'.alike, X.tail, State.WarmedH.trans X.warmed hW', X.limits, X.bytes, X.same.trans (hsame.setVm s.vm)⟩,
      ⟨g, mk, s₂, L, rfl, rfl, hqc, rfl, hL, rfl, rfl⟩, ?_⟩
    show Steps p.tables e below _ ((({ U with heap := s₂.heap, slotsUsed := s₂.slotsUsed } : State).setVm s₂.vm).setTop { g with pc := g.pc + len₂, stack := v.toList ++ g.stack })
    rw [← hs₂]
    exact hsteps
  · obtain ⟨e2, q2, q3, q4, q5, q6⟩ := id hsm
    have e3 : s₂ = ({ (U.calling g mk a).setFrames s₂.frames with heap := s₂.heap, slotsUsed := s₂.slotsUsed } : State).setVm s₂.vm := by
      have : s₂ = ({ s₂ with vm := (U.calling g mk a).vm } : State).setVm s₂.vm := rfl
      rw [e2] at this
      exact this
    have hf₂ : s₂.frames = .throwing q :: .java g :: U.frames.tail := hend
    have hW' : U.WarmedH s₂.vm := hW₂
    have hs₂ : s₂ = ((({ U with heap := s₂.heap, slotsUsed := s₂.slotsUsed } : State).setVm s₂.vm).setTop g).pushFrame (.throwing q) := by
      refine e3.trans ?_
      rw [hf₂, State.calling_eq h.top, State.setFrames_setFrames, State.pushFrame, State.frames_setTop _ hr', State.setTop_of_frames _ hr', State.setFrames_setFrames, hr]
      rfl
    have hsame : U.sameButNew ({ U with heap := s₂.heap, slotsUsed := s₂.slotsUsed } : State) L mc ms := by
      refine ⟨?_, q2, q3, q4, q5, q6⟩
      obtain ⟨t, ht, -⟩ := State.frames_cons hr
      show ({ U with heap := s₂.heap, slotsUsed := s₂.slotsUsed } : State) = { U.setFrames U.frames with heap := s₂.heap, slotsUsed := s₂.slotsUsed }
      rw [State.setFrames_self ht]
    subst hg
    refine Or.inr ⟨q, ⟨(({ U with heap := s₂.heap, slotsUsed := s₂.slotsUsed } : State).setVm s₂.vm), Ls ++ L, c0 + mc, s0 + ms⟩,
      ⟨X.admits, X.cas, X.clock, X.frames, X.room, X.hears, X.method, X.code, (X.here.setHeapUsed s₂.heap s₂.slotsUsed).setVm hW'.alike, X.tail, State.WarmedH.trans X.warmed hW', X.limits, X.bytes, X.same.trans (hsame.setVm s.vm)⟩,
      ⟨g, mk, s₂, L, E, ce, rfl, rfl, hx, hce, hcv, hcl, rfl, hL, rfl, rfl⟩, ?_⟩
    show Steps p.tables e below _ (((({ U with heap := s₂.heap, slotsUsed := s₂.slotsUsed } : State).setVm s₂.vm).setTop g).pushFrame (.throwing q))
    rw [← hs₂]
    exact hsteps
end Payer
section Calls
variable {p : Program} {l : Launch} {e : Env} {R : Room} {s : State} {m : MethodId} {args : Array Value} {below : List Frame} {meth : Method} {c : Code} {T : State} {locs : List Loc} {cells slots : Nat}
theorem vx_callV (X : Stand p l e R s m args below meth c T locs cells slots) (hexec : p.tables.exec = Jvm.exec) {own C : String} {index : Nat} {y : MethodName} {bytes : ByteArray} {maxL : Nat} {ret : Option FieldType}
    (hown : s.vm.findClass own = some m.cls) (hlink : (Cond.methodLink own index y).before args s = true) (hinst : (Cond.instanceMethod y).before args s = true) (hsel : (Cond.selects C y y).before args s = true)
    (hcode : (Cond.code y bytes maxL ret).before args s = true) (hy : y.cls ≠ "java/lang/invoke/MethodHandle" ∧ y.cls ≠ "java/lang/invoke/VarHandle")
    {W9 : Nat} {Pre : Pt → Array Value → Prop} {Post : Pt → Array Value → Option Value → Pt → Prop} {PostX : Pt → Array Value → Addr → Pt → Prop} (hK : vx_Back l R p e below s args y 3 W9 Pre Post PostX)
    {b : Addr} {cellB : Cell} (hcell : T.heap[b]? = some cellB) (hobj : cellB.vm.isStatics = false) (hcls : s.vm.findClass C = some cellB.cls)
    {g : JFrame} (hg : g.method = m) (hsize : g.locals.size = c.maxLocals) {argsL rest : List Value} (hlen : ∀ sig, parseMethodDescriptor y.desc = some sig → argsL.length = sig.parameters.length)
    (hstack : g.stack = argsL.reverse ++ .ref b :: rest) (hW : 2 * g.monitorRoom + (rest.map fun v => v.category).sum ≤ W9) (hdg : decode c.code g.pc = .ok (.invokevirtual index, 3))
    (hpre : ∀ vm₁, s.WarmedH vm₁ → Pre ⟨T.setVm vm₁, locs, cells, slots⟩ (Value.ref b :: argsL).toArray) :
    (∃ (v : Option Value) (vm₁ : Vm) (B : Pt), s.WarmedH vm₁ ∧ Stand p l e R s m args below meth c B.U B.locs B.cells B.slots ∧ Post ⟨T.setVm vm₁, locs, cells, slots⟩ (Value.ref b :: argsL).toArray v B ∧
      ∀ target, Steps p.tables e below (B.U.setTop { g with pc := g.pc + 3, stack := v.toList ++ rest }) target → Steps p.tables e below (T.setTop g) target) ∨
    (∃ (q : Addr) (vm₁ : Vm) (B : Pt), s.WarmedH vm₁ ∧ Stand p l e R s m args below meth c B.U B.locs B.cells B.slots ∧ PostX ⟨T.setVm vm₁, locs, cells, slots⟩ (Value.ref b :: argsL).toArray q B ∧
      Steps p.tables e below (T.setTop g) ((B.U.setTop { g with stack := rest }).pushFrame (.throwing q))) := by
  obtain ⟨mk, methM, hnamed, hmethM, hstM, habM⟩ := Cond.instanceMethod_spec hinst
  obtain ⟨methM', cM, hmethM', -, -, -, -, -, -, hsigM⟩ := Cond.code_spec hnamed hcode
  cases hmethM.symm.trans hmethM'
  obtain ⟨c2, r2, m2, q1, q2, q3, q4, kP, hkP, hkPi⟩ := Cond.selects_spec hsel
  cases hcls.symm.trans q1
  cases (State.methodFound?_of_named hnamed hy).symm.trans q2
  cases hnamed.symm.trans q3
  have hselP : selectMethod e.platform s.vm cellB.cls mk = .method mk := by rw [Launch.admits_selectMethod X.admits]; exact q4
  obtain ⟨vm₁, X₁, hstep₁⟩ := X.invokevirtual hexec hown hlink hnamed hmethM hstM hkP hkPi hy (a := b) (cell := cellB) hcell
    (fun z h => by rw [h] at hobj; cases hobj) hselP hmethM habM hkP hkPi (g := g) hg (argsL := argsL) (rest := rest) (hlen _ hsigM) hstack hdg
  rcases hK m meth c ⟨T.setVm vm₁, locs, cells, slots⟩ { g with stack := rest } (.invokevirtual index) mk (Value.ref b :: argsL).toArray X₁ hg hsize hdg hW (X₁.named hnamed) (hpre vm₁ X₁.warmed) with ⟨v, B, X', hpost, hsteps⟩ | ⟨q, B, X', hpost, hsteps⟩
  · exact Or.inl ⟨v, vm₁, B, X₁.warmed, X', hpost, fun target h => hstep₁ _ fun acts => by rw [doInvoke_state]; exact hsteps.trans h⟩
  · exact Or.inr ⟨q, vm₁, B, X₁.warmed, X', hpost, hstep₁ _ fun acts => by rw [doInvoke_state]; exact hsteps⟩
theorem vx_callS (X : Stand p l e R s m args below meth c T locs cells slots) (hexec : p.tables.exec = Jvm.exec) {own : String} {index : Nat} {y : MethodName} {bytes : ByteArray} {maxL : Nat} {ret : Option FieldType}
    (hown : s.vm.findClass own = some m.cls) (hlink : (Cond.methodLink own index y).before args s = true) (hstat : (Cond.static y).before args s = true) (hinit : (Cond.initialized y.cls).before args s = true)
    (hcode : (Cond.code y bytes maxL ret).before args s = true) (hy : y.cls ≠ "java/lang/invoke/MethodHandle" ∧ y.cls ≠ "java/lang/invoke/VarHandle")
    {W9 : Nat} {Pre : Pt → Array Value → Prop} {Post : Pt → Array Value → Option Value → Pt → Prop} {PostX : Pt → Array Value → Addr → Pt → Prop} (hK : vx_Back l R p e below s args y 3 W9 Pre Post PostX)
    {g : JFrame} (hg : g.method = m) (hsize : g.locals.size = c.maxLocals) {argsL rest : List Value} (hlen : ∀ sig, parseMethodDescriptor y.desc = some sig → argsL.length = sig.parameters.length)
    (hstack : g.stack = argsL.reverse ++ rest) (hW : 2 * g.monitorRoom + (rest.map fun v => v.category).sum ≤ W9) (hdg : decode c.code g.pc = .ok (.invokestatic index, 3))
    (hpre : ∀ vm₁, s.WarmedH vm₁ → Pre ⟨T.setVm vm₁, locs, cells, slots⟩ argsL.toArray) :
    (∃ (v : Option Value) (vm₁ : Vm) (B : Pt), s.WarmedH vm₁ ∧ Stand p l e R s m args below meth c B.U B.locs B.cells B.slots ∧ Post ⟨T.setVm vm₁, locs, cells, slots⟩ argsL.toArray v B ∧
      ∀ target, Steps p.tables e below (B.U.setTop { g with pc := g.pc + 3, stack := v.toList ++ rest }) target → Steps p.tables e below (T.setTop g) target) ∨
    (∃ (q : Addr) (vm₁ : Vm) (B : Pt), s.WarmedH vm₁ ∧ Stand p l e R s m args below meth c B.U B.locs B.cells B.slots ∧ PostX ⟨T.setVm vm₁, locs, cells, slots⟩ argsL.toArray q B ∧
      Steps p.tables e below (T.setTop g) ((B.U.setTop { g with stack := rest }).pushFrame (.throwing q))) := by
  obtain ⟨mk, hnamed⟩ := Cond.code_named hcode
  obtain ⟨methM, cM, hmethM, -, -, -, -, -, -, hsigM⟩ := Cond.code_spec hnamed hcode
  have hstatic : methM.isStatic = true := Cond.static_spec hnamed hmethM hstat
  obtain ⟨kP, hkP, -⟩ := className_of_methodNamed hnamed
  have hinitP : kP.init = .initialized := Cond.initialized_spec (findClass_of_methodNamed hnamed) hkP hinit
  obtain ⟨vm₁, X₁, hstep₁⟩ := X.invokestatic hexec hown hlink hnamed hmethM hstatic hkP hinitP hy (g := g) hg (argsL := argsL) (rest := rest) (hlen _ hsigM) hstack hdg
  rcases hK m meth c ⟨T.setVm vm₁, locs, cells, slots⟩ { g with stack := rest } (.invokestatic index) mk argsL.toArray X₁ hg hsize hdg hW (X₁.named hnamed) (hpre vm₁ X₁.warmed) with ⟨v, B, X', hpost, hsteps⟩ | ⟨q, B, X', hpost, hsteps⟩
  · exact Or.inl ⟨v, vm₁, B, X₁.warmed, X', hpost, fun target h => hstep₁ _ fun acts => by rw [doInvoke_state]; exact hsteps.trans h⟩
  · exact Or.inr ⟨q, vm₁, B, X₁.warmed, X', hpost, hstep₁ _ fun acts => by rw [doInvoke_state]; exact hsteps⟩
end Calls
theorem vx_cls {s : State} {T : State} {vm₁ : Vm} {E : String} {k : ClassId} (hW : s.WarmedH vm₁) (h : (T.setVm vm₁).vm.findClass E = some k) : s.vm.findClass E = some k := by
  have h1 : vm₁.findClass E = some k := h
  rw [hW.alike.findClass] at h1
  exact h1
/-- the method's frame g, with q thrown over it -/
def vx_W (p : Program) (l : Launch) (e : Env) (R : Room) (s : State) (m : MethodId) (args : Array Value) (below : List Frame) (meth : Method) (c : Code) (H : Heap) (locs : List Loc) (cells slots : Nat) (Q : State → Prop) (g : JFrame) (q : Addr) : Prop :=
  ∀ T : State, T.heap = H → Stand p l e R s m args below meth c T locs cells slots → ∃ t, Steps p.tables e below ((T.setTop g).pushFrame (.throwing q)) t ∧ Q t
def vx_Run (p : Program) (l : Launch) (e : Env) (R : Room) (s : State) (m : MethodId) (args : Array Value) (below : List Frame) (meth : Method) (c : Code) (H : Heap) (locs : List Loc) (cells slots mc ms : Nat) (g : JFrame) (rest : List Value) (Qa : State → Outcome → State → Prop) (XC : String → State → State → Prop) (free : Addr → Prop) : Prop :=
  ∀ T : State, T.heap = H → Stand p l e R s m args below meth c T locs cells slots →
    (∃ (v : Option Value) (st₀ t T' : State) (L : List Loc), st₀.heap = H ∧ Stand p l e R s m args below meth c T' (locs ++ L) (cells + mc) (slots + ms) ∧ (∀ q ∈ L, free q.base) ∧ T'.heap = t.heap ∧ T'.vm = t.vm ∧ Qa st₀ (.returned v) t ∧
      Goes p e below T g T' { g with pc := g.pc + 3, stack := v.toList ++ rest }) ∨
    (∃ (q : Addr) (st₀ t T' : State) (L : List Loc) (E : String) (ce : Cell), st₀.heap = H ∧ Stand p l e R s m args below meth c T' (locs ++ L) (cells + mc) (slots + ms) ∧ (∀ z ∈ L, free z.base) ∧ T'.heap = t.heap ∧ T'.vm = t.vm ∧ XC E st₀ t ∧ t.heap[q]? = some ce ∧ ce.vm = .none ∧ s.vm.findClass E = some ce.cls ∧
      Steps p.tables e below (T.setTop g) ((T'.setTop { g with stack := rest }).pushFrame (.throwing q)))
def vx_X {S : Type} (px : S → Prop) (B : String → S → State → Prop) (A : Nat → Prop) : String → State → State → Prop := fun E st t => ∃ u : S, px u ∧ B E u t ∧ va_F A st t
section Runs
variable {p : Program} {l : Launch} {e : Env} {R : Room} {s : State} {m : MethodId} {args : Array Value} {below : List Frame} {meth : Method} {c : Code} {H : Heap} {locs : List Loc} {cells slots : Nat}
variable {y : MethodName} {bytes cc : ByteArray} {maxL nL mc ms n index : Nat} {ret : Option FieldType} {ws : List Cond} {rm : Room} {Pc : Array Value → State → Prop} {Qc : Array Value → State → Outcome → State → Prop} {XC : String → State → State → Prop} {free : Addr → Prop} {Ts : List Cond} {own C : String} {b : Addr} {As rest : List Value} {g : JFrame}
theorem vx_callBack (cb : CallB R s args own index y bytes maxL ret ws rm mc ms n) (hM : vx_Met l y ws rm Pc Qc XC mc ms free) (hbl : FrameBlind Pc) : vx_Back l R p e below s args y 3 8 (PreOf R mc ms Pc) (PostOf Qc mc ms free) (vx_Post XC mc ms free) := by
  obtain ⟨hrc, hrs, hfr, hlo, hws, hcw, -, hini, -⟩ := cb
  exact vx_back (bytes := bytes) (maxL := maxL) (ret := ret) hM hbl hrc hrs hfr hlo hws hcw (fun a' U hW => word_at hW (Or.inl (by first | rfl | simp [Cond.onTables, Cond.keeps, Cond.steady])) hini)
theorem vx_runV (S : CallFix p m c cc nL s args Ts own) (hM : vx_Met l y ws rm Pc Qc XC mc ms free) (cw : CallW R s args own C index y bytes maxL ret ws rm mc ms n) (hp : PreV s H C b Pc As)
    (hg : g.method = m) (hn : As.length = n) (hsize : g.locals.size = nL) (hstack : g.stack = As.reverse ++ .ref b :: rest) (hW : 2 * g.monitorRoom + (rest.map fun v => v.category).sum ≤ 8) (hdg : decode cc g.pc = .ok (.invokevirtual index, 3)) (hf : cells + mc ≤ R.cells ∧ slots + ms ≤ R.slots) :
    vx_Run p l e R s m args below meth c H locs cells slots mc ms g rest (Qc (Value.ref b :: As).toArray) XC free := by
  have hK : vx_Back l R p e below s args y 3 8 (PreOf R mc ms Pc) (PostOf Qc mc ms free) (vx_Post XC mc ms free) := vx_callBack cw.1 hM hp.1
  obtain ⟨⟨-, -, -, -, -, -, hcode, -, hy, hlen, hl⟩, hin, hse⟩ := cw
  obtain ⟨hx, hb, hml, ho, -⟩ := S
  obtain ⟨-, ⟨cellB, hcB, hoB, hclB⟩, hPc⟩ := hp
  intro T hT X
  rcases vx_callV X hx (C := C) (bytes := bytes) (maxL := maxL) (ret := ret) ho hl hin hse hcode hy hK (by rw [hT]; exact hcB) hoB hclB hg (hsize.trans hml.symm) (argsL := As) (rest := rest) (fun sig h => hn.trans (hlen sig h)) hstack hW (by rw [hb]; exact hdg)
    (fun vm₁ hW₁ => ⟨hf.1, hf.2, hPc (T.setVm vm₁) hT hW₁⟩) with ⟨v, vm₁, ⟨U', l2, c2, s2⟩, hW₁, X', ⟨g', mk, t, L, e1, e2, hq, h1, hL, h2, h3⟩, st⟩ | ⟨q, vm₁, ⟨U', l2, c2, s2⟩, hW₁, X', ⟨g', mk, t, L, E, ce, e1, e2, hq, hce, hcv, hcl, h1, hL, h2, h3⟩, st⟩
  · dsimp only [Pt.U, Pt.locs, Pt.cells, Pt.slots] at X' e1 e2 h1 h2 h3 st
    subst h1; subst h2; subst h3
    exact Or.inl ⟨v, (T.setVm vm₁).calling g' mk (Value.ref b :: As).toArray, t, U', L, hT, X', hL, e1, e2, hq, st⟩
  · dsimp only [Pt.U, Pt.locs, Pt.cells, Pt.slots] at X' e1 e2 h1 h2 h3 st hcl
    subst h1; subst h2; subst h3
    exact Or.inr ⟨q, (T.setVm vm₁).calling g' mk (Value.ref b :: As).toArray, t, U', L, E, ce, hT, X', hL, e1, e2, hq, hce, hcv, vx_cls hW₁ hcl, st⟩
theorem vx_runS (S : CallFix p m c cc nL s args Ts own) (hM : vx_Met l y ws rm Pc Qc XC mc ms free) (cw : CallB R s args own index y bytes maxL ret ws rm mc ms n ∧ (Cond.static y).before args s = true) (hp : PreS s H Pc As)
    (hg : g.method = m) (hn : As.length = n) (hsize : g.locals.size = nL) (hstack : g.stack = As.reverse ++ rest) (hW : 2 * g.monitorRoom + (rest.map fun v => v.category).sum ≤ 8) (hdg : decode cc g.pc = .ok (.invokestatic index, 3)) (hf : cells + mc ≤ R.cells ∧ slots + ms ≤ R.slots) :
    vx_Run p l e R s m args below meth c H locs cells slots mc ms g rest (Qc As.toArray) XC free := by
  have hK : vx_Back l R p e below s args y 3 8 (PreOf R mc ms Pc) (PostOf Qc mc ms free) (vx_Post XC mc ms free) := vx_callBack cw.1 hM hp.1
  obtain ⟨⟨-, -, -, -, -, -, hcode, hini, hy, hlen, hl⟩, hstt⟩ := cw
  obtain ⟨hx, hb, hml, ho, -⟩ := S
  intro T hT X
  rcases vx_callS X hx (bytes := bytes) (maxL := maxL) (ret := ret) ho hl hstt hini hcode hy hK hg (hsize.trans hml.symm) (argsL := As) (rest := rest) (fun sig h => hn.trans (hlen sig h)) hstack hW (by rw [hb]; exact hdg)
    (fun vm₁ hW₁ => ⟨hf.1, hf.2, hp.2 (T.setVm vm₁) hT hW₁⟩) with ⟨v, vm₁, ⟨U', l2, c2, s2⟩, hW₁, X', ⟨g', mk, t, L, e1, e2, hq, h1, hL, h2, h3⟩, st⟩ | ⟨q, vm₁, ⟨U', l2, c2, s2⟩, hW₁, X', ⟨g', mk, t, L, E, ce, e1, e2, hq, hce, hcv, hcl, h1, hL, h2, h3⟩, st⟩
  · dsimp only [Pt.U, Pt.locs, Pt.cells, Pt.slots] at X' e1 e2 h1 h2 h3 st
    subst h1; subst h2; subst h3
    exact Or.inl ⟨v, (T.setVm vm₁).calling g' mk As.toArray, t, U', L, hT, X', hL, e1, e2, hq, st⟩
  · dsimp only [Pt.U, Pt.locs, Pt.cells, Pt.slots] at X' e1 e2 h1 h2 h3 st hcl
    subst h1; subst h2; subst h3
    exact Or.inr ⟨q, (T.setVm vm₁).calling g' mk As.toArray, t, U', L, E, ce, hT, X', hL, e1, e2, hq, hce, hcv, vx_cls hW₁ hcl, st⟩
end Runs
section Rows
variable {p : Program} {l : Launch} {e : Env} {R : Room} {s : State} {m : MethodId} {args : Array Value} {below : List Frame} {meth : Method} {c : Code} {H : Heap} {locs : List Loc} {cells slots : Nat} {Q : State → Prop}
variable {mc ms : Nat} {free : Addr → Prop} {A0 A1 : Nat → Prop} {H0 : Heap} {a : Array Value} {pc : Nat} {ls : Array Slot} {st0 rest : List Value}
theorem vx_keep {st₀ t T' : State} {L : List Loc} (h0 : st₀.heap = H) (e1 : T'.heap = t.heap) (hS : va_S A0 H0 H locs) (hA : ∀ q, q < H.size → A1 q → A0 q) (hf : ∀ q, free q → A0 q) (hL : ∀ q ∈ L, free q.base) (hF : va_F A1 st₀ t) :
    H.size ≤ T'.heap.size ∧ (∀ q : Nat, q < H.size → ¬ A1 q → T'.heap[q]? = H[q]?) ∧ va_S A0 H0 T'.heap (locs ++ L) := by
  obtain ⟨hz, hk⟩ := hF
  rw [h0] at hz hk
  exact ⟨by rw [e1]; exact hz, fun q h1 h2 => by rw [e1]; exact hk q h1 h2,
    ⟨Nat.le_trans hS.1 (by rw [e1]; exact hz), fun q h1 h2 => by rw [e1, hk q (Nat.lt_of_lt_of_le h1 hS.1) (fun z => h2 (hA q (Nat.lt_of_lt_of_le h1 hS.1) z))]; exact hS.2.1 q h1 h2, fun q hq => by
      rcases List.mem_append.mp hq with h | h
      · exact hS.2.2 q h
      · exact hf _ (hL q h)⟩⟩
theorem vx_calli {S SX : Type} {post : Int32 → S → Prop} {px : SX → Prop} {B : S → State → Prop} {BX : String → SX → State → Prop} {AX : Nat → Prop} (hr : vx_Run p l e R s m args below meth c H locs cells slots mc ms (F0 m pc ls st0) rest (va_Qi post B A1 a) (vx_X px BX AX) free) (hS : va_S A0 H0 H locs) (hA : ∀ q, q < H.size → A1 q → A0 q) (hf : ∀ q, free q → A0 q) (hAX : ∀ q, q < H.size → AX q → A0 q)
    (kx : ∀ (E : String) (ce : Cell) (q9 : Addr) (u : SX) (t : State) (H1 : Heap) (locs1 : List Loc), t.heap = H1 → s.vm.Alike t.vm → px u → BX E u t → H.size ≤ H1.size → (∀ q : Nat, q < H.size → ¬ AX q → H1[q]? = H[q]?) → va_S A0 H0 H1 locs1 → H1[q9]? = some ce → ce.vm = .none → s.vm.findClass E = some ce.cls → vx_W p l e R s m args below meth c H1 locs1 (cells + mc) (slots + ms) Q (F0 m pc ls rest) q9)
    (kk : ∀ (r : Int32) (u : S) (t : State) (H1 : Heap) (locs1 : List Loc), t.heap = H1 → s.vm.Alike t.vm → post r u → B u t → H.size ≤ H1.size → (∀ q : Nat, q < H.size → ¬ A1 q → H1[q]? = H[q]?) → va_S A0 H0 H1 locs1 → W p l e R s m args below meth c H1 locs1 (cells + mc) (slots + ms) Q (F0 m (pc + 3) ls (.int r :: rest))) : W p l e R s m args below meth c H locs cells slots Q (F0 m pc ls st0) := by
  intro T hT X
  rcases hr T hT X with ⟨v, st₀, t, T', L, h0, X', hL, e1, e2, ⟨⟨r, u, hv, hp, hb⟩, hF⟩, st⟩ | ⟨q, st₀, t, T', L, E, ce, h0, X', hL, e1, e2, ⟨u, hp, hb, hF⟩, hce, hcv, hcl, st⟩
  · cases hv
    obtain ⟨k1, k2, k3⟩ := vx_keep h0 e1 hS hA hf hL hF
    obtain ⟨t2, a1, b1⟩ := kk r u t T'.heap (locs ++ L) e1.symm (by rw [← e2]; exact X'.warmed.alike) hp hb k1 k2 k3 T' rfl X'
    exact ⟨t2, st t2 a1, b1⟩
  · obtain ⟨k1, k2, k3⟩ := vx_keep h0 e1 hS hAX hf hL hF
    obtain ⟨t2, a1, b1⟩ := kx E ce q u t T'.heap (locs ++ L) e1.symm (by rw [← e2]; exact X'.warmed.alike) hp hb k1 k2 k3 (by rw [e1]; exact hce) hcv hcl T' rfl X'
    exact ⟨t2, st.trans a1, b1⟩
theorem vx_calll {S SX : Type} {post : Int64 → S → Prop} {px : SX → Prop} {B : S → State → Prop} {BX : String → SX → State → Prop} {AX : Nat → Prop} (hr : vx_Run p l e R s m args below meth c H locs cells slots mc ms (F0 m pc ls st0) rest (va_Ql post B A1 a) (vx_X px BX AX) free) (hS : va_S A0 H0 H locs) (hA : ∀ q, q < H.size → A1 q → A0 q) (hf : ∀ q, free q → A0 q) (hAX : ∀ q, q < H.size → AX q → A0 q)
    (kx : ∀ (E : String) (ce : Cell) (q9 : Addr) (u : SX) (t : State) (H1 : Heap) (locs1 : List Loc), t.heap = H1 → s.vm.Alike t.vm → px u → BX E u t → H.size ≤ H1.size → (∀ q : Nat, q < H.size → ¬ AX q → H1[q]? = H[q]?) → va_S A0 H0 H1 locs1 → H1[q9]? = some ce → ce.vm = .none → s.vm.findClass E = some ce.cls → vx_W p l e R s m args below meth c H1 locs1 (cells + mc) (slots + ms) Q (F0 m pc ls rest) q9)
    (kk : ∀ (r : Int64) (u : S) (t : State) (H1 : Heap) (locs1 : List Loc), t.heap = H1 → s.vm.Alike t.vm → post r u → B u t → H.size ≤ H1.size → (∀ q : Nat, q < H.size → ¬ A1 q → H1[q]? = H[q]?) → va_S A0 H0 H1 locs1 → W p l e R s m args below meth c H1 locs1 (cells + mc) (slots + ms) Q (F0 m (pc + 3) ls (.long r :: rest))) : W p l e R s m args below meth c H locs cells slots Q (F0 m pc ls st0) := by
  intro T hT X
  rcases hr T hT X with ⟨v, st₀, t, T', L, h0, X', hL, e1, e2, ⟨⟨r, u, hv, hp, hb⟩, hF⟩, st⟩ | ⟨q, st₀, t, T', L, E, ce, h0, X', hL, e1, e2, ⟨u, hp, hb, hF⟩, hce, hcv, hcl, st⟩
  · cases hv
    obtain ⟨k1, k2, k3⟩ := vx_keep h0 e1 hS hA hf hL hF
    obtain ⟨t2, a1, b1⟩ := kk r u t T'.heap (locs ++ L) e1.symm (by rw [← e2]; exact X'.warmed.alike) hp hb k1 k2 k3 T' rfl X'
    exact ⟨t2, st t2 a1, b1⟩
  · obtain ⟨k1, k2, k3⟩ := vx_keep h0 e1 hS hAX hf hL hF
    obtain ⟨t2, a1, b1⟩ := kx E ce q u t T'.heap (locs ++ L) e1.symm (by rw [← e2]; exact X'.warmed.alike) hp hb k1 k2 k3 (by rw [e1]; exact hce) hcv hcl T' rfl X'
    exact ⟨t2, st.trans a1, b1⟩
theorem vx_callf {S SX : Type} {post : UInt32 → S → Prop} {px : SX → Prop} {B : S → State → Prop} {BX : String → SX → State → Prop} {AX : Nat → Prop} (hr : vx_Run p l e R s m args below meth c H locs cells slots mc ms (F0 m pc ls st0) rest (va_Qf post B A1 a) (vx_X px BX AX) free) (hS : va_S A0 H0 H locs) (hA : ∀ q, q < H.size → A1 q → A0 q) (hf : ∀ q, free q → A0 q) (hAX : ∀ q, q < H.size → AX q → A0 q)
    (kx : ∀ (E : String) (ce : Cell) (q9 : Addr) (u : SX) (t : State) (H1 : Heap) (locs1 : List Loc), t.heap = H1 → s.vm.Alike t.vm → px u → BX E u t → H.size ≤ H1.size → (∀ q : Nat, q < H.size → ¬ AX q → H1[q]? = H[q]?) → va_S A0 H0 H1 locs1 → H1[q9]? = some ce → ce.vm = .none → s.vm.findClass E = some ce.cls → vx_W p l e R s m args below meth c H1 locs1 (cells + mc) (slots + ms) Q (F0 m pc ls rest) q9)
    (kk : ∀ (r : UInt32) (u : S) (t : State) (H1 : Heap) (locs1 : List Loc), t.heap = H1 → s.vm.Alike t.vm → post r u → B u t → H.size ≤ H1.size → (∀ q : Nat, q < H.size → ¬ A1 q → H1[q]? = H[q]?) → va_S A0 H0 H1 locs1 → W p l e R s m args below meth c H1 locs1 (cells + mc) (slots + ms) Q (F0 m (pc + 3) ls (.float r :: rest))) : W p l e R s m args below meth c H locs cells slots Q (F0 m pc ls st0) := by
  intro T hT X
  rcases hr T hT X with ⟨v, st₀, t, T', L, h0, X', hL, e1, e2, ⟨⟨r, u, hv, hp, hb⟩, hF⟩, st⟩ | ⟨q, st₀, t, T', L, E, ce, h0, X', hL, e1, e2, ⟨u, hp, hb, hF⟩, hce, hcv, hcl, st⟩
  · cases hv
    obtain ⟨k1, k2, k3⟩ := vx_keep h0 e1 hS hA hf hL hF
    obtain ⟨t2, a1, b1⟩ := kk r u t T'.heap (locs ++ L) e1.symm (by rw [← e2]; exact X'.warmed.alike) hp hb k1 k2 k3 T' rfl X'
    exact ⟨t2, st t2 a1, b1⟩
  · obtain ⟨k1, k2, k3⟩ := vx_keep h0 e1 hS hAX hf hL hF
    obtain ⟨t2, a1, b1⟩ := kx E ce q u t T'.heap (locs ++ L) e1.symm (by rw [← e2]; exact X'.warmed.alike) hp hb k1 k2 k3 (by rw [e1]; exact hce) hcv hcl T' rfl X'
    exact ⟨t2, st.trans a1, b1⟩
theorem vx_calld {S SX : Type} {post : UInt64 → S → Prop} {px : SX → Prop} {B : S → State → Prop} {BX : String → SX → State → Prop} {AX : Nat → Prop} (hr : vx_Run p l e R s m args below meth c H locs cells slots mc ms (F0 m pc ls st0) rest (va_Qd post B A1 a) (vx_X px BX AX) free) (hS : va_S A0 H0 H locs) (hA : ∀ q, q < H.size → A1 q → A0 q) (hf : ∀ q, free q → A0 q) (hAX : ∀ q, q < H.size → AX q → A0 q)
    (kx : ∀ (E : String) (ce : Cell) (q9 : Addr) (u : SX) (t : State) (H1 : Heap) (locs1 : List Loc), t.heap = H1 → s.vm.Alike t.vm → px u → BX E u t → H.size ≤ H1.size → (∀ q : Nat, q < H.size → ¬ AX q → H1[q]? = H[q]?) → va_S A0 H0 H1 locs1 → H1[q9]? = some ce → ce.vm = .none → s.vm.findClass E = some ce.cls → vx_W p l e R s m args below meth c H1 locs1 (cells + mc) (slots + ms) Q (F0 m pc ls rest) q9)
    (kk : ∀ (r : UInt64) (u : S) (t : State) (H1 : Heap) (locs1 : List Loc), t.heap = H1 → s.vm.Alike t.vm → post r u → B u t → H.size ≤ H1.size → (∀ q : Nat, q < H.size → ¬ A1 q → H1[q]? = H[q]?) → va_S A0 H0 H1 locs1 → W p l e R s m args below meth c H1 locs1 (cells + mc) (slots + ms) Q (F0 m (pc + 3) ls (.double r :: rest))) : W p l e R s m args below meth c H locs cells slots Q (F0 m pc ls st0) := by
  intro T hT X
  rcases hr T hT X with ⟨v, st₀, t, T', L, h0, X', hL, e1, e2, ⟨⟨r, u, hv, hp, hb⟩, hF⟩, st⟩ | ⟨q, st₀, t, T', L, E, ce, h0, X', hL, e1, e2, ⟨u, hp, hb, hF⟩, hce, hcv, hcl, st⟩
  · cases hv
    obtain ⟨k1, k2, k3⟩ := vx_keep h0 e1 hS hA hf hL hF
    obtain ⟨t2, a1, b1⟩ := kk r u t T'.heap (locs ++ L) e1.symm (by rw [← e2]; exact X'.warmed.alike) hp hb k1 k2 k3 T' rfl X'
    exact ⟨t2, st t2 a1, b1⟩
  · obtain ⟨k1, k2, k3⟩ := vx_keep h0 e1 hS hAX hf hL hF
    obtain ⟨t2, a1, b1⟩ := kx E ce q u t T'.heap (locs ++ L) e1.symm (by rw [← e2]; exact X'.warmed.alike) hp hb k1 k2 k3 (by rw [e1]; exact hce) hcv hcl T' rfl X'
    exact ⟨t2, st.trans a1, b1⟩
theorem vx_callv {S SX : Type} {post : S → Prop} {px : SX → Prop} {B : S → State → Prop} {BX : String → SX → State → Prop} {AX : Nat → Prop} (hr : vx_Run p l e R s m args below meth c H locs cells slots mc ms (F0 m pc ls st0) rest (va_Qv post B A1 a) (vx_X px BX AX) free) (hS : va_S A0 H0 H locs) (hA : ∀ q, q < H.size → A1 q → A0 q) (hf : ∀ q, free q → A0 q) (hAX : ∀ q, q < H.size → AX q → A0 q)
    (kx : ∀ (E : String) (ce : Cell) (q9 : Addr) (u : SX) (t : State) (H1 : Heap) (locs1 : List Loc), t.heap = H1 → s.vm.Alike t.vm → px u → BX E u t → H.size ≤ H1.size → (∀ q : Nat, q < H.size → ¬ AX q → H1[q]? = H[q]?) → va_S A0 H0 H1 locs1 → H1[q9]? = some ce → ce.vm = .none → s.vm.findClass E = some ce.cls → vx_W p l e R s m args below meth c H1 locs1 (cells + mc) (slots + ms) Q (F0 m pc ls rest) q9)
    (kk : ∀ (u : S) (t : State) (H1 : Heap) (locs1 : List Loc), t.heap = H1 → s.vm.Alike t.vm → post u → B u t → H.size ≤ H1.size → (∀ q : Nat, q < H.size → ¬ A1 q → H1[q]? = H[q]?) → va_S A0 H0 H1 locs1 → W p l e R s m args below meth c H1 locs1 (cells + mc) (slots + ms) Q (F0 m (pc + 3) ls (rest))) : W p l e R s m args below meth c H locs cells slots Q (F0 m pc ls st0) := by
  intro T hT X
  rcases hr T hT X with ⟨v, st₀, t, T', L, h0, X', hL, e1, e2, ⟨⟨u, hv, hp, hb⟩, hF⟩, st⟩ | ⟨q, st₀, t, T', L, E, ce, h0, X', hL, e1, e2, ⟨u, hp, hb, hF⟩, hce, hcv, hcl, st⟩
  · cases hv
    obtain ⟨k1, k2, k3⟩ := vx_keep h0 e1 hS hA hf hL hF
    obtain ⟨t2, a1, b1⟩ := kk u t T'.heap (locs ++ L) e1.symm (by rw [← e2]; exact X'.warmed.alike) hp hb k1 k2 k3 T' rfl X'
    exact ⟨t2, st t2 a1, b1⟩
  · obtain ⟨k1, k2, k3⟩ := vx_keep h0 e1 hS hAX hf hL hF
    obtain ⟨t2, a1, b1⟩ := kx E ce q u t T'.heap (locs ++ L) e1.symm (by rw [← e2]; exact X'.warmed.alike) hp hb k1 k2 k3 (by rw [e1]; exact hce) hcv hcl T' rfl X'
    exact ⟨t2, st.trans a1, b1⟩
/-- caught by the row x of this method's table; the rows ahead don't take it -/
theorem vx_catch {own name : String} {E : String} {ce : Cell} {q : Addr} (hown : s.vm.findClass own = some m.cls) (pre : List ExceptionTableEntry) (x : ExceptionTableEntry) (suf : List ExceptionTableEntry) (hsplit : c.exceptionTable.toList = pre ++ x :: suf)
    (hpass : ∀ z ∈ pre, covers z pc = false ∨ (z.catchType ≠ 0 ∧ ∃ nm : String, (Cond.classLink own z.catchType nm).before args s = true ∧ va_Nc E nm s)) (hx : covers x pc = true) (h0 : x.catchType ≠ 0)
    (hlink : (Cond.classLink own x.catchType name).before args s = true) (hcast : (Cond.castable E name).before args s = true) (hcell : H[q]? = some ce) (hv : ce.vm = .none) (hcl : s.vm.findClass E = some ce.cls)
    (kk : W p l e R s m args below meth c H locs cells slots Q (F0 m x.handlerPc ls [.ref q])) : vx_W p l e R s m args below meth c H locs cells slots Q (F0 m pc ls rest) q := by
  intro T hT X
  have hpl : e.platform.magicAccessors = ({} : Platform).magicAccessors := by rw [X.admits.platform]
  obtain ⟨c3, c4, hc3, hc4, hasg⟩ := Cond.castable_spec hcast
  cases Option.some.inj (hc3.symm.trans hcl)
  obtain ⟨c5, hc5, hcl5⟩ := Cond.classLink_spec hown hlink e.platform hpl
  cases Option.some.inj (hc4.symm.trans hc5)
  obtain ⟨vm', X', st⟩ := X.thenCaughtThrough q (g := F0 m pc ls rest) rfl (Steps.refl _) (by rw [hT]; exact hcell) (by rw [hv]; rfl) (by obtain ⟨k9, h9, -⟩ := Vm.findClass_spec hcl; exact ⟨k9, h9⟩) pre x suf hsplit
    (fun z hz => by
      rcases hpass z hz with h | ⟨hz0, nm, hl1, hn1⟩
      · exact Or.inl h
      · obtain ⟨c6, hc6, hcl6⟩ := Cond.classLink_spec hown hl1 e.platform hpl
        obtain ⟨a8, b8, h1, h2, h3⟩ := hn1
        cases Option.some.inj (h1.symm.trans hcl)
        cases Option.some.inj (h2.symm.trans hc6)
        exact Or.inr ⟨hz0, _, hcl6, h3⟩) hx (Or.inr ⟨h0, c4, hcl5, hasg⟩)
  obtain ⟨t, a1, b1⟩ := kk (T.setVm vm') hT X'
  exact ⟨t, st.trans a1, b1⟩
end Rows
section Ends
variable {p : Program} {l : Launch} {e : Env} {R : Room} {s : State} {m : MethodId} {args : Array Value} {below : List Frame} {meth : Method} {c : Code} {H : Heap} {locs : List Loc} {cells slots : Nat} {Q : State → Prop}
variable {mc ms : Nat} {free : Addr → Prop} {A0 A1 : Nat → Prop} {H0 : Heap} {a : Array Value} {ls : Array Slot} {st0 rest : List Value}
variable {Qc : Array Value → State → Outcome → State → Prop} {XC : String → State → State → Prop}
/-- what a body that may throw owes at its end -/
def vx_MQ (below : List Frame) (Qc : Array Value → State → Outcome → State → Prop) (XC : String → State → State → Prop) (a : Array Value) (s : State) (mc ms : Nat) (free : Addr → Prop) : State → Prop := fun t =>
  ∃ o, t.status = .running ∧ Ended t below o ∧ vx_Q Qc XC mc ms free a s o t
theorem vx_ret {g : JFrame} {mc ms : Nat} (k : W p l e R s m args below meth c H locs cells slots (MQ below Qc args s mc ms free) g) : W p l e R s m args below meth c H locs cells slots (vx_MQ below Qc XC args s mc ms free) g := by
  intro T hT X
  obtain ⟨t, a1, o, b1, b2, b3, b4⟩ := k T hT X
  exact ⟨t, a1, o, b1, b2, Or.inl ⟨b3, b4⟩⟩
/-- not caught here: it goes on to the caller -/
theorem vx_widen {g : JFrame} {q : Addr} {k n : Nat} (h1 : cells ≤ k) (h2 : slots ≤ n) (kk : vx_W p l e R s m args below meth c H locs k n Q g q) : vx_W p l e R s m args below meth c H locs cells slots Q g q := fun T hT X => kk T hT (stand_widen X h1 h2)
theorem vx_out {pc : Nat} {E : String} {ce : Cell} {q : Addr} {mc ms : Nat} (hout : ∀ x ∈ c.exceptionTable.toList, covers x pc = false) (hlocks : meth.locks = false) (hcell : H[q]? = some ce) (hv : ce.vm = .none) (hcl : s.vm.findClass E = some ce.cls)
    (hx : ∀ t : State, t.heap = H → s.vm.Alike t.vm → XC E s t) (hf : ∀ z ∈ locs, free z.base) (hc : cells ≤ mc) (hs : slots ≤ ms) :
    vx_W p l e R s m args below meth c H locs cells slots (vx_MQ below Qc XC args s mc ms free) (F0 m pc ls rest) q := by
  intro T hT X
  obtain ⟨st1, hrun, hend, hW, hsm⟩ := X.leaveThrown q (g := F0 m pc ls rest) rfl rfl rfl hout hlocks
  have hcell9 : (T.setFrames (.throwing q :: below)).heap[q]? = some ce := by
    show T.heap[q]? = some ce
    rw [hT]; exact hcell
  exact ⟨_, st1, .threw q, hrun, hend, Or.inr ⟨q, rfl, E, ce, locs, hx _ hT hW.alike, hcell9, hv, hcl, hW, hsm.mono hc hs, hf⟩⟩
theorem vx_frame {U : State} {k n : Nat} (h : s.sameButNew ({ U with vm := s.vm } : State) locs k n) : s.heap.size ≤ U.heap.size ∧ ∀ q : Nat, q < s.heap.size → (∀ z ∈ locs, z.base ≠ q) → U.heap[q]? = s.heap[q]? := by
  obtain ⟨-, h2, -, -, -, h6⟩ := h
  refine ⟨h2, fun q hq hz => ?_⟩
  obtain ⟨c9, e1, e2, e3, e4⟩ := h6 q _ (Array.getElem?_eq_getElem hq)
  have hs : c9.slots = (s.heap[q]).slots := Array.ext_getElem? fun i => e4 i fun hm => hz _ hm rfl
  have h9 : c9 = s.heap[q] := by
    rw [hs] at e2
    exact e2
  have e5 : U.heap[q]? = some c9 := e1
  rw [e5, h9, Array.getElem?_eq_getElem hq]
/-- the words of a throw but the four that speak of the heap -/
def vx_no (w : Cond) : Bool := decide (w ≠ .isRef (.static Bundle.tN "UNASSIGNED_STACK" Bundle.steD)) && decide (w ≠ .isRef (.static Bundle.tN "SUPPRESSED_SENTINEL" Bundle.listD)) && decide (w ≠ .laysStatic Bundle.tN "UNASSIGNED_STACK" Bundle.steD) && decide (w ≠ .laysStatic Bundle.tN "SUPPRESSED_SENTINEL" Bundle.listD)
def vx_at0 (own : String) (ic : Nat) (X : String) (names : List String) : List Cond := (Bundle.ownAtoms0 own ic X names).filter vx_no
def vx_atS (own : String) (ic : Nat) (X : String) (names : List String) : List Cond := (Bundle.ownAtoms own ic X names).filter vx_no
/-- a word that the tables alone decide, or a good one -/
def vx_ot (w : Cond) : Bool := w.onTables || goodWord w
theorem vx_ot_at {args a' : Array Value} {s U : State} {w : Cond} (hW : s.WarmedH U.vm) (hvm : s.vm = U.vm) (hg : vx_ot w = true) (h : w.before args s = true) : w.before a' U = true := by
  simp only [vx_ot, Bool.or_eq_true] at hg
  rcases hg with hg | hg
  · exact va_tabs hg hvm h
  · exact word_at hW (good_of_word hg) h
/-- a list's words: the good ones out of the method's own list, the others by premises of their own -/
theorem vx_hat {args : Array Value} {s : State} {L B : List Cond} (h1 : ∀ w ∈ L.filter goodWord, w.before args s = true) (h2 : ∀ w ∈ L.filter (fun w => !goodWord w), w ∈ B) (h3 : ∀ w ∈ B, w.before args s = true) : ∀ w ∈ L, w.before args s = true := by
  intro w hw
  by_cases g : goodWord w = true
  · exact h1 w (List.mem_filter.mpr ⟨hw, g⟩)
  · refine h3 w (h2 w (List.mem_filter.mpr ⟨hw, ?_⟩))
    show (!goodWord w) = true
    cases hgw : goodWord w
    · rfl
    · exact absurd hgw g
theorem vx_c {args : Array Value} {s : State} {w : Cond} {B : List Cond} (h : w.before args s = true) (t : ∀ w ∈ B, w.before args s = true) : ∀ w' ∈ w :: B, w'.before args s = true := fun w' h' => (List.mem_cons.mp h').elim (fun e => by rw [e]; exact h) (t w')
theorem vx_n {args : Array Value} {s : State} : ∀ w ∈ ([] : List Cond), w.before args s = true := fun _ h => nomatch h
theorem vx_own {args : Array Value} {s : State} {L : List Cond} (h1 : ∀ w ∈ L.filter vx_no, w.before args s = true)
    (hU : (Cond.isRef (.static Bundle.tN "UNASSIGNED_STACK" Bundle.steD)).before args s = true) (hN : (Cond.isRef (.static Bundle.tN "SUPPRESSED_SENTINEL" Bundle.listD)).before args s = true)
    (lU : (Cond.laysStatic Bundle.tN "UNASSIGNED_STACK" Bundle.steD).before args s = true) (lN : (Cond.laysStatic Bundle.tN "SUPPRESSED_SENTINEL" Bundle.listD).before args s = true) : ∀ w ∈ L, w.before args s = true := by
  intro w hw
  by_cases e1 : w = .isRef (.static Bundle.tN "UNASSIGNED_STACK" Bundle.steD)
  · rw [e1]; exact hU
  · by_cases e2 : w = .isRef (.static Bundle.tN "SUPPRESSED_SENTINEL" Bundle.listD)
    · rw [e2]; exact hN
    · by_cases e3 : w = .laysStatic Bundle.tN "UNASSIGNED_STACK" Bundle.steD
      · rw [e3]; exact lU
      · by_cases e4 : w = .laysStatic Bundle.tN "SUPPRESSED_SENTINEL" Bundle.listD
        · rw [e4]; exact lN
        · exact h1 w (List.mem_filter.mpr ⟨hw, by unfold vx_no; rw [decide_eq_true e1, decide_eq_true e2, decide_eq_true e3, decide_eq_true e4]; rfl⟩)
/-- where a static field lies, its class's statics cell in H -/
def vx_L (C n d : String) (A : Nat → Prop) (U : State) (H : Heap) : Prop := ∃ (c : ClassId) (k : Class) (i : Nat) (f : Field) (a : Nat) (cell : Cell), U.vm.findClass C = some c ∧ U.fieldFound? C n d = some (c, k, i, f) ∧ f.isStatic = true ∧ k.statics = some a ∧ H[a]? = some cell ∧ cell.vm.isStatics = true ∧ cell.cls = c ∧ f.slot < cell.slots.size ∧ k.staticTypes[f.slot]? = some f.type ∧ ¬ A a
theorem vx_L.moved {C n d : String} {A : Nat → Prop} {u U : State} {H : Heap} (hvm : u.vm.Alike U.vm) (h : vx_L C n d A u H) : vx_L C n d A U H := by
  obtain ⟨c, k, i, f, a, cell, h1, h2, h3, h4, h5, h6, h7, h8, h9, h10⟩ := h
  obtain ⟨k', hi', he⟩ := State.fieldFound?_setVm hvm h2
  exact ⟨c, k', i, f, a, cell, by rw [hvm.findClass]; exact h1, hi', h3, by rw [he]; exact h4, h5, h6, h7, h8, by rw [he]; exact h9, h10⟩
theorem vx_L.kept {C n d : String} {A : Nat → Prop} {U : State} {H H1 : Heap} (h : vx_L C n d A U H) (hq : ∀ a : Nat, a < H.size → ¬ A a → H1[a]? = H[a]?) : vx_L C n d A U H1 := by
  obtain ⟨c, k, i, f, a, cell, h1, h2, h3, h4, h5, h6, h7, h8, h9, h10⟩ := h
  exact ⟨c, k, i, f, a, cell, h1, h2, h3, h4, by rw [hq a (Array.getElem?_eq_some_iff.mp h5).1 h10]; exact h5, h6, h7, h8, h9, h10⟩
theorem vx_L.narrow {C n d : String} {A B : Nat → Prop} {U : State} {H : Heap} (h : vx_L C n d A U H) (hAB : ∀ q, B q → A q) : vx_L C n d B U H := by
  obtain ⟨c, k, i, f, a, cell, h1, h2, h3, h4, h5, h6, h7, h8, h9, h10⟩ := h
  exact ⟨c, k, i, f, a, cell, h1, h2, h3, h4, h5, h6, h7, h8, h9, fun z => h10 (hAB _ z)⟩
theorem vx_L.word {C n d : String} {A : Nat → Prop} {s : State} {args : Array Value} (h : vx_L C n d A s s.heap) : (Cond.laysStatic C n d).before args s = true := by
  obtain ⟨c, k, i, f, a, cell, h1, h2, h3, h4, h5, h6, h7, h8, h9, -⟩ := h
  show (Cond.laysStatic C n d).holds args s none s [] = true
  exact Cond.laysStatic_of h1 h2 h3 h4 h5 h6 h7 h8 h9
/-- .. and what it holds: null or some reference -/
def vx_Zq (C n d : String) (A : Nat → Prop) (U : State) (H : Heap) : Prop := va_Zq C n d A U H ∧ vx_L C n d A U H
theorem vx_Zq.moved {C n d : String} {A : Nat → Prop} {u U : State} {H : Heap} (hvm : u.vm.Alike U.vm) (h : vx_Zq C n d A u H) : vx_Zq C n d A U H := ⟨va_Zq.moved hvm h.1, vx_L.moved hvm h.2⟩
theorem vx_Zq.kept {C n d : String} {A : Nat → Prop} {U : State} {H H1 : Heap} (h : vx_Zq C n d A U H) (hq : ∀ a : Nat, a < H.size → ¬ A a → H1[a]? = H[a]?) : vx_Zq C n d A U H1 := ⟨va_Zq.kept h.1 hq, vx_L.kept h.2 hq⟩
theorem vx_Zq.narrow {C n d : String} {A B : Nat → Prop} {U : State} {H : Heap} (h : vx_Zq C n d A U H) (hAB : ∀ q, B q → A q) : vx_Zq C n d B U H := ⟨va_Zq.narrow h.1 hAB, vx_L.narrow h.2 hAB⟩
theorem vx_Zqof {args : Array Value} {s : State} {C n d : String} {A : Nat → Prop} (hl : (Cond.laysStatic C n d).before args s = true) (hini : (Cond.initialized C).before args s = true) (h : (Cond.isRef (.static C n d)).before args s = true) (hA : ∀ a : Nat, a < s.heap.size → ¬ A a) : vx_Zq C n d A s s.heap := by
  refine ⟨va_Zqof hl hini h hA, ?_⟩
  obtain ⟨c, k, i, f, a, cell, h1, h2, h3, h4, h5, h6, h7, h8, h9⟩ := Cond.laysStatic_spec hl
  exact ⟨c, k, i, f, a, cell, h1, h2, h3, h4, h5, h6, h7, h8, h9, hA a (Array.getElem?_eq_some_iff.mp h5).1⟩
theorem vx_isRef {C n d : String} {v : Value} {A : Nat → Prop} {s : State} {args : Array Value} (h : va_Z C n d v A s s.heap) (hv : v.isRef = true) : (Cond.isRef (.static C n d)).before args s = true := by
  obtain ⟨cf, kf, fi, f, a, cell, h1, h2, h3, h4, h5, h6, h7, -⟩ := h
  have he : (Term.static C n d).eval args s none [] s = some v := by
    simp [Term.eval, State.fieldNamed?, h1, h2, h4, h5, h6, h7]
  simp only [Cond.before, Cond.holds, Cond.value, he]
  cases v <;> simp_all [Value.isRef]
theorem vx_isRefq {C n d : String} {A : Nat → Prop} {s : State} {args : Array Value} (h : va_Zq C n d A s s.heap) : (Cond.isRef (.static C n d)).before args s = true := by
  rcases h with h | ⟨t, h⟩
  · exact vx_isRef h rfl
  · exact vx_isRef h rfl
/-- the same frame, seen from here: as if the method were called anew in this heap -/
theorem vx_rebase {T : State} (X : Stand p l e R s m args below meth c T locs cells slots) {R' : Room} (hf : R'.frames ≤ R.frames) (hl : R'.locals ≤ R.locals) (hc : cells + R'.cells ≤ R.cells) (hs : slots + R'.slots ≤ R.slots) :
    Stand p l e R' ((T.setVm s.vm).setFrames (.invoking m args :: below)) m args below meth c T [] 0 0 := by
  have htop : (T.setVm s.vm).topJava?.isSome := X.here.top
  have hF : ((T.setVm s.vm).setFrames (.invoking m args :: below)).frames = .invoking m args :: below := State.frames_setFrames _ (State.cur_lt_of_top htop)
  obtain ⟨g₀, hg0⟩ := Option.isSome_iff_exists.mp htop
  obtain ⟨r, hr⟩ := State.topJava?_eq_some.mp hg0
  have hl9 : e.platform.stackLimits (T.setVm s.vm).me = e.platform.stackLimits s.me := X.limits
  have hb9 : (T.setVm s.vm).me.stackBytes = s.me.stackBytes := X.bytes
  refine ⟨X.admits, X.cas, X.clock, hF, ?_, X.hears, X.method, X.code, X.here, X.tail, X.warmed, ?_, ?_, ?_⟩
  · have h := X.room
    have hU : ((T.setVm s.vm).setFrames (.invoking m args :: below)).localsInUse = s.localsInUse := by
      rw [State.localsInUse_invoking hF (meth := meth) (c := c) X.method X.code, State.localsInUse_invoking X.frames X.method X.code]
    simp only [State.hasRoom, Bool.and_eq_true, decide_eq_true_eq] at h ⊢
    obtain ⟨⟨⟨⟨h1, h2, h3, h4, h5, h6⟩, h7⟩, h8⟩, h9⟩ := h
    rw [X.frames, List.length_cons] at h2 h3
    have q1 := X.heapSize
    have q2 := X.used
    simp only [hF, hU, List.length_cons, State.stackLimits_setFrames, State.stackBytes_setFrames, hl9, hb9]
    refine ⟨⟨⟨⟨by omega, by omega, by omega, by omega, by omega, h6⟩, ?_⟩, ?_⟩, X.book⟩
    · show T.heap.size + R'.cells ≤ e.platform.maxCells
      omega
    · show T.slotsUsed + R'.slots ≤ e.platform.maxSlots
      omega
  · rw [State.stackLimits_setFrames]; rfl
  · rw [State.stackBytes_setFrames]; rfl
  · refine ⟨?_, Nat.le_refl _, Nat.le_refl _, ?_, ?_, fun a c9 h9 => ⟨c9, h9, rfl, rfl, fun _ _ => rfl⟩⟩
    · obtain ⟨t, ht, -⟩ := State.frames_cons hr
      show T.setVm s.vm = { ((T.setVm s.vm).setFrames (.invoking m args :: below)).setFrames (T.setVm s.vm).frames with heap := T.heap, slotsUsed := T.slotsUsed }
      rw [State.setFrames_setFrames, State.setFrames_self ht]
      rfl
    · show T.slotsUsed = T.slotsUsed + ((T.heap.toList.drop T.heap.size).map (·.slots.size)).sum
      rw [List.drop_eq_nil_of_le (Nat.le_of_eq Array.length_toList)]
      rfl
    · show ((T.heap.toList.drop T.heap.size).map (·.slots.size)).sum ≤ 0
      rw [List.drop_eq_nil_of_le (Nat.le_of_eq Array.length_toList)]
      exact Nat.le_refl _
/-- 'throw new E()': new; dup; invokespecial; athrow -/
theorem vx_throw0 {cc : ByteArray} {pc : Nat} (hexec : p.tables.exec = Jvm.exec) (hb : c.code = cc) (hl : l.stackTraces = false) {own cls : String} {names : List String} {ik ic mc ms : Nat} {A : Nat → Prop}
    (hown : s.vm.findClass own = some m.cls) (hcls : Bundle.fit cls = true) (hnames : ∀ n ∈ names, Bundle.fit n = true)
    (hk : (Cond.classLink own ik cls).before args s = true) (hini : (Cond.initialized cls).before args s = true) (hat : ∀ w ∈ vx_at0 own ic cls names, w.before args s = true)
    (hgood : ∀ w ∈ Cond.classLink own ik cls :: Cond.initialized cls :: vx_at0 own ic cls names, vx_ot w = true)
    (hU : vx_Zq Bundle.tN "UNASSIGNED_STACK" Bundle.steD A s s.heap) (hN : vx_Zq Bundle.tN "SUPPRESSED_SENTINEL" Bundle.listD A s s.heap) (hS : va_S A s.heap H locs) (hsize : ls.size = c.maxLocals)
    (d0 : decode cc pc = .ok (.new ik, 3)) (d3 : decode cc (pc + 3) = .ok (.dup, 1)) (d4 : decode cc (pc + 4) = .ok (.invokespecial ic, 3)) (d7 : decode cc (pc + 7) = .ok (.athrow, 1))
    (hout : ∀ x ∈ c.exceptionTable.toList, covers x (pc + 7) = false)
    (hRframes : names.length + 3 < R.frames) (hRlocals : (rest.map fun v => v.category).sum + (13 * (names.length + 1) + 42) ≤ R.locals) (hRcells : cells + 1 ≤ R.cells) (hRslots : slots + 6 ≤ R.slots) (hlocks : meth.locks = false)
    (hx : ∀ t : State, s.vm.Alike t.vm → H.size ≤ t.heap.size → (∀ q : Nat, q < H.size → t.heap[q]? = H[q]?) → XC cls s t)
    (hf : ∀ z ∈ locs, free z.base) (hc : cells + 1 ≤ mc) (hs : slots + 6 ≤ ms) :
    W p l e R s m args below meth c H locs cells slots (vx_MQ below Qc XC args s mc ms free) (F0 m pc ls rest) := by
  intro T hT X
  have htr : e.platform.stackTraces = false := (show e.platform.stackTraces = l.stackTraces by rw [X.admits.platform]).trans hl
  have Y := vx_rebase X (R' := { frames := R.frames, locals := R.locals, cells := 1, slots := 6 }) (Nat.le_refl _) (Nat.le_refl _) hRcells hRslots
  obtain ⟨s', hA⟩ : ∃ z, z = (T.setVm s.vm).setFrames (.invoking m args :: below) := ⟨_, rfl⟩
  rw [← hA] at Y
  have hvm : s'.vm = s.vm := by rw [hA]; rfl
  have hhp : s'.heap = H := by rw [hA]; exact hT
  have hW0 : s.WarmedH s'.vm := by rw [hvm]; exact State.WarmedH.refl s
  have hat' : ∀ w ∈ vx_at0 own ic cls names, w.before args s' = true := fun w hw => vx_ot_at hW0 hvm.symm (hgood w (List.mem_cons_of_mem _ (List.mem_cons_of_mem _ hw))) (hat w hw)
  have hk' : (Cond.classLink own ik cls).before args s' = true := vx_ot_at hW0 hvm.symm (hgood _ List.mem_cons_self) hk
  have hini' : (Cond.initialized cls).before args s' = true := vx_ot_at hW0 hvm.symm (hgood _ (List.mem_cons_of_mem _ List.mem_cons_self)) hini
  have hU' : vx_Zq Bundle.tN "UNASSIGNED_STACK" Bundle.steD A s' s'.heap := by rw [hhp]; exact vx_Zq.moved hW0.alike (hU.kept hS.2.1)
  have hN' : vx_Zq Bundle.tN "SUPPRESSED_SENTINEL" Bundle.listD A s' s'.heap := by rw [hhp]; exact vx_Zq.moved hW0.alike (hN.kept hS.2.1)
  have h : ∀ w ∈ Bundle.ownAtoms0 own ic cls names, w.before args s' = true := vx_own hat' (vx_isRefq hU'.1) (vx_isRefq hN'.1) hU'.2.word hN'.2.word
  have hown' : s'.vm.findClass own = some m.cls := by rw [hvm]; exact hown
  have hins : (Cond.instantiable cls 6).before args s' = true := h _ (by simp [Bundle.ownAtoms0])
  obtain ⟨vm₁, cX, kX, hfX, hkX, -, -, X₁, st1⟩ := Y.newCold hexec (own := own) (C := cls) (index := ik) (n := 6) hown' hk' hins hini'
    (g := F0 m pc ls rest) rfl (by rw [hb]; exact d0) (Nat.le_refl _) (Nat.le_refl _)
  generalize hT1 : (T.setVm vm₁).pushCell { cls := cX, slots := kX.instanceTypes.map defaultValue, vm := .none } = T1 at X₁ st1
  have hcat : (Value.ref T.heap.size).category = 1 := rfl
  have hcellA : T1.heap[T.heap.size]? = some (freshCell cX kX) := by rw [← hT1]; exact State.heap_pushCell_size _ _
  have d3' : decode c.code (pc + 3) = .ok (.dup, 1) := by rw [hb]; exact d3
  obtain ⟨U, hsteps, hrun, hend, hW, hsame, ce, hce, hO⟩ := X₁.ctorThrow0 hexec htr (own := own) (cls := cls) (names := names) (ic := ic) hown' hcls hnames h (fun x hx => nomatch hx) hfX hkX hcellA (by rw [hhp, hT]; exact Nat.le_refl _)
    (g := { method := m, pc := pc + 4, locals := ls, stack := .ref T.heap.size :: .ref T.heap.size :: rest, locked := none }) rfl hsize rfl rfl (rest := rest) rfl
    (by rw [hb]; exact d4) (by rw [hb]; exact d7) hout hRframes (by simp only [List.map_cons, List.sum_cons, hcat]; omega) hlocks
  obtain ⟨f1, f2⟩ := vx_frame hsame
  rw [hhp] at f1 f2
  have hWs : s.WarmedH U.vm := State.WarmedH.trans hW0 hW
  have hcl : s.vm.findClass cls = some ce.cls := by
    have h9 := hO.cls
    rw [hvm] at h9
    exact h9
  have hall : s.sameButNew ({ U with vm := s.vm } : State) locs mc ms := by
    subst hA
    obtain ⟨e1, e2⟩ := hsame
    rw [State.setFrames_setFrames] at e1
    have h2 : (T.setVm s.vm).sameButNew ({ U with vm := s.vm } : State) [] (0 + 1) (0 + 6) := ⟨e1, e2⟩
    have h3 := X.same.trans h2
    rw [List.append_nil] at h3
    exact h3.mono hc hs
  refine ⟨U, ?_, .threw T.heap.size, hrun, hend, Or.inr ⟨T.heap.size, rfl, cls, ce, locs, hx U hWs.alike f1 (fun q hq => f2 q hq (fun z hz => nomatch hz)), hce, hO.vm, hcl, hWs, hall, hf⟩⟩
  refine st1 _ ?_
  show Steps p.tables e below (T1.setTop { method := m, pc := pc + 3, locals := ls, stack := .ref T.heap.size :: rest, locked := none }) _
  jvm_step X₁.here [X₁.here.top, hexec, d3', Value.category]
  exact hsteps
/-- 'throw new E("text")': new; dup; ldc; invokespecial; athrow -/
theorem vx_throwS {cc : ByteArray} {pc : Nat} (hexec : p.tables.exec = Jvm.exec) (hb : c.code = cc) (hl : l.stackTraces = false) {own cls text : String} {names : List String} {ik is ic mc ms sa : Nat} {A : Nat → Prop}
    (hown : s.vm.findClass own = some m.cls) (hcls : Bundle.fit cls = true) (hnames : ∀ n ∈ names, Bundle.fit n = true)
    (hk : (Cond.classLink own ik cls).before args s = true) (hini : (Cond.initialized cls).before args s = true) (hstr : vk_R own is text sa s) (hat : ∀ w ∈ vx_atS own ic cls names, w.before args s = true)
    (hgood : ∀ w ∈ Cond.classLink own ik cls :: Cond.initialized cls :: vx_atS own ic cls names, vx_ot w = true)
    (hU : vx_Zq Bundle.tN "UNASSIGNED_STACK" Bundle.steD A s s.heap) (hN : vx_Zq Bundle.tN "SUPPRESSED_SENTINEL" Bundle.listD A s s.heap) (hS : va_S A s.heap H locs) (hsize : ls.size = c.maxLocals)
    (d0 : decode cc pc = .ok (.new ik, 3)) (d3 : decode cc (pc + 3) = .ok (.dup, 1)) (d4 : decode cc (pc + 4) = .ok (.ldc is, 2)) (d6 : decode cc (pc + 6) = .ok (.invokespecial ic, 3)) (d9 : decode cc (pc + 9) = .ok (.athrow, 1))
    (hout : ∀ x ∈ c.exceptionTable.toList, covers x (pc + 9) = false)
    (hRframes : names.length + 3 < R.frames) (hRlocals : (rest.map fun v => v.category).sum + (13 * (names.length + 1) + 43) ≤ R.locals) (hRcells : cells + 1 ≤ R.cells) (hRslots : slots + 6 ≤ R.slots) (hlocks : meth.locks = false)
    (hx : ∀ t : State, s.vm.Alike t.vm → H.size ≤ t.heap.size → (∀ q : Nat, q < H.size → t.heap[q]? = H[q]?) → XC cls s t)
    (hf : ∀ z ∈ locs, free z.base) (hc : cells + 1 ≤ mc) (hs : slots + 6 ≤ ms) :
    W p l e R s m args below meth c H locs cells slots (vx_MQ below Qc XC args s mc ms free) (F0 m pc ls rest) := by
  intro T hT X
  have htr : e.platform.stackTraces = false := (show e.platform.stackTraces = l.stackTraces by rw [X.admits.platform]).trans hl
  have Y := vx_rebase X (R' := { frames := R.frames, locals := R.locals, cells := 1, slots := 6 }) (Nat.le_refl _) (Nat.le_refl _) hRcells hRslots
  obtain ⟨s', hA⟩ : ∃ z, z = (T.setVm s.vm).setFrames (.invoking m args :: below) := ⟨_, rfl⟩
  rw [← hA] at Y
  have hvm : s'.vm = s.vm := by rw [hA]; rfl
  have hhp : s'.heap = H := by rw [hA]; exact hT
  have hW0 : s.WarmedH s'.vm := by rw [hvm]; exact State.WarmedH.refl s
  have hat' : ∀ w ∈ vx_atS own ic cls names, w.before args s' = true := fun w hw => vx_ot_at hW0 hvm.symm (hgood w (List.mem_cons_of_mem _ (List.mem_cons_of_mem _ hw))) (hat w hw)
  have hk' : (Cond.classLink own ik cls).before args s' = true := vx_ot_at hW0 hvm.symm (hgood _ List.mem_cons_self) hk
  have hini' : (Cond.initialized cls).before args s' = true := vx_ot_at hW0 hvm.symm (hgood _ (List.mem_cons_of_mem _ List.mem_cons_self)) hini
  have hU' : vx_Zq Bundle.tN "UNASSIGNED_STACK" Bundle.steD A s' s'.heap := by rw [hhp]; exact vx_Zq.moved hW0.alike (hU.kept hS.2.1)
  have hN' : vx_Zq Bundle.tN "SUPPRESSED_SENTINEL" Bundle.listD A s' s'.heap := by rw [hhp]; exact vx_Zq.moved hW0.alike (hN.kept hS.2.1)
  have h : ∀ w ∈ Bundle.ownAtoms own ic cls names, w.before args s' = true := vx_own hat' (vx_isRefq hU'.1) (vx_isRefq hN'.1) hU'.2.word hN'.2.word
  have hown' : s'.vm.findClass own = some m.cls := by rw [hvm]; exact hown
  have hins : (Cond.instantiable cls 6).before args s' = true := h _ (by simp [Bundle.ownAtoms])
  obtain ⟨vm₁, cX, kX, hfX, hkX, -, -, X₁, st1⟩ := Y.newCold hexec (own := own) (C := cls) (index := ik) (n := 6) hown' hk' hins hini'
    (g := F0 m pc ls rest) rfl (by rw [hb]; exact d0) (Nat.le_refl _) (Nat.le_refl _)
  generalize hT1 : (T.setVm vm₁).pushCell { cls := cX, slots := kX.instanceTypes.map defaultValue, vm := .none } = T1 at X₁ st1
  have hcat : (Value.ref T.heap.size).category = 1 := rfl
  have hcellA : T1.heap[T.heap.size]? = some (freshCell cX kX) := by rw [← hT1]; exact State.heap_pushCell_size _ _
  have d3' : decode c.code (pc + 3) = .ok (.dup, 1) := by rw [hb]; exact d3
  have d4' : decode c.code (pc + 4) = .ok (.ldc is, 2) := by rw [hb]; exact d4
  have hstr' : vk_R own is text sa s' := vk_R.warm hW0 hstr
  obtain ⟨U, hsteps, hrun, hend, hW, hsame, ce, hce, hO⟩ := X₁.ctorThrowS hexec htr (own := own) (cls := cls) (names := names) (ic := ic) hown' hcls hnames h (fun x hx => nomatch hx) hfX hkX hcellA (by rw [hhp, hT]; exact Nat.le_refl _) (msg := .ref sa) rfl
    (g := { method := m, pc := pc + 6, locals := ls, stack := .ref sa :: .ref T.heap.size :: .ref T.heap.size :: rest, locked := none }) rfl hsize rfl rfl (rest := rest) rfl
    (by rw [hb]; exact d6) (by rw [hb]; exact d9) hout hRframes (by simp only [List.map_cons, List.sum_cons, hcat]; omega) hlocks
  obtain ⟨f1, f2⟩ := vx_frame hsame
  rw [hhp] at f1 f2
  have hWs : s.WarmedH U.vm := State.WarmedH.trans hW0 hW
  have hcl : s.vm.findClass cls = some ce.cls := by
    have h9 := hO.cls
    rw [hvm] at h9
    exact h9
  have hall : s.sameButNew ({ U with vm := s.vm } : State) locs mc ms := by
    subst hA
    obtain ⟨e1, e2⟩ := hsame
    rw [State.setFrames_setFrames] at e1
    have h2 : (T.setVm s.vm).sameButNew ({ U with vm := s.vm } : State) [] (0 + 1) (0 + 6) := ⟨e1, e2⟩
    have h3 := X.same.trans h2
    rw [List.append_nil] at h3
    exact h3.mono hc hs
  refine ⟨U, ?_, .threw T.heap.size, hrun, hend, Or.inr ⟨T.heap.size, rfl, cls, ce, locs, hx U hWs.alike f1 (fun q hq => f2 q hq (fun z hz => nomatch hz)), hce, hO.vm, hcl, hWs, hall, hf⟩⟩
  refine st1 _ ?_
  show Steps p.tables e below (T1.setTop { method := m, pc := pc + 3, locals := ls, stack := .ref T.heap.size :: rest, locked := none }) _
  jvm_step X₁.here [X₁.here.top, hexec, d3', Value.category]
  exact X₁.ldcString hexec (own := own) (text := text) (index := is) (a := sa) hown' hstr'.1 hstr'.2
    (g := { method := m, pc := pc + 4, locals := ls, stack := .ref T.heap.size :: .ref T.heap.size :: rest, locked := none }) rfl d4' _ hsteps
/-- 'throw new E("text")', the text by a wide index -/
theorem vx_throwSW {cc : ByteArray} {pc : Nat} (hexec : p.tables.exec = Jvm.exec) (hb : c.code = cc) (hl : l.stackTraces = false) {own cls text : String} {names : List String} {ik is ic mc ms sa : Nat} {A : Nat → Prop}
    (hown : s.vm.findClass own = some m.cls) (hcls : Bundle.fit cls = true) (hnames : ∀ n ∈ names, Bundle.fit n = true)
    (hk : (Cond.classLink own ik cls).before args s = true) (hini : (Cond.initialized cls).before args s = true) (hstr : vk_R own is text sa s) (hat : ∀ w ∈ vx_atS own ic cls names, w.before args s = true)
    (hgood : ∀ w ∈ Cond.classLink own ik cls :: Cond.initialized cls :: vx_atS own ic cls names, vx_ot w = true)
    (hU : vx_Zq Bundle.tN "UNASSIGNED_STACK" Bundle.steD A s s.heap) (hN : vx_Zq Bundle.tN "SUPPRESSED_SENTINEL" Bundle.listD A s s.heap) (hS : va_S A s.heap H locs) (hsize : ls.size = c.maxLocals)
    (d0 : decode cc pc = .ok (.new ik, 3)) (d3 : decode cc (pc + 3) = .ok (.dup, 1)) (d4 : decode cc (pc + 4) = .ok (.ldc_w is, 3)) (d7 : decode cc (pc + 7) = .ok (.invokespecial ic, 3)) (d10 : decode cc (pc + 10) = .ok (.athrow, 1))
    (hout : ∀ x ∈ c.exceptionTable.toList, covers x (pc + 10) = false)
    (hRframes : names.length + 3 < R.frames) (hRlocals : (rest.map fun v => v.category).sum + (13 * (names.length + 1) + 43) ≤ R.locals) (hRcells : cells + 1 ≤ R.cells) (hRslots : slots + 6 ≤ R.slots) (hlocks : meth.locks = false)
    (hx : ∀ t : State, s.vm.Alike t.vm → H.size ≤ t.heap.size → (∀ q : Nat, q < H.size → t.heap[q]? = H[q]?) → XC cls s t)
    (hf : ∀ z ∈ locs, free z.base) (hc : cells + 1 ≤ mc) (hs : slots + 6 ≤ ms) :
    W p l e R s m args below meth c H locs cells slots (vx_MQ below Qc XC args s mc ms free) (F0 m pc ls rest) := by
  intro T hT X
  have htr : e.platform.stackTraces = false := (show e.platform.stackTraces = l.stackTraces by rw [X.admits.platform]).trans hl
  have Y := vx_rebase X (R' := { frames := R.frames, locals := R.locals, cells := 1, slots := 6 }) (Nat.le_refl _) (Nat.le_refl _) hRcells hRslots
  obtain ⟨s', hA⟩ : ∃ z, z = (T.setVm s.vm).setFrames (.invoking m args :: below) := ⟨_, rfl⟩
  rw [← hA] at Y
  have hvm : s'.vm = s.vm := by rw [hA]; rfl
  have hhp : s'.heap = H := by rw [hA]; exact hT
  have hW0 : s.WarmedH s'.vm := by rw [hvm]; exact State.WarmedH.refl s
  have hat' : ∀ w ∈ vx_atS own ic cls names, w.before args s' = true := fun w hw => vx_ot_at hW0 hvm.symm (hgood w (List.mem_cons_of_mem _ (List.mem_cons_of_mem _ hw))) (hat w hw)
  have hk' : (Cond.classLink own ik cls).before args s' = true := vx_ot_at hW0 hvm.symm (hgood _ List.mem_cons_self) hk
  have hini' : (Cond.initialized cls).before args s' = true := vx_ot_at hW0 hvm.symm (hgood _ (List.mem_cons_of_mem _ List.mem_cons_self)) hini
  have hU' : vx_Zq Bundle.tN "UNASSIGNED_STACK" Bundle.steD A s' s'.heap := by rw [hhp]; exact vx_Zq.moved hW0.alike (hU.kept hS.2.1)
  have hN' : vx_Zq Bundle.tN "SUPPRESSED_SENTINEL" Bundle.listD A s' s'.heap := by rw [hhp]; exact vx_Zq.moved hW0.alike (hN.kept hS.2.1)
  have h : ∀ w ∈ Bundle.ownAtoms own ic cls names, w.before args s' = true := vx_own hat' (vx_isRefq hU'.1) (vx_isRefq hN'.1) hU'.2.word hN'.2.word
  have hown' : s'.vm.findClass own = some m.cls := by rw [hvm]; exact hown
  have hins : (Cond.instantiable cls 6).before args s' = true := h _ (by simp [Bundle.ownAtoms])
  obtain ⟨vm₁, cX, kX, hfX, hkX, -, -, X₁, st1⟩ := Y.newCold hexec (own := own) (C := cls) (index := ik) (n := 6) hown' hk' hins hini'
    (g := F0 m pc ls rest) rfl (by rw [hb]; exact d0) (Nat.le_refl _) (Nat.le_refl _)
  generalize hT1 : (T.setVm vm₁).pushCell { cls := cX, slots := kX.instanceTypes.map defaultValue, vm := .none } = T1 at X₁ st1
  have hcat : (Value.ref T.heap.size).category = 1 := rfl
  have hcellA : T1.heap[T.heap.size]? = some (freshCell cX kX) := by rw [← hT1]; exact State.heap_pushCell_size _ _
  have d3' : decode c.code (pc + 3) = .ok (.dup, 1) := by rw [hb]; exact d3
  have d4' : decode c.code (pc + 4) = .ok (.ldc_w is, 3) := by rw [hb]; exact d4
  have hstr' : vk_R own is text sa s' := vk_R.warm hW0 hstr
  obtain ⟨U, hsteps, hrun, hend, hW, hsame, ce, hce, hO⟩ := X₁.ctorThrowS hexec htr (own := own) (cls := cls) (names := names) (ic := ic) hown' hcls hnames h (fun x hx => nomatch hx) hfX hkX hcellA (by rw [hhp, hT]; exact Nat.le_refl _) (msg := .ref sa) rfl
    (g := { method := m, pc := pc + 7, locals := ls, stack := .ref sa :: .ref T.heap.size :: .ref T.heap.size :: rest, locked := none }) rfl hsize rfl rfl (rest := rest) rfl
    (by rw [hb]; exact d7) (by rw [hb]; exact d10) hout hRframes (by simp only [List.map_cons, List.sum_cons, hcat]; omega) hlocks
  obtain ⟨f1, f2⟩ := vx_frame hsame
  rw [hhp] at f1 f2
  have hWs : s.WarmedH U.vm := State.WarmedH.trans hW0 hW
  have hcl : s.vm.findClass cls = some ce.cls := by
    have h9 := hO.cls
    rw [hvm] at h9
    exact h9
  have hall : s.sameButNew ({ U with vm := s.vm } : State) locs mc ms := by
    subst hA
    obtain ⟨e1, e2⟩ := hsame
    rw [State.setFrames_setFrames] at e1
    have h2 : (T.setVm s.vm).sameButNew ({ U with vm := s.vm } : State) [] (0 + 1) (0 + 6) := ⟨e1, e2⟩
    have h3 := X.same.trans h2
    rw [List.append_nil] at h3
    exact h3.mono hc hs
  refine ⟨U, ?_, .threw T.heap.size, hrun, hend, Or.inr ⟨T.heap.size, rfl, cls, ce, locs, hx U hWs.alike f1 (fun q hq => f2 q hq (fun z hz => nomatch hz)), hce, hO.vm, hcl, hWs, hall, hf⟩⟩
  refine st1 _ ?_
  show Steps p.tables e below (T1.setTop { method := m, pc := pc + 3, locals := ls, stack := .ref T.heap.size :: rest, locked := none }) _
  jvm_step X₁.here [X₁.here.top, hexec, d3', Value.category]
  exact X₁.ldcStringW hexec (own := own) (text := text) (index := is) (a := sa) hown' hstr'.1 hstr'.2
    (g := { method := m, pc := pc + 4, locals := ls, stack := .ref T.heap.size :: .ref T.heap.size :: rest, locked := none }) rfl d4' _ hsteps
end Ends
section Bodies
variable {l : Launch}
theorem vx_ofW {y : MethodName} {ws ws' : List Cond} {rm : Room} {Pc : Array Value → State → Prop} {Qc : Array Value → State → Outcome → State → Prop} {XC : String → State → State → Prop} {mc ms : Nat} {free : Addr → Prop} {cc : ByteArray} {maxL : Nat} {ret : Option FieldType}
    (hy : plainName y.cls = true) (hw : ws = Cond.code y cc maxL ret :: ws')
    (body : ∀ p e s m args below meth c s₁, BodyLoose p l y (headSpec ws rm) cc maxL ret e s m args below meth c s₁ → c.maxLocals = maxL → (∀ x ∈ c.exceptionTable.toList, False) → Pc args s →
      W p l e (headSpec ws rm).room s m args below meth c s.heap [] 0 0 (vx_MQ below Qc XC args s mc ms free) (entryFrame m args maxL)) : vx_Met l y ws rm Pc Qc XC mc ms free := by
  refine MetFree.of_bodyS (code := cc) (maxLocals := maxL) (ret := ret) hy ?_ ?_
  · intro args s m h hn
    obtain ⟨meth, c, h1, h2, h3, h4, h5, h6, -, -⟩ := Cond.code_spec hn (atoms_spec (ws := ws) h _ (by rw [hw]; exact List.mem_cons_self))
    exact ⟨meth, c, h1, h2, h3, h4, h5, h6⟩
  · intro p e s m args below meth c s₁ B hml hP _
    have hh0 : s₁.heap = s.heap := by rw [B.state]; rfl
    have ht : ∀ x ∈ c.exceptionTable.toList, False := by
      obtain ⟨meth9, c9, h1, h2, -, -, -, -, h7, -⟩ := Cond.code_spec B.named (atoms_spec (ws := ws) B.pre _ (by rw [hw]; exact List.mem_cons_self))
      cases Option.some.inj (h1.symm.trans B.method)
      cases Option.some.inj (h2.symm.trans (Stand.of_body B).code)
      intro x hx
      rw [Array.isEmpty_iff.mp h7] at hx
      cases hx
    obtain ⟨t, a1, o, b1, b2, b3⟩ := body p e s m args below meth c s₁ B hml ht hP s₁ hh0 (Stand.of_body B)
    exact ⟨t, o, a1, b1, b2, b3⟩
/-- the table of a body with handlers -/
theorem vx_table {p : Program} {x y : MethodName} {S : Spec} {cc bytes : ByteArray} {maxL maxL' : Nat} {ret ret' : Option FieldType} {e : Env} {s s₁ : State} {m : MethodId} {args : Array Value} {below : List Frame} {meth : Method} {c : Code} {hh : List (Nat × Nat × Nat × Nat)}
    (B : BodyLoose p l y S cc maxL ret e s m args below meth c s₁) (h : (Cond.codeWith y bytes maxL' ret' hh).before args s = true) : c.exceptionTable.toList = tableOf hh := by
  obtain ⟨m9, meth9, c9, hn9, h1, h2, -, -, h6, -⟩ := Cond.codeWith_spec h
  cases Option.some.inj (hn9.symm.trans B.named)
  cases Option.some.inj (h1.symm.trans B.method)
  cases Option.some.inj (h2.symm.trans (Stand.of_body B).code)
  rw [← h6, table_eq]
end Bodies
end VXA
/-! ===== END ===== -/
/-! ===== BEGIN a static call of a method with an exception table ===== -/
section VXS
variable {p : Program} {l : Launch} {e : Env} {R : Room} {s : State} {m : MethodId} {args : Array Value} {below : List Frame} {meth : Method} {c : Code} {T : State} {H : Heap} {locs : List Loc} {cells slots : Nat}
abbrev vx_CSW (R : Room) (s : State) (args : Array Value) (own : String) (index : Nat) (y : MethodName) (bytes : ByteArray) (maxL : Nat) (ret : Option FieldType) (hh : List (Nat × Nat × Nat × Nat)) (ws : List Cond) (rm : Room) (mc ms n : Nat) : Prop :=
  (rm.cells = mc ∧ rm.slots = ms ∧ rm.frames + 1 ≤ R.frames ∧ 8 + (maxL + 11) + rm.locals ≤ R.locals ∧ (∀ w ∈ ws, ∀ (a' : Array Value) (U : State), s.WarmedH U.vm → w.before a' U = true) ∧ Cond.codeWith y bytes maxL ret hh ∈ ws) ∧
  (Cond.codeWith y bytes maxL ret hh).before args s = true ∧ (Cond.initialized y.cls).before args s = true ∧ (y.cls ≠ "java/lang/invoke/MethodHandle" ∧ y.cls ≠ "java/lang/invoke/VarHandle") ∧
  (∀ sig, parseMethodDescriptor y.desc = some sig → n = sig.parameters.length) ∧ (Cond.methodLink own index y).before args s = true ∧ (Cond.static y).before args s = true
theorem vx_cwSW {own : String} {index maxL mc ms : Nat} {y : MethodName} {bytes : ByteArray} {ret : Option FieldType} {hh : List (Nat × Nat × Nat × Nat)} {Ts ws ws' : List Cond} {rm : Room} (n : Nat) (ht : ∀ w ∈ Ts, w.before args s = true) (hT : GoodIn Ts (va_wsS own index y ws)) (hw : ws = Cond.codeWith y bytes maxL ret hh :: ws') (hrc : rm.cells = mc) (hrs : rm.slots = ms)
    (hd : y.cls ≠ "java/lang/invoke/MethodHandle" ∧ y.cls ≠ "java/lang/invoke/VarHandle" ∧ (parseMethodDescriptor y.desc).map (fun d => d.parameters.length) = some n) (hR : rm.frames + 1 ≤ R.frames ∧ 8 + (maxL + 11) + rm.locals ≤ R.locals) :
    vx_CSW R s args own index y bytes maxL ret hh ws rm mc ms n := by
  have ok : ∀ w ∈ va_wsS own index y ws, w.before args s = true := fun w h => ht w (hT w h).1
  have hG : GoodIn Ts ws := fun w h => hT w (by unfold va_wsS; exact List.mem_append_right _ h)
  have hc : Cond.codeWith y bytes maxL ret hh ∈ ws := by rw [hw]; exact List.mem_cons_self
  refine ⟨⟨hrc, hrs, hR.1, hR.2, pay_in ht hG, hc⟩, ht _ (hG _ hc).1, ok _ (by simp [va_wsS]), ⟨hd.1, hd.2.1⟩, fun sig h => ?_, ok _ (by simp [va_wsS]), ok _ (by simp [va_wsS])⟩
  have h2 := hd.2.2
  rw [h] at h2
  exact (Option.some.inj h2).symm
theorem vx_callSW (X : Stand p l e R s m args below meth c T locs cells slots) (hexec : p.tables.exec = Jvm.exec) {own : String} {index : Nat} {y : MethodName} {bytes : ByteArray} {maxL : Nat} {ret : Option FieldType} {hh : List (Nat × Nat × Nat × Nat)}
    (hown : s.vm.findClass own = some m.cls) (hlink : (Cond.methodLink own index y).before args s = true) (hstat : (Cond.static y).before args s = true) (hinit : (Cond.initialized y.cls).before args s = true)
    (hcode : (Cond.codeWith y bytes maxL ret hh).before args s = true) (hy : y.cls ≠ "java/lang/invoke/MethodHandle" ∧ y.cls ≠ "java/lang/invoke/VarHandle")
    {W9 : Nat} {Pre : Pt → Array Value → Prop} {Post : Pt → Array Value → Option Value → Pt → Prop} (hK : Back l R p e below s args y 3 W9 Pre Post)
    {g : JFrame} (hg : g.method = m) (hsize : g.locals.size = c.maxLocals) {argsL rest : List Value} (hlen : ∀ sig, parseMethodDescriptor y.desc = some sig → argsL.length = sig.parameters.length)
    (hstack : g.stack = argsL.reverse ++ rest) (hW : 2 * g.monitorRoom + (rest.map fun v => v.category).sum ≤ W9) (hdg : decode c.code g.pc = .ok (.invokestatic index, 3))
    (hpre : ∀ vm₁, s.WarmedH vm₁ → Pre ⟨T.setVm vm₁, locs, cells, slots⟩ argsL.toArray) :
    ∃ (v : Option Value) (vm₁ : Vm) (B : Pt), s.WarmedH vm₁ ∧ Stand p l e R s m args below meth c B.U B.locs B.cells B.slots ∧ Post ⟨T.setVm vm₁, locs, cells, slots⟩ argsL.toArray v B ∧
      ∀ target, Steps p.tables e below (B.U.setTop { g with pc := g.pc + 3, stack := v.toList ++ rest }) target → Steps p.tables e below (T.setTop g) target := by
  obtain ⟨mk, methM, cM, hnamed, hmethM, -, -, -, -, -, -, hsigM⟩ := Cond.codeWith_spec hcode
  have hstatic : methM.isStatic = true := Cond.static_spec hnamed hmethM hstat
  obtain ⟨kP, hkP, -⟩ := className_of_methodNamed hnamed
  have hinitP : kP.init = .initialized := Cond.initialized_spec (findClass_of_methodNamed hnamed) hkP hinit
  obtain ⟨vm₁, X₁, hstep₁⟩ := X.invokestatic hexec hown hlink hnamed hmethM hstatic hkP hinitP hy (g := g) hg (argsL := argsL) (rest := rest) (hlen _ hsigM) hstack hdg
  obtain ⟨v, B, X', hpost, hsteps⟩ := hK m meth c ⟨T.setVm vm₁, locs, cells, slots⟩ { g with stack := rest } (.invokestatic index) mk argsL.toArray X₁ hg hsize hdg hW (X₁.named hnamed) (hpre vm₁ X₁.warmed)
  exact ⟨v, vm₁, B, X₁.warmed, X', hpost, fun target h => hstep₁ _ fun acts => by rw [doInvoke_state]; exact hsteps.trans h⟩
theorem vx_runSW {y : MethodName} {bytes cc : ByteArray} {maxL nL mc ms n index : Nat} {ret : Option FieldType} {hh : List (Nat × Nat × Nat × Nat)} {ws : List Cond} {rm : Room} {Pc : Array Value → State → Prop} {Qc : Array Value → State → Outcome → State → Prop} {free : Addr → Prop} {Ts : List Cond} {own : String} {As rest : List Value} {g : JFrame}
    (S : CallFix p m c cc nL s args Ts own) (hM : Met l y ws rm Pc Qc mc ms free) (cw : vx_CSW R s args own index y bytes maxL ret hh ws rm mc ms n) (hp : PreS s H Pc As)
    (hg : g.method = m) (hn : As.length = n) (hsize : g.locals.size = nL) (hstack : g.stack = As.reverse ++ rest) (hW : 2 * g.monitorRoom + (rest.map fun v => v.category).sum ≤ 8) (hdg : decode cc g.pc = .ok (.invokestatic index, 3)) (hf : cells + mc ≤ R.cells ∧ slots + ms ≤ R.slots) :
    va_Run p l e R s m args below meth c H locs cells slots mc ms g rest (Qc As.toArray) (free) := by
  obtain ⟨⟨hrc, hrs, hfr, hlo, hws, hcw⟩, hcode, hini, hy, hlen, hl, hstt⟩ := cw
  have hK : Back l R p e below s args y 3 8 (PreOf R mc ms Pc) (PostOf Qc mc ms free) := va_backW (hh := hh) (bytes := bytes) (maxL := maxL) (ret := ret) hM hp.1 hrc hrs hfr hlo hws hcw (fun a' U hW => word_at hW (Or.inl (by first | rfl | simp [Cond.onTables, Cond.keeps, Cond.steady])) hini)
  obtain ⟨hx, hb, hml, ho, -⟩ := S
  intro T hT X
  obtain ⟨v, vm₁, ⟨U', l2, c2, s2⟩, hW₁, X', ⟨g', mk, t, L, e1, e2, hq, h1, hL, h2, h3⟩, st⟩ := vx_callSW X hx (hh := hh) (bytes := bytes) (maxL := maxL) (ret := ret) ho hl hstt hini hcode hy hK hg (hsize.trans hml.symm) (argsL := As) (rest := rest) (fun sig h => hn.trans (hlen sig h)) hstack hW (by rw [hb]; exact hdg)
    (fun vm₁ hW₁ => ⟨hf.1, hf.2, hp.2 (T.setVm vm₁) hT hW₁⟩)
  dsimp only [Pt.U, Pt.locs, Pt.cells, Pt.slots] at X' e1 e2 h1 h2 h3 st
  subst h1; subst h2; subst h3
  exact ⟨v, (T.setVm vm₁).calling g' mk As.toArray, t, U', L, hT, X', hL, e1, e2, hq, st⟩
/-- not caught here, past rows that name other classes: it goes on to the caller -/
theorem vx_outP {p : Program} {l : Launch} {e : Env} {R : Room} {s : State} {m : MethodId} {args : Array Value} {below : List Frame} {meth : Method} {c : Code} {H : Heap} {locs : List Loc} {cells slots : Nat} {free : Addr → Prop} {ls : Array Slot} {rest : List Value} {Qc : Array Value → State → Outcome → State → Prop} {XC : String → State → State → Prop}
    {pc : Nat} {own E : String} {ce : Cell} {q : Addr} {mc ms : Nat} (hown : s.vm.findClass own = some m.cls) (hlocks : meth.locks = false)
    (hpass : ∀ z ∈ c.exceptionTable.toList, covers z pc = false ∨ (z.catchType ≠ 0 ∧ ∃ nm : String, (Cond.classLink own z.catchType nm).before args s = true ∧ va_Nc E nm s)) (hcell : H[q]? = some ce) (hv : ce.vm = .none) (hcl : s.vm.findClass E = some ce.cls)
    (hx : ∀ t : State, t.heap = H → s.vm.Alike t.vm → XC E s t) (hf : ∀ z ∈ locs, free z.base) (hc : cells ≤ mc) (hs : slots ≤ ms) :
    vx_W p l e R s m args below meth c H locs cells slots (vx_MQ below Qc XC args s mc ms free) (F0 m pc ls rest) q := by
  intro T hT X
  have hpl : e.platform.magicAccessors = ({} : Platform).magicAccessors := by rw [X.admits.platform]
  obtain ⟨vm', hW', X', st⟩ := X.outThrough hlocks q (g := F0 m pc ls rest) rfl rfl rfl (cell := ce) (by rw [hT]; exact hcell) (by rw [hv]; rfl)
    (by obtain ⟨k9, h9, -⟩ := Vm.findClass_spec hcl; exact ⟨k9, h9⟩) (fun z hz => by
      rcases hpass z hz with h | ⟨hz0, nm, hl1, hn1⟩
      · exact Or.inl h
      · obtain ⟨c6, hc6, hcl6⟩ := Cond.classLink_spec hown hl1 e.platform hpl
        obtain ⟨a8, b8, h1, h2, h3⟩ := hn1
        cases Option.some.inj (h1.symm.trans hcl)
        cases Option.some.inj (h2.symm.trans hc6)
        exact Or.inr ⟨hz0, _, hcl6, h3⟩)
  obtain ⟨g₀, hfr⟩ := X'.frames_eq
  have hcell9 : ((T.setVm vm').setFrames (.throwing q :: below)).heap[q]? = some ce := by
    show T.heap[q]? = some ce
    rw [hT]; exact hcell
  have hend : Ended ((T.setVm vm').setFrames (.throwing q :: below)) below (.threw q) := State.frames_setFrames _ (State.cur_lt_of_frames hfr)
  refine ⟨(T.setVm vm').setFrames (.throwing q :: below), ?_, .threw q, X'.here.running, hend, Or.inr ⟨q, rfl, E, ce, locs, hx _ hT (X'.ends _).1.alike, hcell9, hv, hcl, (X'.ends _).1, (X'.ends _).2.mono hc hs, hf⟩⟩
  rw [X.pushThrowing_eq]
  exact st
/-- a thing of a world lies in the heap -/
theorem vx_lt {D : va_G} {cl : List vw_C} {ws : va_W} {H1 : Heap} (h : va_P D cl ws H1) {k : Nat} {q : Nat × va_E} (hk : ws[k]? = some q) : q.1 < H1.size := (h k q hk).lt
end VXS
/-! ===== END ===== -/
/-! ===== BEGIN methods with a table of their own: called by a name, returning or throwing ===== -/
section VXH
/-! vx_backW, vx_callVX, vx_callSX, vx_callVW, vx_runVW, vx_runVX, vx_runSX, vx_ofWH follow the same proofs as their sisters above (Free/Laws.lean, Shelf42/LK1.lean); vx_outP calls Shelf42/NT130.lean (outThrough). -/
section
variable {l : Launch} {R : Room} {p : Program} {e : Env} {below : List Frame} {s : State} {sargs : Array Value} {y : MethodName} {len W9 : Nat}
theorem vx_backW {ws : List Cond} {rm : Room} {Pc : Array Value → State → Prop} {Qc : Array Value → State → Outcome → State → Prop} {XC : String → State → State → Prop} {mc ms : Nat} {free : Addr → Prop} {bytes : ByteArray} {maxL : Nat} {ret : Option FieldType} {hh : List (Nat × Nat × Nat × Nat)}
    (hM : vx_Met l y ws rm Pc Qc XC mc ms free) (hblind : FrameBlind Pc) (hrc : rm.cells = mc) (hrs : rm.slots = ms)
    (hframes : rm.frames + 1 ≤ R.frames) (hlocals : W9 + (maxL + 11) + rm.locals ≤ R.locals)
    (hws : ∀ w ∈ ws, ∀ a' U, s.WarmedH U.vm → w.before a' U = true) (hcode : Cond.codeWith y bytes maxL ret hh ∈ ws) (hinit : ∀ a' U, s.WarmedH U.vm → (Cond.initialized y.cls).before a' U = true) :
    vx_Back l R p e below s sargs y len W9 (PreOf R mc ms Pc) (PostOf Qc mc ms free) (vx_Post XC mc ms free) := by
  intro m meth c A g ig mk a X hg hsize hdg hW hn hp
  have h1 : (headSpec ws rm).pre.before a A.U = true := atoms_intro fun w hw => hws w hw _ _ X.warmed
  have h2 : (Cond.codeWith y bytes maxL ret hh).before a A.U = true := hws _ hcode _ _ X.warmed
  have h3 : (Cond.initialized y.cls).before a A.U = true := hinit _ _ X.warmed
  have h4 : A.cells + (headSpec ws rm).room.cells ≤ R.cells := by rw [show (headSpec ws rm).room.cells = mc from hrc]; exact hp.1
  have h5 : A.slots + (headSpec ws rm).room.slots ≤ R.slots := by rw [show (headSpec ws rm).room.slots = ms from hrs]; exact hp.2.1
  have hPc : Pc a (A.U.calling g mk a) := hblind _ _ _ _ hp.2.2
  obtain ⟨U, Ls, c0, s0⟩ := A
  dsimp only [Pt.U, Pt.locs, Pt.cells, Pt.slots] at h1 h2 h3 h4 h5 X hn hPc ⊢
  obtain ⟨m9, methY, cY, hn9, hmY, hcY, -, hlY, -⟩ := Cond.codeWith_spec h2
  cases Option.some.inj (hn9.symm.trans hn)
  obtain ⟨kY, hkY, -⟩ := className_of_methodNamed hn
  have hinitY : kY.init = .initialized := Cond.initialized_spec (findClass_of_methodNamed hn) hkY h3
  have h : At U g.method c below := by rw [hg]; exact X.here
  have hlocals9 : W9 + (maxL + 11) + (headSpec ws rm).room.locals ≤ R.locals := hlocals
  have happ : (headSpec ws rm).appliesLoose y e.platform (U.calling g mk a) = true :=
    Spec.appliesLoose_calling (g := g) h hdg hn hkY hinitY
      (X.room_calling (g := g) (R' := (headSpec ws rm).room) hsize hmY hcY hframes (by rw [hlY]; omega) h4 h5) h1
  obtain ⟨mid, hmid⟩ := h.above
  have hfr : (U.setTop g).frames = (.java g :: mid) ++ below := by rw [State.frames_setTop' g h.top, hmid]; rfl
  obtain ⟨o, s₂, hsteps, -, hend, hq⟩ := Steps.callFree hM p X.admits X.cas X.clock (acts := []) hfr happ hPc trivial
  have hq' : vx_Q Qc XC mc ms free a (U.calling g mk a) o s₂ := hq
  rw [State.frames_setTop' g h.top] at hend
  obtain ⟨g₀, hg0⟩ := Option.isSome_iff_exists.mp h.top
  obtain ⟨r, hr⟩ := State.topJava?_eq_some.mp hg0
  have hr' : (({ U with heap := s₂.heap, slotsUsed := s₂.slotsUsed } : State).setVm s₂.vm).frames = .java g₀ :: r := hr
  rcases hq' with ⟨hqc, L, hfe, hL⟩ | ⟨q, rfl, E, ce, L, hx, hce, hcv, hcl, hW₂, hsm, hL⟩
  · obtain ⟨⟨v, rfl⟩, hW₂, e2, q2, q3, q4, q5, q6⟩ := id hfe
    have e3 : s₂ = ({ (U.calling g mk a).setFrames s₂.frames with heap := s₂.heap, slotsUsed := s₂.slotsUsed } : State).setVm s₂.vm := by
      have : s₂ = ({ s₂ with vm := (U.calling g mk a).vm } : State).setVm s₂.vm := rfl
      rw [e2] at this
      exact this
    obtain ⟨c₂, i₂, len₂, hc₂, hd₂, hf₂⟩ := hend
    have hW' : U.WarmedH s₂.vm := hW₂
    have hcc : c₂ = c := by
      have h1 : s₂.code? g.method = U.code? g.method := by
        rw [State.code?_eq, State.code?_eq, hW'.alike.method?]
      exact Option.some.inj (hc₂.symm.trans (h1.trans h.code))
    subst hcc
    have hlen : len₂ = len := by rw [hdg] at hd₂; cases hd₂; rfl
    subst hlen
    have hs₂ : s₂ = (({ U with heap := s₂.heap, slotsUsed := s₂.slotsUsed } : State).setVm s₂.vm).setTop { g with pc := g.pc + len₂, stack := v.toList ++ g.stack } := by
      refine e3.trans ?_
      rw [hf₂, State.calling_eq h.top, State.setFrames_setFrames, State.setTop_of_frames _ hr', hr]
      rfl
    have hsame : U.sameButNew ({ U with heap := s₂.heap, slotsUsed := s₂.slotsUsed } : State) L mc ms := by
      refine ⟨?_, q2, q3, q4, q5, q6⟩
      obtain ⟨t, ht, -⟩ := State.frames_cons hr
      show ({ U with heap := s₂.heap, slotsUsed := s₂.slotsUsed } : State) = { U.setFrames U.frames with heap := s₂.heap, slotsUsed := s₂.slotsUsed }
      rw [State.setFrames_self ht]
    subst hg
    refine Or.inl ⟨v, ⟨(({ U with heap := s₂.heap, slotsUsed := s₂.slotsUsed } : State).setVm s₂.vm), Ls ++ L, c0 + mc, s0 + ms⟩,
      ⟨X.admits, X.cas, X.clock, X.frames, X.room, X.hears, X.method, X.code, (X.here.setHeapUsed s₂.heap s₂.slotsUsed).setVm hW'.alike, X.tail, State.WarmedH.trans X.warmed hW', X.limits, X.bytes, X.same.trans (hsame.setVm s.vm)⟩,
      ⟨g, mk, s₂, L, rfl, rfl, hqc, rfl, hL, rfl, rfl⟩, ?_⟩
    show Steps p.tables e below _ ((({ U with heap := s₂.heap, slotsUsed := s₂.slotsUsed } : State).setVm s₂.vm).setTop { g with pc := g.pc + len₂, stack := v.toList ++ g.stack })
    rw [← hs₂]
    exact hsteps
  · obtain ⟨e2, q2, q3, q4, q5, q6⟩ := id hsm
    have e3 : s₂ = ({ (U.calling g mk a).setFrames s₂.frames with heap := s₂.heap, slotsUsed := s₂.slotsUsed } : State).setVm s₂.vm := by
      have : s₂ = ({ s₂ with vm := (U.calling g mk a).vm } : State).setVm s₂.vm := rfl
      rw [e2] at this
      exact this
    have hf₂ : s₂.frames = .throwing q :: .java g :: U.frames.tail := hend
    have hW' : U.WarmedH s₂.vm := hW₂
    have hs₂ : s₂ = ((({ U with heap := s₂.heap, slotsUsed := s₂.slotsUsed } : State).setVm s₂.vm).setTop g).pushFrame (.throwing q) := by
      refine e3.trans ?_
      rw [hf₂, State.calling_eq h.top, State.setFrames_setFrames, State.pushFrame, State.frames_setTop _ hr', State.setTop_of_frames _ hr', State.setFrames_setFrames, hr]
      rfl
    have hsame : U.sameButNew ({ U with heap := s₂.heap, slotsUsed := s₂.slotsUsed } : State) L mc ms := by
      refine ⟨?_, q2, q3, q4, q5, q6⟩
      obtain ⟨t, ht, -⟩ := State.frames_cons hr
      show ({ U with heap := s₂.heap, slotsUsed := s₂.slotsUsed } : State) = { U.setFrames U.frames with heap := s₂.heap, slotsUsed := s₂.slotsUsed }
      rw [State.setFrames_self ht]
    subst hg
    refine Or.inr ⟨q, ⟨(({ U with heap := s₂.heap, slotsUsed := s₂.slotsUsed } : State).setVm s₂.vm), Ls ++ L, c0 + mc, s0 + ms⟩,
      ⟨X.admits, X.cas, X.clock, X.frames, X.room, X.hears, X.method, X.code, (X.here.setHeapUsed s₂.heap s₂.slotsUsed).setVm hW'.alike, X.tail, State.WarmedH.trans X.warmed hW', X.limits, X.bytes, X.same.trans (hsame.setVm s.vm)⟩,
      ⟨g, mk, s₂, L, E, ce, rfl, rfl, hx, hce, hcv, hcl, rfl, hL, rfl, rfl⟩, ?_⟩
    show Steps p.tables e below _ (((({ U with heap := s₂.heap, slotsUsed := s₂.slotsUsed } : State).setVm s₂.vm).setTop g).pushFrame (.throwing q))
    rw [← hs₂]
    exact hsteps
end
variable {p : Program} {l : Launch} {e : Env} {R : Room} {s : State} {m : MethodId} {args : Array Value} {below : List Frame} {meth : Method} {c : Code} {T : State} {H : Heap} {locs : List Loc} {cells slots : Nat}
theorem vx_callVX (X : Stand p l e R s m args below meth c T locs cells slots) (hexec : p.tables.exec = Jvm.exec) {own C : String} {index : Nat} {y : MethodName} {bytes : ByteArray} {maxL : Nat} {ret : Option FieldType} {hh : List (Nat × Nat × Nat × Nat)}
    (hown : s.vm.findClass own = some m.cls) (hlink : (Cond.methodLink own index y).before args s = true) (hinst : (Cond.instanceMethod y).before args s = true) (hsel : (Cond.selects C y y).before args s = true)
    (hcode : (Cond.codeWith y bytes maxL ret hh).before args s = true) (hy : y.cls ≠ "java/lang/invoke/MethodHandle" ∧ y.cls ≠ "java/lang/invoke/VarHandle")
    {W9 : Nat} {Pre : Pt → Array Value → Prop} {Post : Pt → Array Value → Option Value → Pt → Prop} {PostX : Pt → Array Value → Addr → Pt → Prop} (hK : vx_Back l R p e below s args y 3 W9 Pre Post PostX)
    {b : Addr} {cellB : Cell} (hcell : T.heap[b]? = some cellB) (hobj : cellB.vm.isStatics = false) (hcls : s.vm.findClass C = some cellB.cls)
    {g : JFrame} (hg : g.method = m) (hsize : g.locals.size = c.maxLocals) {argsL rest : List Value} (hlen : ∀ sig, parseMethodDescriptor y.desc = some sig → argsL.length = sig.parameters.length)
    (hstack : g.stack = argsL.reverse ++ .ref b :: rest) (hW : 2 * g.monitorRoom + (rest.map fun v => v.category).sum ≤ W9) (hdg : decode c.code g.pc = .ok (.invokevirtual index, 3))
    (hpre : ∀ vm₁, s.WarmedH vm₁ → Pre ⟨T.setVm vm₁, locs, cells, slots⟩ (Value.ref b :: argsL).toArray) :
    (∃ (v : Option Value) (vm₁ : Vm) (B : Pt), s.WarmedH vm₁ ∧ Stand p l e R s m args below meth c B.U B.locs B.cells B.slots ∧ Post ⟨T.setVm vm₁, locs, cells, slots⟩ (Value.ref b :: argsL).toArray v B ∧
      ∀ target, Steps p.tables e below (B.U.setTop { g with pc := g.pc + 3, stack := v.toList ++ rest }) target → Steps p.tables e below (T.setTop g) target) ∨
    (∃ (q : Addr) (vm₁ : Vm) (B : Pt), s.WarmedH vm₁ ∧ Stand p l e R s m args below meth c B.U B.locs B.cells B.slots ∧ PostX ⟨T.setVm vm₁, locs, cells, slots⟩ (Value.ref b :: argsL).toArray q B ∧
      Steps p.tables e below (T.setTop g) ((B.U.setTop { g with stack := rest }).pushFrame (.throwing q))) := by
  obtain ⟨mk, methM, hnamed, hmethM, hstM, habM⟩ := Cond.instanceMethod_spec hinst
  obtain ⟨m8, methM', cM, hn8, hmethM', -, -, -, -, -, -, hsigM⟩ := Cond.codeWith_spec hcode
  cases Option.some.inj (hn8.symm.trans hnamed)
  cases hmethM.symm.trans hmethM'
  obtain ⟨c2, r2, m2, q1, q2, q3, q4, kP, hkP, hkPi⟩ := Cond.selects_spec hsel
  cases hcls.symm.trans q1
  cases (State.methodFound?_of_named hnamed hy).symm.trans q2
  cases hnamed.symm.trans q3
  have hselP : selectMethod e.platform s.vm cellB.cls mk = .method mk := by rw [Launch.admits_selectMethod X.admits]; exact q4
  obtain ⟨vm₁, X₁, hstep₁⟩ := X.invokevirtual hexec hown hlink hnamed hmethM hstM hkP hkPi hy (a := b) (cell := cellB) hcell
    (fun z h => by rw [h] at hobj; cases hobj) hselP hmethM habM hkP hkPi (g := g) hg (argsL := argsL) (rest := rest) (hlen _ hsigM) hstack hdg
  rcases hK m meth c ⟨T.setVm vm₁, locs, cells, slots⟩ { g with stack := rest } (.invokevirtual index) mk (Value.ref b :: argsL).toArray X₁ hg hsize hdg hW (X₁.named hnamed) (hpre vm₁ X₁.warmed) with ⟨v, B, X', hpost, hsteps⟩ | ⟨q, B, X', hpost, hsteps⟩
  · exact Or.inl ⟨v, vm₁, B, X₁.warmed, X', hpost, fun target h => hstep₁ _ fun acts => by rw [doInvoke_state]; exact hsteps.trans h⟩
  · exact Or.inr ⟨q, vm₁, B, X₁.warmed, X', hpost, hstep₁ _ fun acts => by rw [doInvoke_state]; exact hsteps⟩
theorem vx_callSX (X : Stand p l e R s m args below meth c T locs cells slots) (hexec : p.tables.exec = Jvm.exec) {own : String} {index : Nat} {y : MethodName} {bytes : ByteArray} {maxL : Nat} {ret : Option FieldType} {hh : List (Nat × Nat × Nat × Nat)}
    (hown : s.vm.findClass own = some m.cls) (hlink : (Cond.methodLink own index y).before args s = true) (hstat : (Cond.static y).before args s = true) (hinit : (Cond.initialized y.cls).before args s = true)
    (hcode : (Cond.codeWith y bytes maxL ret hh).before args s = true) (hy : y.cls ≠ "java/lang/invoke/MethodHandle" ∧ y.cls ≠ "java/lang/invoke/VarHandle")
    {W9 : Nat} {Pre : Pt → Array Value → Prop} {Post : Pt → Array Value → Option Value → Pt → Prop} {PostX : Pt → Array Value → Addr → Pt → Prop} (hK : vx_Back l R p e below s args y 3 W9 Pre Post PostX)
    {g : JFrame} (hg : g.method = m) (hsize : g.locals.size = c.maxLocals) {argsL rest : List Value} (hlen : ∀ sig, parseMethodDescriptor y.desc = some sig → argsL.length = sig.parameters.length)
    (hstack : g.stack = argsL.reverse ++ rest) (hW : 2 * g.monitorRoom + (rest.map fun v => v.category).sum ≤ W9) (hdg : decode c.code g.pc = .ok (.invokestatic index, 3))
    (hpre : ∀ vm₁, s.WarmedH vm₁ → Pre ⟨T.setVm vm₁, locs, cells, slots⟩ argsL.toArray) :
    (∃ (v : Option Value) (vm₁ : Vm) (B : Pt), s.WarmedH vm₁ ∧ Stand p l e R s m args below meth c B.U B.locs B.cells B.slots ∧ Post ⟨T.setVm vm₁, locs, cells, slots⟩ argsL.toArray v B ∧
      ∀ target, Steps p.tables e below (B.U.setTop { g with pc := g.pc + 3, stack := v.toList ++ rest }) target → Steps p.tables e below (T.setTop g) target) ∨
    (∃ (q : Addr) (vm₁ : Vm) (B : Pt), s.WarmedH vm₁ ∧ Stand p l e R s m args below meth c B.U B.locs B.cells B.slots ∧ PostX ⟨T.setVm vm₁, locs, cells, slots⟩ argsL.toArray q B ∧
      Steps p.tables e below (T.setTop g) ((B.U.setTop { g with stack := rest }).pushFrame (.throwing q))) := by
  obtain ⟨mk, methM, cM, hnamed, hmethM, -, -, -, -, -, -, hsigM⟩ := Cond.codeWith_spec hcode
  have hstatic : methM.isStatic = true := Cond.static_spec hnamed hmethM hstat
  obtain ⟨kP, hkP, -⟩ := className_of_methodNamed hnamed
  have hinitP : kP.init = .initialized := Cond.initialized_spec (findClass_of_methodNamed hnamed) hkP hinit
  obtain ⟨vm₁, X₁, hstep₁⟩ := X.invokestatic hexec hown hlink hnamed hmethM hstatic hkP hinitP hy (g := g) hg (argsL := argsL) (rest := rest) (hlen _ hsigM) hstack hdg
  rcases hK m meth c ⟨T.setVm vm₁, locs, cells, slots⟩ { g with stack := rest } (.invokestatic index) mk argsL.toArray X₁ hg hsize hdg hW (X₁.named hnamed) (hpre vm₁ X₁.warmed) with ⟨v, B, X', hpost, hsteps⟩ | ⟨q, B, X', hpost, hsteps⟩
  · exact Or.inl ⟨v, vm₁, B, X₁.warmed, X', hpost, fun target h => hstep₁ _ fun acts => by rw [doInvoke_state]; exact hsteps.trans h⟩
  · exact Or.inr ⟨q, vm₁, B, X₁.warmed, X', hpost, hstep₁ _ fun acts => by rw [doInvoke_state]; exact hsteps⟩
theorem vx_callVW (X : Stand p l e R s m args below meth c T locs cells slots) (hexec : p.tables.exec = Jvm.exec) {own C : String} {index : Nat} {y : MethodName} {bytes : ByteArray} {maxL : Nat} {ret : Option FieldType} {hh : List (Nat × Nat × Nat × Nat)}
    (hown : s.vm.findClass own = some m.cls) (hlink : (Cond.methodLink own index y).before args s = true) (hinst : (Cond.instanceMethod y).before args s = true) (hsel : (Cond.selects C y y).before args s = true)
    (hcode : (Cond.codeWith y bytes maxL ret hh).before args s = true) (hy : y.cls ≠ "java/lang/invoke/MethodHandle" ∧ y.cls ≠ "java/lang/invoke/VarHandle")
    {W9 : Nat} {Pre : Pt → Array Value → Prop} {Post : Pt → Array Value → Option Value → Pt → Prop} (hK : Back l R p e below s args y 3 W9 Pre Post)
    {b : Addr} {cellB : Cell} (hcell : T.heap[b]? = some cellB) (hobj : cellB.vm.isStatics = false) (hcls : s.vm.findClass C = some cellB.cls)
    {g : JFrame} (hg : g.method = m) (hsize : g.locals.size = c.maxLocals) {argsL rest : List Value} (hlen : ∀ sig, parseMethodDescriptor y.desc = some sig → argsL.length = sig.parameters.length)
    (hstack : g.stack = argsL.reverse ++ .ref b :: rest) (hW : 2 * g.monitorRoom + (rest.map fun v => v.category).sum ≤ W9) (hdg : decode c.code g.pc = .ok (.invokevirtual index, 3))
    (hpre : ∀ vm₁, s.WarmedH vm₁ → Pre ⟨T.setVm vm₁, locs, cells, slots⟩ (Value.ref b :: argsL).toArray) :
    ∃ (v : Option Value) (vm₁ : Vm) (B : Pt), s.WarmedH vm₁ ∧ Stand p l e R s m args below meth c B.U B.locs B.cells B.slots ∧ Post ⟨T.setVm vm₁, locs, cells, slots⟩ (Value.ref b :: argsL).toArray v B ∧
      ∀ target, Steps p.tables e below (B.U.setTop { g with pc := g.pc + 3, stack := v.toList ++ rest }) target → Steps p.tables e below (T.setTop g) target := by
  obtain ⟨mk, methM, hnamed, hmethM, hstM, habM⟩ := Cond.instanceMethod_spec hinst
  obtain ⟨m8, methM', cM, hn8, hmethM', -, -, -, -, -, -, hsigM⟩ := Cond.codeWith_spec hcode
  cases Option.some.inj (hn8.symm.trans hnamed)
  cases hmethM.symm.trans hmethM'
  obtain ⟨c2, r2, m2, q1, q2, q3, q4, kP, hkP, hkPi⟩ := Cond.selects_spec hsel
  cases hcls.symm.trans q1
  cases (State.methodFound?_of_named hnamed hy).symm.trans q2
  cases hnamed.symm.trans q3
  have hselP : selectMethod e.platform s.vm cellB.cls mk = .method mk := by rw [Launch.admits_selectMethod X.admits]; exact q4
  obtain ⟨vm₁, X₁, hstep₁⟩ := X.invokevirtual hexec hown hlink hnamed hmethM hstM hkP hkPi hy (a := b) (cell := cellB) hcell
    (fun z h => by rw [h] at hobj; cases hobj) hselP hmethM habM hkP hkPi (g := g) hg (argsL := argsL) (rest := rest) (hlen _ hsigM) hstack hdg
  obtain ⟨v, B, X', hpost, hsteps⟩ := hK m meth c ⟨T.setVm vm₁, locs, cells, slots⟩ { g with stack := rest } (.invokevirtual index) mk (Value.ref b :: argsL).toArray X₁ hg hsize hdg hW (X₁.named hnamed) (hpre vm₁ X₁.warmed)
  exact ⟨v, vm₁, B, X₁.warmed, X', hpost, fun target h => hstep₁ _ fun acts => by rw [doInvoke_state]; exact hsteps.trans h⟩
abbrev vx_CVW (R : Room) (s : State) (args : Array Value) (own C : String) (index : Nat) (y : MethodName) (bytes : ByteArray) (maxL : Nat) (ret : Option FieldType) (hh : List (Nat × Nat × Nat × Nat)) (ws : List Cond) (rm : Room) (mc ms n : Nat) : Prop :=
  (rm.cells = mc ∧ rm.slots = ms ∧ rm.frames + 1 ≤ R.frames ∧ 8 + (maxL + 11) + rm.locals ≤ R.locals ∧ (∀ w ∈ ws, ∀ (a' : Array Value) (U : State), s.WarmedH U.vm → w.before a' U = true) ∧ Cond.codeWith y bytes maxL ret hh ∈ ws) ∧
  (Cond.codeWith y bytes maxL ret hh).before args s = true ∧ (Cond.initialized y.cls).before args s = true ∧ (y.cls ≠ "java/lang/invoke/MethodHandle" ∧ y.cls ≠ "java/lang/invoke/VarHandle") ∧
  (∀ sig, parseMethodDescriptor y.desc = some sig → n = sig.parameters.length) ∧ (Cond.methodLink own index y).before args s = true ∧ (Cond.instanceMethod y).before args s = true ∧ (Cond.selects C y y).before args s = true
theorem vx_cwVW {own C : String} {index maxL mc ms : Nat} {y : MethodName} {bytes : ByteArray} {ret : Option FieldType} {hh : List (Nat × Nat × Nat × Nat)} {Ts ws ws' : List Cond} {rm : Room} (n : Nat) (ht : ∀ w ∈ Ts, w.before args s = true) (hT : GoodIn Ts (wsV own index C y ws)) (hw : ws = Cond.codeWith y bytes maxL ret hh :: ws') (hrc : rm.cells = mc) (hrs : rm.slots = ms)
    (hd : y.cls = C ∧ y.cls ≠ "java/lang/invoke/MethodHandle" ∧ y.cls ≠ "java/lang/invoke/VarHandle" ∧ (parseMethodDescriptor y.desc).map (fun d => d.parameters.length) = some n) (hR : rm.frames + 1 ≤ R.frames ∧ 8 + (maxL + 11) + rm.locals ≤ R.locals) :
    vx_CVW R s args own C index y bytes maxL ret hh ws rm mc ms n := by
  obtain ⟨hC, hd⟩ := hd
  subst hC
  have ok : ∀ w ∈ wsV own index y.cls y ws, w.before args s = true := fun w h => ht w (hT w h).1
  have hG : GoodIn Ts ws := fun w h => hT w (by unfold wsV; exact List.mem_append_right _ h)
  have hc : Cond.codeWith y bytes maxL ret hh ∈ ws := by rw [hw]; exact List.mem_cons_self
  refine ⟨⟨hrc, hrs, hR.1, hR.2, pay_in ht hG, hc⟩, ht _ (hG _ hc).1, ok _ (by simp [wsV]), ⟨hd.1, hd.2.1⟩, fun sig h => ?_, ok _ (by simp [wsV]), ok _ (by simp [wsV]), ok _ (by simp [wsV])⟩
  have h2 := hd.2.2
  rw [h] at h2
  exact (Option.some.inj h2).symm
theorem vx_runVW {y : MethodName} {bytes cc : ByteArray} {maxL nL mc ms n index : Nat} {ret : Option FieldType} {hh : List (Nat × Nat × Nat × Nat)} {ws : List Cond} {rm : Room} {Pc : Array Value → State → Prop} {Qc : Array Value → State → Outcome → State → Prop} {free : Addr → Prop} {Ts : List Cond} {own C : String} {b : Addr} {As rest : List Value} {g : JFrame}
    (S : CallFix p m c cc nL s args Ts own) (hM : Met l y ws rm Pc Qc mc ms free) (cw : vx_CVW R s args own C index y bytes maxL ret hh ws rm mc ms n) (hp : PreV s H C b Pc As)
    (hg : g.method = m) (hn : As.length = n) (hsize : g.locals.size = nL) (hstack : g.stack = As.reverse ++ .ref b :: rest) (hW : 2 * g.monitorRoom + (rest.map fun v => v.category).sum ≤ 8) (hdg : decode cc g.pc = .ok (.invokevirtual index, 3)) (hf : cells + mc ≤ R.cells ∧ slots + ms ≤ R.slots) :
    va_Run p l e R s m args below meth c H locs cells slots mc ms g rest (Qc (Value.ref b :: As).toArray) free := by
  obtain ⟨⟨hrc, hrs, hfr, hlo, hws, hcw⟩, hcode, hini, hy, hlen, hl, hin, hse⟩ := cw
  have hK : Back l R p e below s args y 3 8 (PreOf R mc ms Pc) (PostOf Qc mc ms free) := va_backW (hh := hh) (bytes := bytes) (maxL := maxL) (ret := ret) hM hp.1 hrc hrs hfr hlo hws hcw (fun a' U hW => word_at hW (Or.inl (by first | rfl | simp [Cond.onTables, Cond.keeps, Cond.steady])) hini)
  obtain ⟨hx, hb, hml, ho, -⟩ := S
  obtain ⟨-, ⟨cellB, hcB, hoB, hclB⟩, hPc⟩ := hp
  intro T hT X
  obtain ⟨v, vm₁, ⟨U', l2, c2, s2⟩, hW₁, X', ⟨g', mk, t, L, e1, e2, hq, h1, hL, h2, h3⟩, st⟩ := vx_callVW X hx (C := C) (hh := hh) (bytes := bytes) (maxL := maxL) (ret := ret) ho hl hin hse hcode hy hK (by rw [hT]; exact hcB) hoB hclB hg (hsize.trans hml.symm) (argsL := As) (rest := rest) (fun sig h => hn.trans (hlen sig h)) hstack hW (by rw [hb]; exact hdg)
    (fun vm₁ hW₁ => ⟨hf.1, hf.2, hPc (T.setVm vm₁) hT hW₁⟩)
  dsimp only [Pt.U, Pt.locs, Pt.cells, Pt.slots] at X' e1 e2 h1 h2 h3 st
  subst h1; subst h2; subst h3
  exact ⟨v, (T.setVm vm₁).calling g' mk (Value.ref b :: As).toArray, t, U', L, hT, X', hL, e1, e2, hq, st⟩
section
variable {y : MethodName} {bytes cc : ByteArray} {maxL nL mc ms n index : Nat} {ret : Option FieldType} {ws : List Cond} {rm : Room} {Pc : Array Value → State → Prop} {Qc : Array Value → State → Outcome → State → Prop} {XC : String → State → State → Prop} {free : Addr → Prop} {Ts : List Cond} {own C : String} {b : Addr} {As rest : List Value} {g : JFrame}
theorem vx_runVX {hh : List (Nat × Nat × Nat × Nat)} (S : CallFix p m c cc nL s args Ts own) (hM : vx_Met l y ws rm Pc Qc XC mc ms free) (cw : vx_CVW R s args own C index y bytes maxL ret hh ws rm mc ms n) (hp : PreV s H C b Pc As)
    (hg : g.method = m) (hn : As.length = n) (hsize : g.locals.size = nL) (hstack : g.stack = As.reverse ++ .ref b :: rest) (hW : 2 * g.monitorRoom + (rest.map fun v => v.category).sum ≤ 8) (hdg : decode cc g.pc = .ok (.invokevirtual index, 3)) (hf : cells + mc ≤ R.cells ∧ slots + ms ≤ R.slots) :
    vx_Run p l e R s m args below meth c H locs cells slots mc ms g rest (Qc (Value.ref b :: As).toArray) XC free := by
  obtain ⟨⟨hrc, hrs, hfr, hlo, hws, hcw⟩, hcode, hini, hy, hlen, hl, hin, hse⟩ := cw
  have hK : vx_Back l R p e below s args y 3 8 (PreOf R mc ms Pc) (PostOf Qc mc ms free) (vx_Post XC mc ms free) := vx_backW (hh := hh) (bytes := bytes) (maxL := maxL) (ret := ret) hM hp.1 hrc hrs hfr hlo hws hcw (fun a' U hW => word_at hW (Or.inl (by first | rfl | simp [Cond.onTables, Cond.keeps, Cond.steady])) hini)
  obtain ⟨hx, hb, hml, ho, -⟩ := S
  obtain ⟨-, ⟨cellB, hcB, hoB, hclB⟩, hPc⟩ := hp
  intro T hT X
  rcases vx_callVX X hx (C := C) (hh := hh) (bytes := bytes) (maxL := maxL) (ret := ret) ho hl hin hse hcode hy hK (by rw [hT]; exact hcB) hoB hclB hg (hsize.trans hml.symm) (argsL := As) (rest := rest) (fun sig h => hn.trans (hlen sig h)) hstack hW (by rw [hb]; exact hdg)
    (fun vm₁ hW₁ => ⟨hf.1, hf.2, hPc (T.setVm vm₁) hT hW₁⟩) with ⟨v, vm₁, ⟨U', l2, c2, s2⟩, hW₁, X', ⟨g', mk, t, L, e1, e2, hq, h1, hL, h2, h3⟩, st⟩ | ⟨q, vm₁, ⟨U', l2, c2, s2⟩, hW₁, X', ⟨g', mk, t, L, E, ce, e1, e2, hq, hce, hcv, hcl, h1, hL, h2, h3⟩, st⟩
  · dsimp only [Pt.U, Pt.locs, Pt.cells, Pt.slots] at X' e1 e2 h1 h2 h3 st
    subst h1; subst h2; subst h3
    exact Or.inl ⟨v, (T.setVm vm₁).calling g' mk (Value.ref b :: As).toArray, t, U', L, hT, X', hL, e1, e2, hq, st⟩
  · dsimp only [Pt.U, Pt.locs, Pt.cells, Pt.slots] at X' e1 e2 h1 h2 h3 st hcl
    subst h1; subst h2; subst h3
    exact Or.inr ⟨q, (T.setVm vm₁).calling g' mk (Value.ref b :: As).toArray, t, U', L, E, ce, hT, X', hL, e1, e2, hq, hce, hcv, vx_cls hW₁ hcl, st⟩
theorem vx_runSX {hh : List (Nat × Nat × Nat × Nat)} (S : CallFix p m c cc nL s args Ts own) (hM : vx_Met l y ws rm Pc Qc XC mc ms free) (cw : vx_CSW R s args own index y bytes maxL ret hh ws rm mc ms n) (hp : PreS s H Pc As)
    (hg : g.method = m) (hn : As.length = n) (hsize : g.locals.size = nL) (hstack : g.stack = As.reverse ++ rest) (hW : 2 * g.monitorRoom + (rest.map fun v => v.category).sum ≤ 8) (hdg : decode cc g.pc = .ok (.invokestatic index, 3)) (hf : cells + mc ≤ R.cells ∧ slots + ms ≤ R.slots) :
    vx_Run p l e R s m args below meth c H locs cells slots mc ms g rest (Qc As.toArray) XC free := by
  obtain ⟨⟨hrc, hrs, hfr, hlo, hws, hcw⟩, hcode, hini, hy, hlen, hl, hstt⟩ := cw
  have hK : vx_Back l R p e below s args y 3 8 (PreOf R mc ms Pc) (PostOf Qc mc ms free) (vx_Post XC mc ms free) := vx_backW (hh := hh) (bytes := bytes) (maxL := maxL) (ret := ret) hM hp.1 hrc hrs hfr hlo hws hcw (fun a' U hW => word_at hW (Or.inl (by first | rfl | simp [Cond.onTables, Cond.keeps, Cond.steady])) hini)
  obtain ⟨hx, hb, hml, ho, -⟩ := S
  intro T hT X
  rcases vx_callSX X hx (hh := hh) (bytes := bytes) (maxL := maxL) (ret := ret) ho hl hstt hini hcode hy hK hg (hsize.trans hml.symm) (argsL := As) (rest := rest) (fun sig h => hn.trans (hlen sig h)) hstack hW (by rw [hb]; exact hdg)
    (fun vm₁ hW₁ => ⟨hf.1, hf.2, hp.2 (T.setVm vm₁) hT hW₁⟩) with ⟨v, vm₁, ⟨U', l2, c2, s2⟩, hW₁, X', ⟨g', mk, t, L, e1, e2, hq, h1, hL, h2, h3⟩, st⟩ | ⟨q, vm₁, ⟨U', l2, c2, s2⟩, hW₁, X', ⟨g', mk, t, L, E, ce, e1, e2, hq, hce, hcv, hcl, h1, hL, h2, h3⟩, st⟩
  · dsimp only [Pt.U, Pt.locs, Pt.cells, Pt.slots] at X' e1 e2 h1 h2 h3 st
    subst h1; subst h2; subst h3
    exact Or.inl ⟨v, (T.setVm vm₁).calling g' mk As.toArray, t, U', L, hT, X', hL, e1, e2, hq, st⟩
  · dsimp only [Pt.U, Pt.locs, Pt.cells, Pt.slots] at X' e1 e2 h1 h2 h3 st hcl
    subst h1; subst h2; subst h3
    exact Or.inr ⟨q, (T.setVm vm₁).calling g' mk As.toArray, t, U', L, E, ce, hT, X', hL, e1, e2, hq, hce, hcv, vx_cls hW₁ hcl, st⟩
end
end VXH
theorem vx_ofWH {l : Launch} {y : MethodName} {ws ws' : List Cond} {rm : Room} {Pc : Array Value → State → Prop} {Qc : Array Value → State → Outcome → State → Prop} {XC : String → State → State → Prop} {mc ms : Nat} {free : Addr → Prop} {cc : ByteArray} {maxL : Nat} {ret : Option FieldType} {hh : List (Nat × Nat × Nat × Nat)}
    (hy : plainName y.cls = true) (hw : ws = Cond.codeWith y cc maxL ret hh :: ws')
    (body : ∀ p e s m args below meth c s₁, BodyLoose p l y (headSpec ws rm) cc maxL ret e s m args below meth c s₁ → c.maxLocals = maxL → Pc args s →
      W p l e (headSpec ws rm).room s m args below meth c s.heap [] 0 0 (vx_MQ below Qc XC args s mc ms free) (entryFrame m args maxL)) : vx_Met l y ws rm Pc Qc XC mc ms free := by
  refine MetFree.of_bodyS (code := cc) (maxLocals := maxL) (ret := ret) hy ?_ ?_
  · intro args s m h hn
    obtain ⟨m9, meth, c, hn9, h1, h2, h3, h4, -, h5, h6, -⟩ := Cond.codeWith_spec (atoms_spec (ws := ws) h _ (by rw [hw]; exact List.mem_cons_self))
    cases hn.symm.trans hn9
    exact ⟨meth, c, h1, h2, h3, h4, h5, h6⟩
  · intro p e s m args below meth c s₁ B hml hP _
    have hh0 : s₁.heap = s.heap := by rw [B.state]; rfl
    obtain ⟨t, a1, o, b1, b2, b3⟩ := body p e s m args below meth c s₁ B hml hP s₁ hh0 (Stand.of_body B)
    exact ⟨t, o, a1, b1, b2, b3⟩
/-! ===== END ===== -/
/-! ===== BEGIN what the machine throws by itself, no traces kept ===== -/
section VXM
set_option maxHeartbeats 1000000 in
/-- the machine throws cls with the message text, no traces kept: from its note over the frame g to 'throwing' over the same frame (follows the proofs of Stand.vmThrowsMessage, Shelf/KitTracedVmS.lean, and Stand.throwsMessageColdBareV, StandMessageColdV.lean, without the step out of the frame) -/
theorem vx_vmAt {p : Program} {l : Launch} {e : Env} {R : Room} {s : State} {m₀ : MethodId} {args : Array Value} {below : List Frame} {meth : Method} {c : Code} {W : State} {locs : List Loc} {cells slots : Nat}
    (X : Stand p l e R s m₀ args below meth c W locs cells slots) (hexec : p.tables.exec = Jvm.exec) (htr : e.platform.stackTraces = false) {cls : String} {names : List String} {text : String}
    (hcls : Bundle.fit cls = true) (hnames : ∀ n ∈ names, Bundle.fit n = true) (hsoe : (cls == "java/lang/StackOverflowError") = false) (hoom : (cls == "java/lang/OutOfMemoryError") = false)
    (h : ∀ a ∈ Bundle.messageArmAtoms cls names, a.before args s = true)
    (hlocs : ∀ x ∈ locs, ∀ cell, s.heap[x.base]? = some cell → cell.vm.isStatics = false)
    (htext : (text == notModelled) = false) (hlimit : ¬ (stringBytes (stringToUtf16 text)).size > e.platform.arrayLengthLimit) (hheap : ¬ (stringBytes (stringToUtf16 text)).size * componentBytes .byte > e.platform.maxHeapBytes)
    {g : JFrame} (hg : g.method = m₀) (hsize : g.locals.size = c.maxLocals)
    (hRframes : names.length + 4 < R.frames) (hRlocals : 2 * g.monitorRoom + (g.stack.map fun v => v.category).sum + 10240 ≤ R.locals) (hshort : 13 * names.length + 55 ≤ 10240)
    (hRcells : cells + 3 ≤ R.cells) (hRslots : slots + ((stringBytes (stringToUtf16 text)).size + 4 + 6) ≤ R.slots) (hlocks : meth.locks = false) :
    ∃ (S : State) (q : Addr) (ce : Cell), (∀ target, Steps p.tables e below ((S.setTop g).pushFrame (.throwing q)) target → Steps p.tables e below ((W.setTop g).pushFrame (.throwNew cls (some text) none)) target) ∧
      Stand p l e R s m₀ args below meth c S locs (cells + 3) (slots + ((stringBytes (stringToUtf16 text)).size + 4 + 6)) ∧ S.heap[q]? = some ce ∧ s.vm.findClass cls = some ce.cls ∧ ce.vm = .none := by
  have howns : e.platform.frameOwnsMonitors = true := by rw [X.admits.platform]
  have hfin : e.platform.finalization = false := by rw [X.admits.platform]
  have hpl : e.platform.magicAccessors = ({} : Platform).magicAccessors := by rw [X.admits.platform]
  have a : ∀ x, x ∈ Bundle.messageArmAtoms cls names → x.holds args s none s [] = true := fun x hx => h x hx
  obtain ⟨T, Z0, L, -, Y⟩ := ThrowableC.of_atoms (args := args) howns hfin hpl (fun x hx => h x (by simp [Bundle.messageArmAtoms, hx]))
  obtain ⟨Z, M, LZ, LM, hnZ⟩ := Init0T.ofS_atoms (args := args) hpl L Y (fun x hx => h x (by simp [Bundle.messageArmAtoms, hx]))
  obtain ⟨P1, Ps, hlen, L1, hL, hP1m, hlink1, hlink⟩ := Bundle.chainS (args := args) hpl hnZ names cls hcls hnames (fun x hx => h x (by simp [Bundle.messageArmAtoms, hx]))
  obtain ⟨Zs, LZs, hn4, hfitv, hfitc⟩ := StringT.of_atoms (args := args) (fun x hx => h x (by simp [Bundle.messageArmAtoms, hx]))
  have hfound : s.vm.findClass cls = some P1.m.cls := findClass_of_methodNamed hP1m
  obtain ⟨c1, kX, hc1, hk, hord, -, -, hn6⟩ := Cond.instantiable_spec (a (.instantiable cls 6) (by simp [Bundle.messageArmAtoms]))
  cases Option.some.inj (hc1.symm.trans hfound)
  have hinit := Cond.initialized_spec hfound hk (a (.initialized cls) (by simp [Bundle.messageArmAtoms]))
  have hctor : kX.findMethod "<init>" "(Ljava/lang/String;)V" = some P1.m.idx := findMethod_of_methodNamed hP1m hk
  have hsel0 : selectMethod e.platform s.vm P1.m.cls T.fill0 = .method T.fill0 := by
    obtain ⟨c2, r2, m2, q1, q2, q3, q4, -⟩ := Cond.selects_spec (a (.selects cls Bundle.tFill0 Bundle.tFill0) (by simp [Bundle.messageArmAtoms]))
    cases Option.some.inj (q1.symm.trans hfound)
    cases Option.some.inj (q2.symm.trans (State.methodFound?_of_named Y.fill0 (by decide)))
    cases Option.some.inj (q3.symm.trans Y.fill0)
    rw [Launch.admits_selectMethod X.admits]; exact q4
  have hselF : selectMethod e.platform s.vm P1.m.cls T.fill = .method T.fill := by
    obtain ⟨c2, r2, m2, q1, q2, q3, q4, -⟩ := Cond.selects_spec (a (.selects cls Bundle.tFill Bundle.tFill) (by simp [Bundle.messageArmAtoms]))
    cases Option.some.inj (q1.symm.trans hfound)
    cases Option.some.inj (q2.symm.trans (State.methodFound?_of_named Y.fill (by decide)))
    cases Option.some.inj (q3.symm.trans Y.fill)
    rw [Launch.admits_selectMethod X.admits]; exact q4
  obtain ⟨cellS0, hcS0, hiss⟩ := Y.statics
  obtain ⟨u0, hu0⟩ := Cond.staticRefV Y.unassigned L.unassignedStatic L.statics hcS0 hiss (a (.isRef (.static Bundle.tN "UNASSIGNED_STACK" Bundle.steD)) (by simp [Bundle.messageArmAtoms]))
  obtain ⟨sen, hsen⟩ := Cond.staticRefV Y.sentinel L.sentinelStatic L.statics hcS0 hiss (a (.isRef (.static Bundle.tN "SUPPRESSED_SENTINEL" Bundle.listD)) (by simp [Bundle.messageArmAtoms]))
  obtain ⟨ci198, i198, fB, hk198, hg198, ha198, hsB, -, hnB, htB, hffB⟩ := Cond.ownField (t := .object "java/lang/Object") Y.found L.cls (by decide +kernel) (a (.fieldLink Bundle.tN 198 Bundle.tN "backtrace" "Ljava/lang/Object;") (by simp [Bundle.messageArmAtoms])) (a (.lays Bundle.tN Bundle.tN "backtrace" "Ljava/lang/Object;") (by simp [Bundle.messageArmAtoms])) e.platform hpl
  obtain ⟨cellS, hcS', heS, -, hkeep⟩ := X.same.2.2.2.2.2 T.aS cellS0 hcS0
  have hcellS : W.heap[T.aS]? = some cellS := hcS'
  have hout' : ∀ i, (⟨T.aS, i⟩ : Loc) ∉ locs := fun i hmem => by
    have := hlocs _ hmem cellS0 hcS0
    rw [hiss] at this; cases this
  have hknownS : cellS.vm ≠ .unknown := by
    rw [heS]; intro hu
    rw [show cellS0.vm = .unknown from hu] at hiss
    cases hiss
  have hvU : cellS.slots[T.fUnassigned.slot]? = some u0.v := by rw [hkeep _ (hout' _)]; exact hu0
  have hvSen : cellS.slots[T.fSentinel.slot]? = some sen.v := by rw [hkeep _ (hout' _)]; exact hsen
  obtain ⟨iM, hffM⟩ := Y.msg
  obtain ⟨tyC, dC, hdC, hdnC⟩ := Cond.laysAt hfound hk Y.cause (a (.lays cls Bundle.tN "cause" "Ljava/lang/Throwable;") (by simp [Bundle.messageArmAtoms]))
  obtain ⟨tyS, dS, hdS, hdnS⟩ := Cond.laysAt hfound hk Y.stack (a (.lays cls Bundle.tN "stackTrace" Bundle.steD) (by simp [Bundle.messageArmAtoms]))
  obtain ⟨tyP, dP, hdP, hdnP⟩ := Cond.laysAt hfound hk Y.supp (a (.lays cls Bundle.tN "suppressedExceptions" Bundle.listD) (by simp [Bundle.messageArmAtoms]))
  obtain ⟨tyM, dM, hdM, hdnM⟩ := Cond.laysAt hfound hk hffM (a (.lays cls Bundle.tN "detailMessage" "Ljava/lang/String;") (by simp [Bundle.messageArmAtoms]))
  obtain ⟨tyB, dB, hdB, hdnB⟩ := Cond.laysAt hfound hk hffB (a (.lays cls Bundle.tN "backtrace" "Ljava/lang/Object;") (by simp [Bundle.messageArmAtoms]))
  have bC := Cond.laysApart hdB hdC hdnB hdnC (by rw [hnB, Y.causeName]; decide)
  have bS := Cond.laysApart hdB hdS hdnB hdnS (by rw [hnB, Y.stackName]; decide)
  have bP := Cond.laysApart hdB hdP hdnB hdnP (by rw [hnB, Y.suppName]; decide)
  have hbk : ((preparedCellV T.toThrowableT (freshCell P1.m.cls kX) (W.heap.size + 2) u0 sen).withEntry W.cur).slots[fB.slot]? = some .null := by
    have := fresh_default (c := P1.m.cls) tyB
    rw [htB] at this
    simpa [preparedCellV, Cell.setSlot, Cell.withEntry, Array.getElem?_setIfInBounds, bC, bS, bP, bC.symm, bS.symm, bP.symm, defaultValue] using this
  have tkC := Takes.of_laid (v := .ref (W.heap.size + 2)) hk hord tyC (by rw [Y.causeType]; rfl)
  have tkS := Takes.of_laid (v := u0.v) hk hord tyS (by rw [Y.stackType]; exact fits_refV_array _ u0)
  have tkP := Takes.of_laid (v := sen.v) hk hord tyP (by rw [Y.suppType]; exact fits_refV_object _ sen)
  have tkM := Takes.of_laid (v := .ref (W.heap.size + 1)) hk hord tyM (by rw [Y.msgType]; rfl)
  have hskip : SkipFacts T e.platform s (fun u => u) u0 ((preparedCellV T.toThrowableT (freshCell P1.m.cls kX) (W.heap.size + 2) u0 sen).withEntry W.cur) := ⟨{ ci198 := ci198, i198 := i198, fBack := fB }, ⟨hk198, hg198, ha198, hsB⟩, hbk, fun _ _ => rfl⟩
  have h0 : At W g.method c below := by rw [hg]; exact X.here
  obtain ⟨hbeyond, hfreeW⟩ := X.vmMayThrow hsize (.throwNew cls (some text) none) (fun f hf => by cases hf) rfl hRlocals
  have hfr' : W.frames.length + Ps.length + 4 < (e.platform.stackLimits W.me).1 := by have := X.framesAbove hRframes; omega
  have hwd' : (stackUse (.java g :: W.frames.tail)).2 + 13 * Ps.length + 55 ≤ (e.platform.stackLimits W.me).2 := by have := X.stackAbove hsize (K := 13 * Ps.length + 55) (by omega); omega
  have hslots : W.slotsUsed + (stringBytes (stringToUtf16 text)).size + Zs.kS.instanceTypes.size + kX.instanceTypes.size ≤ e.platform.maxSlots := by
    have := X.slotsAbove hRslots
    rw [hn4, hn6]
    omega
  obtain ⟨vm', hW', st⟩ := Steps.vmThrowsMessageColdByV p (s₀ := s) (S := W) (g := g) h0 hexec T L Z LZ M LM X.warmed (t := W.cur) rfl Zs LZs P1 L1 Ps hL hlink1 hlink hsoe hoom hfound hk hinit hord hctor
    (Launch.admits_hotImplicitExceptions X.admits) hbeyond hfreeW htext hlimit hheap (X.cellsAbove hRcells) hslots (hfitv _) (hfitc _)
    (Nn := fun u => u) heapOnly_id (fun _ _ => rfl) (fun _ => rfl) (fun u x y => setCell_twice _ _ _ _) (fun _ => Nat.le_refl _) (cN := ((preparedCellV T.toThrowableT (freshCell P1.m.cls kX) (W.heap.size + 2) u0 sen).withEntry W.cur))
    hsel0 hcellS hknownS hvU tkS (fun _ hu => hu) (fun _ hu => hu) rfl rfl rfl (by simp [preparedCellV, Cell.setSlot, Cell.withEntry]) hskip (fun _ _ hA hW _ hroom _ hrest => L.nativeOff p htr hA hW hroom hrest) hselF hvSen tkC tkP tkM Y.objLocals rfl hfr' hwd'
  rw [plainBareV_eq T.toThrowableT (W.heap.size + 2) u0 sen (.ref (W.heap.size + 1)) W.cur rfl rfl] at st
  obtain ⟨-, -, w3, w4, -, -, -⟩ := withThrown_facts e.platform W Zs text P1.m.cls kX
  have X3 := ((X.pushed (bytesOf Zs.cB (stringToUtf16 text))).pushed (stringAt Zs.cS Zs.kS Zs.fv Zs.fc (stringToUtf16 text) W.heap.size)).pushed (freshCell P1.m.cls kX)
  rw [← withString_eq] at X3
  have X4 := X3.noted hW'
  have ha : (W.heap.size + 2) < ((withThrown W Zs text P1.m.cls kX).setVm vm').heap.size := by show _ < (withThrown W Zs text P1.m.cls kX).heap.size; rw [w3]; omega
  have hcell : ((withThrown W Zs text P1.m.cls kX).setVm vm').heap[(W.heap.size + 2)]? = some (freshCell P1.m.cls kX) := w4
  have X5 := ((((X4.stored hcell T.fCause.slot (.ref (W.heap.size + 2))).storedAgain ha T.fStack.slot u0.v).storedAgain ha T.fSupp.slot sen.v).storedAgain ha T.fStack.slot u0.v).storedAgain ha T.fMsg.slot (.ref (W.heap.size + 1))
  obtain ⟨g₁, hfrM⟩ := X5.frames_eq
  have hU : ((((withThrown W Zs text P1.m.cls kX).setVm vm').setCell (W.heap.size + 2) (plainBareV T.toThrowableT (freshCell P1.m.cls kX) (W.heap.size + 2) u0 sen (.ref (W.heap.size + 1)))).setTop g).pushFrame (.throwing (W.heap.size + 2)) = (((withThrown W Zs text P1.m.cls kX).setVm vm').setCell (W.heap.size + 2) (plainBareV T.toThrowableT (freshCell P1.m.cls kX) (W.heap.size + 2) u0 sen (.ref (W.heap.size + 1)))).setFrames (.throwing (W.heap.size + 2) :: .java g :: below) := by
    rw [State.pushFrame, State.frames_setTop _ hfrM, State.setTop_of_frames _ hfrM, State.setFrames_setFrames]
  have b1 : (bytesOf Zs.cB (stringToUtf16 text)).slots.size = (stringBytes (stringToUtf16 text)).size := by
    rw [(Cell.writeAll_facts _ _).2.2]; simp [bytes0]
  have b2 : (stringAt Zs.cS Zs.kS Zs.fv Zs.fc (stringToUtf16 text) W.heap.size).slots.size = 4 := by simp [string0, Cell.setSlot, hn4]
  have b3 : (freshCell P1.m.cls kX).slots.size = 6 := by simp [hn6]
  rw [b1, b2, b3] at X5
  have e9 : slots + (stringBytes (stringToUtf16 text)).size + 4 + 6 = slots + ((stringBytes (stringToUtf16 text)).size + 4 + 6) := by omega
  rw [e9] at X5
  simp only [List.append_assoc, List.cons_append, List.nil_append] at X5
  refine ⟨((withThrown W Zs text P1.m.cls kX).setVm vm').setCell (W.heap.size + 2) (plainBareV T.toThrowableT (freshCell P1.m.cls kX) (W.heap.size + 2) u0 sen (.ref (W.heap.size + 1))), W.heap.size + 2, _, fun target ht => st _ (by rw [X.tail, ← hU]; exact ht),
    X5.forget (fun y hy => ?_), heapAt_setCell_self _ ha, hfound, rfl⟩
  simp only [List.mem_cons, List.not_mem_nil, or_false] at hy
  have hge : s.heap.size ≤ W.heap.size := X.same.2.1
  rcases hy with rfl | rfl | rfl | rfl | rfl <;> exact Nat.le_trans hge (Nat.le_add_right _ 2)
set_option maxHeartbeats 1000000 in
/-- the machine throws NullPointerException, no traces kept: from its note over the frame g to 'throwing' over the same frame (follows the proof of Stand.vmThrowsNpe, Shelf42/KT2.lean; throwsNpeColdBareVAt, Shelf42/NT91.lean, called) -/
theorem vx_npeAt {p : Program} {l : Launch} {e : Env} {R : Room} {s : State} {m₀ : MethodId} {args : Array Value} {below : List Frame} {meth : Method} {c : Code} {W : State} {locs : List Loc} {cells slots : Nat}
    (X : Stand p l e R s m₀ args below meth c W locs cells slots) (hexec : p.tables.exec = Jvm.exec) (htr : e.platform.stackTraces = false) {n : Nat}
    (h : ∀ a ∈ Bundle.npeArmAtoms n, a.before args s = true)
    (hlocs : ∀ x ∈ locs, ∀ cell, s.heap[x.base]? = some cell → cell.vm.isStatics = false)
    {g : JFrame} (hg : g.method = m₀) (hsize : g.locals.size = c.maxLocals)
    (hRframes : 7 < R.frames) (hRlocals : 2 * g.monitorRoom + (g.stack.map fun v => v.category).sum + 10240 ≤ R.locals)
    (hRcells : cells + 1 ≤ R.cells) (hRslots : slots + n ≤ R.slots) (hlocks : meth.locks = false) :
    ∃ (S : State) (q : Addr) (ce : Cell), (∀ target, Steps p.tables e below ((S.setTop g).pushFrame (.throwing q)) target → Steps p.tables e below ((W.setTop g).pushFrame (.throwNew "java/lang/NullPointerException" none none)) target) ∧
      Stand p l e R s m₀ args below meth c S locs (cells + 1) (slots + n) ∧ S.heap[q]? = some ce ∧ s.vm.findClass "java/lang/NullPointerException" = some ce.cls ∧ ce.vm = .none := by
  have howns : e.platform.frameOwnsMonitors = true := by rw [X.admits.platform]
  have hfin : e.platform.finalization = false := by rw [X.admits.platform]
  have hpl : e.platform.magicAccessors = ({} : Platform).magicAccessors := by rw [X.admits.platform]
  have hpl2 : e.platform.arrayCloneIsPublic = true := by rw [X.admits.platform]
  have a' : ∀ x, x ∈ Bundle.npeArmAtoms n → x.holds args s none s [] = true := fun x hx => h x hx
  obtain ⟨T, Z, L, LZ, Y⟩ := ThrowableC.of_atoms (args := args) howns hfin hpl (fun x hx => h x (by simp [Bundle.npeArmAtoms, hx]))
  obtain ⟨N, LN, hcN, hnNF, hordN, hffS⟩ := NpeC.of_atoms (args := args) hpl hpl2 L Y (fun x hx => h x (by simp [Bundle.npeArmAtoms, hx]))
  obtain ⟨P1, L1, hP1m, hP1s⟩ := PassC.of_atoms (args := args) (s := s) hpl (X := Bundle.nN) (Y := Bundle.rN) (by decide) (by decide) LibCode.NullPointerException.Init0.at_0 LibCode.NullPointerException.Init0.at_1 LibCode.NullPointerException.Init0.at_4 (fun x hx => h x (by simp [Bundle.npeArmAtoms, hx]))
  obtain ⟨PR, LR, hPRm, hPRs⟩ := PassC.of_atoms (args := args) (s := s) hpl (X := Bundle.rN) (Y := Bundle.eN) (by decide) (by decide) LibCode.RuntimeException.Init0.at_0 LibCode.RuntimeException.Init0.at_1 LibCode.RuntimeException.Init0.at_4 (fun x hx => h x (by simp [Bundle.npeArmAtoms, hx]))
  obtain ⟨PE, LEx, hPEm, hPEs⟩ := PassC.of_atoms (args := args) (s := s) hpl (X := Bundle.eN) (Y := Bundle.tN) (by decide) (by decide) LibCode.Exception.Init0.at_0 LibCode.Exception.Init0.at_1 LibCode.Exception.Init0.at_4 (fun x hx => h x (by simp [Bundle.npeArmAtoms, hx]))
  have hfound : s.vm.findClass Bundle.nN = some P1.m.cls := findClass_of_methodNamed hP1m
  have ecls : N.cN = P1.m.cls := Option.some.inj (hcN.symm.trans hfound)
  have hk : s.vm.classes[P1.m.cls]? = some N.kN := by rw [← ecls]; exact LN.cls
  have hinit := Cond.initialized_spec hfound hk (a' (.initialized Bundle.nN) (by simp [Bundle.npeArmAtoms]))
  have hctor : N.kN.findMethod "<init>" "()V" = some P1.m.idx := findMethod_of_methodNamed hP1m hk
  obtain ⟨c1, k1, hc1, hk1, -, -, -, hn⟩ := Cond.instantiable_spec (a' (.instantiable Bundle.nN n) (by simp [Bundle.npeArmAtoms]))
  cases Option.some.inj (hc1.symm.trans hfound)
  cases Option.some.inj (hk1.symm.trans hk)
  have hfsz : (freshCell P1.m.cls N.kN).slots.size = n := by simp [hn]
  have hlink1 : P1.sup = PR.m := Option.some.inj (hP1s.symm.trans hPRm)
  have hlinkR : PR.sup = PE.m := Option.some.inj (hPRs.symm.trans hPEm)
  have hlinkE : PE.sup = Z.m T.toThrowableT := Option.some.inj (hPEs.symm.trans Y.init0)
  have hLs : ∀ P, P ∈ [PR, PE] → P.Links0 e.platform s := fun P hP => by
    simp only [List.mem_cons, List.not_mem_nil, or_false] at hP
    rcases hP with rfl | rfl
    · exact LR
    · exact LEx
  have hsel0 : selectMethod e.platform s.vm P1.m.cls T.fill0 = .method T.fill0 := by
    obtain ⟨c2, r2, m2, q1, q2, q3, q4, -⟩ := Cond.selects_spec (a' (.selects Bundle.nN Bundle.tFill0 Bundle.tFill0) (by simp [Bundle.npeArmAtoms]))
    cases Option.some.inj (q1.symm.trans hfound)
    cases Option.some.inj (q2.symm.trans (State.methodFound?_of_named Y.fill0 (by decide)))
    cases Option.some.inj (q3.symm.trans Y.fill0)
    rw [Launch.admits_selectMethod X.admits]; exact q4
  have hselF : selectMethod e.platform s.vm P1.m.cls T.fill = .method N.fill := by
    obtain ⟨c2, r2, m2, q1, q2, q3, q4, -⟩ := Cond.selects_spec (a' (.selects Bundle.nN Bundle.tFill Bundle.nFill) (by simp [Bundle.npeArmAtoms]))
    cases Option.some.inj (q1.symm.trans hfound)
    cases Option.some.inj (q2.symm.trans (State.methodFound?_of_named Y.fill (by decide)))
    cases Option.some.inj (q3.symm.trans hnNF)
    rw [Launch.admits_selectMethod X.admits]; exact q4
  obtain ⟨cellS0, hcS0, hiss⟩ := Y.statics
  obtain ⟨u0, hu0⟩ := Cond.staticRefV Y.unassigned L.unassignedStatic L.statics hcS0 hiss (a' (.isRef (.static Bundle.tN "UNASSIGNED_STACK" Bundle.steD)) (by simp [Bundle.npeArmAtoms]))
  obtain ⟨sen, hsen⟩ := Cond.staticRefV Y.sentinel L.sentinelStatic L.statics hcS0 hiss (a' (.isRef (.static Bundle.tN "SUPPRESSED_SENTINEL" Bundle.listD)) (by simp [Bundle.npeArmAtoms]))
  obtain ⟨ci198, i198, fB, hk198, hg198, ha198, hsB, -, hnB, htB, hffB⟩ := Cond.ownField (t := .object "java/lang/Object") Y.found L.cls (by decide +kernel) (a' (.fieldLink Bundle.tN 198 Bundle.tN "backtrace" Bundle.objD) (by simp [Bundle.npeArmAtoms])) (a' (.lays Bundle.tN Bundle.tN "backtrace" Bundle.objD) (by simp [Bundle.npeArmAtoms])) e.platform hpl
  obtain ⟨cellS, hcS', heS, -, hkeep⟩ := X.same.2.2.2.2.2 T.aS cellS0 hcS0
  have hcellS : W.heap[T.aS]? = some cellS := hcS'
  have hout' : ∀ i, (⟨T.aS, i⟩ : Loc) ∉ locs := fun i hmem => by
    have := hlocs _ hmem cellS0 hcS0
    rw [hiss] at this; cases this
  have hknownS : cellS.vm ≠ .unknown := by
    rw [heS]; intro hu
    rw [show cellS0.vm = .unknown from hu] at hiss
    cases hiss
  have hvU : cellS.slots[T.fUnassigned.slot]? = some u0.v := by rw [hkeep _ (hout' _)]; exact hu0
  have hvSen : cellS.slots[T.fSentinel.slot]? = some sen.v := by rw [hkeep _ (hout' _)]; exact hsen
  obtain ⟨tyC, dC, hdC, hdnC⟩ := Cond.laysAt hfound hk Y.cause (a' (.lays Bundle.nN Bundle.tN "cause" "Ljava/lang/Throwable;") (by simp [Bundle.npeArmAtoms]))
  obtain ⟨tyS, dS, hdS, hdnS⟩ := Cond.laysAt hfound hk Y.stack (a' (.lays Bundle.nN Bundle.tN "stackTrace" Bundle.steD) (by simp [Bundle.npeArmAtoms]))
  obtain ⟨tyP, dP, hdP, hdnP⟩ := Cond.laysAt hfound hk Y.supp (a' (.lays Bundle.nN Bundle.tN "suppressedExceptions" Bundle.listD) (by simp [Bundle.npeArmAtoms]))
  obtain ⟨tyX, dX, hdX, hdnX⟩ := Cond.laysAt hfound hk hffS (a' (.lays Bundle.nN Bundle.nN "extendedMessageState" "I") (by simp [Bundle.npeArmAtoms, Bundle.npeAtoms]))
  obtain ⟨hnX, htX⟩ := State.fieldFound?_type hffS (t := .int) (by decide +kernel)
  have xC := Cond.laysApart hdC hdX hdnC hdnX (by rw [hnX, Y.causeName]; decide)
  have xS := Cond.laysApart hdS hdX hdnS hdnX (by rw [hnX, Y.stackName]; decide)
  have xP := Cond.laysApart hdP hdX hdnP hdnX (by rw [hnX, Y.suppName]; decide)
  have hv0 : (freshCell P1.m.cls N.kN).slots[N.fState.slot]? = some (.int 0) := by
    have := fresh_default (c := P1.m.cls) tyX
    rw [htX] at this; exact this
  obtain ⟨tyB, dB, hdB, hdnB⟩ := Cond.laysAt hfound hk hffB (a' (.lays Bundle.nN Bundle.tN "backtrace" Bundle.objD) (by simp [Bundle.npeArmAtoms]))
  have bC := Cond.laysApart hdB hdC hdnB hdnC (by rw [hnB, Y.causeName]; decide)
  have bS := Cond.laysApart hdB hdS hdnB hdnS (by rw [hnB, Y.stackName]; decide)
  have bP := Cond.laysApart hdB hdP hdnB hdnP (by rw [hnB, Y.suppName]; decide)
  have bX := Cond.laysApart hdB hdX hdnB hdnX (by rw [hnB, hnX]; decide)
  have hbk : ((npeCell N.toNpeT (preparedCellV T.toThrowableT (freshCell P1.m.cls N.kN) W.heap.size u0 sen) W.cur).withEntry W.cur).slots[fB.slot]? = some .null := by
    have := fresh_default (c := P1.m.cls) tyB
    rw [htB] at this
    simpa [npeCell, preparedCellV, Cell.setSlot, Cell.withEntry, Array.getElem?_setIfInBounds, bC, bS, bP, bX, bC.symm, bS.symm, bP.symm, bX.symm, defaultValue] using this
  have tkC := Takes.of_laid (v := .ref W.heap.size) hk hordN tyC (by rw [Y.causeType]; rfl)
  have tkS := Takes.of_laid (v := u0.v) hk hordN tyS (by rw [Y.stackType]; exact fits_refV_array _ u0)
  have tkP := Takes.of_laid (v := sen.v) hk hordN tyP (by rw [Y.suppType]; exact fits_refV_object _ sen)
  have tkX := Takes.of_laid (v := .int 1) hk hordN tyX (by rw [htX]; rfl)
  have hskip : SkipFacts T e.platform s (fun u => u) u0 ((npeCell N.toNpeT (preparedCellV T.toThrowableT (freshCell P1.m.cls N.kN) W.heap.size u0 sen) W.cur).withEntry W.cur) := ⟨{ ci198 := ci198, i198 := i198, fBack := fB }, ⟨hk198, hg198, ha198, hsB⟩, hbk, fun _ _ => rfl⟩
  obtain ⟨vm', X3, st, -⟩ := X.throwsNpeColdBareVAt hexec hg hsize T L Z LZ N LN P1 L1 [PR, PE] hLs hlink1 ⟨hlinkR, hlinkE, trivial⟩ hfound hk hinit hordN hctor hsel0 hselF hcellS hknownS hvU hvSen
    hv0 xC xS xP tkC tkS tkP tkX Y.objLocals hskip (fun _ _ hA hW _ hroom _ hrest => L.nativeOff p htr hA hW hroom hrest) (by simpa using hRframes) hRlocals (by simp) hRcells (by rw [hn]; exact hRslots)
  have hlt : W.heap.size < ((W.pushCell (freshCell P1.m.cls N.kN)).setVm vm').heap.size := by
    show W.heap.size < (W.pushCell (freshCell P1.m.cls N.kN)).heap.size
    rw [State.heap_size_pushCell]; omega
  rw [hfsz] at X3
  obtain ⟨g₁, hfrM⟩ := X3.frames_eq
  have hU : ((((W.pushCell (freshCell P1.m.cls N.kN)).setVm vm').setCell W.heap.size (npeBareV T.toThrowableT N.toNpeT (freshCell P1.m.cls N.kN) W.heap.size u0 sen)).setTop g).pushFrame (.throwing W.heap.size) = (((W.pushCell (freshCell P1.m.cls N.kN)).setVm vm').setCell W.heap.size (npeBareV T.toThrowableT N.toNpeT (freshCell P1.m.cls N.kN) W.heap.size u0 sen)).setFrames (.throwing W.heap.size :: .java g :: below) := by
    rw [State.pushFrame, State.frames_setTop _ hfrM, State.setTop_of_frames _ hfrM, State.setFrames_setFrames]
  refine ⟨_, W.heap.size, _, fun target ht => st.trans (by rw [← hU]; exact ht), X3.forget (fun y hy => ?_), heapAt_setCell_self _ hlt, hfound, rfl⟩
  simp only [List.mem_cons, List.not_mem_nil, or_false] at hy
  have hge : s.heap.size ≤ W.heap.size := X.same.2.1
  rcases hy with rfl | rfl | rfl | rfl | rfl <;> exact hge
/-- the words of a machine's NullPointerException, but the four that speak of the heap -/
def vx_atN (n : Nat) : List Cond := (Bundle.npeArmAtoms n).filter vx_no
/-- the words of a machine's throw with a message, but the four that speak of the heap -/
def vx_atM (X : String) (names : List String) : List Cond := (Bundle.messageArmAtoms X names).filter vx_no
section
variable {p : Program} {l : Launch} {e : Env} {R : Room} {s : State} {m : MethodId} {args : Array Value} {below : List Frame} {meth : Method} {c : Code} {H : Heap} {locs : List Loc} {cells slots : Nat}
/-- a frame seen from a rebased start, seen from the first start again -/
theorem vx_back9 {T S : State} {R' : Room} {k n : Nat} (X : Stand p l e R s m args below meth c T locs cells slots) (Y : Stand p l e R' ((T.setVm s.vm).setFrames (.invoking m args :: below)) m args below meth c T [] 0 0) (Z : Stand p l e R' ((T.setVm s.vm).setFrames (.invoking m args :: below)) m args below meth c S [] k n) :
    Stand p l e R s m args below meth c S locs (cells + k) (slots + n) := by
  have hW0 : s.WarmedH ((T.setVm s.vm).setFrames (.invoking m args :: below)).vm := State.WarmedH.refl s
  refine { admits := X.admits, cas := X.cas, clock := X.clock, frames := X.frames, room := X.room, hears := X.hears, method := X.method, code := X.code, here := Z.here, tail := Z.tail, warmed := State.WarmedH.trans hW0 Z.warmed, limits := Z.limits.trans (Y.limits.symm.trans X.limits), bytes := Z.bytes.trans (Y.bytes.symm.trans X.bytes), same := ?_ }
  obtain ⟨e1, e2⟩ := Z.same
  rw [State.setFrames_setFrames] at e1
  have h2 : (T.setVm s.vm).sameButNew (S.setVm s.vm) [] k n := ⟨e1, e2⟩
  have h3 := X.same.trans h2
  rw [List.append_nil] at h3
  exact h3
/-- from the machine's note that E is thrown here with this text -/
def vx_Note (p : Program) (l : Launch) (e : Env) (R : Room) (s : State) (m : MethodId) (args : Array Value) (below : List Frame) (meth : Method) (c : Code) (H : Heap) (locs : List Loc) (cells slots : Nat) (Q : State → Prop) (g : JFrame) (E text : String) : Prop :=
  ∀ T : State, T.heap = H → Stand p l e R s m args below meth c T locs cells slots → ∃ t, Steps p.tables e below ((T.setTop g).pushFrame (.throwNew E (some text) none)) t ∧ Q t
theorem vx_vm {pc : Nat} {ls : Array Slot} {rest : List Value} {Q : State → Prop} (hexec : p.tables.exec = Jvm.exec) (hl : l.stackTraces = false) {cls text : String} {names : List String} {nb : Nat} {A : Nat → Prop}
    (hcls : Bundle.fit cls = true) (hnames : ∀ n ∈ names, Bundle.fit n = true) (hsoe : (cls == "java/lang/StackOverflowError") = false) (hoom : (cls == "java/lang/OutOfMemoryError") = false)
    (hat : ∀ w ∈ vx_atM cls names, w.before args s = true) (hgood : ∀ w ∈ vx_atM cls names, vx_ot w = true)
    (hU : vx_Zq Bundle.tN "UNASSIGNED_STACK" Bundle.steD A s s.heap) (hN : vx_Zq Bundle.tN "SUPPRESSED_SENTINEL" Bundle.listD A s s.heap) (hS : va_S A s.heap H locs) (hsize : ls.size = c.maxLocals)
    (htext : (text == notModelled) = false) (hnb : (stringBytes (stringToUtf16 text)).size ≤ nb) (hnb1 : nb ≤ 1000)
    (hRframes : names.length + 4 < R.frames) (hRlocals : (rest.map fun v => v.category).sum + 10240 ≤ R.locals) (hshort : 13 * names.length + 55 ≤ 10240) (hRcells : cells + 3 ≤ R.cells) (hRslots : slots + (nb + 10) ≤ R.slots) (hlocks : meth.locks = false)
    (k : ∀ (H1 : Heap) (q9 : Addr) (ce : Cell), H.size ≤ H1.size → (∀ q : Nat, q < H.size → H1[q]? = H[q]?) → va_S A s.heap H1 locs → H1[q9]? = some ce → ce.vm = .none → s.vm.findClass cls = some ce.cls → vx_W p l e R s m args below meth c H1 locs (cells + 3) (slots + (nb + 10)) Q (F0 m pc ls rest) q9) :
    vx_Note p l e R s m args below meth c H locs cells slots Q (F0 m pc ls rest) cls text := by
  intro T hT X
  have htr : e.platform.stackTraces = false := (show e.platform.stackTraces = l.stackTraces by rw [X.admits.platform]).trans hl
  have Y := vx_rebase X (R' := { frames := R.frames, locals := R.locals, cells := 3, slots := nb + 10 }) (Nat.le_refl _) (Nat.le_refl _) hRcells hRslots
  have hhp : ((T.setVm s.vm).setFrames (.invoking m args :: below)).heap = H := hT
  have hW0 : s.WarmedH ((T.setVm s.vm).setFrames (.invoking m args :: below)).vm := State.WarmedH.refl s
  have hat' : ∀ w ∈ vx_atM cls names, w.before args ((T.setVm s.vm).setFrames (.invoking m args :: below)) = true := fun w hw => vx_ot_at hW0 rfl (hgood w hw) (hat w hw)
  have hU' : vx_Zq Bundle.tN "UNASSIGNED_STACK" Bundle.steD A ((T.setVm s.vm).setFrames (.invoking m args :: below)) ((T.setVm s.vm).setFrames (.invoking m args :: below)).heap := by rw [hhp]; exact vx_Zq.moved hW0.alike (hU.kept hS.2.1)
  have hN' : vx_Zq Bundle.tN "SUPPRESSED_SENTINEL" Bundle.listD A ((T.setVm s.vm).setFrames (.invoking m args :: below)) ((T.setVm s.vm).setFrames (.invoking m args :: below)).heap := by rw [hhp]; exact vx_Zq.moved hW0.alike (hN.kept hS.2.1)
  obtain ⟨S, q, ce, st, Z, hce, hcl', hv⟩ := vx_vmAt Y hexec htr (cls := cls) (names := names) (text := text) hcls hnames hsoe hoom (vx_own hat' (vx_isRefq hU'.1) (vx_isRefq hN'.1) hU'.2.word hN'.2.word) (fun x hx => nomatch hx) htext
    (by rw [Launch.admits_arrayLengthLimit X.admits]; omega) (by rw [Launch.admits_maxHeapBytes X.admits]; simp only [componentBytes]; omega)
    (g := F0 m pc ls rest) rfl hsize hRframes (by show 2 * 0 + (rest.map fun v => v.category).sum + 10240 ≤ R.locals; omega) hshort (by show 0 + 3 ≤ 3; omega) (by show 0 + (_ + 4 + 6) ≤ nb + 10; omega) hlocks
  obtain ⟨f1, f2⟩ := vx_frame Z.same
  have f1' : H.size ≤ S.heap.size := by rw [← hT]; exact f1
  have f2' : ∀ q : Nat, q < H.size → S.heap[q]? = H[q]? := fun q hq => by
    rw [← hT]
    exact f2 q (by rw [← hT] at hq; exact hq) (fun z hz => nomatch hz)
  have X5 := vx_back9 X Y Z
  have X6 : Stand p l e R s m args below meth c S locs (cells + 3) (slots + (nb + 10)) := { X5 with same := X5.same.mono (by omega) (by omega) }
  obtain ⟨t, a1, b1⟩ := k S.heap q ce f1' f2' ⟨Nat.le_trans hS.1 f1', fun q h1 h2 => (f2' q (Nat.lt_of_lt_of_le h1 hS.1)).trans (hS.2.1 q h1 h2), hS.2.2⟩ hce hv hcl' S rfl X6
  exact ⟨t, st t a1, b1⟩
/-- from the machine's note that NullPointerException is thrown here -/
def vx_NoteN (p : Program) (l : Launch) (e : Env) (R : Room) (s : State) (m : MethodId) (args : Array Value) (below : List Frame) (meth : Method) (c : Code) (H : Heap) (locs : List Loc) (cells slots : Nat) (Q : State → Prop) (g : JFrame) : Prop :=
  ∀ T : State, T.heap = H → Stand p l e R s m args below meth c T locs cells slots → ∃ t, Steps p.tables e below ((T.setTop g).pushFrame (.throwNew "java/lang/NullPointerException" none none)) t ∧ Q t
theorem vx_npe {pc : Nat} {ls : Array Slot} {rest : List Value} {Q : State → Prop} (hexec : p.tables.exec = Jvm.exec) (hl : l.stackTraces = false) {nb : Nat} {A : Nat → Prop}
    (hat : ∀ w ∈ vx_atN nb, w.before args s = true) (hgood : ∀ w ∈ vx_atN nb, vx_ot w = true)
    (hU : vx_Zq Bundle.tN "UNASSIGNED_STACK" Bundle.steD A s s.heap) (hN : vx_Zq Bundle.tN "SUPPRESSED_SENTINEL" Bundle.listD A s s.heap) (hS : va_S A s.heap H locs) (hsize : ls.size = c.maxLocals)
    (hRframes : 7 < R.frames) (hRlocals : (rest.map fun v => v.category).sum + 10240 ≤ R.locals) (hRcells : cells + 1 ≤ R.cells) (hRslots : slots + nb ≤ R.slots) (hlocks : meth.locks = false)
    (k : ∀ (H1 : Heap) (q9 : Addr) (ce : Cell), H.size ≤ H1.size → (∀ q : Nat, q < H.size → H1[q]? = H[q]?) → va_S A s.heap H1 locs → H1[q9]? = some ce → ce.vm = .none → s.vm.findClass "java/lang/NullPointerException" = some ce.cls → vx_W p l e R s m args below meth c H1 locs (cells + 1) (slots + nb) Q (F0 m pc ls rest) q9) :
    vx_NoteN p l e R s m args below meth c H locs cells slots Q (F0 m pc ls rest) := by
  intro T hT X
  have htr : e.platform.stackTraces = false := (show e.platform.stackTraces = l.stackTraces by rw [X.admits.platform]).trans hl
  have Y := vx_rebase X (R' := { frames := R.frames, locals := R.locals, cells := 1, slots := nb }) (Nat.le_refl _) (Nat.le_refl _) hRcells hRslots
  have hhp : ((T.setVm s.vm).setFrames (.invoking m args :: below)).heap = H := hT
  have hW0 : s.WarmedH ((T.setVm s.vm).setFrames (.invoking m args :: below)).vm := State.WarmedH.refl s
  have hat' : ∀ w ∈ vx_atN nb, w.before args ((T.setVm s.vm).setFrames (.invoking m args :: below)) = true := fun w hw => vx_ot_at hW0 rfl (hgood w hw) (hat w hw)
  have hU' : vx_Zq Bundle.tN "UNASSIGNED_STACK" Bundle.steD A ((T.setVm s.vm).setFrames (.invoking m args :: below)) ((T.setVm s.vm).setFrames (.invoking m args :: below)).heap := by rw [hhp]; exact vx_Zq.moved hW0.alike (hU.kept hS.2.1)
  have hN' : vx_Zq Bundle.tN "SUPPRESSED_SENTINEL" Bundle.listD A ((T.setVm s.vm).setFrames (.invoking m args :: below)) ((T.setVm s.vm).setFrames (.invoking m args :: below)).heap := by rw [hhp]; exact vx_Zq.moved hW0.alike (hN.kept hS.2.1)
  obtain ⟨S, q, ce, st, Z, hce, hcl', hv⟩ := vx_npeAt Y hexec htr (n := nb) (vx_own hat' (vx_isRefq hU'.1) (vx_isRefq hN'.1) hU'.2.word hN'.2.word) (fun x hx => nomatch hx)
    (g := F0 m pc ls rest) rfl hsize hRframes (by show 2 * 0 + (rest.map fun v => v.category).sum + 10240 ≤ R.locals; omega) (by show 0 + 1 ≤ 1; omega) (by show 0 + nb ≤ nb; omega) hlocks
  obtain ⟨f1, f2⟩ := vx_frame Z.same
  have f1' : H.size ≤ S.heap.size := by rw [← hT]; exact f1
  have f2' : ∀ q : Nat, q < H.size → S.heap[q]? = H[q]? := fun q hq => by
    rw [← hT]
    exact f2 q (by rw [← hT] at hq; exact hq) (fun z hz => nomatch hz)
  have X5 := vx_back9 X Y Z
  have X6 : Stand p l e R s m args below meth c S locs (cells + 1) (slots + nb) := { X5 with same := X5.same.mono (by omega) (by omega) }
  obtain ⟨t, a1, b1⟩ := k S.heap q ce f1' f2' ⟨Nat.le_trans hS.1 f1', fun q h1 h2 => (f2' q (Nat.lt_of_lt_of_le h1 hS.1)).trans (hS.2.1 q h1 h2), hS.2.2⟩ hce hv hcl' S rfl X6
  exact ⟨t, st t a1, b1⟩
variable {Q : State → Prop} {cc : ByteArray} {pc : Nat} {ls : Array Slot} {rest : List Value}
theorem vx_idivZ (hexec : p.tables.exec = Jvm.exec) (hb : c.code = cc) {a b : Int32} (h0 : b = 0) (d : decode cc pc = .ok (.idiv, 1)) (k : vx_Note p l e R s m args below meth c H locs cells slots Q (F0 m pc ls rest) "java/lang/ArithmeticException" "/ by zero") :
    W p l e R s m args below meth c H locs cells slots Q (F0 m pc ls (.int b :: .int a :: rest)) := by
  intro T hT X
  obtain ⟨t, st, q⟩ := k T hT X
  exact ⟨t, X.idivZero hexec (g := F0 m pc ls (.int b :: .int a :: rest)) rfl (a := a) (rest := rest) (by rw [h0]) (by rw [hb]; exact d) t st, q⟩
theorem vx_iremZ (hexec : p.tables.exec = Jvm.exec) (hb : c.code = cc) {a b : Int32} (h0 : b = 0) (d : decode cc pc = .ok (.irem, 1)) (k : vx_Note p l e R s m args below meth c H locs cells slots Q (F0 m pc ls rest) "java/lang/ArithmeticException" "/ by zero") :
    W p l e R s m args below meth c H locs cells slots Q (F0 m pc ls (.int b :: .int a :: rest)) := by
  intro T hT X
  obtain ⟨t, st, q⟩ := k T hT X
  exact ⟨t, X.iremZero hexec (g := F0 m pc ls (.int b :: .int a :: rest)) rfl (a := a) (rest := rest) (by rw [h0]) (by rw [hb]; exact d) t st, q⟩
theorem vx_ldivZ (hexec : p.tables.exec = Jvm.exec) (hb : c.code = cc) {a b : Int64} (h0 : b = 0) (d : decode cc pc = .ok (.ldiv, 1)) (k : vx_Note p l e R s m args below meth c H locs cells slots Q (F0 m pc ls rest) "java/lang/ArithmeticException" "/ by zero") :
    W p l e R s m args below meth c H locs cells slots Q (F0 m pc ls (.long b :: .long a :: rest)) := by
  intro T hT X
  obtain ⟨t, st, q⟩ := k T hT X
  exact ⟨t, X.ldivZero hexec (g := F0 m pc ls (.long b :: .long a :: rest)) rfl (a := a) (rest := rest) (by rw [h0]) (by rw [hb]; exact d) t st, q⟩
theorem vx_lremZ (hexec : p.tables.exec = Jvm.exec) (hb : c.code = cc) {a b : Int64} (h0 : b = 0) (d : decode cc pc = .ok (.lrem, 1)) (k : vx_Note p l e R s m args below meth c H locs cells slots Q (F0 m pc ls rest) "java/lang/ArithmeticException" "/ by zero") :
    W p l e R s m args below meth c H locs cells slots Q (F0 m pc ls (.long b :: .long a :: rest)) := by
  intro T hT X
  obtain ⟨t, st, q⟩ := k T hT X
  exact ⟨t, X.lremZero hexec (g := F0 m pc ls (.long b :: .long a :: rest)) rfl (a := a) (rest := rest) (by rw [h0]) (by rw [hb]; exact d) t st, q⟩
theorem vx_ialdZ {D : va_G} {cl : List vw_C} {ws : va_W} {tys : List (ClassId × FieldType)} {a : Nat} (hexec : p.tables.exec = Jvm.exec) (hb : c.code = cc) (hK : va_K D cl tys s) (hP : va_P D cl ws H) (q0 t0 : Nat) {cA : ClassId} {n : Nat} {f : Nat → Int32} (ha : ws[q0]? = some (a, .inl (cA, n, .inl f))) (ht : tys[t0]? = some (cA, .int)) {i : Int32} (hout : ¬ vp_in i n) (hdg : decode cc pc = .ok (.iaload, 1))
    (k : ∀ tx : String, tx = (toString "Index " ++ toString i ++ toString " out of bounds for length " ++ toString n : String) → vx_Note p l e R s m args below meth c H locs cells slots Q (F0 m pc ls rest) "java/lang/ArrayIndexOutOfBoundsException" tx) : W p l e R s m args below meth c H locs cells slots Q (F0 m pc ls (.int i :: .ref a :: rest)) := by
  intro T hT X
  obtain ⟨t, st, q⟩ := k _ rfl T hT X
  refine ⟨t, ?_, q⟩
  have h1 := X.ialoadOut hexec (by rw [hT]; exact hP q0 _ ha) ((hK.2 t0 _ ht).1 n (fun j => .int (f j))) (j := i) (by show (i < 0 ∨ (arrV _ _ _).slots.size ≤ _); rw [arrV_size]; exact Classical.byContradiction hout) (g := F0 m pc ls (.int i :: .ref a :: rest)) rfl (rest := rest) rfl (by rw [hb]; exact hdg) t
  simp only [arrV_size] at h1
  exact h1 st
theorem vx_iastZ {D : va_G} {cl : List vw_C} {ws : va_W} {tys : List (ClassId × FieldType)} {a : Nat} (hexec : p.tables.exec = Jvm.exec) (hb : c.code = cc) (hK : va_K D cl tys s) (hP : va_P D cl ws H) (q0 t0 : Nat) {cA : ClassId} {n : Nat} {f : Nat → Int32} (ha : ws[q0]? = some (a, .inl (cA, n, .inl f))) (ht : tys[t0]? = some (cA, .int)) {i : Int32} {x : Int32} (hout : ¬ vp_in i n) (hdg : decode cc pc = .ok (.iastore, 1))
    (k : ∀ tx : String, tx = (toString "Index " ++ toString i ++ toString " out of bounds for length " ++ toString n : String) → vx_Note p l e R s m args below meth c H locs cells slots Q (F0 m pc ls rest) "java/lang/ArrayIndexOutOfBoundsException" tx) : W p l e R s m args below meth c H locs cells slots Q (F0 m pc ls (.int x :: .int i :: .ref a :: rest)) := by
  intro T hT X
  obtain ⟨t, st, q⟩ := k _ rfl T hT X
  refine ⟨t, ?_, q⟩
  have h1 := X.iastoreOut hexec (by rw [hT]; exact hP q0 _ ha) ((hK.2 t0 _ ht).1 n (fun j => .int (f j))) (j := i) (by show (i < 0 ∨ (arrV _ _ _).slots.size ≤ _); rw [arrV_size]; exact Classical.byContradiction hout) (g := F0 m pc ls (.int x :: .int i :: .ref a :: rest)) rfl (rest := rest) rfl (by rw [hb]; exact hdg) t
  simp only [arrV_size] at h1
  exact h1 st
theorem vx_baldZ {D : va_G} {cl : List vw_C} {ws : va_W} {tys : List (ClassId × FieldType)} {a : Nat} (hexec : p.tables.exec = Jvm.exec) (hb : c.code = cc) (hK : va_K D cl tys s) (hP : va_P D cl ws H) (q0 t0 : Nat) {cA : ClassId} {n : Nat} {f : Nat → Int32} (ha : ws[q0]? = some (a, .inl (cA, n, .inl f))) (ht : tys[t0]? = some (cA, .byte)) {i : Int32} (hout : ¬ vp_in i n) (hdg : decode cc pc = .ok (.baload, 1))
    (k : ∀ tx : String, tx = (toString "Index " ++ toString i ++ toString " out of bounds for length " ++ toString n : String) → vx_Note p l e R s m args below meth c H locs cells slots Q (F0 m pc ls rest) "java/lang/ArrayIndexOutOfBoundsException" tx) : W p l e R s m args below meth c H locs cells slots Q (F0 m pc ls (.int i :: .ref a :: rest)) := by
  intro T hT X
  obtain ⟨t, st, q⟩ := k _ rfl T hT X
  refine ⟨t, ?_, q⟩
  have h1 := X.baloadOut hexec (by rw [hT]; exact hP q0 _ ha) ((hK.2 t0 _ ht).1 n (fun j => .int (f j))) (j := i) (by show (i < 0 ∨ (arrV _ _ _).slots.size ≤ _); rw [arrV_size]; exact Classical.byContradiction hout) (g := F0 m pc ls (.int i :: .ref a :: rest)) rfl (rest := rest) rfl (by rw [hb]; exact hdg) t
  simp only [arrV_size] at h1
  exact h1 st
theorem vx_bastZ {D : va_G} {cl : List vw_C} {ws : va_W} {tys : List (ClassId × FieldType)} {a : Nat} (hexec : p.tables.exec = Jvm.exec) (hb : c.code = cc) (hK : va_K D cl tys s) (hP : va_P D cl ws H) (q0 t0 : Nat) {cA : ClassId} {n : Nat} {f : Nat → Int32} (ha : ws[q0]? = some (a, .inl (cA, n, .inl f))) (ht : tys[t0]? = some (cA, .byte)) {i : Int32} {x : Int32} (hout : ¬ vp_in i n) (hdg : decode cc pc = .ok (.bastore, 1))
    (k : ∀ tx : String, tx = (toString "Index " ++ toString i ++ toString " out of bounds for length " ++ toString n : String) → vx_Note p l e R s m args below meth c H locs cells slots Q (F0 m pc ls rest) "java/lang/ArrayIndexOutOfBoundsException" tx) : W p l e R s m args below meth c H locs cells slots Q (F0 m pc ls (.int x :: .int i :: .ref a :: rest)) := by
  intro T hT X
  obtain ⟨t, st, q⟩ := k _ rfl T hT X
  refine ⟨t, ?_, q⟩
  have h1 := X.bastoreOut hexec (by rw [hT]; exact hP q0 _ ha) ((hK.2 t0 _ ht).1 n (fun j => .int (f j))) (j := i) (by show (i < 0 ∨ (arrV _ _ _).slots.size ≤ _); rw [arrV_size]; exact Classical.byContradiction hout) (g := F0 m pc ls (.int x :: .int i :: .ref a :: rest)) rfl (rest := rest) rfl (by rw [hb]; exact hdg) t
  simp only [arrV_size] at h1
  exact h1 st
theorem vx_zaldZ {D : va_G} {cl : List vw_C} {ws : va_W} {tys : List (ClassId × FieldType)} {a : Nat} (hexec : p.tables.exec = Jvm.exec) (hb : c.code = cc) (hK : va_K D cl tys s) (hP : va_P D cl ws H) (q0 t0 : Nat) {cA : ClassId} {n : Nat} {f : Nat → Int32} (ha : ws[q0]? = some (a, .inl (cA, n, .inl f))) (ht : tys[t0]? = some (cA, .boolean)) {i : Int32} (hout : ¬ vp_in i n) (hdg : decode cc pc = .ok (.baload, 1))
    (k : ∀ tx : String, tx = (toString "Index " ++ toString i ++ toString " out of bounds for length " ++ toString n : String) → vx_Note p l e R s m args below meth c H locs cells slots Q (F0 m pc ls rest) "java/lang/ArrayIndexOutOfBoundsException" tx) : W p l e R s m args below meth c H locs cells slots Q (F0 m pc ls (.int i :: .ref a :: rest)) := by
  intro T hT X
  obtain ⟨t, st, q⟩ := k _ rfl T hT X
  refine ⟨t, ?_, q⟩
  have h1 := X.baloadOut hexec (by rw [hT]; exact hP q0 _ ha) ((hK.2 t0 _ ht).1 n (fun j => .int (f j))) (j := i) (by show (i < 0 ∨ (arrV _ _ _).slots.size ≤ _); rw [arrV_size]; exact Classical.byContradiction hout) (g := F0 m pc ls (.int i :: .ref a :: rest)) rfl (rest := rest) rfl (by rw [hb]; exact hdg) t
  simp only [arrV_size] at h1
  exact h1 st
theorem vx_zastZ {D : va_G} {cl : List vw_C} {ws : va_W} {tys : List (ClassId × FieldType)} {a : Nat} (hexec : p.tables.exec = Jvm.exec) (hb : c.code = cc) (hK : va_K D cl tys s) (hP : va_P D cl ws H) (q0 t0 : Nat) {cA : ClassId} {n : Nat} {f : Nat → Int32} (ha : ws[q0]? = some (a, .inl (cA, n, .inl f))) (ht : tys[t0]? = some (cA, .boolean)) {i : Int32} {x : Int32} (hout : ¬ vp_in i n) (hdg : decode cc pc = .ok (.bastore, 1))
    (k : ∀ tx : String, tx = (toString "Index " ++ toString i ++ toString " out of bounds for length " ++ toString n : String) → vx_Note p l e R s m args below meth c H locs cells slots Q (F0 m pc ls rest) "java/lang/ArrayIndexOutOfBoundsException" tx) : W p l e R s m args below meth c H locs cells slots Q (F0 m pc ls (.int x :: .int i :: .ref a :: rest)) := by
  intro T hT X
  obtain ⟨t, st, q⟩ := k _ rfl T hT X
  refine ⟨t, ?_, q⟩
  have h1 := X.bastoreOut hexec (by rw [hT]; exact hP q0 _ ha) ((hK.2 t0 _ ht).1 n (fun j => .int (f j))) (j := i) (by show (i < 0 ∨ (arrV _ _ _).slots.size ≤ _); rw [arrV_size]; exact Classical.byContradiction hout) (g := F0 m pc ls (.int x :: .int i :: .ref a :: rest)) rfl (rest := rest) rfl (by rw [hb]; exact hdg) t
  simp only [arrV_size] at h1
  exact h1 st
theorem vx_caldZ {D : va_G} {cl : List vw_C} {ws : va_W} {tys : List (ClassId × FieldType)} {a : Nat} (hexec : p.tables.exec = Jvm.exec) (hb : c.code = cc) (hK : va_K D cl tys s) (hP : va_P D cl ws H) (q0 t0 : Nat) {cA : ClassId} {n : Nat} {f : Nat → Int32} (ha : ws[q0]? = some (a, .inl (cA, n, .inl f))) (ht : tys[t0]? = some (cA, .char)) {i : Int32} (hout : ¬ vp_in i n) (hdg : decode cc pc = .ok (.caload, 1))
    (k : ∀ tx : String, tx = (toString "Index " ++ toString i ++ toString " out of bounds for length " ++ toString n : String) → vx_Note p l e R s m args below meth c H locs cells slots Q (F0 m pc ls rest) "java/lang/ArrayIndexOutOfBoundsException" tx) : W p l e R s m args below meth c H locs cells slots Q (F0 m pc ls (.int i :: .ref a :: rest)) := by
  intro T hT X
  obtain ⟨t, st, q⟩ := k _ rfl T hT X
  refine ⟨t, ?_, q⟩
  have h1 := X.caloadOut hexec (by rw [hT]; exact hP q0 _ ha) ((hK.2 t0 _ ht).1 n (fun j => .int (f j))) (j := i) (by show (i < 0 ∨ (arrV _ _ _).slots.size ≤ _); rw [arrV_size]; exact Classical.byContradiction hout) (g := F0 m pc ls (.int i :: .ref a :: rest)) rfl (rest := rest) rfl (by rw [hb]; exact hdg) t
  simp only [arrV_size] at h1
  exact h1 st
theorem vx_castZ {D : va_G} {cl : List vw_C} {ws : va_W} {tys : List (ClassId × FieldType)} {a : Nat} (hexec : p.tables.exec = Jvm.exec) (hb : c.code = cc) (hK : va_K D cl tys s) (hP : va_P D cl ws H) (q0 t0 : Nat) {cA : ClassId} {n : Nat} {f : Nat → Int32} (ha : ws[q0]? = some (a, .inl (cA, n, .inl f))) (ht : tys[t0]? = some (cA, .char)) {i : Int32} {x : Int32} (hout : ¬ vp_in i n) (hdg : decode cc pc = .ok (.castore, 1))
    (k : ∀ tx : String, tx = (toString "Index " ++ toString i ++ toString " out of bounds for length " ++ toString n : String) → vx_Note p l e R s m args below meth c H locs cells slots Q (F0 m pc ls rest) "java/lang/ArrayIndexOutOfBoundsException" tx) : W p l e R s m args below meth c H locs cells slots Q (F0 m pc ls (.int x :: .int i :: .ref a :: rest)) := by
  intro T hT X
  obtain ⟨t, st, q⟩ := k _ rfl T hT X
  refine ⟨t, ?_, q⟩
  have h1 := X.castoreOut hexec (by rw [hT]; exact hP q0 _ ha) ((hK.2 t0 _ ht).1 n (fun j => .int (f j))) (j := i) (by show (i < 0 ∨ (arrV _ _ _).slots.size ≤ _); rw [arrV_size]; exact Classical.byContradiction hout) (g := F0 m pc ls (.int x :: .int i :: .ref a :: rest)) rfl (rest := rest) rfl (by rw [hb]; exact hdg) t
  simp only [arrV_size] at h1
  exact h1 st
theorem vx_saldZ {D : va_G} {cl : List vw_C} {ws : va_W} {tys : List (ClassId × FieldType)} {a : Nat} (hexec : p.tables.exec = Jvm.exec) (hb : c.code = cc) (hK : va_K D cl tys s) (hP : va_P D cl ws H) (q0 t0 : Nat) {cA : ClassId} {n : Nat} {f : Nat → Int32} (ha : ws[q0]? = some (a, .inl (cA, n, .inl f))) (ht : tys[t0]? = some (cA, .short)) {i : Int32} (hout : ¬ vp_in i n) (hdg : decode cc pc = .ok (.saload, 1))
    (k : ∀ tx : String, tx = (toString "Index " ++ toString i ++ toString " out of bounds for length " ++ toString n : String) → vx_Note p l e R s m args below meth c H locs cells slots Q (F0 m pc ls rest) "java/lang/ArrayIndexOutOfBoundsException" tx) : W p l e R s m args below meth c H locs cells slots Q (F0 m pc ls (.int i :: .ref a :: rest)) := by
  intro T hT X
  obtain ⟨t, st, q⟩ := k _ rfl T hT X
  refine ⟨t, ?_, q⟩
  have h1 := X.saloadOut hexec (by rw [hT]; exact hP q0 _ ha) ((hK.2 t0 _ ht).1 n (fun j => .int (f j))) (j := i) (by show (i < 0 ∨ (arrV _ _ _).slots.size ≤ _); rw [arrV_size]; exact Classical.byContradiction hout) (g := F0 m pc ls (.int i :: .ref a :: rest)) rfl (rest := rest) rfl (by rw [hb]; exact hdg) t
  simp only [arrV_size] at h1
  exact h1 st
theorem vx_sastZ {D : va_G} {cl : List vw_C} {ws : va_W} {tys : List (ClassId × FieldType)} {a : Nat} (hexec : p.tables.exec = Jvm.exec) (hb : c.code = cc) (hK : va_K D cl tys s) (hP : va_P D cl ws H) (q0 t0 : Nat) {cA : ClassId} {n : Nat} {f : Nat → Int32} (ha : ws[q0]? = some (a, .inl (cA, n, .inl f))) (ht : tys[t0]? = some (cA, .short)) {i : Int32} {x : Int32} (hout : ¬ vp_in i n) (hdg : decode cc pc = .ok (.sastore, 1))
    (k : ∀ tx : String, tx = (toString "Index " ++ toString i ++ toString " out of bounds for length " ++ toString n : String) → vx_Note p l e R s m args below meth c H locs cells slots Q (F0 m pc ls rest) "java/lang/ArrayIndexOutOfBoundsException" tx) : W p l e R s m args below meth c H locs cells slots Q (F0 m pc ls (.int x :: .int i :: .ref a :: rest)) := by
  intro T hT X
  obtain ⟨t, st, q⟩ := k _ rfl T hT X
  refine ⟨t, ?_, q⟩
  have h1 := X.sastoreOut hexec (by rw [hT]; exact hP q0 _ ha) ((hK.2 t0 _ ht).1 n (fun j => .int (f j))) (j := i) (by show (i < 0 ∨ (arrV _ _ _).slots.size ≤ _); rw [arrV_size]; exact Classical.byContradiction hout) (g := F0 m pc ls (.int x :: .int i :: .ref a :: rest)) rfl (rest := rest) rfl (by rw [hb]; exact hdg) t
  simp only [arrV_size] at h1
  exact h1 st
theorem vx_laldZ {D : va_G} {cl : List vw_C} {ws : va_W} {tys : List (ClassId × FieldType)} {a : Nat} (hexec : p.tables.exec = Jvm.exec) (hb : c.code = cc) (hK : va_K D cl tys s) (hP : va_P D cl ws H) (q0 t0 : Nat) {cA : ClassId} {n : Nat} {f : Nat → Int64} (ha : ws[q0]? = some (a, .inl (cA, n, .inr (.inl f)))) (ht : tys[t0]? = some (cA, .long)) {i : Int32} (hout : ¬ vp_in i n) (hdg : decode cc pc = .ok (.laload, 1))
    (k : ∀ tx : String, tx = (toString "Index " ++ toString i ++ toString " out of bounds for length " ++ toString n : String) → vx_Note p l e R s m args below meth c H locs cells slots Q (F0 m pc ls rest) "java/lang/ArrayIndexOutOfBoundsException" tx) : W p l e R s m args below meth c H locs cells slots Q (F0 m pc ls (.int i :: .ref a :: rest)) := by
  intro T hT X
  obtain ⟨t, st, q⟩ := k _ rfl T hT X
  refine ⟨t, ?_, q⟩
  have h1 := X.laloadOut hexec (by rw [hT]; exact hP q0 _ ha) ((hK.2 t0 _ ht).1 n (fun j => .long (f j))) (j := i) (by show (i < 0 ∨ (arrV _ _ _).slots.size ≤ _); rw [arrV_size]; exact Classical.byContradiction hout) (g := F0 m pc ls (.int i :: .ref a :: rest)) rfl (rest := rest) rfl (by rw [hb]; exact hdg) t
  simp only [arrV_size] at h1
  exact h1 st
theorem vx_lastZ {D : va_G} {cl : List vw_C} {ws : va_W} {tys : List (ClassId × FieldType)} {a : Nat} (hexec : p.tables.exec = Jvm.exec) (hb : c.code = cc) (hK : va_K D cl tys s) (hP : va_P D cl ws H) (q0 t0 : Nat) {cA : ClassId} {n : Nat} {f : Nat → Int64} (ha : ws[q0]? = some (a, .inl (cA, n, .inr (.inl f)))) (ht : tys[t0]? = some (cA, .long)) {i : Int32} {x : Int64} (hout : ¬ vp_in i n) (hdg : decode cc pc = .ok (.lastore, 1))
    (k : ∀ tx : String, tx = (toString "Index " ++ toString i ++ toString " out of bounds for length " ++ toString n : String) → vx_Note p l e R s m args below meth c H locs cells slots Q (F0 m pc ls rest) "java/lang/ArrayIndexOutOfBoundsException" tx) : W p l e R s m args below meth c H locs cells slots Q (F0 m pc ls (.long x :: .int i :: .ref a :: rest)) := by
  intro T hT X
  obtain ⟨t, st, q⟩ := k _ rfl T hT X
  refine ⟨t, ?_, q⟩
  have h1 := X.lastoreOut hexec (by rw [hT]; exact hP q0 _ ha) ((hK.2 t0 _ ht).1 n (fun j => .long (f j))) (j := i) (by show (i < 0 ∨ (arrV _ _ _).slots.size ≤ _); rw [arrV_size]; exact Classical.byContradiction hout) (g := F0 m pc ls (.long x :: .int i :: .ref a :: rest)) rfl (rest := rest) rfl (by rw [hb]; exact hdg) t
  simp only [arrV_size] at h1
  exact h1 st
theorem vx_faldZ {D : va_G} {cl : List vw_C} {ws : va_W} {tys : List (ClassId × FieldType)} {a : Nat} (hexec : p.tables.exec = Jvm.exec) (hb : c.code = cc) (hK : va_K D cl tys s) (hP : va_P D cl ws H) (q0 t0 : Nat) {cA : ClassId} {n : Nat} {f : Nat → UInt32} (ha : ws[q0]? = some (a, .inl (cA, n, .inr (.inr (.inl f))))) (ht : tys[t0]? = some (cA, .float)) {i : Int32} (hout : ¬ vp_in i n) (hdg : decode cc pc = .ok (.faload, 1))
    (k : ∀ tx : String, tx = (toString "Index " ++ toString i ++ toString " out of bounds for length " ++ toString n : String) → vx_Note p l e R s m args below meth c H locs cells slots Q (F0 m pc ls rest) "java/lang/ArrayIndexOutOfBoundsException" tx) : W p l e R s m args below meth c H locs cells slots Q (F0 m pc ls (.int i :: .ref a :: rest)) := by
  intro T hT X
  obtain ⟨t, st, q⟩ := k _ rfl T hT X
  refine ⟨t, ?_, q⟩
  have h1 := X.faloadOut hexec (by rw [hT]; exact hP q0 _ ha) ((hK.2 t0 _ ht).1 n (fun j => .float (f j))) (j := i) (by show (i < 0 ∨ (arrV _ _ _).slots.size ≤ _); rw [arrV_size]; exact Classical.byContradiction hout) (g := F0 m pc ls (.int i :: .ref a :: rest)) rfl (rest := rest) rfl (by rw [hb]; exact hdg) t
  simp only [arrV_size] at h1
  exact h1 st
theorem vx_fastZ {D : va_G} {cl : List vw_C} {ws : va_W} {tys : List (ClassId × FieldType)} {a : Nat} (hexec : p.tables.exec = Jvm.exec) (hb : c.code = cc) (hK : va_K D cl tys s) (hP : va_P D cl ws H) (q0 t0 : Nat) {cA : ClassId} {n : Nat} {f : Nat → UInt32} (ha : ws[q0]? = some (a, .inl (cA, n, .inr (.inr (.inl f))))) (ht : tys[t0]? = some (cA, .float)) {i : Int32} {x : UInt32} (hout : ¬ vp_in i n) (hdg : decode cc pc = .ok (.fastore, 1))
    (k : ∀ tx : String, tx = (toString "Index " ++ toString i ++ toString " out of bounds for length " ++ toString n : String) → vx_Note p l e R s m args below meth c H locs cells slots Q (F0 m pc ls rest) "java/lang/ArrayIndexOutOfBoundsException" tx) : W p l e R s m args below meth c H locs cells slots Q (F0 m pc ls (.float x :: .int i :: .ref a :: rest)) := by
  intro T hT X
  obtain ⟨t, st, q⟩ := k _ rfl T hT X
  refine ⟨t, ?_, q⟩
  have h1 := X.fastoreOut hexec (by rw [hT]; exact hP q0 _ ha) ((hK.2 t0 _ ht).1 n (fun j => .float (f j))) (j := i) (by show (i < 0 ∨ (arrV _ _ _).slots.size ≤ _); rw [arrV_size]; exact Classical.byContradiction hout) (g := F0 m pc ls (.float x :: .int i :: .ref a :: rest)) rfl (rest := rest) rfl (by rw [hb]; exact hdg) t
  simp only [arrV_size] at h1
  exact h1 st
theorem vx_daldZ {D : va_G} {cl : List vw_C} {ws : va_W} {tys : List (ClassId × FieldType)} {a : Nat} (hexec : p.tables.exec = Jvm.exec) (hb : c.code = cc) (hK : va_K D cl tys s) (hP : va_P D cl ws H) (q0 t0 : Nat) {cA : ClassId} {n : Nat} {f : Nat → UInt64} (ha : ws[q0]? = some (a, .inl (cA, n, .inr (.inr (.inr (.inl f)))))) (ht : tys[t0]? = some (cA, .double)) {i : Int32} (hout : ¬ vp_in i n) (hdg : decode cc pc = .ok (.daload, 1))
    (k : ∀ tx : String, tx = (toString "Index " ++ toString i ++ toString " out of bounds for length " ++ toString n : String) → vx_Note p l e R s m args below meth c H locs cells slots Q (F0 m pc ls rest) "java/lang/ArrayIndexOutOfBoundsException" tx) : W p l e R s m args below meth c H locs cells slots Q (F0 m pc ls (.int i :: .ref a :: rest)) := by
  intro T hT X
  obtain ⟨t, st, q⟩ := k _ rfl T hT X
  refine ⟨t, ?_, q⟩
  have h1 := X.daloadOut hexec (by rw [hT]; exact hP q0 _ ha) ((hK.2 t0 _ ht).1 n (fun j => .double (f j))) (j := i) (by show (i < 0 ∨ (arrV _ _ _).slots.size ≤ _); rw [arrV_size]; exact Classical.byContradiction hout) (g := F0 m pc ls (.int i :: .ref a :: rest)) rfl (rest := rest) rfl (by rw [hb]; exact hdg) t
  simp only [arrV_size] at h1
  exact h1 st
theorem vx_dastZ {D : va_G} {cl : List vw_C} {ws : va_W} {tys : List (ClassId × FieldType)} {a : Nat} (hexec : p.tables.exec = Jvm.exec) (hb : c.code = cc) (hK : va_K D cl tys s) (hP : va_P D cl ws H) (q0 t0 : Nat) {cA : ClassId} {n : Nat} {f : Nat → UInt64} (ha : ws[q0]? = some (a, .inl (cA, n, .inr (.inr (.inr (.inl f)))))) (ht : tys[t0]? = some (cA, .double)) {i : Int32} {x : UInt64} (hout : ¬ vp_in i n) (hdg : decode cc pc = .ok (.dastore, 1))
    (k : ∀ tx : String, tx = (toString "Index " ++ toString i ++ toString " out of bounds for length " ++ toString n : String) → vx_Note p l e R s m args below meth c H locs cells slots Q (F0 m pc ls rest) "java/lang/ArrayIndexOutOfBoundsException" tx) : W p l e R s m args below meth c H locs cells slots Q (F0 m pc ls (.double x :: .int i :: .ref a :: rest)) := by
  intro T hT X
  obtain ⟨t, st, q⟩ := k _ rfl T hT X
  refine ⟨t, ?_, q⟩
  have h1 := X.dastoreOut hexec (by rw [hT]; exact hP q0 _ ha) ((hK.2 t0 _ ht).1 n (fun j => .double (f j))) (j := i) (by show (i < 0 ∨ (arrV _ _ _).slots.size ≤ _); rw [arrV_size]; exact Classical.byContradiction hout) (g := F0 m pc ls (.double x :: .int i :: .ref a :: rest)) rfl (rest := rest) rfl (by rw [hb]; exact hdg) t
  simp only [arrV_size] at h1
  exact h1 st
theorem vx_arraylengthN (hexec : p.tables.exec = Jvm.exec) (hb : c.code = cc) (hdg : decode cc pc = .ok (.arraylength, 1)) (k : vx_NoteN p l e R s m args below meth c H locs cells slots Q (F0 m pc ls rest)) : W p l e R s m args below meth c H locs cells slots Q (F0 m pc ls (.null :: rest)) := by
  intro T hT X
  obtain ⟨t, st, q⟩ := k T hT X
  exact ⟨t, X.arraylengthNull hexec (g := F0 m pc ls (.null :: rest)) rfl (rest := rest) rfl (by rw [hb]; exact hdg) t st, q⟩
theorem vx_ialoadN (hexec : p.tables.exec = Jvm.exec) (hb : c.code = cc) {i : Int32} (hdg : decode cc pc = .ok (.iaload, 1)) (k : vx_NoteN p l e R s m args below meth c H locs cells slots Q (F0 m pc ls rest)) : W p l e R s m args below meth c H locs cells slots Q (F0 m pc ls (.int i :: .null :: rest)) := by
  intro T hT X
  obtain ⟨t, st, q⟩ := k T hT X
  exact ⟨t, X.ialoadNull hexec (g := F0 m pc ls (.int i :: .null :: rest)) rfl (rest := rest) rfl (by rw [hb]; exact hdg) t st, q⟩
theorem vx_laloadN (hexec : p.tables.exec = Jvm.exec) (hb : c.code = cc) {i : Int32} (hdg : decode cc pc = .ok (.laload, 1)) (k : vx_NoteN p l e R s m args below meth c H locs cells slots Q (F0 m pc ls rest)) : W p l e R s m args below meth c H locs cells slots Q (F0 m pc ls (.int i :: .null :: rest)) := by
  intro T hT X
  obtain ⟨t, st, q⟩ := k T hT X
  exact ⟨t, X.laloadNull hexec (g := F0 m pc ls (.int i :: .null :: rest)) rfl (rest := rest) rfl (by rw [hb]; exact hdg) t st, q⟩
theorem vx_faloadN (hexec : p.tables.exec = Jvm.exec) (hb : c.code = cc) {i : Int32} (hdg : decode cc pc = .ok (.faload, 1)) (k : vx_NoteN p l e R s m args below meth c H locs cells slots Q (F0 m pc ls rest)) : W p l e R s m args below meth c H locs cells slots Q (F0 m pc ls (.int i :: .null :: rest)) := by
  intro T hT X
  obtain ⟨t, st, q⟩ := k T hT X
  exact ⟨t, X.faloadNull hexec (g := F0 m pc ls (.int i :: .null :: rest)) rfl (rest := rest) rfl (by rw [hb]; exact hdg) t st, q⟩
theorem vx_daloadN (hexec : p.tables.exec = Jvm.exec) (hb : c.code = cc) {i : Int32} (hdg : decode cc pc = .ok (.daload, 1)) (k : vx_NoteN p l e R s m args below meth c H locs cells slots Q (F0 m pc ls rest)) : W p l e R s m args below meth c H locs cells slots Q (F0 m pc ls (.int i :: .null :: rest)) := by
  intro T hT X
  obtain ⟨t, st, q⟩ := k T hT X
  exact ⟨t, X.daloadNull hexec (g := F0 m pc ls (.int i :: .null :: rest)) rfl (rest := rest) rfl (by rw [hb]; exact hdg) t st, q⟩
theorem vx_aaloadN (hexec : p.tables.exec = Jvm.exec) (hb : c.code = cc) {i : Int32} (hdg : decode cc pc = .ok (.aaload, 1)) (k : vx_NoteN p l e R s m args below meth c H locs cells slots Q (F0 m pc ls rest)) : W p l e R s m args below meth c H locs cells slots Q (F0 m pc ls (.int i :: .null :: rest)) := by
  intro T hT X
  obtain ⟨t, st, q⟩ := k T hT X
  exact ⟨t, X.aaloadNull hexec (g := F0 m pc ls (.int i :: .null :: rest)) rfl (rest := rest) rfl (by rw [hb]; exact hdg) t st, q⟩
theorem vx_baloadN (hexec : p.tables.exec = Jvm.exec) (hb : c.code = cc) {i : Int32} (hdg : decode cc pc = .ok (.baload, 1)) (k : vx_NoteN p l e R s m args below meth c H locs cells slots Q (F0 m pc ls rest)) : W p l e R s m args below meth c H locs cells slots Q (F0 m pc ls (.int i :: .null :: rest)) := by
  intro T hT X
  obtain ⟨t, st, q⟩ := k T hT X
  exact ⟨t, X.baloadNull hexec (g := F0 m pc ls (.int i :: .null :: rest)) rfl (rest := rest) rfl (by rw [hb]; exact hdg) t st, q⟩
theorem vx_caloadN (hexec : p.tables.exec = Jvm.exec) (hb : c.code = cc) {i : Int32} (hdg : decode cc pc = .ok (.caload, 1)) (k : vx_NoteN p l e R s m args below meth c H locs cells slots Q (F0 m pc ls rest)) : W p l e R s m args below meth c H locs cells slots Q (F0 m pc ls (.int i :: .null :: rest)) := by
  intro T hT X
  obtain ⟨t, st, q⟩ := k T hT X
  exact ⟨t, X.caloadNull hexec (g := F0 m pc ls (.int i :: .null :: rest)) rfl (rest := rest) rfl (by rw [hb]; exact hdg) t st, q⟩
theorem vx_saloadN (hexec : p.tables.exec = Jvm.exec) (hb : c.code = cc) {i : Int32} (hdg : decode cc pc = .ok (.saload, 1)) (k : vx_NoteN p l e R s m args below meth c H locs cells slots Q (F0 m pc ls rest)) : W p l e R s m args below meth c H locs cells slots Q (F0 m pc ls (.int i :: .null :: rest)) := by
  intro T hT X
  obtain ⟨t, st, q⟩ := k T hT X
  exact ⟨t, X.saloadNull hexec (g := F0 m pc ls (.int i :: .null :: rest)) rfl (rest := rest) rfl (by rw [hb]; exact hdg) t st, q⟩
theorem vx_iastoreN (hexec : p.tables.exec = Jvm.exec) (hb : c.code = cc) {x : Int32} {i : Int32} (hdg : decode cc pc = .ok (.iastore, 1)) (k : vx_NoteN p l e R s m args below meth c H locs cells slots Q (F0 m pc ls rest)) : W p l e R s m args below meth c H locs cells slots Q (F0 m pc ls (.int x :: .int i :: .null :: rest)) := by
  intro T hT X
  obtain ⟨t, st, q⟩ := k T hT X
  exact ⟨t, X.iastoreNull hexec (g := F0 m pc ls (.int x :: .int i :: .null :: rest)) rfl (rest := rest) rfl (by rw [hb]; exact hdg) t st, q⟩
theorem vx_lastoreN (hexec : p.tables.exec = Jvm.exec) (hb : c.code = cc) {x : Int64} {i : Int32} (hdg : decode cc pc = .ok (.lastore, 1)) (k : vx_NoteN p l e R s m args below meth c H locs cells slots Q (F0 m pc ls rest)) : W p l e R s m args below meth c H locs cells slots Q (F0 m pc ls (.long x :: .int i :: .null :: rest)) := by
  intro T hT X
  obtain ⟨t, st, q⟩ := k T hT X
  exact ⟨t, X.lastoreNull hexec (g := F0 m pc ls (.long x :: .int i :: .null :: rest)) rfl (rest := rest) rfl (by rw [hb]; exact hdg) t st, q⟩
theorem vx_fastoreN (hexec : p.tables.exec = Jvm.exec) (hb : c.code = cc) {x : UInt32} {i : Int32} (hdg : decode cc pc = .ok (.fastore, 1)) (k : vx_NoteN p l e R s m args below meth c H locs cells slots Q (F0 m pc ls rest)) : W p l e R s m args below meth c H locs cells slots Q (F0 m pc ls (.float x :: .int i :: .null :: rest)) := by
  intro T hT X
  obtain ⟨t, st, q⟩ := k T hT X
  exact ⟨t, X.fastoreNull hexec (g := F0 m pc ls (.float x :: .int i :: .null :: rest)) rfl (rest := rest) rfl (by rw [hb]; exact hdg) t st, q⟩
theorem vx_dastoreN (hexec : p.tables.exec = Jvm.exec) (hb : c.code = cc) {x : UInt64} {i : Int32} (hdg : decode cc pc = .ok (.dastore, 1)) (k : vx_NoteN p l e R s m args below meth c H locs cells slots Q (F0 m pc ls rest)) : W p l e R s m args below meth c H locs cells slots Q (F0 m pc ls (.double x :: .int i :: .null :: rest)) := by
  intro T hT X
  obtain ⟨t, st, q⟩ := k T hT X
  exact ⟨t, X.dastoreNull hexec (g := F0 m pc ls (.double x :: .int i :: .null :: rest)) rfl (rest := rest) rfl (by rw [hb]; exact hdg) t st, q⟩
theorem vx_bastoreN (hexec : p.tables.exec = Jvm.exec) (hb : c.code = cc) {x : Int32} {i : Int32} (hdg : decode cc pc = .ok (.bastore, 1)) (k : vx_NoteN p l e R s m args below meth c H locs cells slots Q (F0 m pc ls rest)) : W p l e R s m args below meth c H locs cells slots Q (F0 m pc ls (.int x :: .int i :: .null :: rest)) := by
  intro T hT X
  obtain ⟨t, st, q⟩ := k T hT X
  exact ⟨t, X.bastoreNull hexec (g := F0 m pc ls (.int x :: .int i :: .null :: rest)) rfl (rest := rest) rfl (by rw [hb]; exact hdg) t st, q⟩
theorem vx_castoreN (hexec : p.tables.exec = Jvm.exec) (hb : c.code = cc) {x : Int32} {i : Int32} (hdg : decode cc pc = .ok (.castore, 1)) (k : vx_NoteN p l e R s m args below meth c H locs cells slots Q (F0 m pc ls rest)) : W p l e R s m args below meth c H locs cells slots Q (F0 m pc ls (.int x :: .int i :: .null :: rest)) := by
  intro T hT X
  obtain ⟨t, st, q⟩ := k T hT X
  exact ⟨t, X.castoreNull hexec (g := F0 m pc ls (.int x :: .int i :: .null :: rest)) rfl (rest := rest) rfl (by rw [hb]; exact hdg) t st, q⟩
theorem vx_sastoreN (hexec : p.tables.exec = Jvm.exec) (hb : c.code = cc) {x : Int32} {i : Int32} (hdg : decode cc pc = .ok (.sastore, 1)) (k : vx_NoteN p l e R s m args below meth c H locs cells slots Q (F0 m pc ls rest)) : W p l e R s m args below meth c H locs cells slots Q (F0 m pc ls (.int x :: .int i :: .null :: rest)) := by
  intro T hT X
  obtain ⟨t, st, q⟩ := k T hT X
  exact ⟨t, X.sastoreNull hexec (g := F0 m pc ls (.int x :: .int i :: .null :: rest)) rfl (rest := rest) rfl (by rw [hb]; exact hdg) t st, q⟩
theorem vx_invokeN {own C : String} {index maxL : Nat} {y : MethodName} {bytes : ByteArray} {ret : Option FieldType} (hexec : p.tables.exec = Jvm.exec) (hb : c.code = cc) (hown : s.vm.findClass own = some m.cls) (hlink : (Cond.methodLink own index y).before args s = true) (hinst : (Cond.instanceMethod y).before args s = true) (hcode : (Cond.code y bytes maxL ret).before args s = true) (hsel : (Cond.selects C y y).before args s = true)
    (hx : y.cls ≠ "java/lang/invoke/MethodHandle" ∧ y.cls ≠ "java/lang/invoke/VarHandle") {As : List Value} (hlen : (parseMethodDescriptor y.desc).map (fun d => d.parameters.length) = some As.length) (hdg : decode cc pc = .ok (.invokevirtual index, 3))
    (k : vx_NoteN p l e R s m args below meth c H locs cells slots Q (F0 m pc ls rest)) {st0 : List Value} (hst : st0 = As.reverse ++ .null :: rest) : W p l e R s m args below meth c H locs cells slots Q (F0 m pc ls st0) := by
  intro T hT X
  obtain ⟨r0, r, hn, hrm, hstR, hsigR⟩ := va_Decl.of hinst hcode
  obtain ⟨c2, r2, m2, q1, q2, q3, q4, kP, hkP, hkPi⟩ := Cond.selects_spec hsel
  cases hn.symm.trans q3
  have hl9 : As.length = r.sig.parameters.length := by
    rw [hsigR] at hlen
    exact (Option.some.inj hlen).symm
  obtain ⟨vm', X1, st1⟩ := X.invokevirtualNull hexec hown hlink hn hrm hstR hkP hkPi hx (g := F0 m pc ls st0) rfl (argsL := As) (rest := rest) hl9 hst (by rw [hb]; exact hdg)
  obtain ⟨t, st, q⟩ := k (T.setVm vm') hT X1
  exact ⟨t, st1 t st, q⟩
theorem vx_newarrayZ {atype : ArrayType} (hexec : p.tables.exec = Jvm.exec) (hb : c.code = cc) {n : Int32} (h0 : n < 0) (hdg : decode cc pc = .ok (.newarray atype, 2)) (k : ∀ tx : String, tx = toString n → vx_Note p l e R s m args below meth c H locs cells slots Q (F0 m pc ls rest) "java/lang/NegativeArraySizeException" tx) : W p l e R s m args below meth c H locs cells slots Q (F0 m pc ls (.int n :: rest)) := by
  intro T hT X
  obtain ⟨t, st, q⟩ := k _ rfl T hT X
  exact ⟨t, X.newarrayNegative hexec (g := F0 m pc ls (.int n :: rest)) rfl h0 (rest := rest) rfl (by rw [hb]; exact hdg) t st, q⟩
end
end VXM
/-! ===== END ===== -/
/-! ===== BEGIN an exception as an object: made, kept, thrown later (no traces kept) ===== -/
section VXK
variable {p : Program} {l : Launch} {e : Env} {R : Room} {s : State} {m₀ : MethodId} {args : Array Value} {below : List Frame} {meth : Method} {c : Code} {W : State} {locs : List Loc} {cells slots : Nat}
set_option maxHeartbeats 1000000 in
theorem vx_ctorMadeS (X : Stand p l e R s m₀ args below meth c W locs cells slots) (hexec : p.tables.exec = Jvm.exec) (htr : e.platform.stackTraces = false) {own cls : String} {names : List String} {ic : Nat}
    (hown : s.vm.findClass own = some m₀.cls) (hcls : Bundle.fit cls = true) (hnames : ∀ n ∈ names, Bundle.fit n = true)
    (h : ∀ a ∈ Bundle.ownAtoms own ic cls names, a.before args s = true)
    (hlocs : ∀ x ∈ locs, ∀ cell, s.heap[x.base]? = some cell → cell.vm.isStatics = false)
    {a : Addr} {cX : ClassId} {kX : Class} (hfoundX : s.vm.findClass cls = some cX) (hkX : s.vm.classes[cX]? = some kX) (hcell : W.heap[a]? = some (freshCell cX kX)) (hnew : s.heap.size ≤ a)
    {msg : Value} (hmsg : msg.isRef = true)
    {g : JFrame} (hg : g.method = m₀) (hsize : g.locals.size = c.maxLocals) {rest : List Value} (hstack : g.stack = msg :: .ref a :: .ref a :: rest)
    (hd6 : decode c.code g.pc = .ok (.invokespecial ic, 3))
    (hRframes : names.length + 3 < R.frames) (hRlocals : 2 * g.monitorRoom + ((Value.ref a :: rest).map fun v => v.category).sum + (13 * (names.length + 1) + 42) ≤ R.locals) :
    ∃ (V : State) (ce : Cell) (L : List Loc), Stand p l e R s m₀ args below meth c (V.setCell a ce) (locs ++ L) cells slots ∧ (∀ y ∈ L, y.base = a) ∧ a < V.heap.size ∧ ce.cls = cX ∧ ce.vm = .none ∧
      ∀ target, Steps p.tables e below ((V.setCell a ce).setTop { g with stack := .ref a :: rest, pc := g.pc + 3 }) target → Steps p.tables e below (W.setTop g) target := by
  have howns : e.platform.frameOwnsMonitors = true := by rw [X.admits.platform]
  have hfin : e.platform.finalization = false := by rw [X.admits.platform]
  have hpl : e.platform.magicAccessors = ({} : Platform).magicAccessors := by rw [X.admits.platform]
  have a' : ∀ x, x ∈ Bundle.ownAtoms own ic cls names → x.holds args s none s [] = true := fun x hx => h x hx
  obtain ⟨T, Z0, L, -, Y⟩ := ThrowableC.of_atoms (args := args) howns hfin hpl (fun x hx => h x (by simp [Bundle.ownAtoms, hx]))
  obtain ⟨Z, M, LZ, LM, hnZ⟩ := Init0T.ofS_atoms (args := args) hpl L Y (fun x hx => h x (by simp [Bundle.ownAtoms, hx]))
  obtain ⟨P1, Ps, hlen, L1, hL, hP1m, hlink1, hlink⟩ := Bundle.chainS (args := args) hpl hnZ names cls hcls hnames (fun x hx => h x (by simp [Bundle.ownAtoms, hx]))
  have hfound : s.vm.findClass cls = some P1.m.cls := findClass_of_methodNamed hP1m
  cases Option.some.inj (hfoundX.symm.trans hfound)
  obtain ⟨c1, kX', hc1, hk, hord, -, -, hn6⟩ := Cond.instantiable_spec (a' (.instantiable cls 6) (by simp [Bundle.ownAtoms]))
  cases Option.some.inj (hc1.symm.trans hfound)
  cases Option.some.inj (hkX.symm.trans hk)
  have hsel0 : selectMethod e.platform s.vm P1.m.cls T.fill0 = .method T.fill0 := by
    obtain ⟨c2, r2, m2, q1, q2, q3, q4, -⟩ := Cond.selects_spec (a' (.selects cls Bundle.tFill0 Bundle.tFill0) (by simp [Bundle.ownAtoms]))
    cases Option.some.inj (q1.symm.trans hfound)
    cases Option.some.inj (q2.symm.trans (State.methodFound?_of_named Y.fill0 (by decide)))
    cases Option.some.inj (q3.symm.trans Y.fill0)
    rw [Launch.admits_selectMethod X.admits]; exact q4
  have hselF : selectMethod e.platform s.vm P1.m.cls T.fill = .method T.fill := by
    obtain ⟨c2, r2, m2, q1, q2, q3, q4, -⟩ := Cond.selects_spec (a' (.selects cls Bundle.tFill Bundle.tFill) (by simp [Bundle.ownAtoms]))
    cases Option.some.inj (q1.symm.trans hfound)
    cases Option.some.inj (q2.symm.trans (State.methodFound?_of_named Y.fill (by decide)))
    cases Option.some.inj (q3.symm.trans Y.fill)
    rw [Launch.admits_selectMethod X.admits]; exact q4
  obtain ⟨cellS0, hcS0, hiss⟩ := Y.statics
  obtain ⟨u0, hu0⟩ := Cond.staticRefV Y.unassigned L.unassignedStatic L.statics hcS0 hiss (a' (.isRef (.static Bundle.tN "UNASSIGNED_STACK" Bundle.steD)) (by simp [Bundle.ownAtoms]))
  obtain ⟨sen, hsen⟩ := Cond.staticRefV Y.sentinel L.sentinelStatic L.statics hcS0 hiss (a' (.isRef (.static Bundle.tN "SUPPRESSED_SENTINEL" Bundle.listD)) (by simp [Bundle.ownAtoms]))
  obtain ⟨ci198, i198, fB, hk198, hg198, ha198, hsB, -, hnB, htB, hffB⟩ := Cond.ownField (t := .object "java/lang/Object") Y.found L.cls (by decide +kernel) (a' (.fieldLink Bundle.tN 198 Bundle.tN "backtrace" "Ljava/lang/Object;") (by simp [Bundle.ownAtoms])) (a' (.lays Bundle.tN Bundle.tN "backtrace" "Ljava/lang/Object;") (by simp [Bundle.ownAtoms])) e.platform hpl
  obtain ⟨cellS, hcS', heS, -, hkeep⟩ := X.same.2.2.2.2.2 T.aS cellS0 hcS0
  have hcellS : W.heap[T.aS]? = some cellS := hcS'
  have hout' : ∀ i, (⟨T.aS, i⟩ : Loc) ∉ locs := fun i hmem => by
    have := hlocs _ hmem cellS0 hcS0
    rw [hiss] at this; cases this
  have hknownS : cellS.vm ≠ .unknown := by
    rw [heS]; intro hu
    rw [show cellS0.vm = .unknown from hu] at hiss
    cases hiss
  have hneS : T.aS ≠ a := Nat.ne_of_lt (Nat.lt_of_lt_of_le (Array.getElem?_eq_some_iff.mp hcS0).1 hnew)
  obtain ⟨iM, hffM⟩ := Y.msg
  obtain ⟨tyC, dC, hdC, hdnC⟩ := Cond.laysAt hfound hk Y.cause (a' (.lays cls Bundle.tN "cause" "Ljava/lang/Throwable;") (by simp [Bundle.ownAtoms]))
  obtain ⟨tyS, dS, hdS, hdnS⟩ := Cond.laysAt hfound hk Y.stack (a' (.lays cls Bundle.tN "stackTrace" Bundle.steD) (by simp [Bundle.ownAtoms]))
  obtain ⟨tyP, dP, hdP, hdnP⟩ := Cond.laysAt hfound hk Y.supp (a' (.lays cls Bundle.tN "suppressedExceptions" Bundle.listD) (by simp [Bundle.ownAtoms]))
  obtain ⟨tyM, dM, hdM, hdnM⟩ := Cond.laysAt hfound hk hffM (a' (.lays cls Bundle.tN "detailMessage" "Ljava/lang/String;") (by simp [Bundle.ownAtoms]))
  obtain ⟨tyB, dB, hdB, hdnB⟩ := Cond.laysAt hfound hk hffB (a' (.lays cls Bundle.tN "backtrace" "Ljava/lang/Object;") (by simp [Bundle.ownAtoms]))
  have bC := Cond.laysApart hdB hdC hdnB hdnC (by rw [hnB, Y.causeName]; decide)
  have bS := Cond.laysApart hdB hdS hdnB hdnS (by rw [hnB, Y.stackName]; decide)
  have bP := Cond.laysApart hdB hdP hdnB hdnP (by rw [hnB, Y.suppName]; decide)
  have hskip : SkipFacts T e.platform s (fun u => u) u0 ((preparedCellV T.toThrowableT (freshCell P1.m.cls kX) a u0 sen).withEntry W.cur) :=
    ⟨{ ci198 := ci198, i198 := i198, fBack := fB }, ⟨hk198, hg198, ha198, hsB⟩, by
      have := fresh_default (c := P1.m.cls) tyB
      rw [htB] at this
      simpa [preparedCellV, Cell.setSlot, Cell.withEntry, Array.getElem?_setIfInBounds, bC, bS, bP, bC.symm, bS.symm, bP.symm, defaultValue] using this, fun _ _ => rfl⟩
  obtain ⟨tm, methC, cdC, kC, vm₁, hnC, -, -, -, -, -, -, -, hW₁, st1⟩ := Steps.initColdS (tb := p.tables) (e := e) (below := below) (s := s) (U := W) X.here hexec X.warmed hpl hown (t := Bundle.initS cls) rfl rfl (Bundle.fit_spec hcls).2
    (a' (.methodLink own ic (Bundle.initS cls)) (by simp [Bundle.ownAtoms])) (h (.instanceMethod (Bundle.initS cls)) (by cases names <;> simp [Bundle.ownAtoms, Bundle.chainSAtoms, Bundle.passSAtoms])) (bytes := Bundle.six) (maxL := 2) (h (.code (Bundle.initS cls) Bundle.six 2 none) (by cases names <;> simp [Bundle.ownAtoms, Bundle.chainSAtoms, Bundle.passSAtoms]))
    (f := g) hg (a := a) (msg := msg) (rest := .ref a :: rest) hstack hd6
  cases Option.some.inj (hnC.symm.trans hP1m)
  have X₁ := X.noted hW₁
  obtain ⟨vm₂, X₂, st2⟩ := X₁.ctorMessageOffV hexec (g := { g with stack := .ref a :: rest }) hg hsize T L Z LZ M LM (P1 :: Ps)
    (fun P hP => by rcases List.mem_cons.mp hP with rfl | hP; exact L1; exact hL P hP) ⟨hlink1, hlink⟩ (u0 := u0) (sen := sen) (self := a) hmsg (cell := freshCell P1.m.cls kX) (cellS := cellS)
    hcell (fun _ => by simp) (by simp) rfl rfl hsel0 hselF hcellS hneS hknownS (by rw [hkeep _ (hout' _)]; exact hu0) (by rw [hkeep _ (hout' _)]; exact hsen)
    (Takes.of_laid hk hord tyC (by rw [Y.causeType]; rfl)) (Takes.of_laid hk hord tyS (by rw [Y.stackType]; exact fits_refV_array _ u0)) (Takes.of_laid hk hord tyP (by rw [Y.suppType]; exact fits_refV_object _ sen))
    (Takes.of_laid hk hord tyM (by rw [Y.msgType]; exact fits_refV_object _ ⟨msg, hmsg⟩)) Y.objLocals hskip htr [] hd6
    (by simp only [List.length_cons, hlen]; omega) (by simp only [List.length_cons, hlen]; exact hRlocals)
  have hlt : a < ((W.setVm vm₁).setVm vm₂).heap.size := (Array.getElem?_eq_some_iff.mp hcell).1
  refine ⟨(W.setVm vm₁).setVm vm₂, _, _, X₂, fun y hy => ?_, hlt, rfl, rfl, fun target hwalk => st1 _ (fun acts => ?_)⟩
  · simp only [List.mem_cons, List.not_mem_nil, or_false] at hy
    rcases hy with rfl | rfl | rfl | rfl | rfl <;> rfl
  · rw [doInvoke_state]
    exact st2 _ hwalk
set_option maxHeartbeats 1000000 in
theorem vx_ctorMade0 (X : Stand p l e R s m₀ args below meth c W locs cells slots) (hexec : p.tables.exec = Jvm.exec) (htr : e.platform.stackTraces = false) {own cls : String} {names : List String} {ic : Nat}
    (hown : s.vm.findClass own = some m₀.cls) (hcls : Bundle.fit cls = true) (hnames : ∀ n ∈ names, Bundle.fit n = true)
    (h : ∀ a ∈ Bundle.ownAtoms0 own ic cls names, a.before args s = true)
    (hlocs : ∀ x ∈ locs, ∀ cell, s.heap[x.base]? = some cell → cell.vm.isStatics = false)
    {a : Addr} {cX : ClassId} {kX : Class} (hfoundX : s.vm.findClass cls = some cX) (hkX : s.vm.classes[cX]? = some kX) (hcell : W.heap[a]? = some (freshCell cX kX)) (hnew : s.heap.size ≤ a)
    {g : JFrame} (hg : g.method = m₀) (hsize : g.locals.size = c.maxLocals) {rest : List Value} (hstack : g.stack = .ref a :: .ref a :: rest)
    (hd6 : decode c.code g.pc = .ok (.invokespecial ic, 3))
    (hRframes : names.length + 3 < R.frames) (hRlocals : 2 * g.monitorRoom + ((Value.ref a :: rest).map fun v => v.category).sum + (13 * (names.length + 1) + 41) ≤ R.locals) :
    ∃ (V : State) (ce : Cell) (L : List Loc), Stand p l e R s m₀ args below meth c (V.setCell a ce) (locs ++ L) cells slots ∧ (∀ y ∈ L, y.base = a) ∧ a < V.heap.size ∧ ce.cls = cX ∧ ce.vm = .none ∧
      ∀ target, Steps p.tables e below ((V.setCell a ce).setTop { g with stack := .ref a :: rest, pc := g.pc + 3 }) target → Steps p.tables e below (W.setTop g) target := by
  have howns : e.platform.frameOwnsMonitors = true := by rw [X.admits.platform]
  have hfin : e.platform.finalization = false := by rw [X.admits.platform]
  have hpl : e.platform.magicAccessors = ({} : Platform).magicAccessors := by rw [X.admits.platform]
  have a' : ∀ x, x ∈ Bundle.ownAtoms0 own ic cls names → x.holds args s none s [] = true := fun x hx => h x hx
  obtain ⟨T, Z, L, LZ, Y⟩ := ThrowableC.of_atoms (args := args) howns hfin hpl (fun x hx => h x (by simp [Bundle.ownAtoms0, hx]))
  obtain ⟨P1, Ps, hlen, L1, hL, hP1m, hlink1, hlink⟩ := Bundle.chain0 (args := args) hpl Y.init0 names cls hcls hnames (fun x hx => h x (by simp [Bundle.ownAtoms0, hx]))
  have hfound : s.vm.findClass cls = some P1.m.cls := findClass_of_methodNamed hP1m
  cases Option.some.inj (hfoundX.symm.trans hfound)
  obtain ⟨c1, kX', hc1, hk, hord, -, -, hn6⟩ := Cond.instantiable_spec (a' (.instantiable cls 6) (by simp [Bundle.ownAtoms0]))
  cases Option.some.inj (hc1.symm.trans hfound)
  cases Option.some.inj (hkX.symm.trans hk)
  have hsel0 : selectMethod e.platform s.vm P1.m.cls T.fill0 = .method T.fill0 := by
    obtain ⟨c2, r2, m2, q1, q2, q3, q4, -⟩ := Cond.selects_spec (a' (.selects cls Bundle.tFill0 Bundle.tFill0) (by simp [Bundle.ownAtoms0]))
    cases Option.some.inj (q1.symm.trans hfound)
    cases Option.some.inj (q2.symm.trans (State.methodFound?_of_named Y.fill0 (by decide)))
    cases Option.some.inj (q3.symm.trans Y.fill0)
    rw [Launch.admits_selectMethod X.admits]; exact q4
  have hselF : selectMethod e.platform s.vm P1.m.cls T.fill = .method T.fill := by
    obtain ⟨c2, r2, m2, q1, q2, q3, q4, -⟩ := Cond.selects_spec (a' (.selects cls Bundle.tFill Bundle.tFill) (by simp [Bundle.ownAtoms0]))
    cases Option.some.inj (q1.symm.trans hfound)
    cases Option.some.inj (q2.symm.trans (State.methodFound?_of_named Y.fill (by decide)))
    cases Option.some.inj (q3.symm.trans Y.fill)
    rw [Launch.admits_selectMethod X.admits]; exact q4
  obtain ⟨cellS0, hcS0, hiss⟩ := Y.statics
  obtain ⟨u0, hu0⟩ := Cond.staticRefV Y.unassigned L.unassignedStatic L.statics hcS0 hiss (a' (.isRef (.static Bundle.tN "UNASSIGNED_STACK" Bundle.steD)) (by simp [Bundle.ownAtoms0]))
  obtain ⟨sen, hsen⟩ := Cond.staticRefV Y.sentinel L.sentinelStatic L.statics hcS0 hiss (a' (.isRef (.static Bundle.tN "SUPPRESSED_SENTINEL" Bundle.listD)) (by simp [Bundle.ownAtoms0]))
  obtain ⟨ci198, i198, fB, hk198, hg198, ha198, hsB, -, hnB, htB, hffB⟩ := Cond.ownField (t := .object "java/lang/Object") Y.found L.cls (by decide +kernel) (a' (.fieldLink Bundle.tN 198 Bundle.tN "backtrace" "Ljava/lang/Object;") (by simp [Bundle.ownAtoms0])) (a' (.lays Bundle.tN Bundle.tN "backtrace" "Ljava/lang/Object;") (by simp [Bundle.ownAtoms0])) e.platform hpl
  obtain ⟨cellS, hcS', heS, -, hkeep⟩ := X.same.2.2.2.2.2 T.aS cellS0 hcS0
  have hcellS : W.heap[T.aS]? = some cellS := hcS'
  have hout' : ∀ i, (⟨T.aS, i⟩ : Loc) ∉ locs := fun i hmem => by
    have := hlocs _ hmem cellS0 hcS0
    rw [hiss] at this; cases this
  have hknownS : cellS.vm ≠ .unknown := by
    rw [heS]; intro hu
    rw [show cellS0.vm = .unknown from hu] at hiss
    cases hiss
  have hneS : T.aS ≠ a := Nat.ne_of_lt (Nat.lt_of_lt_of_le (Array.getElem?_eq_some_iff.mp hcS0).1 hnew)
  obtain ⟨iM, hffM⟩ := Y.msg
  obtain ⟨tyC, dC, hdC, hdnC⟩ := Cond.laysAt hfound hk Y.cause (a' (.lays cls Bundle.tN "cause" "Ljava/lang/Throwable;") (by simp [Bundle.ownAtoms0]))
  obtain ⟨tyS, dS, hdS, hdnS⟩ := Cond.laysAt hfound hk Y.stack (a' (.lays cls Bundle.tN "stackTrace" Bundle.steD) (by simp [Bundle.ownAtoms0]))
  obtain ⟨tyP, dP, hdP, hdnP⟩ := Cond.laysAt hfound hk Y.supp (a' (.lays cls Bundle.tN "suppressedExceptions" Bundle.listD) (by simp [Bundle.ownAtoms0]))
  obtain ⟨tyM, dM, hdM, hdnM⟩ := Cond.laysAt hfound hk hffM (a' (.lays cls Bundle.tN "detailMessage" "Ljava/lang/String;") (by simp [Bundle.ownAtoms0]))
  obtain ⟨tyB, dB, hdB, hdnB⟩ := Cond.laysAt hfound hk hffB (a' (.lays cls Bundle.tN "backtrace" "Ljava/lang/Object;") (by simp [Bundle.ownAtoms0]))
  have bC := Cond.laysApart hdB hdC hdnB hdnC (by rw [hnB, Y.causeName]; decide)
  have bS := Cond.laysApart hdB hdS hdnB hdnS (by rw [hnB, Y.stackName]; decide)
  have bP := Cond.laysApart hdB hdP hdnB hdnP (by rw [hnB, Y.suppName]; decide)
  have hskip : SkipFacts T e.platform s (fun u => u) u0 ((preparedCellV T.toThrowableT (freshCell P1.m.cls kX) a u0 sen).withEntry W.cur) :=
    ⟨{ ci198 := ci198, i198 := i198, fBack := fB }, ⟨hk198, hg198, ha198, hsB⟩, by
      have := fresh_default (c := P1.m.cls) tyB
      rw [htB] at this
      simpa [preparedCellV, Cell.setSlot, Cell.withEntry, Array.getElem?_setIfInBounds, bC, bS, bP, bC.symm, bS.symm, bP.symm, defaultValue] using this, fun _ _ => rfl⟩
  obtain ⟨tm, methC, cdC, kC, vm₁, hnC, -, -, -, -, -, -, -, hW₁, st1⟩ := Steps.initCold (tb := p.tables) (e := e) (below := below) (s := s) (U := W) X.here hexec X.warmed hpl hown (t := Bundle.init0 cls) rfl rfl (Bundle.fit_spec hcls).2
    (a' (.methodLink own ic (Bundle.init0 cls)) (by simp [Bundle.ownAtoms0])) (h (.instanceMethod (Bundle.init0 cls)) (by cases names <;> simp [Bundle.ownAtoms0, Bundle.chain0Atoms, Bundle.passAtoms])) (bytes := Bundle.five) (maxL := 1) (h (.code (Bundle.init0 cls) Bundle.five 1 none) (by cases names <;> simp [Bundle.ownAtoms0, Bundle.chain0Atoms, Bundle.passAtoms]))
    (f := g) hg (a := a) (rest := .ref a :: rest) hstack hd6
  cases Option.some.inj (hnC.symm.trans hP1m)
  have X₁ := X.noted hW₁
  obtain ⟨vm₂, X₂, st2⟩ := X₁.ctorPlainOffV hexec (g := { g with stack := .ref a :: rest }) hg hsize T L Z LZ (P1 :: Ps)
    (fun P hP => by rcases List.mem_cons.mp hP with rfl | hP; exact L1; exact hL P hP) ⟨hlink1, hlink⟩ (u0 := u0) (sen := sen) (self := a) (cell := freshCell P1.m.cls kX) (cellS := cellS)
    hcell (fun _ => by simp) (by simp) rfl rfl hsel0 hselF hcellS hneS hknownS (by rw [hkeep _ (hout' _)]; exact hu0) (by rw [hkeep _ (hout' _)]; exact hsen)
    (Takes.of_laid hk hord tyC (by rw [Y.causeType]; rfl)) (Takes.of_laid hk hord tyS (by rw [Y.stackType]; exact fits_refV_array _ u0)) (Takes.of_laid hk hord tyP (by rw [Y.suppType]; exact fits_refV_object _ sen)) Y.objLocals hskip htr [] hd6
    (by simp only [List.length_cons, hlen]; omega) (by simp only [List.length_cons, hlen]; exact hRlocals)
  have hlt : a < ((W.setVm vm₁).setVm vm₂).heap.size := (Array.getElem?_eq_some_iff.mp hcell).1
  refine ⟨(W.setVm vm₁).setVm vm₂, _, _, X₂, fun y hy => ?_, hlt, rfl, rfl, fun target hwalk => st1 _ (fun acts => ?_)⟩
  · simp only [List.mem_cons, List.not_mem_nil, or_false] at hy
    rcases hy with rfl | rfl | rfl | rfl <;> rfl
  · rw [doInvoke_state]
    exact st2 _ hwalk
end VXK
section VXK2
variable {p : Program} {l : Launch} {e : Env} {R : Room} {s : State} {m : MethodId} {args : Array Value} {below : List Frame} {meth : Method} {c : Code} {H : Heap} {locs : List Loc} {cells slots : Nat} {Q : State → Prop}
variable {ls : Array Slot} {rest : List Value} {D : va_G} {cl : List vw_C} {tys : List (ClassId × FieldType)} {ws : va_W}
/-- 'new E("text")' that isn't thrown at once: the object goes on the stack -/
theorem vx_makeS {cc : ByteArray} {pc : Nat} (hexec : p.tables.exec = Jvm.exec) (hb : c.code = cc) (hl : l.stackTraces = false) {own cls text : String} {names : List String} {ik is ic sa ci : Nat} {A : Nat → Prop} {T0 : u_T}
    (hown : s.vm.findClass own = some m.cls) (hcls : Bundle.fit cls = true) (hnames : ∀ n ∈ names, Bundle.fit n = true)
    (hk : (Cond.classLink own ik cls).before args s = true) (hini : (Cond.initialized cls).before args s = true) (hstr : vk_R own is text sa s) (hat : ∀ w ∈ vx_atS own ic cls names, w.before args s = true)
    (hgood : ∀ w ∈ Cond.classLink own ik cls :: Cond.initialized cls :: vx_atS own ic cls names, vx_ot w = true)
    (hU : vx_Zq Bundle.tN "UNASSIGNED_STACK" Bundle.steD A s s.heap) (hN : vx_Zq Bundle.tN "SUPPRESSED_SENTINEL" Bundle.listD A s s.heap) (hS : va_S A s.heap H locs) (hsize : ls.size = c.maxLocals)
    (d0 : decode cc pc = .ok (.new ik, 3)) (d3 : decode cc (pc + 3) = .ok (.dup, 1)) (d4 : decode cc (pc + 4) = .ok (.ldc is, 2)) (d6 : decode cc (pc + 6) = .ok (.invokespecial ic, 3))
    (hK : va_K D cl tys s) (hP : va_P D cl ws H) (hD : va_D A ws) (hA : ∀ q, s.heap.size ≤ q → A q) (hc : cl[ci]? = some (cls, T0, 0))
    (hRframes : names.length + 3 < R.frames) (hRlocals : (rest.map fun v => v.category).sum + (13 * (names.length + 1) + 43) ≤ R.locals) (hRcells : cells + 1 ≤ R.cells) (hRslots : slots + 6 ≤ R.slots)
    (kk : ∀ (q : Nat) (H1 : Heap), va_P D cl (ws ++ [(q, .inr (ci, []))]) H1 → va_D A (ws ++ [(q, .inr (ci, []))]) → va_S A s.heap H1 locs → W p l e R s m args below meth c H1 locs (cells + 1) (slots + 6) Q (F0 m (pc + 9) ls (.ref q :: rest))) :
    W p l e R s m args below meth c H locs cells slots Q (F0 m pc ls rest) := by
  intro T hT X
  subst hT
  have htr : e.platform.stackTraces = false := (show e.platform.stackTraces = l.stackTraces by rw [X.admits.platform]).trans hl
  have Y := vx_rebase X (R' := { frames := R.frames, locals := R.locals, cells := 1, slots := 6 }) (Nat.le_refl _) (Nat.le_refl _) hRcells hRslots
  obtain ⟨s', hA'⟩ : ∃ z, z = (T.setVm s.vm).setFrames (.invoking m args :: below) := ⟨_, rfl⟩
  rw [← hA'] at Y
  have hvm : s'.vm = s.vm := by rw [hA']; rfl
  have hhp : s'.heap = T.heap := by rw [hA']; rfl
  have hW0 : s.WarmedH s'.vm := by rw [hvm]; exact State.WarmedH.refl s
  have hat' : ∀ w ∈ vx_atS own ic cls names, w.before args s' = true := fun w hw => vx_ot_at hW0 hvm.symm (hgood w (List.mem_cons_of_mem _ (List.mem_cons_of_mem _ hw))) (hat w hw)
  have hk' : (Cond.classLink own ik cls).before args s' = true := vx_ot_at hW0 hvm.symm (hgood _ List.mem_cons_self) hk
  have hini' : (Cond.initialized cls).before args s' = true := vx_ot_at hW0 hvm.symm (hgood _ (List.mem_cons_of_mem _ List.mem_cons_self)) hini
  have hU' : vx_Zq Bundle.tN "UNASSIGNED_STACK" Bundle.steD A s' s'.heap := by rw [hhp]; exact vx_Zq.moved hW0.alike (hU.kept hS.2.1)
  have hN' : vx_Zq Bundle.tN "SUPPRESSED_SENTINEL" Bundle.listD A s' s'.heap := by rw [hhp]; exact vx_Zq.moved hW0.alike (hN.kept hS.2.1)
  have h : ∀ w ∈ Bundle.ownAtoms own ic cls names, w.before args s' = true := vx_own hat' (vx_isRefq hU'.1) (vx_isRefq hN'.1) hU'.2.word hN'.2.word
  have hown' : s'.vm.findClass own = some m.cls := by rw [hvm]; exact hown
  have hins : (Cond.instantiable cls 6).before args s' = true := h _ (by simp [Bundle.ownAtoms])
  obtain ⟨vm₁, cX, kX, hfX, hkX, -, -, X₁, st1⟩ := Y.newCold hexec (own := own) (C := cls) (index := ik) (n := 6) hown' hk' hins hini'
    (g := F0 m pc ls rest) rfl (by rw [hb]; exact d0) (Nat.le_refl _) (Nat.le_refl _)
  generalize hT1 : (T.setVm vm₁).pushCell { cls := cX, slots := kX.instanceTypes.map defaultValue, vm := .none } = T1 at X₁ st1
  have hcat : (Value.ref T.heap.size).category = 1 := rfl
  have hcellA : T1.heap[T.heap.size]? = some (freshCell cX kX) := by rw [← hT1]; exact State.heap_pushCell_size _ _
  have d3' : decode c.code (pc + 3) = .ok (.dup, 1) := by rw [hb]; exact d3
  have d4' : decode c.code (pc + 4) = .ok (.ldc is, 2) := by rw [hb]; exact d4
  have hstr' : vk_R own is text sa s' := vk_R.warm hW0 hstr
  obtain ⟨V, ce, L, Z, hL, hlt, hcl9, hvm9, st⟩ := vx_ctorMadeS X₁ hexec htr (own := own) (cls := cls) (names := names) (ic := ic) hown' hcls hnames h (fun x hx => nomatch hx) hfX hkX hcellA (by rw [hhp]; exact Nat.le_refl _) (msg := .ref sa) rfl
    (g := { method := m, pc := pc + 6, locals := ls, stack := .ref sa :: .ref T.heap.size :: .ref T.heap.size :: rest, locked := none }) rfl hsize (rest := rest) rfl
    (by rw [hb]; exact d6) hRframes (by simp only [List.map_cons, List.sum_cons, hcat]; omega)
  have Z0 := Stand.forget (locs := []) Z (fun y hy => by rw [hL y hy, hhp]; exact Nat.le_refl _)
  obtain ⟨f1, f2⟩ := vx_frame Z0.same
  rw [hhp] at f1 f2
  have hcid : ce.cls = D.1 ci := by
    rw [hcl9]
    have h1 := (hK.1 ci _ hc).2.1
    rw [hvm] at hfX
    exact Option.some.inj (hfX.symm.trans h1)
  have hh : (V.setCell T.heap.size ce).heap[T.heap.size]? = some ce := heapAt_setCell_self (s := V) ce hlt
  subst hA'
  have X5 := vx_back9 X Y Z0
  have X6 : Stand p l e R s m args below meth c (V.setCell T.heap.size ce) locs (cells + 1) (slots + 6) := { X5 with same := X5.same.mono (by omega) (by omega) }
  have hk9 : ∀ (k : Nat) (x : Nat × va_E), ws[k]? = some x → (V.setCell T.heap.size ce).heap[x.1]? = T.heap[x.1]? := fun k x hx => f2 x.1 ((hP k x hx).lt) (fun z hz => nomatch hz)
  obtain ⟨t, a1, b1⟩ := kk T.heap.size (V.setCell T.heap.size ce).heap ((hP.kept hk9).app (fun k x hx => by
      have hz : k < 1 := (List.getElem?_eq_some_iff.mp hx).1
      rw [show k = 0 by omega] at hx
      cases hx
      exact ⟨_, hc, ce, hh, hcid, hvm9, fun k hk => absurd hk (Nat.not_lt_zero k)⟩)) (hD.push hP rfl (hA _ hS.1)) ⟨Nat.le_trans hS.1 f1, fun q h1 h2 => (f2 q (Nat.lt_of_lt_of_le h1 hS.1) (fun z hz => nomatch hz)).trans (hS.2.1 q h1 h2), hS.2.2⟩ _ rfl X6
  refine ⟨t, st1 _ ?_, b1⟩
  show Steps p.tables e below (T1.setTop { method := m, pc := pc + 3, locals := ls, stack := .ref T.heap.size :: rest, locked := none }) _
  jvm_step X₁.here [X₁.here.top, hexec, d3', Value.category]
  exact X₁.ldcString hexec (own := own) (text := text) (index := is) (a := sa) hown' hstr'.1 hstr'.2
    (g := { method := m, pc := pc + 4, locals := ls, stack := .ref T.heap.size :: .ref T.heap.size :: rest, locked := none }) rfl d4' _ (st _ a1)
/-- 'new E()' that isn't thrown at once: the object goes on the stack -/
theorem vx_make0 {cc : ByteArray} {pc : Nat} (hexec : p.tables.exec = Jvm.exec) (hb : c.code = cc) (hl : l.stackTraces = false) {own cls : String} {names : List String} {ik ic ci : Nat} {A : Nat → Prop} {T0 : u_T}
    (hown : s.vm.findClass own = some m.cls) (hcls : Bundle.fit cls = true) (hnames : ∀ n ∈ names, Bundle.fit n = true)
    (hk : (Cond.classLink own ik cls).before args s = true) (hini : (Cond.initialized cls).before args s = true) (hat : ∀ w ∈ vx_at0 own ic cls names, w.before args s = true)
    (hgood : ∀ w ∈ Cond.classLink own ik cls :: Cond.initialized cls :: vx_at0 own ic cls names, vx_ot w = true)
    (hU : vx_Zq Bundle.tN "UNASSIGNED_STACK" Bundle.steD A s s.heap) (hN : vx_Zq Bundle.tN "SUPPRESSED_SENTINEL" Bundle.listD A s s.heap) (hS : va_S A s.heap H locs) (hsize : ls.size = c.maxLocals)
    (d0 : decode cc pc = .ok (.new ik, 3)) (d3 : decode cc (pc + 3) = .ok (.dup, 1)) (d4 : decode cc (pc + 4) = .ok (.invokespecial ic, 3))
    (hK : va_K D cl tys s) (hP : va_P D cl ws H) (hD : va_D A ws) (hA : ∀ q, s.heap.size ≤ q → A q) (hc : cl[ci]? = some (cls, T0, 0))
    (hRframes : names.length + 3 < R.frames) (hRlocals : (rest.map fun v => v.category).sum + (13 * (names.length + 1) + 42) ≤ R.locals) (hRcells : cells + 1 ≤ R.cells) (hRslots : slots + 6 ≤ R.slots)
    (kk : ∀ (q : Nat) (H1 : Heap), va_P D cl (ws ++ [(q, .inr (ci, []))]) H1 → va_D A (ws ++ [(q, .inr (ci, []))]) → va_S A s.heap H1 locs → W p l e R s m args below meth c H1 locs (cells + 1) (slots + 6) Q (F0 m (pc + 7) ls (.ref q :: rest))) :
    W p l e R s m args below meth c H locs cells slots Q (F0 m pc ls rest) := by
  intro T hT X
  subst hT
  have htr : e.platform.stackTraces = false := (show e.platform.stackTraces = l.stackTraces by rw [X.admits.platform]).trans hl
  have Y := vx_rebase X (R' := { frames := R.frames, locals := R.locals, cells := 1, slots := 6 }) (Nat.le_refl _) (Nat.le_refl _) hRcells hRslots
  obtain ⟨s', hA'⟩ : ∃ z, z = (T.setVm s.vm).setFrames (.invoking m args :: below) := ⟨_, rfl⟩
  rw [← hA'] at Y
  have hvm : s'.vm = s.vm := by rw [hA']; rfl
  have hhp : s'.heap = T.heap := by rw [hA']; rfl
  have hW0 : s.WarmedH s'.vm := by rw [hvm]; exact State.WarmedH.refl s
  have hat' : ∀ w ∈ vx_at0 own ic cls names, w.before args s' = true := fun w hw => vx_ot_at hW0 hvm.symm (hgood w (List.mem_cons_of_mem _ (List.mem_cons_of_mem _ hw))) (hat w hw)
  have hk' : (Cond.classLink own ik cls).before args s' = true := vx_ot_at hW0 hvm.symm (hgood _ List.mem_cons_self) hk
  have hini' : (Cond.initialized cls).before args s' = true := vx_ot_at hW0 hvm.symm (hgood _ (List.mem_cons_of_mem _ List.mem_cons_self)) hini
  have hU' : vx_Zq Bundle.tN "UNASSIGNED_STACK" Bundle.steD A s' s'.heap := by rw [hhp]; exact vx_Zq.moved hW0.alike (hU.kept hS.2.1)
  have hN' : vx_Zq Bundle.tN "SUPPRESSED_SENTINEL" Bundle.listD A s' s'.heap := by rw [hhp]; exact vx_Zq.moved hW0.alike (hN.kept hS.2.1)
  have h : ∀ w ∈ Bundle.ownAtoms0 own ic cls names, w.before args s' = true := vx_own hat' (vx_isRefq hU'.1) (vx_isRefq hN'.1) hU'.2.word hN'.2.word
  have hown' : s'.vm.findClass own = some m.cls := by rw [hvm]; exact hown
  have hins : (Cond.instantiable cls 6).before args s' = true := h _ (by simp [Bundle.ownAtoms0])
  obtain ⟨vm₁, cX, kX, hfX, hkX, -, -, X₁, st1⟩ := Y.newCold hexec (own := own) (C := cls) (index := ik) (n := 6) hown' hk' hins hini'
    (g := F0 m pc ls rest) rfl (by rw [hb]; exact d0) (Nat.le_refl _) (Nat.le_refl _)
  generalize hT1 : (T.setVm vm₁).pushCell { cls := cX, slots := kX.instanceTypes.map defaultValue, vm := .none } = T1 at X₁ st1
  have hcat : (Value.ref T.heap.size).category = 1 := rfl
  have hcellA : T1.heap[T.heap.size]? = some (freshCell cX kX) := by rw [← hT1]; exact State.heap_pushCell_size _ _
  have d3' : decode c.code (pc + 3) = .ok (.dup, 1) := by rw [hb]; exact d3
  obtain ⟨V, ce, L, Z, hL, hlt, hcl9, hvm9, st⟩ := vx_ctorMade0 X₁ hexec htr (own := own) (cls := cls) (names := names) (ic := ic) hown' hcls hnames h (fun x hx => nomatch hx) hfX hkX hcellA (by rw [hhp]; exact Nat.le_refl _)
    (g := { method := m, pc := pc + 4, locals := ls, stack := .ref T.heap.size :: .ref T.heap.size :: rest, locked := none }) rfl hsize (rest := rest) rfl
    (by rw [hb]; exact d4) hRframes (by simp only [List.map_cons, List.sum_cons, hcat]; omega)
  have Z0 := Stand.forget (locs := []) Z (fun y hy => by rw [hL y hy, hhp]; exact Nat.le_refl _)
  obtain ⟨f1, f2⟩ := vx_frame Z0.same
  rw [hhp] at f1 f2
  have hcid : ce.cls = D.1 ci := by
    rw [hcl9]
    have h1 := (hK.1 ci _ hc).2.1
    rw [hvm] at hfX
    exact Option.some.inj (hfX.symm.trans h1)
  have hh : (V.setCell T.heap.size ce).heap[T.heap.size]? = some ce := heapAt_setCell_self (s := V) ce hlt
  subst hA'
  have X5 := vx_back9 X Y Z0
  have X6 : Stand p l e R s m args below meth c (V.setCell T.heap.size ce) locs (cells + 1) (slots + 6) := { X5 with same := X5.same.mono (by omega) (by omega) }
  have hk9 : ∀ (k : Nat) (x : Nat × va_E), ws[k]? = some x → (V.setCell T.heap.size ce).heap[x.1]? = T.heap[x.1]? := fun k x hx => f2 x.1 ((hP k x hx).lt) (fun z hz => nomatch hz)
  obtain ⟨t, a1, b1⟩ := kk T.heap.size (V.setCell T.heap.size ce).heap ((hP.kept hk9).app (fun k x hx => by
      have hz : k < 1 := (List.getElem?_eq_some_iff.mp hx).1
      rw [show k = 0 by omega] at hx
      cases hx
      exact ⟨_, hc, ce, hh, hcid, hvm9, fun k hk => absurd hk (Nat.not_lt_zero k)⟩)) (hD.push hP rfl (hA _ hS.1)) ⟨Nat.le_trans hS.1 f1, fun q h1 h2 => (f2 q (Nat.lt_of_lt_of_le h1 hS.1) (fun z hz => nomatch hz)).trans (hS.2.1 q h1 h2), hS.2.2⟩ _ rfl X6
  refine ⟨t, st1 _ ?_, b1⟩
  show Steps p.tables e below (T1.setTop { method := m, pc := pc + 3, locals := ls, stack := .ref T.heap.size :: rest, locked := none }) _
  jvm_step X₁.here [X₁.here.top, hexec, d3', Value.category]
  exact st _ a1
/-- 'throw x' of an object that was made before -/
theorem vx_athrow {cc : ByteArray} {pc : Nat} (hexec : p.tables.exec = Jvm.exec) (hb : c.code = cc) {q : Addr} (hdg : decode cc pc = .ok (.athrow, 1)) (k : vx_W p l e R s m args below meth c H locs cells slots Q (F0 m pc ls rest) q) : W p l e R s m args below meth c H locs cells slots Q (F0 m pc ls (.ref q :: rest)) := by
  intro T hT X
  obtain ⟨t, st, hq⟩ := k T hT X
  refine ⟨t, ?_, hq⟩
  have hdg' : decode c.code pc = .ok (.athrow, 1) := by rw [hb]; exact hdg
  jvm_step X.here [X.here.top, hexec, hdg', athrow.wp_sem]
  exact st
end VXK2
/-! ===== END ===== -/
/-! ===== BEGIN a constructor that throws (launches without stack traces) ===== -/
section VXIA
variable {p : Program} {l : Launch} {e : Env} {R : Room} {s : State} {m : MethodId} {args : Array Value} {below : List Frame} {meth : Method} {c : Code} {T : State} {locs : List Loc} {cells slots : Nat}
theorem vx_callI (X : Stand p l e R s m args below meth c T locs cells slots) (hexec : p.tables.exec = Jvm.exec) {own : String} {index : Nat} {y : MethodName} {bytes : ByteArray} {maxL : Nat}
    (hown : s.vm.findClass own = some m.cls) (hy1 : y.name = "<init>") (hlink : (Cond.methodLink own index y).before args s = true) (hinst : (Cond.instanceMethod y).before args s = true)
    (hcode : (Cond.code y bytes maxL none).before args s = true) (hy : y.cls ≠ "java/lang/invoke/MethodHandle" ∧ y.cls ≠ "java/lang/invoke/VarHandle")
    {W9 : Nat} {Pre : Pt → Array Value → Prop} {Post : Pt → Array Value → Option Value → Pt → Prop} {PostX : Pt → Array Value → Addr → Pt → Prop} (hK : vx_Back l R p e below s args y 3 W9 Pre Post PostX)
    {g : JFrame} (hg : g.method = m) (hsize : g.locals.size = c.maxLocals) {a : Addr} {argsL rest : List Value} (hlen : ∀ sig, parseMethodDescriptor y.desc = some sig → argsL.length = sig.parameters.length)
    (hstack : g.stack = argsL.reverse ++ .ref a :: rest) (hW : 2 * g.monitorRoom + (rest.map fun v => v.category).sum ≤ W9) (hdg : decode c.code g.pc = .ok (.invokespecial index, 3))
    (hpre : ∀ vm₁, s.WarmedH vm₁ → Pre ⟨T.setVm vm₁, locs, cells, slots⟩ (Value.ref a :: argsL).toArray) :
    (∃ (v : Option Value) (vm₁ : Vm) (B : Pt), s.WarmedH vm₁ ∧ Stand p l e R s m args below meth c B.U B.locs B.cells B.slots ∧ Post ⟨T.setVm vm₁, locs, cells, slots⟩ (Value.ref a :: argsL).toArray v B ∧
      ∀ target, Steps p.tables e below (B.U.setTop { g with pc := g.pc + 3, stack := v.toList ++ rest }) target → Steps p.tables e below (T.setTop g) target) ∨
    (∃ (q : Addr) (vm₁ : Vm) (B : Pt), s.WarmedH vm₁ ∧ Stand p l e R s m args below meth c B.U B.locs B.cells B.slots ∧ PostX ⟨T.setVm vm₁, locs, cells, slots⟩ (Value.ref a :: argsL).toArray q B ∧
      Steps p.tables e below (T.setTop g) ((B.U.setTop { g with stack := rest }).pushFrame (.throwing q))) := by
  subst hg
  have hpl : e.platform.magicAccessors = ({} : Platform).magicAccessors := by rw [X.admits.platform]
  obtain ⟨mk, methM, cM, kP, vm₁, hnamed, hmethM, hcodeM, -, hlocalsM, -, hkP, -, hW₁, hstep₁⟩ := Steps.initColdArgs (e := e) X.here hexec X.warmed hpl hown hy1 hy hlink hinst hcode (f := g) rfl hlen hstack hdg
  have X₁ := X.noted hW₁
  rcases hK g.method meth c ⟨T.setVm vm₁, locs, cells, slots⟩ { g with stack := rest } (.invokespecial index) mk (Value.ref a :: argsL).toArray X₁ rfl hsize hdg hW (X₁.named hnamed) (hpre vm₁ X₁.warmed) with ⟨v, B, X', hpost, hsteps⟩ | ⟨q, B, X', hpost, hsteps⟩
  · exact Or.inl ⟨v, vm₁, B, X₁.warmed, X', hpost, fun target h => hstep₁ _ fun acts => by rw [doInvoke_state]; exact hsteps.trans h⟩
  · exact Or.inr ⟨q, vm₁, B, X₁.warmed, X', hpost, hstep₁ _ fun acts => by rw [doInvoke_state]; exact hsteps⟩
end VXIA
section VXIB
variable {p : Program} {l : Launch} {e : Env} {R : Room} {s : State} {m : MethodId} {args : Array Value} {below : List Frame} {meth : Method} {c : Code} {H : Heap} {locs : List Loc} {cells slots : Nat}
variable {y : MethodName} {bytes cc : ByteArray} {maxL nL mc ms n index : Nat} {ret : Option FieldType} {ws : List Cond} {rm : Room} {Pc : Array Value → State → Prop} {Qc : Array Value → State → Outcome → State → Prop} {XC : String → State → State → Prop} {free : Addr → Prop} {Ts : List Cond} {own C : String} {b : Addr} {As rest : List Value} {g : JFrame}
theorem vx_runI (S : CallFix p m c cc nL s args Ts own) (hM : vx_Met l y ws rm Pc Qc XC mc ms free) (cw : CallB R s args own index y bytes maxL none ws rm mc ms n ∧ y.name = "<init>" ∧ (Cond.instanceMethod y).before args s = true) (hp : PreS s H Pc (.ref b :: As))
    (hg : g.method = m) (hn : As.length = n) (hsize : g.locals.size = nL) (hstack : g.stack = As.reverse ++ .ref b :: rest) (hW : 2 * g.monitorRoom + (rest.map fun v => v.category).sum ≤ 8) (hdg : decode cc g.pc = .ok (.invokespecial index, 3)) (hf : cells + mc ≤ R.cells ∧ slots + ms ≤ R.slots) :
    vx_Run p l e R s m args below meth c H locs cells slots mc ms g rest (Qc (Value.ref b :: As).toArray) XC free := by
  have hK : vx_Back l R p e below s args y 3 8 (PreOf R mc ms Pc) (PostOf Qc mc ms free) (vx_Post XC mc ms free) := vx_callBack cw.1 hM hp.1
  obtain ⟨⟨-, -, -, -, -, -, hcode, -, hy, hlen, hl⟩, hy1, hin⟩ := cw
  obtain ⟨hx, hb, hml, ho, -⟩ := S
  have hPc := hp.2
  intro T hT X
  rcases vx_callI X hx (bytes := bytes) (maxL := maxL) ho hy1 hl hin hcode hy hK hg (hsize.trans hml.symm) (a := b) (argsL := As) (rest := rest) (fun sig h => hn.trans (hlen sig h)) hstack hW (by rw [hb]; exact hdg)
    (fun vm₁ hW₁ => ⟨hf.1, hf.2, hPc (T.setVm vm₁) hT hW₁⟩) with ⟨v, vm₁, ⟨U', l2, c2, s2⟩, hW₁, X', ⟨g', mk, t, L, e1, e2, hq, h1, hL, h2, h3⟩, st⟩ | ⟨q, vm₁, ⟨U', l2, c2, s2⟩, hW₁, X', ⟨g', mk, t, L, E, ce, e1, e2, hq, hce, hcv, hcl, h1, hL, h2, h3⟩, st⟩
  · dsimp only [Pt.U, Pt.locs, Pt.cells, Pt.slots] at X' e1 e2 h1 h2 h3 st
    subst h1; subst h2; subst h3
    exact Or.inl ⟨v, (T.setVm vm₁).calling g' mk (Value.ref b :: As).toArray, t, U', L, hT, X', hL, e1, e2, hq, st⟩
  · dsimp only [Pt.U, Pt.locs, Pt.cells, Pt.slots] at X' e1 e2 h1 h2 h3 st hcl
    subst h1; subst h2; subst h3
    exact Or.inr ⟨q, (T.setVm vm₁).calling g' mk (Value.ref b :: As).toArray, t, U', L, E, ce, hT, X', hL, e1, e2, hq, hce, hcv, vx_cls hW₁ hcl, st⟩
end VXIB
/-! ===== END ===== -/
/-! ===== BEGIN a private constructor of a nest mate that throws ===== -/
section VXIC
variable {p : Program} {l : Launch} {e : Env} {R : Room} {s : State} {m : MethodId} {args : Array Value} {below : List Frame} {meth : Method} {c : Code} {T : State} {locs : List Loc} {cells slots : Nat}
theorem vx_callIN (X : Stand p l e R s m args below meth c T locs cells slots) (hexec : p.tables.exec = Jvm.exec) {own : String} {index : Nat} {host : String} {y : MethodName} {bytes : ByteArray} {maxL : Nat}
    (hown : s.vm.findClass own = some m.cls) (hy1 : y.name = "<init>") (hlink : (Cond.methodLinkNest own index y host).before args s = true) (hinst : (Cond.instanceMethod y).before args s = true)
    (hcode : (Cond.code y bytes maxL none).before args s = true) (hy : y.cls ≠ "java/lang/invoke/MethodHandle" ∧ y.cls ≠ "java/lang/invoke/VarHandle")
    {W9 : Nat} {Pre : Pt → Array Value → Prop} {Post : Pt → Array Value → Option Value → Pt → Prop} {PostX : Pt → Array Value → Addr → Pt → Prop} (hK : vx_Back l R p e below s args y 3 W9 Pre Post PostX)
    {g : JFrame} (hg : g.method = m) (hsize : g.locals.size = c.maxLocals) {a : Addr} {argsL rest : List Value} (hlen : ∀ sig, parseMethodDescriptor y.desc = some sig → argsL.length = sig.parameters.length)
    (hstack : g.stack = argsL.reverse ++ .ref a :: rest) (hW : 2 * g.monitorRoom + (rest.map fun v => v.category).sum ≤ W9) (hdg : decode c.code g.pc = .ok (.invokespecial index, 3))
    (hpre : ∀ vm₁, s.WarmedH vm₁ → Pre ⟨T.setVm vm₁, locs, cells, slots⟩ (Value.ref a :: argsL).toArray) :
    (∃ (v : Option Value) (vm₁ : Vm) (B : Pt), s.WarmedH vm₁ ∧ Stand p l e R s m args below meth c B.U B.locs B.cells B.slots ∧ Post ⟨T.setVm vm₁, locs, cells, slots⟩ (Value.ref a :: argsL).toArray v B ∧
      ∀ target, Steps p.tables e below (B.U.setTop { g with pc := g.pc + 3, stack := v.toList ++ rest }) target → Steps p.tables e below (T.setTop g) target) ∨
    (∃ (q : Addr) (vm₁ : Vm) (B : Pt), s.WarmedH vm₁ ∧ Stand p l e R s m args below meth c B.U B.locs B.cells B.slots ∧ PostX ⟨T.setVm vm₁, locs, cells, slots⟩ (Value.ref a :: argsL).toArray q B ∧
      Steps p.tables e below (T.setTop g) ((B.U.setTop { g with stack := rest }).pushFrame (.throwing q))) := by
  subst hg
  have hpl : e.platform.magicAccessors = ({} : Platform).magicAccessors := by rw [X.admits.platform]
  obtain ⟨mk, methM, cM, kP, vm₁, hnamed, hmethM, hcodeM, -, hlocalsM, -, hkP, -, hW₁, hstep₁⟩ := Steps.initColdArgsNest (e := e) X.here hexec X.warmed hpl hown hy1 hy hlink hinst hcode (f := g) rfl hlen hstack hdg
  have X₁ := X.noted hW₁
  rcases hK g.method meth c ⟨T.setVm vm₁, locs, cells, slots⟩ { g with stack := rest } (.invokespecial index) mk (Value.ref a :: argsL).toArray X₁ rfl hsize hdg hW (X₁.named hnamed) (hpre vm₁ X₁.warmed) with ⟨v, B, X', hpost, hsteps⟩ | ⟨q, B, X', hpost, hsteps⟩
  · exact Or.inl ⟨v, vm₁, B, X₁.warmed, X', hpost, fun target h => hstep₁ _ fun acts => by rw [doInvoke_state]; exact hsteps.trans h⟩
  · exact Or.inr ⟨q, vm₁, B, X₁.warmed, X', hpost, hstep₁ _ fun acts => by rw [doInvoke_state]; exact hsteps⟩
end VXIC
section VXID
variable {p : Program} {l : Launch} {e : Env} {R : Room} {s : State} {m : MethodId} {args : Array Value} {below : List Frame} {meth : Method} {c : Code} {H : Heap} {locs : List Loc} {cells slots : Nat}
theorem vx_runIN {y : MethodName} {bytes cc : ByteArray} {maxL nL mc ms n index : Nat} {ws : List Cond} {rm : Room} {Pc : Array Value → State → Prop} {Qc : Array Value → State → Outcome → State → Prop} {XC : String → State → State → Prop} {free : Addr → Prop} {Ts : List Cond} {own host : String} {b : Addr} {As rest : List Value} {g : JFrame}
    (S : CallFix p m c cc nL s args Ts own) (hM : vx_Met l y ws rm Pc Qc XC mc ms free) (cw : va_CN R s args own index y host bytes maxL none ws rm mc ms n ∧ y.name = "<init>" ∧ (Cond.instanceMethod y).before args s = true) (hp : PreS s H Pc (.ref b :: As))
    (hg : g.method = m) (hn : As.length = n) (hsize : g.locals.size = nL) (hstack : g.stack = As.reverse ++ .ref b :: rest) (hW : 2 * g.monitorRoom + (rest.map fun v => v.category).sum ≤ 8) (hdg : decode cc g.pc = .ok (.invokespecial index, 3)) (hf : cells + mc ≤ R.cells ∧ slots + ms ≤ R.slots) :
    vx_Run p l e R s m args below meth c H locs cells slots mc ms g rest (Qc (Value.ref b :: As).toArray) XC free := by
  obtain ⟨⟨⟨hrc, hrs, hfr, hlo, hws, hcw⟩, hcode, hini, hy, hlen, hl⟩, hx1, hx2⟩ := cw
  have hK : vx_Back l R p e below s args y 3 8 (PreOf R mc ms Pc) (PostOf Qc mc ms free) (vx_Post XC mc ms free) := vx_back (bytes := bytes) (maxL := maxL) (ret := none) hM hp.1 hrc hrs hfr hlo hws hcw (fun a' U hW => word_at hW (Or.inl (by first | rfl | simp [Cond.onTables, Cond.keeps, Cond.steady])) hini)
  obtain ⟨hx, hb, hml, ho, -⟩ := S
  have hPc := hp.2
  intro T hT X
  rcases vx_callIN X hx (bytes := bytes) (maxL := maxL) ho hx1 hl hx2 hcode hy hK hg (hsize.trans hml.symm) (a := b) (argsL := As) (rest := rest) (fun sig h => hn.trans (hlen sig h)) hstack hW (by rw [hb]; exact hdg)
    (fun vm₁ hW₁ => ⟨hf.1, hf.2, hPc (T.setVm vm₁) hT hW₁⟩) with ⟨v, vm₁, ⟨U', l2, c2, s2⟩, hW₁, X', ⟨g', mk, t, L, e1, e2, hq, h1, hL, h2, h3⟩, st⟩ | ⟨q, vm₁, ⟨U', l2, c2, s2⟩, hW₁, X', ⟨g', mk, t, L, E, ce, e1, e2, hq, hce, hcv, hcl, h1, hL, h2, h3⟩, st⟩
  · dsimp only [Pt.U, Pt.locs, Pt.cells, Pt.slots] at X' e1 e2 h1 h2 h3 st
    subst h1; subst h2; subst h3
    exact Or.inl ⟨v, (T.setVm vm₁).calling g' mk (Value.ref b :: As).toArray, t, U', L, hT, X', hL, e1, e2, hq, st⟩
  · dsimp only [Pt.U, Pt.locs, Pt.cells, Pt.slots] at X' e1 e2 h1 h2 h3 st hcl
    subst h1; subst h2; subst h3
    exact Or.inr ⟨q, (T.setVm vm₁).calling g' mk (Value.ref b :: As).toArray, t, U', L, E, ce, hT, X', hL, e1, e2, hq, hce, hcv, vx_cls hW₁ hcl, st⟩
end VXID
/-! ===== END ===== -/
/-! ===== BEGIN a method of a class above, found by the receiver, that may throw (follows va_callVU, va_runU of this kit) ===== -/
section
variable {p : Program} {l : Launch} {e : Env} {R : Room} {s : State} {m : MethodId} {args : Array Value} {below : List Frame} {meth : Method} {c : Code} {H : Heap} {locs : List Loc} {cells slots : Nat}
theorem vx_callVU {T : State} {locs : List Loc} {cells slots : Nat} (X : Stand p l e R s m args below meth c T locs cells slots) (hexec : p.tables.exec = Jvm.exec) {own C owner : String} {index : Nat} {x y : MethodName} {bytes : ByteArray} {maxL : Nat} {ret : Option FieldType}
    (hown : s.vm.findClass own = some m.cls) (hlink : (Cond.methodLink own index x).before args s = true) (hsame : (Cond.sameMethod x.cls owner x.name x.desc).before args s = true)
    (hd0 : va_Decl s ⟨owner, x.name, x.desc⟩) (howner : owner ≠ "java/lang/invoke/MethodHandle" ∧ owner ≠ "java/lang/invoke/VarHandle")
    (hsel : (Cond.selects C x y).before args s = true) (hinst : (Cond.instanceMethod y).before args s = true) (hcode : (Cond.code y bytes maxL ret).before args s = true)
    {W : Nat} {Pre : Pt → Array Value → Prop} {Post : Pt → Array Value → Option Value → Pt → Prop} {PostX : Pt → Array Value → Addr → Pt → Prop} (hK : vx_Back l R p e below s args y 3 W Pre Post PostX)
    {b : Addr} {cellB : Cell} (hcell : T.heap[b]? = some cellB) (hobj : cellB.vm.isStatics = false) (hcls : s.vm.findClass C = some cellB.cls)
    {g : JFrame} (hg : g.method = m) (hsize : g.locals.size = c.maxLocals) {argsL rest : List Value} (hlen : ∀ sig, parseMethodDescriptor x.desc = some sig → argsL.length = sig.parameters.length)
    (hstack : g.stack = argsL.reverse ++ .ref b :: rest) (hW : 2 * g.monitorRoom + (rest.map fun v => v.category).sum ≤ W) (hdg : decode c.code g.pc = .ok (.invokevirtual index, 3))
    (hpre : ∀ vm₁, s.WarmedH vm₁ → Pre ⟨T.setVm vm₁, locs, cells, slots⟩ (Value.ref b :: argsL).toArray) :
    (∃ (v : Option Value) (vm₁ : Vm) (B : Pt), s.WarmedH vm₁ ∧ Stand p l e R s m args below meth c B.U B.locs B.cells B.slots ∧ Post ⟨T.setVm vm₁, locs, cells, slots⟩ (Value.ref b :: argsL).toArray v B ∧
      ∀ target, Steps p.tables e below (B.U.setTop { g with pc := g.pc + 3, stack := v.toList ++ rest }) target → Steps p.tables e below (T.setTop g) target) ∨
    (∃ (q : Addr) (vm₁ : Vm) (B : Pt), s.WarmedH vm₁ ∧ Stand p l e R s m args below meth c B.U B.locs B.cells B.slots ∧ PostX ⟨T.setVm vm₁, locs, cells, slots⟩ (Value.ref b :: argsL).toArray q B ∧
      Steps p.tables e below (T.setTop g) ((B.U.setTop { g with stack := rest }).pushFrame (.throwing q))) := by
  obtain ⟨r0, r, hn, hrm, hstR, hsigR⟩ := hd0
  obtain ⟨cn, ck, r1, hcn, hck, hni, hf, hn1⟩ := Cond.sameMethod_found hsame
  cases hn.symm.trans hn1
  obtain ⟨mk, methM, hnamed, hmethM, -, habM⟩ := Cond.instanceMethod_spec hinst
  obtain ⟨c2, r2, m2, q1, q2, q3, q4, kP, hkP, hkPi⟩ := Cond.selects_spec hsel
  cases hcls.symm.trans q1
  cases hf.symm.trans q2
  cases hnamed.symm.trans q3
  have hselP : selectMethod e.platform s.vm cellB.cls r0 = .method mk := by rw [Launch.admits_selectMethod X.admits]; exact q4
  obtain ⟨vm₁, X₁, hstep₁⟩ := X.invokevirtualUp hexec hown hlink hsame howner hn hrm hstR (a := b) (cell := cellB) hcell
    (fun z h => by rw [h] at hobj; cases hobj) hselP hmethM habM hkP hkPi (g := g) hg (argsL := argsL) (rest := rest) (hlen _ hsigR) hstack hdg
  rcases hK m meth c ⟨T.setVm vm₁, locs, cells, slots⟩ { g with stack := rest } (.invokevirtual index) mk (Value.ref b :: argsL).toArray X₁ hg hsize hdg hW (X₁.named hnamed) (hpre vm₁ X₁.warmed) with ⟨v, B, X', hpost, hsteps⟩ | ⟨q, B, X', hpost, hsteps⟩
  · exact Or.inl ⟨v, vm₁, B, X₁.warmed, X', hpost, fun target h => hstep₁ _ fun acts => by rw [doInvoke_state]; exact hsteps.trans h⟩
  · exact Or.inr ⟨q, vm₁, B, X₁.warmed, X', hpost, hstep₁ _ fun acts => by rw [doInvoke_state]; exact hsteps⟩
theorem vx_runU {x y : MethodName} {bytes cc : ByteArray} {maxL nL mc ms n index : Nat} {ret : Option FieldType} {ws : List Cond} {rm : Room} {Pc : Array Value → State → Prop} {Qc : Array Value → State → Outcome → State → Prop} {XC : String → State → State → Prop} {free : Addr → Prop} {Ts : List Cond} {own C owner : String} {b : Addr} {As rest : List Value} {g : JFrame}
    (S : CallFix p m c cc nL s args Ts own) (hM : vx_Met l y ws rm Pc Qc XC mc ms free) (cw : va_CU R s args own C owner index x y bytes maxL ret ws rm mc ms n) (hp : PreV s H C b Pc As)
    (hg : g.method = m) (hn : As.length = n) (hsize : g.locals.size = nL) (hstack : g.stack = As.reverse ++ .ref b :: rest) (hW : 2 * g.monitorRoom + (rest.map fun v => v.category).sum ≤ 8) (hdg : decode cc g.pc = .ok (.invokevirtual index, 3)) (hf : cells + mc ≤ R.cells ∧ slots + ms ≤ R.slots) :
    vx_Run p l e R s m args below meth c H locs cells slots mc ms g rest (Qc (Value.ref b :: As).toArray) XC free := by
  obtain ⟨hrc, hrs, hfr, hlo, hws, hcw⟩ := cw.back
  have hini := cw.init
  have hK : vx_Back l R p e below s args y 3 8 (PreOf R mc ms Pc) (PostOf Qc mc ms free) (vx_Post XC mc ms free) := vx_back (bytes := bytes) (maxL := maxL) (ret := ret) hM hp.1 hrc hrs hfr hlo hws hcw (fun a' U hW => word_at hW (Or.inl (by first | rfl | simp [Cond.onTables, Cond.keeps, Cond.steady])) hini)
  obtain ⟨hx, hb, hml, ho, -⟩ := S
  obtain ⟨-, ⟨cellB, hcB, hoB, hclB⟩, hPc⟩ := hp
  intro T hT X
  rcases vx_callVU X hx (C := C) (owner := owner) (bytes := bytes) (maxL := maxL) (ret := ret) ho cw.link cw.same cw.decl cw.notMH cw.sel cw.inst cw.code hK (by rw [hT]; exact hcB) hoB hclB hg (hsize.trans hml.symm) (argsL := As) (rest := rest) (fun sig h => hn.trans (cw.len sig h)) hstack hW (by rw [hb]; exact hdg)
    (fun vm₁ hW₁ => ⟨hf.1, hf.2, hPc (T.setVm vm₁) hT hW₁⟩) with ⟨v, vm₁, ⟨U', l2, c2, s2⟩, hW₁, X', ⟨g', mk, t, L, e1, e2, hq, h1, hL, h2, h3⟩, st⟩ | ⟨q, vm₁, ⟨U', l2, c2, s2⟩, hW₁, X', ⟨g', mk, t, L, E, ce, e1, e2, hq, hce, hcv, hcl, h1, hL, h2, h3⟩, st⟩
  · dsimp only [Pt.U, Pt.locs, Pt.cells, Pt.slots] at X' e1 e2 h1 h2 h3 st
    subst h1; subst h2; subst h3
    exact Or.inl ⟨v, (T.setVm vm₁).calling g' mk (Value.ref b :: As).toArray, t, U', L, hT, X', hL, e1, e2, hq, st⟩
  · dsimp only [Pt.U, Pt.locs, Pt.cells, Pt.slots] at X' e1 e2 h1 h2 h3 st hcl
    subst h1; subst h2; subst h3
    exact Or.inr ⟨q, (T.setVm vm₁).calling g' mk (Value.ref b :: As).toArray, t, U', L, E, ce, hT, X', hL, e1, e2, hq, hce, hcv, vx_cls hW₁ hcl, st⟩
end
/-! ===== END ===== -/
/-! ===== BEGIN super.m(..) that may throw (follows va_callSU, va_runSU) ===== -/
section
variable {p : Program} {l : Launch} {e : Env} {R : Room} {s : State} {m : MethodId} {args : Array Value} {below : List Frame} {meth : Method} {c : Code} {H : Heap} {locs : List Loc} {cells slots : Nat}
theorem vx_callSU {T : State} {locs : List Loc} {cells slots : Nat} (X : Stand p l e R s m args below meth c T locs cells slots) (hexec : p.tables.exec = Jvm.exec) {own : String} {index : Nat} {y : MethodName} {bytes : ByteArray} {maxL : Nat} {ret : Option FieldType}
    (hown : s.vm.findClass own = some m.cls) (hlink : (Cond.methodLink own index y).before args s = true) (hsame : (Cond.sameMethod y.cls y.cls y.name y.desc).before args s = true) (hsup : (Cond.superclass own y.cls).before args s = true)
    (hinst : (Cond.instanceMethod y).before args s = true) (hcode : (Cond.code y bytes maxL ret).before args s = true) (hno : y.name ≠ "<init>")
    {W : Nat} {Pre : Pt → Array Value → Prop} {Post : Pt → Array Value → Option Value → Pt → Prop} {PostX : Pt → Array Value → Addr → Pt → Prop} (hK : vx_Back l R p e below s args y 3 W Pre Post PostX)
    {b : Addr} {cellB : Cell} {kB : Class} (hcell : T.heap[b]? = some cellB) (hobj : cellB.vm.isStatics = false) (hkB : s.vm.classes[cellB.cls]? = some kB)
    {g : JFrame} (hg : g.method = m) (hsize : g.locals.size = c.maxLocals) {argsL rest : List Value} (hlen : ∀ sig, parseMethodDescriptor y.desc = some sig → argsL.length = sig.parameters.length)
    (hstack : g.stack = argsL.reverse ++ .ref b :: rest) (hW : 2 * g.monitorRoom + (rest.map fun v => v.category).sum ≤ W) (hdg : decode c.code g.pc = .ok (.invokespecial index, 3))
    (hpre : ∀ vm₁, s.WarmedH vm₁ → Pre ⟨T.setVm vm₁, locs, cells, slots⟩ (Value.ref b :: argsL).toArray) :
    (∃ (v : Option Value) (vm₁ : Vm) (B : Pt), s.WarmedH vm₁ ∧ Stand p l e R s m args below meth c B.U B.locs B.cells B.slots ∧ Post ⟨T.setVm vm₁, locs, cells, slots⟩ (Value.ref b :: argsL).toArray v B ∧
      ∀ target, Steps p.tables e below (B.U.setTop { g with pc := g.pc + 3, stack := v.toList ++ rest }) target → Steps p.tables e below (T.setTop g) target) ∨
    (∃ (q : Addr) (vm₁ : Vm) (B : Pt), s.WarmedH vm₁ ∧ Stand p l e R s m args below meth c B.U B.locs B.cells B.slots ∧ PostX ⟨T.setVm vm₁, locs, cells, slots⟩ (Value.ref b :: argsL).toArray q B ∧
      Steps p.tables e below (T.setTop g) ((B.U.setTop { g with stack := rest }).pushFrame (.throwing q))) := by
  obtain ⟨mk, methM, hnamed, hmethM, hstM, habM⟩ := Cond.instanceMethod_spec hinst
  obtain ⟨methM', cM, hmethM', -, -, -, -, -, -, hsigM⟩ := Cond.code_spec hnamed hcode
  cases hmethM.symm.trans hmethM'
  obtain ⟨ps, dk, kp, hps, hdk, hkp, hsuper, -, -, hnid⟩ := Cond.superclass_spec hown hsup
  have hn : s.methodNamed? ⟨y.cls, y.name, y.desc⟩ = some mk := hnamed
  have hpm : ps = mk.cls := Option.some.inj (hps.symm.trans (findClass_of_methodNamed hnamed))
  have hsub : s.vm.isSubclass ps mk.cls = true := by rw [hpm]; simp [Vm.isSubclass, Vm.isSubclassAux]
  obtain ⟨vm₁, X₁, hstep₁⟩ := X.invokespecialUp hexec hown hlink hsame hn hmethM hstM habM hno hdk hnid hps hsuper hsub (a := b) (cell := cellB) hcell
    (fun z h => by rw [h] at hobj; cases hobj) hkB (g := g) hg (argsL := argsL) (rest := rest) (hlen _ hsigM) hstack hdg
  rcases hK m meth c ⟨T.setVm vm₁, locs, cells, slots⟩ { g with stack := rest } (.invokespecial index) mk (Value.ref b :: argsL).toArray X₁ hg hsize hdg hW (X₁.named hnamed) (hpre vm₁ X₁.warmed) with ⟨v, B, X', hpost, hsteps⟩ | ⟨q, B, X', hpost, hsteps⟩
  · exact Or.inl ⟨v, vm₁, B, X₁.warmed, X', hpost, fun target h => hstep₁ _ (by rw [doInvoke_state]; exact hsteps.trans h)⟩
  · exact Or.inr ⟨q, vm₁, B, X₁.warmed, X', hpost, hstep₁ _ (by rw [doInvoke_state]; exact hsteps)⟩
theorem vx_runSU {y : MethodName} {bytes cc : ByteArray} {maxL nL mc ms n index : Nat} {ret : Option FieldType} {ws : List Cond} {rm : Room} {Pc : Array Value → State → Prop} {Qc : Array Value → State → Outcome → State → Prop} {XC : String → State → State → Prop} {free : Addr → Prop} {Ts : List Cond} {own C : String} {cC : ClassId} {b : Addr} {As rest : List Value} {g : JFrame}
    (hat : ClassAt s C cC) (S : CallFix p m c cc nL s args Ts own) (hM : vx_Met l y ws rm Pc Qc XC mc ms free) (cw : va_CS R s args own index y bytes maxL ret ws rm mc ms n) (hp : PreV s H C b Pc As)
    (hg : g.method = m) (hn : As.length = n) (hsize : g.locals.size = nL) (hstack : g.stack = As.reverse ++ .ref b :: rest) (hW : 2 * g.monitorRoom + (rest.map fun v => v.category).sum ≤ 8) (hdg : decode cc g.pc = .ok (.invokespecial index, 3)) (hf : cells + mc ≤ R.cells ∧ slots + ms ≤ R.slots) :
    vx_Run p l e R s m args below meth c H locs cells slots mc ms g rest (Qc (Value.ref b :: As).toArray) XC free := by
  obtain ⟨⟨hrc, hrs, hfr, hlo, hws, hcw⟩, hl1, hl2, hl3, hl4, hini, hcode, hno, hlen⟩ := cw
  have hK : vx_Back l R p e below s args y 3 8 (PreOf R mc ms Pc) (PostOf Qc mc ms free) (vx_Post XC mc ms free) := vx_back (bytes := bytes) (maxL := maxL) (ret := ret) hM hp.1 hrc hrs hfr hlo hws hcw (fun a' U hW => word_at hW (Or.inl (by first | rfl | simp [Cond.onTables, Cond.keeps, Cond.steady])) hini)
  obtain ⟨hx, hb, hml, ho, -⟩ := S
  obtain ⟨-, ⟨cellB, hcB, hoB, hclB⟩, hPc⟩ := hp
  obtain ⟨hfc, kB, hkB, -⟩ := hat
  cases hfc.symm.trans hclB
  intro T hT X
  rcases vx_callSU X hx (bytes := bytes) (maxL := maxL) (ret := ret) ho hl1 hl2 hl3 hl4 hcode hno hK (by rw [hT]; exact hcB) hoB hkB hg (hsize.trans hml.symm) (argsL := As) (rest := rest) (fun sig h => hn.trans (hlen sig h)) hstack hW (by rw [hb]; exact hdg)
    (fun vm₁ hW₁ => ⟨hf.1, hf.2, hPc (T.setVm vm₁) hT hW₁⟩) with ⟨v, vm₁, ⟨U', l2, c2, s2⟩, hW₁, X', ⟨g', mk, t, L, e1, e2, hq, h1, hL, h2, h3⟩, st⟩ | ⟨q, vm₁, ⟨U', l2, c2, s2⟩, hW₁, X', ⟨g', mk, t, L, E, ce, e1, e2, hq, hce, hcv, hcl, h1, hL, h2, h3⟩, st⟩
  · dsimp only [Pt.U, Pt.locs, Pt.cells, Pt.slots] at X' e1 e2 h1 h2 h3 st
    subst h1; subst h2; subst h3
    exact Or.inl ⟨v, (T.setVm vm₁).calling g' mk (Value.ref b :: As).toArray, t, U', L, hT, X', hL, e1, e2, hq, st⟩
  · dsimp only [Pt.U, Pt.locs, Pt.cells, Pt.slots] at X' e1 e2 h1 h2 h3 st hcl
    subst h1; subst h2; subst h3
    exact Or.inr ⟨q, (T.setVm vm₁).calling g' mk (Value.ref b :: As).toArray, t, U', L, E, ce, hT, X', hL, e1, e2, hq, hce, hcv, vx_cls hW₁ hcl, st⟩
end
/-! ===== END ===== -/
/-! ===== BEGIN a private method of a nest mate that may throw (follows va_callVN, va_callSN, va_runVN, va_runSN) ===== -/
section
variable {p : Program} {l : Launch} {e : Env} {R : Room} {s : State} {m : MethodId} {args : Array Value} {below : List Frame} {meth : Method} {c : Code} {H : Heap} {locs : List Loc} {cells slots : Nat}
variable {T : State}
theorem vx_callVN (X : Stand p l e R s m args below meth c T locs cells slots) (hexec : p.tables.exec = Jvm.exec) {own C : String} {index : Nat} {host : String} {y : MethodName} {bytes : ByteArray} {maxL : Nat} {ret : Option FieldType}
    (hown : s.vm.findClass own = some m.cls) (hlink : (Cond.methodLinkNest own index y host).before args s = true) (hinst : (Cond.instanceMethod y).before args s = true) (hsel : (Cond.selects C y y).before args s = true)
    (hcode : (Cond.code y bytes maxL ret).before args s = true) (hy : y.cls ≠ "java/lang/invoke/MethodHandle" ∧ y.cls ≠ "java/lang/invoke/VarHandle")
    {W : Nat} {Pre : Pt → Array Value → Prop} {Post : Pt → Array Value → Option Value → Pt → Prop} {PostX : Pt → Array Value → Addr → Pt → Prop} (hK : vx_Back l R p e below s args y 3 W Pre Post PostX)
    {b : Addr} {cellB : Cell} (hcell : T.heap[b]? = some cellB) (hobj : cellB.vm.isStatics = false) (hcls : s.vm.findClass C = some cellB.cls)
    {g : JFrame} (hg : g.method = m) (hsize : g.locals.size = c.maxLocals) {argsL rest : List Value} (hlen : ∀ sig, parseMethodDescriptor y.desc = some sig → argsL.length = sig.parameters.length)
    (hstack : g.stack = argsL.reverse ++ .ref b :: rest) (hW : 2 * g.monitorRoom + (rest.map fun v => v.category).sum ≤ W) (hdg : decode c.code g.pc = .ok (.invokevirtual index, 3))
    (hpre : ∀ vm₁, s.WarmedH vm₁ → Pre ⟨T.setVm vm₁, locs, cells, slots⟩ (Value.ref b :: argsL).toArray) :
    (∃ (v : Option Value) (vm₁ : Vm) (B : Pt), s.WarmedH vm₁ ∧ Stand p l e R s m args below meth c B.U B.locs B.cells B.slots ∧ Post ⟨T.setVm vm₁, locs, cells, slots⟩ (Value.ref b :: argsL).toArray v B ∧
      ∀ target, Steps p.tables e below (B.U.setTop { g with pc := g.pc + 3, stack := v.toList ++ rest }) target → Steps p.tables e below (T.setTop g) target) ∨
    (∃ (q : Addr) (vm₁ : Vm) (B : Pt), s.WarmedH vm₁ ∧ Stand p l e R s m args below meth c B.U B.locs B.cells B.slots ∧ PostX ⟨T.setVm vm₁, locs, cells, slots⟩ (Value.ref b :: argsL).toArray q B ∧
      Steps p.tables e below (T.setTop g) ((B.U.setTop { g with stack := rest }).pushFrame (.throwing q))) := by
  obtain ⟨mk, methM, hnamed, hmethM, hstM, habM⟩ := Cond.instanceMethod_spec hinst
  obtain ⟨methM', cM, hmethM', -, -, -, -, -, -, hsigM⟩ := Cond.code_spec hnamed hcode
  cases hmethM.symm.trans hmethM'
  obtain ⟨c2, r2, m2, q1, q2, q3, q4, kP, hkP, hkPi⟩ := Cond.selects_spec hsel
  cases hcls.symm.trans q1
  cases (State.methodFound?_of_named hnamed hy).symm.trans q2
  cases hnamed.symm.trans q3
  have hselP : selectMethod e.platform s.vm cellB.cls mk = .method mk := by rw [Launch.admits_selectMethod X.admits]; exact q4
  obtain ⟨vm₁, X₁, hstep₁⟩ := X.invokevirtualNest hexec hown hlink hnamed hmethM hstM hkP hkPi hy (a := b) (cell := cellB) hcell
    (fun z h => by rw [h] at hobj; cases hobj) hselP hmethM habM hkP hkPi (g := g) hg (argsL := argsL) (rest := rest) (hlen _ hsigM) hstack hdg
  rcases hK m meth c ⟨T.setVm vm₁, locs, cells, slots⟩ { g with stack := rest } (.invokevirtual index) mk (Value.ref b :: argsL).toArray X₁ hg hsize hdg hW (X₁.named hnamed) (hpre vm₁ X₁.warmed) with ⟨v, B, X', hpost, hsteps⟩ | ⟨q, B, X', hpost, hsteps⟩
  · exact Or.inl ⟨v, vm₁, B, X₁.warmed, X', hpost, fun target h => hstep₁ _ fun acts => by rw [doInvoke_state]; exact hsteps.trans h⟩
  · exact Or.inr ⟨q, vm₁, B, X₁.warmed, X', hpost, hstep₁ _ fun acts => by rw [doInvoke_state]; exact hsteps⟩
theorem vx_callSN (X : Stand p l e R s m args below meth c T locs cells slots) (hexec : p.tables.exec = Jvm.exec) {own : String} {index : Nat} {host : String} {y : MethodName} {bytes : ByteArray} {maxL : Nat} {ret : Option FieldType}
    (hown : s.vm.findClass own = some m.cls) (hlink : (Cond.methodLinkNest own index y host).before args s = true) (hstat : (Cond.static y).before args s = true) (hinit : (Cond.initialized y.cls).before args s = true)
    (hcode : (Cond.code y bytes maxL ret).before args s = true) (hy : y.cls ≠ "java/lang/invoke/MethodHandle" ∧ y.cls ≠ "java/lang/invoke/VarHandle")
    {W : Nat} {Pre : Pt → Array Value → Prop} {Post : Pt → Array Value → Option Value → Pt → Prop} {PostX : Pt → Array Value → Addr → Pt → Prop} (hK : vx_Back l R p e below s args y 3 W Pre Post PostX)
    {g : JFrame} (hg : g.method = m) (hsize : g.locals.size = c.maxLocals) {argsL rest : List Value} (hlen : ∀ sig, parseMethodDescriptor y.desc = some sig → argsL.length = sig.parameters.length)
    (hstack : g.stack = argsL.reverse ++ rest) (hW : 2 * g.monitorRoom + (rest.map fun v => v.category).sum ≤ W) (hdg : decode c.code g.pc = .ok (.invokestatic index, 3))
    (hpre : ∀ vm₁, s.WarmedH vm₁ → Pre ⟨T.setVm vm₁, locs, cells, slots⟩ argsL.toArray) :
    (∃ (v : Option Value) (vm₁ : Vm) (B : Pt), s.WarmedH vm₁ ∧ Stand p l e R s m args below meth c B.U B.locs B.cells B.slots ∧ Post ⟨T.setVm vm₁, locs, cells, slots⟩ argsL.toArray v B ∧
      ∀ target, Steps p.tables e below (B.U.setTop { g with pc := g.pc + 3, stack := v.toList ++ rest }) target → Steps p.tables e below (T.setTop g) target) ∨
    (∃ (q : Addr) (vm₁ : Vm) (B : Pt), s.WarmedH vm₁ ∧ Stand p l e R s m args below meth c B.U B.locs B.cells B.slots ∧ PostX ⟨T.setVm vm₁, locs, cells, slots⟩ argsL.toArray q B ∧
      Steps p.tables e below (T.setTop g) ((B.U.setTop { g with stack := rest }).pushFrame (.throwing q))) := by
  obtain ⟨mk, hnamed⟩ := Cond.code_named hcode
  obtain ⟨methM, cM, hmethM, -, -, -, -, -, -, hsigM⟩ := Cond.code_spec hnamed hcode
  have hstatic : methM.isStatic = true := Cond.static_spec hnamed hmethM hstat
  obtain ⟨kP, hkP, -⟩ := className_of_methodNamed hnamed
  have hinitP : kP.init = .initialized := Cond.initialized_spec (findClass_of_methodNamed hnamed) hkP hinit
  obtain ⟨vm₁, X₁, hstep₁⟩ := X.invokestaticNest hexec hown hlink hnamed hmethM hstatic hkP hinitP hy (g := g) hg (argsL := argsL) (rest := rest) (hlen _ hsigM) hstack hdg
  rcases hK m meth c ⟨T.setVm vm₁, locs, cells, slots⟩ { g with stack := rest } (.invokestatic index) mk argsL.toArray X₁ hg hsize hdg hW (X₁.named hnamed) (hpre vm₁ X₁.warmed) with ⟨v, B, X', hpost, hsteps⟩ | ⟨q, B, X', hpost, hsteps⟩
  · exact Or.inl ⟨v, vm₁, B, X₁.warmed, X', hpost, fun target h => hstep₁ _ fun acts => by rw [doInvoke_state]; exact hsteps.trans h⟩
  · exact Or.inr ⟨q, vm₁, B, X₁.warmed, X', hpost, hstep₁ _ fun acts => by rw [doInvoke_state]; exact hsteps⟩
theorem vx_runVN {y : MethodName} {bytes cc : ByteArray} {maxL nL mc ms n index : Nat} {ret : Option FieldType} {ws : List Cond} {rm : Room} {Pc : Array Value → State → Prop} {Qc : Array Value → State → Outcome → State → Prop} {XC : String → State → State → Prop} {free : Addr → Prop} {Ts : List Cond} {own C host : String} {b : Addr} {As rest : List Value} {g : JFrame}
    (S : CallFix p m c cc nL s args Ts own) (hM : vx_Met l y ws rm Pc Qc XC mc ms free) (cw : va_CN R s args own index y host bytes maxL ret ws rm mc ms n ∧ (Cond.instanceMethod y).before args s = true ∧ (Cond.selects C y y).before args s = true) (hp : PreV s H C b Pc As)
    (hg : g.method = m) (hn : As.length = n) (hsize : g.locals.size = nL) (hstack : g.stack = As.reverse ++ .ref b :: rest) (hW : 2 * g.monitorRoom + (rest.map fun v => v.category).sum ≤ 8) (hdg : decode cc g.pc = .ok (.invokevirtual index, 3)) (hf : cells + mc ≤ R.cells ∧ slots + ms ≤ R.slots) :
    vx_Run p l e R s m args below meth c H locs cells slots mc ms g rest (Qc (Value.ref b :: As).toArray) XC free := by
  obtain ⟨⟨⟨hrc, hrs, hfr, hlo, hws, hcw⟩, hcode, hini, hy, hlen, hl⟩, hx1, hx2⟩ := cw
  have hK : vx_Back l R p e below s args y 3 8 (PreOf R mc ms Pc) (PostOf Qc mc ms free) (vx_Post XC mc ms free) := vx_back (bytes := bytes) (maxL := maxL) (ret := ret) hM hp.1 hrc hrs hfr hlo hws hcw (fun a' U hW => word_at hW (Or.inl (by first | rfl | simp [Cond.onTables, Cond.keeps, Cond.steady])) hini)
  obtain ⟨hx, hb, hml, ho, -⟩ := S
  obtain ⟨-, ⟨cellB, hcB, hoB, hclB⟩, hPc⟩ := hp
  intro T hT X
  rcases vx_callVN X hx (C := C) (bytes := bytes) (maxL := maxL) (ret := ret) ho hl hx1 hx2 hcode hy hK (by rw [hT]; exact hcB) hoB hclB hg (hsize.trans hml.symm) (argsL := As) (rest := rest) (fun sig h => hn.trans (hlen sig h)) hstack hW (by rw [hb]; exact hdg)
    (fun vm₁ hW₁ => ⟨hf.1, hf.2, hPc (T.setVm vm₁) hT hW₁⟩) with ⟨v, vm₁, ⟨U', l2, c2, s2⟩, hW₁, X', ⟨g', mk, t, L, e1, e2, hq, h1, hL, h2, h3⟩, st⟩ | ⟨q, vm₁, ⟨U', l2, c2, s2⟩, hW₁, X', ⟨g', mk, t, L, E, ce, e1, e2, hq, hce, hcv, hcl, h1, hL, h2, h3⟩, st⟩
  · dsimp only [Pt.U, Pt.locs, Pt.cells, Pt.slots] at X' e1 e2 h1 h2 h3 st
    subst h1; subst h2; subst h3
    exact Or.inl ⟨v, (T.setVm vm₁).calling g' mk (Value.ref b :: As).toArray, t, U', L, hT, X', hL, e1, e2, hq, st⟩
  · dsimp only [Pt.U, Pt.locs, Pt.cells, Pt.slots] at X' e1 e2 h1 h2 h3 st hcl
    subst h1; subst h2; subst h3
    exact Or.inr ⟨q, (T.setVm vm₁).calling g' mk (Value.ref b :: As).toArray, t, U', L, E, ce, hT, X', hL, e1, e2, hq, hce, hcv, vx_cls hW₁ hcl, st⟩
theorem vx_runSN {y : MethodName} {bytes cc : ByteArray} {maxL nL mc ms n index : Nat} {ret : Option FieldType} {ws : List Cond} {rm : Room} {Pc : Array Value → State → Prop} {Qc : Array Value → State → Outcome → State → Prop} {XC : String → State → State → Prop} {free : Addr → Prop} {Ts : List Cond} {own host : String} {As rest : List Value} {g : JFrame}
    (S : CallFix p m c cc nL s args Ts own) (hM : vx_Met l y ws rm Pc Qc XC mc ms free) (cw : va_CN R s args own index y host bytes maxL ret ws rm mc ms n ∧ (Cond.static y).before args s = true ∧ True) (hp : PreS s H Pc As)
    (hg : g.method = m) (hn : As.length = n) (hsize : g.locals.size = nL) (hstack : g.stack = As.reverse ++ rest) (hW : 2 * g.monitorRoom + (rest.map fun v => v.category).sum ≤ 8) (hdg : decode cc g.pc = .ok (.invokestatic index, 3)) (hf : cells + mc ≤ R.cells ∧ slots + ms ≤ R.slots) :
    vx_Run p l e R s m args below meth c H locs cells slots mc ms g rest (Qc As.toArray) XC free := by
  obtain ⟨⟨⟨hrc, hrs, hfr, hlo, hws, hcw⟩, hcode, hini, hy, hlen, hl⟩, hx1, hx2⟩ := cw
  have hK : vx_Back l R p e below s args y 3 8 (PreOf R mc ms Pc) (PostOf Qc mc ms free) (vx_Post XC mc ms free) := vx_back (bytes := bytes) (maxL := maxL) (ret := ret) hM hp.1 hrc hrs hfr hlo hws hcw (fun a' U hW => word_at hW (Or.inl (by first | rfl | simp [Cond.onTables, Cond.keeps, Cond.steady])) hini)
  obtain ⟨hx, hb, hml, ho, -⟩ := S
  have hPc := hp.2
  intro T hT X
  rcases vx_callSN X hx (bytes := bytes) (maxL := maxL) (ret := ret) ho hl hx1 hini hcode hy hK hg (hsize.trans hml.symm) (argsL := As) (rest := rest) (fun sig h => hn.trans (hlen sig h)) hstack hW (by rw [hb]; exact hdg)
    (fun vm₁ hW₁ => ⟨hf.1, hf.2, hPc (T.setVm vm₁) hT hW₁⟩) with ⟨v, vm₁, ⟨U', l2, c2, s2⟩, hW₁, X', ⟨g', mk, t, L, e1, e2, hq, h1, hL, h2, h3⟩, st⟩ | ⟨q, vm₁, ⟨U', l2, c2, s2⟩, hW₁, X', ⟨g', mk, t, L, E, ce, e1, e2, hq, hce, hcv, hcl, h1, hL, h2, h3⟩, st⟩
  · dsimp only [Pt.U, Pt.locs, Pt.cells, Pt.slots] at X' e1 e2 h1 h2 h3 st
    subst h1; subst h2; subst h3
    exact Or.inl ⟨v, (T.setVm vm₁).calling g' mk As.toArray, t, U', L, hT, X', hL, e1, e2, hq, st⟩
  · dsimp only [Pt.U, Pt.locs, Pt.cells, Pt.slots] at X' e1 e2 h1 h2 h3 st hcl
    subst h1; subst h2; subst h3
    exact Or.inr ⟨q, (T.setVm vm₁).calling g' mk As.toArray, t, U', L, E, ce, hT, X', hL, e1, e2, hq, hce, hcv, vx_cls hW₁ hcl, st⟩
end
/-! ===== END ===== -/
/-! ===== BEGIN calls by an interface of methods that may throw (vx_callIF, vx_runF follow va_callIF, va_runF of this kit) ===== -/
section
variable {p : Program} {l : Launch} {e : Env} {R : Room} {s : State} {m : MethodId} {args : Array Value} {below : List Frame} {meth : Method} {c : Code} {H : Heap} {locs : List Loc} {cells slots : Nat} {Q : State → Prop}
variable {mc ms : Nat} {free : Addr → Prop} {A0 A1 : Nat → Prop} {H0 : Heap} {a : Array Value} {pc : Nat} {ls : Array Slot} {st0 rest : List Value}
def vx_Run5 (p : Program) (l : Launch) (e : Env) (R : Room) (s : State) (m : MethodId) (args : Array Value) (below : List Frame) (meth : Method) (c : Code) (H : Heap) (locs : List Loc) (cells slots mc ms : Nat) (g : JFrame) (rest : List Value) (Qa : State → Outcome → State → Prop) (XC : String → State → State → Prop) (free : Addr → Prop) : Prop :=
  ∀ T : State, T.heap = H → Stand p l e R s m args below meth c T locs cells slots →
    (∃ (v : Option Value) (st₀ t T' : State) (L : List Loc), st₀.heap = H ∧ Stand p l e R s m args below meth c T' (locs ++ L) (cells + mc) (slots + ms) ∧ (∀ q ∈ L, free q.base) ∧ T'.heap = t.heap ∧ T'.vm = t.vm ∧ Qa st₀ (.returned v) t ∧
      Goes p e below T g T' { g with pc := g.pc + 5, stack := v.toList ++ rest }) ∨
    (∃ (q : Addr) (st₀ t T' : State) (L : List Loc) (E : String) (ce : Cell), st₀.heap = H ∧ Stand p l e R s m args below meth c T' (locs ++ L) (cells + mc) (slots + ms) ∧ (∀ z ∈ L, free z.base) ∧ T'.heap = t.heap ∧ T'.vm = t.vm ∧ XC E st₀ t ∧ t.heap[q]? = some ce ∧ ce.vm = .none ∧ s.vm.findClass E = some ce.cls ∧
      Steps p.tables e below (T.setTop g) ((T'.setTop { g with stack := rest }).pushFrame (.throwing q)))
theorem vx_callIF {T : State} (X : Stand p l e R s m args below meth c T locs cells slots) (hexec : p.tables.exec = Jvm.exec) {own C : String} {index count : Nat} {x y : MethodName} {bytes : ByteArray} {maxL : Nat} {ret : Option FieldType}
    (hown : s.vm.findClass own = some m.cls) (hlink : (Cond.methodLink own index x).before args s = true) (hdecl : (Cond.declares x).before args s = true) (hface : (Cond.interfaceMethod x.cls x.cls x.name x.desc).before args s = true)
    (hsel : (Cond.selects C x y).before args s = true) (hinst : (Cond.instanceMethod y).before args s = true) (hpub : (Cond.publicMethod y).before args s = true) (hunh : (Cond.unhidden C x.name x.desc).before args s = true)
    (hcast : (Cond.castable C x.cls).before args s = true) (hcode : (Cond.code y bytes maxL ret).before args s = true) (hx : x.cls ≠ "java/lang/invoke/MethodHandle" ∧ x.cls ≠ "java/lang/invoke/VarHandle")
    {W9 : Nat} {Pre : Pt → Array Value → Prop} {Post : Pt → Array Value → Option Value → Pt → Prop} {PostX : Pt → Array Value → Addr → Pt → Prop} (hK : vx_Back l R p e below s args y 5 W9 Pre Post PostX)
    {b : Addr} {cellB : Cell} {kB : Class} (hcell : T.heap[b]? = some cellB) (hobj : cellB.vm.isStatics = false) (hcls : s.vm.findClass C = some cellB.cls) (hkB : s.vm.classes[cellB.cls]? = some kB)
    {g : JFrame} (hg : g.method = m) (hsize : g.locals.size = c.maxLocals) {argsL rest : List Value} (hlen : ∀ sig, parseMethodDescriptor x.desc = some sig → argsL.length = sig.parameters.length)
    (hstack : g.stack = argsL.reverse ++ .ref b :: rest) (hW : 2 * g.monitorRoom + (rest.map fun v => v.category).sum ≤ W9) (hdg : decode c.code g.pc = .ok (.invokeinterface index count, 5))
    (hpre : ∀ vm₁, s.WarmedH vm₁ → Pre ⟨T.setVm vm₁, locs, cells, slots⟩ (Value.ref b :: argsL).toArray) :
    (∃ (v : Option Value) (vm₁ : Vm) (B : Pt), s.WarmedH vm₁ ∧ Stand p l e R s m args below meth c B.U B.locs B.cells B.slots ∧ Post ⟨T.setVm vm₁, locs, cells, slots⟩ (Value.ref b :: argsL).toArray v B ∧
      ∀ target, Steps p.tables e below (B.U.setTop { g with pc := g.pc + 5, stack := v.toList ++ rest }) target → Steps p.tables e below (T.setTop g) target) ∨
    (∃ (q : Addr) (vm₁ : Vm) (B : Pt), s.WarmedH vm₁ ∧ Stand p l e R s m args below meth c B.U B.locs B.cells B.slots ∧ PostX ⟨T.setVm vm₁, locs, cells, slots⟩ (Value.ref b :: argsL).toArray q B ∧
      Steps p.tables e below (T.setTop g) ((B.U.setTop { g with stack := rest }).pushFrame (.throwing q))) := by
  obtain ⟨r0, r, hn, hrm, hstR, hsigR⟩ := Cond.declares_spec hdecl
  obtain ⟨cL, kL, r1, hcL, hkL, hiL, hfoundL, hn1⟩ := Cond.interfaceMethod_spec hface
  cases hn.symm.trans hn1
  have hr0cls : r0.cls = cL := Option.some.inj ((findClass_of_methodNamed hn).symm.trans hcL)
  obtain ⟨hnameR, hdescR⟩ := name_of_methodNamed hn hrm
  obtain ⟨mk, methM, hnamed, hmethM, -, habM⟩ := Cond.instanceMethod_spec hinst
  obtain ⟨c2, r2, m2, q1, q2, q3, q4, -⟩ := Cond.selects_spec hsel
  cases hcls.symm.trans q1
  cases hfoundL.symm.trans q2
  cases hnamed.symm.trans q3
  have hselP : selectMethod e.platform s.vm cellB.cls r0 = .method mk := by rw [Launch.admits_selectMethod X.admits]; exact q4
  have hpubM : hasFlag methM.accessFlags Acc.public_ = true := Cond.publicMethod_spec hnamed hmethM hpub
  have hway : ((cellB.cls :: s.vm.superclasses cellB.cls).any fun k => (declaredIn s.vm r.name r.desc k).any fun (_, z) => z.isPrivate || z.isStatic) = false := by
    rw [hnameR, hdescR]; exact Cond.unhidden_spec hcls hunh
  obtain ⟨c3, t3, w1, w2, w3⟩ := Cond.castable_spec hcast
  cases hcls.symm.trans w1
  cases hcL.symm.trans w2
  obtain ⟨vm₁, X₁, hstep₁⟩ := X.invokeinterface hexec hown hlink hn hrm hstR (by rw [hr0cls]; exact hkL) hiL hx (a := b) (cell := cellB) (kcell := kB) hcell
    (fun z h => by rw [h] at hobj; cases hobj) hkB (by rw [hr0cls]; exact w3) hselP hmethM hway hpubM habM (g := g) hg (argsL := argsL) (rest := rest) (hlen _ hsigR) hstack hdg
  rcases hK m meth c ⟨T.setVm vm₁, locs, cells, slots⟩ { g with stack := rest } (.invokeinterface index count) mk (Value.ref b :: argsL).toArray X₁ hg hsize hdg hW (X₁.named hnamed) (hpre vm₁ X₁.warmed) with ⟨v, B, X', hpost, hsteps⟩ | ⟨q, B, X', hpost, hsteps⟩
  · exact Or.inl ⟨v, vm₁, B, X₁.warmed, X', hpost, fun target h => hstep₁ _ fun acts => by rw [doInvoke_state]; exact hsteps.trans h⟩
  · exact Or.inr ⟨q, vm₁, B, X₁.warmed, X', hpost, hstep₁ _ fun acts => by rw [doInvoke_state]; exact hsteps⟩
theorem vx_runF {x y : MethodName} {bytes cc : ByteArray} {maxL nL mc ms n index count : Nat} {ret : Option FieldType} {ws : List Cond} {rm : Room} {Pc : Array Value → State → Prop} {Qc : Array Value → State → Outcome → State → Prop} {XC : String → State → State → Prop} {free : Addr → Prop} {Ts : List Cond} {own C : String} {cC : ClassId} {b : Addr} {As rest : List Value} {g : JFrame}
    (hat : ClassAt s C cC) (S : CallFix p m c cc nL s args Ts own) (hM : vx_Met l y ws rm Pc Qc XC mc ms free) (cw : va_CI R s args own C index x y bytes maxL ret ws rm mc ms n) (hp : PreV s H C b Pc As)
    (hg : g.method = m) (hn : As.length = n) (hsize : g.locals.size = nL) (hstack : g.stack = As.reverse ++ .ref b :: rest) (hW : 2 * g.monitorRoom + (rest.map fun v => v.category).sum ≤ 8) (hdg : decode cc g.pc = .ok (.invokeinterface index count, 5)) (hf : cells + mc ≤ R.cells ∧ slots + ms ≤ R.slots) :
    vx_Run5 p l e R s m args below meth c H locs cells slots mc ms g rest (Qc (Value.ref b :: As).toArray) XC free := by
  obtain ⟨hrc, hrs, hfr, hlo, hws, hcw⟩ := cw.back
  have hini := cw.init
  have hK : vx_Back l R p e below s args y 5 8 (PreOf R mc ms Pc) (PostOf Qc mc ms free) (vx_Post XC mc ms free) := vx_back (bytes := bytes) (maxL := maxL) (ret := ret) hM hp.1 hrc hrs hfr hlo hws hcw (fun a' U hW => word_at hW (Or.inl (by first | rfl | simp [Cond.onTables, Cond.keeps, Cond.steady])) hini)
  obtain ⟨hx, hb, hml, ho, -⟩ := S
  obtain ⟨-, ⟨cellB, hcB, hoB, hclB⟩, hPc⟩ := hp
  obtain ⟨hfc, kB, hkB, -⟩ := hat
  cases hfc.symm.trans hclB
  intro T hT X
  rcases vx_callIF X hx (C := C) (bytes := bytes) (maxL := maxL) (ret := ret) ho cw.link cw.decl cw.face cw.sel cw.inst cw.pub cw.unh cw.cast cw.code cw.notMH hK (by rw [hT]; exact hcB) hoB hclB hkB hg (hsize.trans hml.symm) (argsL := As) (rest := rest) (fun sig h => hn.trans (cw.len sig h)) hstack hW (by rw [hb]; exact hdg)
    (fun vm₁ hW₁ => ⟨hf.1, hf.2, hPc (T.setVm vm₁) hT hW₁⟩) with ⟨v, vm₁, ⟨U', l2, c2, s2⟩, hW₁, X', ⟨g', mk, t, L, e1, e2, hq, h1, hL, h2, h3⟩, st⟩ | ⟨q, vm₁, ⟨U', l2, c2, s2⟩, hW₁, X', ⟨g', mk, t, L, E, ce, e1, e2, hq, hce, hcv, hcl, h1, hL, h2, h3⟩, st⟩
  · dsimp only [Pt.U, Pt.locs, Pt.cells, Pt.slots] at X' e1 e2 h1 h2 h3 st
    subst h1; subst h2; subst h3
    exact Or.inl ⟨v, (T.setVm vm₁).calling g' mk (Value.ref b :: As).toArray, t, U', L, hT, X', hL, e1, e2, hq, st⟩
  · dsimp only [Pt.U, Pt.locs, Pt.cells, Pt.slots] at X' e1 e2 h1 h2 h3 st hcl
    subst h1; subst h2; subst h3
    exact Or.inr ⟨q, (T.setVm vm₁).calling g' mk (Value.ref b :: As).toArray, t, U', L, E, ce, hT, X', hL, e1, e2, hq, hce, hcv, vx_cls hW₁ hcl, st⟩
theorem vx_callFv {S SX : Type} {post : S → Prop} {px : SX → Prop} {B : S → State → Prop} {BX : String → SX → State → Prop} {AX : Nat → Prop} (hr : vx_Run5 p l e R s m args below meth c H locs cells slots mc ms (F0 m pc ls st0) rest (va_Qv post B A1 a) (vx_X px BX AX) free) (hS : va_S A0 H0 H locs) (hA : ∀ q, q < H.size → A1 q → A0 q) (hf : ∀ q, free q → A0 q) (hAX : ∀ q, q < H.size → AX q → A0 q)
    (kx : ∀ (E : String) (ce : Cell) (q9 : Addr) (u : SX) (t : State) (H1 : Heap) (locs1 : List Loc), t.heap = H1 → s.vm.Alike t.vm → px u → BX E u t → H.size ≤ H1.size → (∀ q : Nat, q < H.size → ¬ AX q → H1[q]? = H[q]?) → va_S A0 H0 H1 locs1 → H1[q9]? = some ce → ce.vm = .none → s.vm.findClass E = some ce.cls → vx_W p l e R s m args below meth c H1 locs1 (cells + mc) (slots + ms) Q (F0 m pc ls rest) q9)
    (kk : ∀ (u : S) (t : State) (H1 : Heap) (locs1 : List Loc), t.heap = H1 → s.vm.Alike t.vm → post u → B u t → H.size ≤ H1.size → (∀ q : Nat, q < H.size → ¬ A1 q → H1[q]? = H[q]?) → va_S A0 H0 H1 locs1 → W p l e R s m args below meth c H1 locs1 (cells + mc) (slots + ms) Q (F0 m (pc + 5) ls (rest))) : W p l e R s m args below meth c H locs cells slots Q (F0 m pc ls st0) := by
  intro T hT X
  rcases hr T hT X with ⟨v, st₀, t, T', L, h0, X', hL, e1, e2, ⟨⟨u, hv, hp, hb⟩, hF⟩, st⟩ | ⟨q, st₀, t, T', L, E, ce, h0, X', hL, e1, e2, ⟨u, hp, hb, hF⟩, hce, hcv, hcl, st⟩
  · cases hv
    obtain ⟨k1, k2, k3⟩ := vx_keep h0 e1 hS hA hf hL hF
    obtain ⟨t2, a1, b1⟩ := kk u t T'.heap (locs ++ L) e1.symm (by rw [← e2]; exact X'.warmed.alike) hp hb k1 k2 k3 T' rfl X'
    exact ⟨t2, st t2 a1, b1⟩
  · obtain ⟨k1, k2, k3⟩ := vx_keep h0 e1 hS hAX hf hL hF
    obtain ⟨t2, a1, b1⟩ := kx E ce q u t T'.heap (locs ++ L) e1.symm (by rw [← e2]; exact X'.warmed.alike) hp hb k1 k2 k3 (by rw [e1]; exact hce) hcv hcl T' rfl X'
    exact ⟨t2, st.trans a1, b1⟩
theorem vx_callFi {S SX : Type} {post : Int32 → S → Prop} {px : SX → Prop} {B : S → State → Prop} {BX : String → SX → State → Prop} {AX : Nat → Prop} (hr : vx_Run5 p l e R s m args below meth c H locs cells slots mc ms (F0 m pc ls st0) rest (va_Qi post B A1 a) (vx_X px BX AX) free) (hS : va_S A0 H0 H locs) (hA : ∀ q, q < H.size → A1 q → A0 q) (hf : ∀ q, free q → A0 q) (hAX : ∀ q, q < H.size → AX q → A0 q)
    (kx : ∀ (E : String) (ce : Cell) (q9 : Addr) (u : SX) (t : State) (H1 : Heap) (locs1 : List Loc), t.heap = H1 → s.vm.Alike t.vm → px u → BX E u t → H.size ≤ H1.size → (∀ q : Nat, q < H.size → ¬ AX q → H1[q]? = H[q]?) → va_S A0 H0 H1 locs1 → H1[q9]? = some ce → ce.vm = .none → s.vm.findClass E = some ce.cls → vx_W p l e R s m args below meth c H1 locs1 (cells + mc) (slots + ms) Q (F0 m pc ls rest) q9)
    (kk : ∀ (r : Int32) (u : S) (t : State) (H1 : Heap) (locs1 : List Loc), t.heap = H1 → s.vm.Alike t.vm → post r u → B u t → H.size ≤ H1.size → (∀ q : Nat, q < H.size → ¬ A1 q → H1[q]? = H[q]?) → va_S A0 H0 H1 locs1 → W p l e R s m args below meth c H1 locs1 (cells + mc) (slots + ms) Q (F0 m (pc + 5) ls (.int r :: rest))) : W p l e R s m args below meth c H locs cells slots Q (F0 m pc ls st0) := by
  intro T hT X
  rcases hr T hT X with ⟨v, st₀, t, T', L, h0, X', hL, e1, e2, ⟨⟨r, u, hv, hp, hb⟩, hF⟩, st⟩ | ⟨q, st₀, t, T', L, E, ce, h0, X', hL, e1, e2, ⟨u, hp, hb, hF⟩, hce, hcv, hcl, st⟩
  · cases hv
    obtain ⟨k1, k2, k3⟩ := vx_keep h0 e1 hS hA hf hL hF
    obtain ⟨t2, a1, b1⟩ := kk r u t T'.heap (locs ++ L) e1.symm (by rw [← e2]; exact X'.warmed.alike) hp hb k1 k2 k3 T' rfl X'
    exact ⟨t2, st t2 a1, b1⟩
  · obtain ⟨k1, k2, k3⟩ := vx_keep h0 e1 hS hAX hf hL hF
    obtain ⟨t2, a1, b1⟩ := kx E ce q u t T'.heap (locs ++ L) e1.symm (by rw [← e2]; exact X'.warmed.alike) hp hb k1 k2 k3 (by rw [e1]; exact hce) hcv hcl T' rfl X'
    exact ⟨t2, st.trans a1, b1⟩
theorem vx_callFl {S SX : Type} {post : Int64 → S → Prop} {px : SX → Prop} {B : S → State → Prop} {BX : String → SX → State → Prop} {AX : Nat → Prop} (hr : vx_Run5 p l e R s m args below meth c H locs cells slots mc ms (F0 m pc ls st0) rest (va_Ql post B A1 a) (vx_X px BX AX) free) (hS : va_S A0 H0 H locs) (hA : ∀ q, q < H.size → A1 q → A0 q) (hf : ∀ q, free q → A0 q) (hAX : ∀ q, q < H.size → AX q → A0 q)
    (kx : ∀ (E : String) (ce : Cell) (q9 : Addr) (u : SX) (t : State) (H1 : Heap) (locs1 : List Loc), t.heap = H1 → s.vm.Alike t.vm → px u → BX E u t → H.size ≤ H1.size → (∀ q : Nat, q < H.size → ¬ AX q → H1[q]? = H[q]?) → va_S A0 H0 H1 locs1 → H1[q9]? = some ce → ce.vm = .none → s.vm.findClass E = some ce.cls → vx_W p l e R s m args below meth c H1 locs1 (cells + mc) (slots + ms) Q (F0 m pc ls rest) q9)
    (kk : ∀ (r : Int64) (u : S) (t : State) (H1 : Heap) (locs1 : List Loc), t.heap = H1 → s.vm.Alike t.vm → post r u → B u t → H.size ≤ H1.size → (∀ q : Nat, q < H.size → ¬ A1 q → H1[q]? = H[q]?) → va_S A0 H0 H1 locs1 → W p l e R s m args below meth c H1 locs1 (cells + mc) (slots + ms) Q (F0 m (pc + 5) ls (.long r :: rest))) : W p l e R s m args below meth c H locs cells slots Q (F0 m pc ls st0) := by
  intro T hT X
  rcases hr T hT X with ⟨v, st₀, t, T', L, h0, X', hL, e1, e2, ⟨⟨r, u, hv, hp, hb⟩, hF⟩, st⟩ | ⟨q, st₀, t, T', L, E, ce, h0, X', hL, e1, e2, ⟨u, hp, hb, hF⟩, hce, hcv, hcl, st⟩
  · cases hv
    obtain ⟨k1, k2, k3⟩ := vx_keep h0 e1 hS hA hf hL hF
    obtain ⟨t2, a1, b1⟩ := kk r u t T'.heap (locs ++ L) e1.symm (by rw [← e2]; exact X'.warmed.alike) hp hb k1 k2 k3 T' rfl X'
    exact ⟨t2, st t2 a1, b1⟩
  · obtain ⟨k1, k2, k3⟩ := vx_keep h0 e1 hS hAX hf hL hF
    obtain ⟨t2, a1, b1⟩ := kx E ce q u t T'.heap (locs ++ L) e1.symm (by rw [← e2]; exact X'.warmed.alike) hp hb k1 k2 k3 (by rw [e1]; exact hce) hcv hcl T' rfl X'
    exact ⟨t2, st.trans a1, b1⟩
theorem vx_callFf {S SX : Type} {post : UInt32 → S → Prop} {px : SX → Prop} {B : S → State → Prop} {BX : String → SX → State → Prop} {AX : Nat → Prop} (hr : vx_Run5 p l e R s m args below meth c H locs cells slots mc ms (F0 m pc ls st0) rest (va_Qf post B A1 a) (vx_X px BX AX) free) (hS : va_S A0 H0 H locs) (hA : ∀ q, q < H.size → A1 q → A0 q) (hf : ∀ q, free q → A0 q) (hAX : ∀ q, q < H.size → AX q → A0 q)
    (kx : ∀ (E : String) (ce : Cell) (q9 : Addr) (u : SX) (t : State) (H1 : Heap) (locs1 : List Loc), t.heap = H1 → s.vm.Alike t.vm → px u → BX E u t → H.size ≤ H1.size → (∀ q : Nat, q < H.size → ¬ AX q → H1[q]? = H[q]?) → va_S A0 H0 H1 locs1 → H1[q9]? = some ce → ce.vm = .none → s.vm.findClass E = some ce.cls → vx_W p l e R s m args below meth c H1 locs1 (cells + mc) (slots + ms) Q (F0 m pc ls rest) q9)
    (kk : ∀ (r : UInt32) (u : S) (t : State) (H1 : Heap) (locs1 : List Loc), t.heap = H1 → s.vm.Alike t.vm → post r u → B u t → H.size ≤ H1.size → (∀ q : Nat, q < H.size → ¬ A1 q → H1[q]? = H[q]?) → va_S A0 H0 H1 locs1 → W p l e R s m args below meth c H1 locs1 (cells + mc) (slots + ms) Q (F0 m (pc + 5) ls (.float r :: rest))) : W p l e R s m args below meth c H locs cells slots Q (F0 m pc ls st0) := by
  intro T hT X
  rcases hr T hT X with ⟨v, st₀, t, T', L, h0, X', hL, e1, e2, ⟨⟨r, u, hv, hp, hb⟩, hF⟩, st⟩ | ⟨q, st₀, t, T', L, E, ce, h0, X', hL, e1, e2, ⟨u, hp, hb, hF⟩, hce, hcv, hcl, st⟩
  · cases hv
    obtain ⟨k1, k2, k3⟩ := vx_keep h0 e1 hS hA hf hL hF
    obtain ⟨t2, a1, b1⟩ := kk r u t T'.heap (locs ++ L) e1.symm (by rw [← e2]; exact X'.warmed.alike) hp hb k1 k2 k3 T' rfl X'
    exact ⟨t2, st t2 a1, b1⟩
  · obtain ⟨k1, k2, k3⟩ := vx_keep h0 e1 hS hAX hf hL hF
    obtain ⟨t2, a1, b1⟩ := kx E ce q u t T'.heap (locs ++ L) e1.symm (by rw [← e2]; exact X'.warmed.alike) hp hb k1 k2 k3 (by rw [e1]; exact hce) hcv hcl T' rfl X'
    exact ⟨t2, st.trans a1, b1⟩
theorem vx_callFd {S SX : Type} {post : UInt64 → S → Prop} {px : SX → Prop} {B : S → State → Prop} {BX : String → SX → State → Prop} {AX : Nat → Prop} (hr : vx_Run5 p l e R s m args below meth c H locs cells slots mc ms (F0 m pc ls st0) rest (va_Qd post B A1 a) (vx_X px BX AX) free) (hS : va_S A0 H0 H locs) (hA : ∀ q, q < H.size → A1 q → A0 q) (hf : ∀ q, free q → A0 q) (hAX : ∀ q, q < H.size → AX q → A0 q)
    (kx : ∀ (E : String) (ce : Cell) (q9 : Addr) (u : SX) (t : State) (H1 : Heap) (locs1 : List Loc), t.heap = H1 → s.vm.Alike t.vm → px u → BX E u t → H.size ≤ H1.size → (∀ q : Nat, q < H.size → ¬ AX q → H1[q]? = H[q]?) → va_S A0 H0 H1 locs1 → H1[q9]? = some ce → ce.vm = .none → s.vm.findClass E = some ce.cls → vx_W p l e R s m args below meth c H1 locs1 (cells + mc) (slots + ms) Q (F0 m pc ls rest) q9)
    (kk : ∀ (r : UInt64) (u : S) (t : State) (H1 : Heap) (locs1 : List Loc), t.heap = H1 → s.vm.Alike t.vm → post r u → B u t → H.size ≤ H1.size → (∀ q : Nat, q < H.size → ¬ A1 q → H1[q]? = H[q]?) → va_S A0 H0 H1 locs1 → W p l e R s m args below meth c H1 locs1 (cells + mc) (slots + ms) Q (F0 m (pc + 5) ls (.double r :: rest))) : W p l e R s m args below meth c H locs cells slots Q (F0 m pc ls st0) := by
  intro T hT X
  rcases hr T hT X with ⟨v, st₀, t, T', L, h0, X', hL, e1, e2, ⟨⟨r, u, hv, hp, hb⟩, hF⟩, st⟩ | ⟨q, st₀, t, T', L, E, ce, h0, X', hL, e1, e2, ⟨u, hp, hb, hF⟩, hce, hcv, hcl, st⟩
  · cases hv
    obtain ⟨k1, k2, k3⟩ := vx_keep h0 e1 hS hA hf hL hF
    obtain ⟨t2, a1, b1⟩ := kk r u t T'.heap (locs ++ L) e1.symm (by rw [← e2]; exact X'.warmed.alike) hp hb k1 k2 k3 T' rfl X'
    exact ⟨t2, st t2 a1, b1⟩
  · obtain ⟨k1, k2, k3⟩ := vx_keep h0 e1 hS hAX hf hL hF
    obtain ⟨t2, a1, b1⟩ := kx E ce q u t T'.heap (locs ++ L) e1.symm (by rw [← e2]; exact X'.warmed.alike) hp hb k1 k2 k3 (by rw [e1]; exact hce) hcv hcl T' rfl X'
    exact ⟨t2, st.trans a1, b1⟩
end
/-! ===== END ===== -/
/-! ===== BEGIN by an interface, a method with a table of its own that may throw (follows va_callIFW, va_runFW) ===== -/
section
variable {p : Program} {l : Launch} {e : Env} {R : Room} {s : State} {m : MethodId} {args : Array Value} {below : List Frame} {meth : Method} {c : Code} {H : Heap} {locs : List Loc} {cells slots : Nat}
theorem vx_callIFW {T : State} (X : Stand p l e R s m args below meth c T locs cells slots) (hexec : p.tables.exec = Jvm.exec) {own C : String} {index count : Nat} {x y : MethodName} {bytes : ByteArray} {maxL : Nat} {ret : Option FieldType} {hh : List (Nat × Nat × Nat × Nat)}
    (hown : s.vm.findClass own = some m.cls) (hlink : (Cond.methodLink own index x).before args s = true) (hdecl : (Cond.declares x).before args s = true) (hface : (Cond.interfaceMethod x.cls x.cls x.name x.desc).before args s = true)
    (hsel : (Cond.selects C x y).before args s = true) (hinst : (Cond.instanceMethod y).before args s = true) (hpub : (Cond.publicMethod y).before args s = true) (hunh : (Cond.unhidden C x.name x.desc).before args s = true)
    (hcast : (Cond.castable C x.cls).before args s = true) (hcode : (Cond.codeWith y bytes maxL ret hh).before args s = true) (hx : x.cls ≠ "java/lang/invoke/MethodHandle" ∧ x.cls ≠ "java/lang/invoke/VarHandle")
    {W : Nat} {Pre : Pt → Array Value → Prop} {Post : Pt → Array Value → Option Value → Pt → Prop} {PostX : Pt → Array Value → Addr → Pt → Prop} (hK : vx_Back l R p e below s args y 5 W Pre Post PostX)
    {b : Addr} {cellB : Cell} {kB : Class} (hcell : T.heap[b]? = some cellB) (hobj : cellB.vm.isStatics = false) (hcls : s.vm.findClass C = some cellB.cls) (hkB : s.vm.classes[cellB.cls]? = some kB)
    {g : JFrame} (hg : g.method = m) (hsize : g.locals.size = c.maxLocals) {argsL rest : List Value} (hlen : ∀ sig, parseMethodDescriptor x.desc = some sig → argsL.length = sig.parameters.length)
    (hstack : g.stack = argsL.reverse ++ .ref b :: rest) (hW : 2 * g.monitorRoom + (rest.map fun v => v.category).sum ≤ W) (hdg : decode c.code g.pc = .ok (.invokeinterface index count, 5))
    (hpre : ∀ vm₁, s.WarmedH vm₁ → Pre ⟨T.setVm vm₁, locs, cells, slots⟩ (Value.ref b :: argsL).toArray) :
    (∃ (v : Option Value) (vm₁ : Vm) (B : Pt), s.WarmedH vm₁ ∧ Stand p l e R s m args below meth c B.U B.locs B.cells B.slots ∧ Post ⟨T.setVm vm₁, locs, cells, slots⟩ (Value.ref b :: argsL).toArray v B ∧
      ∀ target, Steps p.tables e below (B.U.setTop { g with pc := g.pc + 5, stack := v.toList ++ rest }) target → Steps p.tables e below (T.setTop g) target) ∨
    (∃ (q : Addr) (vm₁ : Vm) (B : Pt), s.WarmedH vm₁ ∧ Stand p l e R s m args below meth c B.U B.locs B.cells B.slots ∧ PostX ⟨T.setVm vm₁, locs, cells, slots⟩ (Value.ref b :: argsL).toArray q B ∧
      Steps p.tables e below (T.setTop g) ((B.U.setTop { g with stack := rest }).pushFrame (.throwing q))) := by
  obtain ⟨r0, r, hn, hrm, hstR, hsigR⟩ := Cond.declares_spec hdecl
  obtain ⟨cL, kL, r1, hcL, hkL, hiL, hfoundL, hn1⟩ := Cond.interfaceMethod_spec hface
  cases hn.symm.trans hn1
  have hr0cls : r0.cls = cL := Option.some.inj ((findClass_of_methodNamed hn).symm.trans hcL)
  obtain ⟨hnameR, hdescR⟩ := name_of_methodNamed hn hrm
  obtain ⟨mk, methM, hnamed, hmethM, -, habM⟩ := Cond.instanceMethod_spec hinst
  obtain ⟨c2, r2, m2, q1, q2, q3, q4, -⟩ := Cond.selects_spec hsel
  cases hcls.symm.trans q1
  cases hfoundL.symm.trans q2
  cases hnamed.symm.trans q3
  have hselP : selectMethod e.platform s.vm cellB.cls r0 = .method mk := by rw [Launch.admits_selectMethod X.admits]; exact q4
  have hpubM : hasFlag methM.accessFlags Acc.public_ = true := Cond.publicMethod_spec hnamed hmethM hpub
  have hway : ((cellB.cls :: s.vm.superclasses cellB.cls).any fun k => (declaredIn s.vm r.name r.desc k).any fun (_, z) => z.isPrivate || z.isStatic) = false := by
    rw [hnameR, hdescR]; exact Cond.unhidden_spec hcls hunh
  obtain ⟨c3, t3, w1, w2, w3⟩ := Cond.castable_spec hcast
  cases hcls.symm.trans w1
  cases hcL.symm.trans w2
  obtain ⟨vm₁, X₁, hstep₁⟩ := X.invokeinterface hexec hown hlink hn hrm hstR (by rw [hr0cls]; exact hkL) hiL hx (a := b) (cell := cellB) (kcell := kB) hcell
    (fun z h => by rw [h] at hobj; cases hobj) hkB (by rw [hr0cls]; exact w3) hselP hmethM hway hpubM habM (g := g) hg (argsL := argsL) (rest := rest) (hlen _ hsigR) hstack hdg
  rcases hK m meth c ⟨T.setVm vm₁, locs, cells, slots⟩ { g with stack := rest } (.invokeinterface index count) mk (Value.ref b :: argsL).toArray X₁ hg hsize hdg hW (X₁.named hnamed) (hpre vm₁ X₁.warmed) with ⟨v, B, X', hpost, hsteps⟩ | ⟨q, B, X', hpost, hsteps⟩
  · exact Or.inl ⟨v, vm₁, B, X₁.warmed, X', hpost, fun target h => hstep₁ _ fun acts => by rw [doInvoke_state]; exact hsteps.trans h⟩
  · exact Or.inr ⟨q, vm₁, B, X₁.warmed, X', hpost, hstep₁ _ fun acts => by rw [doInvoke_state]; exact hsteps⟩
theorem vx_runFW {x y : MethodName} {bytes cc : ByteArray} {maxL nL mc ms n index count : Nat} {ret : Option FieldType} {hh : List (Nat × Nat × Nat × Nat)} {ws : List Cond} {rm : Room} {Pc : Array Value → State → Prop} {Qc : Array Value → State → Outcome → State → Prop} {XC : String → State → State → Prop} {free : Addr → Prop} {Ts : List Cond} {own C : String} {cC : ClassId} {b : Addr} {As rest : List Value} {g : JFrame}
    (hat : ClassAt s C cC) (S : CallFix p m c cc nL s args Ts own) (hM : vx_Met l y ws rm Pc Qc XC mc ms free) (cw : va_CIW R s args own C index x y bytes maxL ret hh ws rm mc ms n) (hp : PreV s H C b Pc As)
    (hg : g.method = m) (hn : As.length = n) (hsize : g.locals.size = nL) (hstack : g.stack = As.reverse ++ .ref b :: rest) (hW : 2 * g.monitorRoom + (rest.map fun v => v.category).sum ≤ 8) (hdg : decode cc g.pc = .ok (.invokeinterface index count, 5)) (hf : cells + mc ≤ R.cells ∧ slots + ms ≤ R.slots) :
    vx_Run5 p l e R s m args below meth c H locs cells slots mc ms g rest (Qc (Value.ref b :: As).toArray) XC free := by
  obtain ⟨hrc, hrs, hfr, hlo, hws, hcw⟩ := cw.back
  have hini := cw.init
  have hK : vx_Back l R p e below s args y 5 8 (PreOf R mc ms Pc) (PostOf Qc mc ms free) (vx_Post XC mc ms free) := vx_backW (hh := hh) (bytes := bytes) (maxL := maxL) (ret := ret) hM hp.1 hrc hrs hfr hlo hws hcw (fun a' U hW => word_at hW (Or.inl (by first | rfl | simp [Cond.onTables, Cond.keeps, Cond.steady])) hini)
  obtain ⟨hx, hb, hml, ho, -⟩ := S
  obtain ⟨-, ⟨cellB, hcB, hoB, hclB⟩, hPc⟩ := hp
  obtain ⟨hfc, kB, hkB, -⟩ := hat
  cases hfc.symm.trans hclB
  intro T hT X
  rcases vx_callIFW X hx (C := C) (hh := hh) (bytes := bytes) (maxL := maxL) (ret := ret) ho cw.link cw.decl cw.face cw.sel cw.inst cw.pub cw.unh cw.cast cw.code cw.notMH hK (by rw [hT]; exact hcB) hoB hclB hkB hg (hsize.trans hml.symm) (argsL := As) (rest := rest) (fun sig h => hn.trans (cw.len sig h)) hstack hW (by rw [hb]; exact hdg)
    (fun vm₁ hW₁ => ⟨hf.1, hf.2, hPc (T.setVm vm₁) hT hW₁⟩) with ⟨v, vm₁, ⟨U', l2, c2, s2⟩, hW₁, X', ⟨g', mk, t, L, e1, e2, hq, h1, hL, h2, h3⟩, st⟩ | ⟨q, vm₁, ⟨U', l2, c2, s2⟩, hW₁, X', ⟨g', mk, t, L, E, ce, e1, e2, hq, hce, hcv, hcl, h1, hL, h2, h3⟩, st⟩
  · dsimp only [Pt.U, Pt.locs, Pt.cells, Pt.slots] at X' e1 e2 h1 h2 h3 st
    subst h1; subst h2; subst h3
    exact Or.inl ⟨v, (T.setVm vm₁).calling g' mk (Value.ref b :: As).toArray, t, U', L, hT, X', hL, e1, e2, hq, st⟩
  · dsimp only [Pt.U, Pt.locs, Pt.cells, Pt.slots] at X' e1 e2 h1 h2 h3 st hcl
    subst h1; subst h2; subst h3
    exact Or.inr ⟨q, (T.setVm vm₁).calling g' mk (Value.ref b :: As).toArray, t, U', L, E, ce, hT, X', hL, e1, e2, hq, hce, hcv, vx_cls hW₁ hcl, st⟩
end
/-! ===== END ===== -/
/-! ===== BEGIN .. of methods that hand back an object of the pool ===== -/
section
variable {p : Program} {l : Launch} {e : Env} {R : Room} {s : State} {m : MethodId} {args : Array Value} {below : List Frame} {meth : Method} {c : Code} {H : Heap} {locs : List Loc} {cells slots : Nat} {Q : State → Prop}
variable {mc ms : Nat} {free : Addr → Prop} {A0 A1 : Nat → Prop} {H0 : Heap} {a : Array Value} {pc : Nat} {ls : Array Slot} {st0 rest : List Value}
theorem vx_callq {S SX : Type} {post : Option Nat → S → Prop} {px : SX → Prop} {B : S → State → Prop} {BX : String → SX → State → Prop} {AX : Nat → Prop} (hr : vx_Run p l e R s m args below meth c H locs cells slots mc ms (F0 m pc ls st0) rest (va_Qq post B A1 a) (vx_X px BX AX) free) (hS : va_S A0 H0 H locs) (hA : ∀ q, q < H.size → A1 q → A0 q) (hf : ∀ q, free q → A0 q) (hAX : ∀ q, q < H.size → AX q → A0 q)
    (kx : ∀ (E : String) (ce : Cell) (q9 : Addr) (u : SX) (t : State) (H1 : Heap) (locs1 : List Loc), t.heap = H1 → s.vm.Alike t.vm → px u → BX E u t → H.size ≤ H1.size → (∀ q : Nat, q < H.size → ¬ AX q → H1[q]? = H[q]?) → va_S A0 H0 H1 locs1 → H1[q9]? = some ce → ce.vm = .none → s.vm.findClass E = some ce.cls → vx_W p l e R s m args below meth c H1 locs1 (cells + mc) (slots + ms) Q (F0 m pc ls rest) q9)
    (kk : ∀ (r : Option Nat) (u : S) (t : State) (H1 : Heap) (locs1 : List Loc), t.heap = H1 → s.vm.Alike t.vm → post r u → B u t → H.size ≤ H1.size → (∀ q : Nat, q < H.size → ¬ A1 q → H1[q]? = H[q]?) → va_S A0 H0 H1 locs1 → W p l e R s m args below meth c H1 locs1 (cells + mc) (slots + ms) Q (F0 m (pc + 3) ls (va_rf r :: rest))) : W p l e R s m args below meth c H locs cells slots Q (F0 m pc ls st0) := by
  intro T hT X
  rcases hr T hT X with ⟨v, st₀, t, T', L, h0, X', hL, e1, e2, ⟨⟨r, u, hv, hp, hb⟩, hF⟩, st⟩ | ⟨q, st₀, t, T', L, E, ce, h0, X', hL, e1, e2, ⟨u, hp, hb, hF⟩, hce, hcv, hcl, st⟩
  · cases hv
    obtain ⟨k1, k2, k3⟩ := vx_keep h0 e1 hS hA hf hL hF
    obtain ⟨t2, a1, b1⟩ := kk r u t T'.heap (locs ++ L) e1.symm (by rw [← e2]; exact X'.warmed.alike) hp hb k1 k2 k3 T' rfl X'
    exact ⟨t2, st t2 a1, b1⟩
  · obtain ⟨k1, k2, k3⟩ := vx_keep h0 e1 hS hAX hf hL hF
    obtain ⟨t2, a1, b1⟩ := kx E ce q u t T'.heap (locs ++ L) e1.symm (by rw [← e2]; exact X'.warmed.alike) hp hb k1 k2 k3 (by rw [e1]; exact hce) hcv hcl T' rfl X'
    exact ⟨t2, st.trans a1, b1⟩
end
/-! ===== END ===== -/
/-! ===== BEGIN .. a constant ===== -/
section
variable {p : Program} {l : Launch} {e : Env} {R : Room} {s : State} {m : MethodId} {args : Array Value} {below : List Frame} {meth : Method} {c : Code} {H : Heap} {locs : List Loc} {cells slots : Nat} {Q : State → Prop}
variable {mc ms : Nat} {free : Addr → Prop} {A0 A1 : Nat → Prop} {H0 : Heap} {a : Array Value} {pc : Nat} {ls : Array Slot} {st0 rest : List Value}
theorem vx_calle {ad : Nat → Nat} {S SX : Type} {post : Option Nat → S → Prop} {px : SX → Prop} {B : S → State → Prop} {BX : String → SX → State → Prop} {AX : Nat → Prop} (hr : vx_Run p l e R s m args below meth c H locs cells slots mc ms (F0 m pc ls st0) rest (va_Qe ad post B A1 a) (vx_X px BX AX) free) (hS : va_S A0 H0 H locs) (hA : ∀ q, q < H.size → A1 q → A0 q) (hf : ∀ q, free q → A0 q) (hAX : ∀ q, q < H.size → AX q → A0 q)
    (kx : ∀ (E : String) (ce : Cell) (q9 : Addr) (u : SX) (t : State) (H1 : Heap) (locs1 : List Loc), t.heap = H1 → s.vm.Alike t.vm → px u → BX E u t → H.size ≤ H1.size → (∀ q : Nat, q < H.size → ¬ AX q → H1[q]? = H[q]?) → va_S A0 H0 H1 locs1 → H1[q9]? = some ce → ce.vm = .none → s.vm.findClass E = some ce.cls → vx_W p l e R s m args below meth c H1 locs1 (cells + mc) (slots + ms) Q (F0 m pc ls rest) q9)
    (kk : ∀ (r : Option Nat) (u : S) (t : State) (H1 : Heap) (locs1 : List Loc), t.heap = H1 → s.vm.Alike t.vm → post r u → B u t → H.size ≤ H1.size → (∀ q : Nat, q < H.size → ¬ A1 q → H1[q]? = H[q]?) → va_S A0 H0 H1 locs1 → W p l e R s m args below meth c H1 locs1 (cells + mc) (slots + ms) Q (F0 m (pc + 3) ls (va_re ad r :: rest))) : W p l e R s m args below meth c H locs cells slots Q (F0 m pc ls st0) := by
  intro T hT X
  rcases hr T hT X with ⟨v, st₀, t, T', L, h0, X', hL, e1, e2, ⟨⟨r, u, hv, hp, hb⟩, hF⟩, st⟩ | ⟨q, st₀, t, T', L, E, ce, h0, X', hL, e1, e2, ⟨u, hp, hb, hF⟩, hce, hcv, hcl, st⟩
  · cases hv
    obtain ⟨k1, k2, k3⟩ := vx_keep h0 e1 hS hA hf hL hF
    obtain ⟨t2, a1, b1⟩ := kk r u t T'.heap (locs ++ L) e1.symm (by rw [← e2]; exact X'.warmed.alike) hp hb k1 k2 k3 T' rfl X'
    exact ⟨t2, st t2 a1, b1⟩
  · obtain ⟨k1, k2, k3⟩ := vx_keep h0 e1 hS hAX hf hL hF
    obtain ⟨t2, a1, b1⟩ := kx E ce q u t T'.heap (locs ++ L) e1.symm (by rw [← e2]; exact X'.warmed.alike) hp hb k1 k2 k3 (by rw [e1]; exact hce) hcv hcl T' rfl X'
    exact ⟨t2, st.trans a1, b1⟩
end
/-! ===== END ===== -/
/-! ===== BEGIN .. by an interface, an object ===== -/
section
variable {p : Program} {l : Launch} {e : Env} {R : Room} {s : State} {m : MethodId} {args : Array Value} {below : List Frame} {meth : Method} {c : Code} {H : Heap} {locs : List Loc} {cells slots : Nat} {Q : State → Prop}
variable {mc ms : Nat} {free : Addr → Prop} {A0 A1 : Nat → Prop} {H0 : Heap} {a : Array Value} {pc : Nat} {ls : Array Slot} {st0 rest : List Value}
theorem vx_callFq {S SX : Type} {post : Option Nat → S → Prop} {px : SX → Prop} {B : S → State → Prop} {BX : String → SX → State → Prop} {AX : Nat → Prop} (hr : vx_Run5 p l e R s m args below meth c H locs cells slots mc ms (F0 m pc ls st0) rest (va_Qq post B A1 a) (vx_X px BX AX) free) (hS : va_S A0 H0 H locs) (hA : ∀ q, q < H.size → A1 q → A0 q) (hf : ∀ q, free q → A0 q) (hAX : ∀ q, q < H.size → AX q → A0 q)
    (kx : ∀ (E : String) (ce : Cell) (q9 : Addr) (u : SX) (t : State) (H1 : Heap) (locs1 : List Loc), t.heap = H1 → s.vm.Alike t.vm → px u → BX E u t → H.size ≤ H1.size → (∀ q : Nat, q < H.size → ¬ AX q → H1[q]? = H[q]?) → va_S A0 H0 H1 locs1 → H1[q9]? = some ce → ce.vm = .none → s.vm.findClass E = some ce.cls → vx_W p l e R s m args below meth c H1 locs1 (cells + mc) (slots + ms) Q (F0 m pc ls rest) q9)
    (kk : ∀ (r : Option Nat) (u : S) (t : State) (H1 : Heap) (locs1 : List Loc), t.heap = H1 → s.vm.Alike t.vm → post r u → B u t → H.size ≤ H1.size → (∀ q : Nat, q < H.size → ¬ A1 q → H1[q]? = H[q]?) → va_S A0 H0 H1 locs1 → W p l e R s m args below meth c H1 locs1 (cells + mc) (slots + ms) Q (F0 m (pc + 5) ls (va_rf r :: rest))) : W p l e R s m args below meth c H locs cells slots Q (F0 m pc ls st0) := by
  intro T hT X
  rcases hr T hT X with ⟨v, st₀, t, T', L, h0, X', hL, e1, e2, ⟨⟨r, u, hv, hp, hb⟩, hF⟩, st⟩ | ⟨q, st₀, t, T', L, E, ce, h0, X', hL, e1, e2, ⟨u, hp, hb, hF⟩, hce, hcv, hcl, st⟩
  · cases hv
    obtain ⟨k1, k2, k3⟩ := vx_keep h0 e1 hS hA hf hL hF
    obtain ⟨t2, a1, b1⟩ := kk r u t T'.heap (locs ++ L) e1.symm (by rw [← e2]; exact X'.warmed.alike) hp hb k1 k2 k3 T' rfl X'
    exact ⟨t2, st t2 a1, b1⟩
  · obtain ⟨k1, k2, k3⟩ := vx_keep h0 e1 hS hAX hf hL hF
    obtain ⟨t2, a1, b1⟩ := kx E ce q u t T'.heap (locs ++ L) e1.symm (by rw [← e2]; exact X'.warmed.alike) hp hb k1 k2 k3 (by rw [e1]; exact hce) hcv hcl T' rfl X'
    exact ⟨t2, st.trans a1, b1⟩
end
/-! ===== END ===== -/
/-! ===== BEGIN .. by an interface, a constant ===== -/
section
variable {p : Program} {l : Launch} {e : Env} {R : Room} {s : State} {m : MethodId} {args : Array Value} {below : List Frame} {meth : Method} {c : Code} {H : Heap} {locs : List Loc} {cells slots : Nat} {Q : State → Prop}
variable {mc ms : Nat} {free : Addr → Prop} {A0 A1 : Nat → Prop} {H0 : Heap} {a : Array Value} {pc : Nat} {ls : Array Slot} {st0 rest : List Value}
theorem vx_callFe {ad : Nat → Nat} {S SX : Type} {post : Option Nat → S → Prop} {px : SX → Prop} {B : S → State → Prop} {BX : String → SX → State → Prop} {AX : Nat → Prop} (hr : vx_Run5 p l e R s m args below meth c H locs cells slots mc ms (F0 m pc ls st0) rest (va_Qe ad post B A1 a) (vx_X px BX AX) free) (hS : va_S A0 H0 H locs) (hA : ∀ q, q < H.size → A1 q → A0 q) (hf : ∀ q, free q → A0 q) (hAX : ∀ q, q < H.size → AX q → A0 q)
    (kx : ∀ (E : String) (ce : Cell) (q9 : Addr) (u : SX) (t : State) (H1 : Heap) (locs1 : List Loc), t.heap = H1 → s.vm.Alike t.vm → px u → BX E u t → H.size ≤ H1.size → (∀ q : Nat, q < H.size → ¬ AX q → H1[q]? = H[q]?) → va_S A0 H0 H1 locs1 → H1[q9]? = some ce → ce.vm = .none → s.vm.findClass E = some ce.cls → vx_W p l e R s m args below meth c H1 locs1 (cells + mc) (slots + ms) Q (F0 m pc ls rest) q9)
    (kk : ∀ (r : Option Nat) (u : S) (t : State) (H1 : Heap) (locs1 : List Loc), t.heap = H1 → s.vm.Alike t.vm → post r u → B u t → H.size ≤ H1.size → (∀ q : Nat, q < H.size → ¬ A1 q → H1[q]? = H[q]?) → va_S A0 H0 H1 locs1 → W p l e R s m args below meth c H1 locs1 (cells + mc) (slots + ms) Q (F0 m (pc + 5) ls (va_re ad r :: rest))) : W p l e R s m args below meth c H locs cells slots Q (F0 m pc ls st0) := by
  intro T hT X
  rcases hr T hT X with ⟨v, st₀, t, T', L, h0, X', hL, e1, e2, ⟨⟨r, u, hv, hp, hb⟩, hF⟩, st⟩ | ⟨q, st₀, t, T', L, E, ce, h0, X', hL, e1, e2, ⟨u, hp, hb, hF⟩, hce, hcv, hcl, st⟩
  · cases hv
    obtain ⟨k1, k2, k3⟩ := vx_keep h0 e1 hS hA hf hL hF
    obtain ⟨t2, a1, b1⟩ := kk r u t T'.heap (locs ++ L) e1.symm (by rw [← e2]; exact X'.warmed.alike) hp hb k1 k2 k3 T' rfl X'
    exact ⟨t2, st t2 a1, b1⟩
  · obtain ⟨k1, k2, k3⟩ := vx_keep h0 e1 hS hAX hf hL hF
    obtain ⟨t2, a1, b1⟩ := kx E ce q u t T'.heap (locs ++ L) e1.symm (by rw [← e2]; exact X'.warmed.alike) hp hb k1 k2 k3 (by rw [e1]; exact hce) hcv hcl T' rfl X'
    exact ⟨t2, st.trans a1, b1⟩
end
/-! ===== END ===== -/
/-! ===== BEGIN what the machine throws by itself: null at a field, at athrow ===== -/
section VXM2
variable {p : Program} {l : Launch} {e : Env} {R : Room} {s : State} {m : MethodId} {args : Array Value} {below : List Frame} {meth : Method} {c : Code} {H : Heap} {locs : List Loc} {cells slots : Nat}
variable {Q : State → Prop} {cc : ByteArray} {pc : Nat} {ls : Array Slot} {rest : List Value}
theorem vx_getfN {D cl tys} {own ref C : String} {T : u_T} {N ci index : Nat} {Ts : List Cond} (hexec : p.tables.exec = Jvm.exec) (hb : c.code = cc) (hts : ∀ w ∈ Ts, w.before args s = true) (hin : ∀ w ∈ u_ws C T N, w ∈ Ts) (hown : s.vm.findClass own = some m.cls) (hK : va_K D cl tys s) (hc : cl[ci]? = some (C, T, N)) (k : Nat) (hk : k < N) (hlink : (Cond.fieldLink own index ref (T k).2.1 (T k).2.2.1).before args s = true) (hsame : ∀ x, s.fieldFound? (T k).1 (T k).2.1 (T k).2.2.1 = some x → s.fieldFound? ref (T k).2.1 (T k).2.2.1 = some x) (hdg : decode cc pc = .ok (.getfield index, 3)) (kk : vx_NoteN p l e R s m args below meth c H locs cells slots Q (F0 m pc ls rest)) : W p l e R s m args below meth c H locs cells slots Q (F0 m pc ls (.null :: rest)) := by
  obtain ⟨hS, hfc, kC, hkC, -⟩ := hK.1 ci _ hc
  obtain ⟨cf, kf, fi, f, hi, -⟩ := hS k hk
  intro U hU X
  obtain ⟨vm', X1, st1⟩ := X.getfieldNull hexec hown hlink (hsame _ hi) (u_facts hfc hkC (u_lays hts hin hk) hi).1 (g := F0 m pc ls (.null :: rest)) rfl (rest := rest) rfl (by rw [hb]; exact hdg)
  obtain ⟨t, st, q⟩ := kk (U.setVm vm') hU X1
  exact ⟨t, st1 t st, q⟩
theorem vx_getfNN {D cl tys} {own ref C host : String} {T : u_T} {N ci index : Nat} {Ts : List Cond} (hexec : p.tables.exec = Jvm.exec) (hb : c.code = cc) (hts : ∀ w ∈ Ts, w.before args s = true) (hin : ∀ w ∈ u_ws C T N, w ∈ Ts) (hown : s.vm.findClass own = some m.cls) (hK : va_K D cl tys s) (hc : cl[ci]? = some (C, T, N)) (k : Nat) (hk : k < N) (hlink : (Cond.fieldLinkNest own index ref (T k).2.1 (T k).2.2.1 host).before args s = true) (hsame : ∀ x, s.fieldFound? (T k).1 (T k).2.1 (T k).2.2.1 = some x → s.fieldFound? ref (T k).2.1 (T k).2.2.1 = some x) (hdg : decode cc pc = .ok (.getfield index, 3)) (kk : vx_NoteN p l e R s m args below meth c H locs cells slots Q (F0 m pc ls rest)) : W p l e R s m args below meth c H locs cells slots Q (F0 m pc ls (.null :: rest)) := by
  obtain ⟨hS, hfc, kC, hkC, -⟩ := hK.1 ci _ hc
  obtain ⟨cf, kf, fi, f, hi, -⟩ := hS k hk
  intro U hU X
  obtain ⟨vm', X1, st1⟩ := X.getfieldNullNest hexec hown hlink (hsame _ hi) (u_facts hfc hkC (u_lays hts hin hk) hi).1 (g := F0 m pc ls (.null :: rest)) rfl (rest := rest) rfl (by rw [hb]; exact hdg)
  obtain ⟨t, st, q⟩ := kk (U.setVm vm') hU X1
  exact ⟨t, st1 t st, q⟩
theorem vx_putfN {D cl tys} {own ref C : String} {T : u_T} {N ci index : Nat} {Ts : List Cond} (hexec : p.tables.exec = Jvm.exec) (hb : c.code = cc) (hts : ∀ w ∈ Ts, w.before args s = true) (hin : ∀ w ∈ u_ws C T N, w ∈ Ts) (hown : s.vm.findClass own = some m.cls) (hK : va_K D cl tys s) (hc : cl[ci]? = some (C, T, N)) (k : Nat) (hk : k < N) (hlink : (Cond.fieldLink own index ref (T k).2.1 (T k).2.2.1).before args s = true) (hsame : ∀ x, s.fieldFound? (T k).1 (T k).2.1 (T k).2.2.1 = some x → s.fieldFound? ref (T k).2.1 (T k).2.2.1 = some x) (hfin : (T k).2.2.2 = false) {v : Value} (hdg : decode cc pc = .ok (.putfield index, 3)) (kk : vx_NoteN p l e R s m args below meth c H locs cells slots Q (F0 m pc ls rest)) : W p l e R s m args below meth c H locs cells slots Q (F0 m pc ls (v :: .null :: rest)) := by
  obtain ⟨hS, hfc, kC, hkC, -⟩ := hK.1 ci _ hc
  obtain ⟨cf, kf, fi, f, hi, -⟩ := hS k hk
  have hlay := hts _ (hin _ (u_in_lay hk))
  unfold u_lay at hlay
  rw [if_neg (by rw [hfin]; decide)] at hlay
  obtain ⟨c9, k9, cf9, kf9, fi9, f9, -, -, hi9, hst9, hnf9, -⟩ := Cond.lays_spec hlay
  cases hi.symm.trans hi9
  intro U hU X
  obtain ⟨vm', X1, st1⟩ := X.putfieldNull hexec hown hlink (hsame _ hi) hst9 hnf9 (g := F0 m pc ls (v :: .null :: rest)) rfl (v := v) (rest := rest) rfl (by rw [hb]; exact hdg)
  obtain ⟨t, st, q⟩ := kk (U.setVm vm') hU X1
  exact ⟨t, st1 t st, q⟩
theorem vx_putfNN {D cl tys} {own ref C host : String} {T : u_T} {N ci index : Nat} {Ts : List Cond} (hexec : p.tables.exec = Jvm.exec) (hb : c.code = cc) (hts : ∀ w ∈ Ts, w.before args s = true) (hin : ∀ w ∈ u_ws C T N, w ∈ Ts) (hown : s.vm.findClass own = some m.cls) (hK : va_K D cl tys s) (hc : cl[ci]? = some (C, T, N)) (k : Nat) (hk : k < N) (hlink : (Cond.fieldLinkNest own index ref (T k).2.1 (T k).2.2.1 host).before args s = true) (hsame : ∀ x, s.fieldFound? (T k).1 (T k).2.1 (T k).2.2.1 = some x → s.fieldFound? ref (T k).2.1 (T k).2.2.1 = some x) (hfin : (T k).2.2.2 = false) {v : Value} (hdg : decode cc pc = .ok (.putfield index, 3)) (kk : vx_NoteN p l e R s m args below meth c H locs cells slots Q (F0 m pc ls rest)) : W p l e R s m args below meth c H locs cells slots Q (F0 m pc ls (v :: .null :: rest)) := by
  obtain ⟨hS, hfc, kC, hkC, -⟩ := hK.1 ci _ hc
  obtain ⟨cf, kf, fi, f, hi, -⟩ := hS k hk
  have hlay := hts _ (hin _ (u_in_lay hk))
  unfold u_lay at hlay
  rw [if_neg (by rw [hfin]; decide)] at hlay
  obtain ⟨c9, k9, cf9, kf9, fi9, f9, -, -, hi9, hst9, hnf9, -⟩ := Cond.lays_spec hlay
  cases hi.symm.trans hi9
  intro U hU X
  obtain ⟨vm', X1, st1⟩ := X.putfieldNullNest hexec hown hlink (hsame _ hi) hst9 hnf9 (g := F0 m pc ls (v :: .null :: rest)) rfl (v := v) (rest := rest) rfl (by rw [hb]; exact hdg)
  obtain ⟨t, st, q⟩ := kk (U.setVm vm') hU X1
  exact ⟨t, st1 t st, q⟩
theorem vx_athrowN (hexec : p.tables.exec = Jvm.exec) (hb : c.code = cc) (hdg : decode cc pc = .ok (.athrow, 1)) (k : vx_NoteN p l e R s m args below meth c H locs cells slots Q (F0 m pc ls rest)) : W p l e R s m args below meth c H locs cells slots Q (F0 m pc ls (.null :: rest)) := by
  intro T hT X
  obtain ⟨t, st, q⟩ := k T hT X
  exact ⟨t, X.athrowNull hexec (g := F0 m pc ls (.null :: rest)) rfl (rest := rest) rfl (by rw [hb]; exact hdg) t st, q⟩
end VXM2
/-! ===== END ===== -/
end
section
/-! ===== facts of the tables, decided by the kernel ===== -/
def am_T (ci : Nat) : u_T := ((vwCl[ci]?).map (fun q => q.2.1)).getD (fun _ => ("", "", "", false))
def am_N (ci : Nat) : Nat := ((vwCl[ci]?).map (fun q => q.2.2)).getD 0
def am_mkb (o : Nat) (q : Nat × Nat × Nat × List Nat) : Bool := match q with
  | (ix, 0, mid, [a, b, c, d]) => am_hs a (.methodLink (am_R o) ix (am_y mid)) && am_hs b (.instanceMethod (am_y mid)) && am_hs c (.selects (am_y mid).cls (am_y mid) (am_y mid)) && am_hs d (.initialized (am_y mid).cls) && Nat.ble 1 (am_na mid) && decide ((parseMethodDescriptor (am_y mid).desc).map (fun d => d.parameters.length) = some (am_na mid - 1)) && Nat.blt mid 106
  | (ix, 1, mid, [a, b, c]) => am_hs a (.methodLink (am_R o) ix (am_y mid)) && am_hs b (.static (am_y mid)) && am_hs c (.initialized (am_y mid).cls) && decide ((parseMethodDescriptor (am_y mid).desc).map (fun d => d.parameters.length) = some (am_na mid)) && Nat.blt mid 106
  | (ix, 3, mid, [_, b, c]) => decide (Cond.methodLinkNest (am_R o) ix (am_y mid) "SharedConsole" = Cond.methodLinkNest "SharedConsole" 11 ⟨"SharedConsole$Text", "<init>", "()V"⟩ "SharedConsole") && am_hs b (.static (am_y mid)) && am_hs c (.initialized (am_y mid).cls) && decide ((parseMethodDescriptor (am_y mid).desc).map (fun d => d.parameters.length) = some (am_na mid)) && Nat.blt mid 106
  | _ => false
set_option maxRecDepth 100000 in
theorem am_mk_all : (List.range 13).all (fun o => (am_mkL.getD o []).all (am_mkb o)) = true := by decide +kernel
def am_mdb (m : Nat) : Bool := am_hs (am_cwL.getD m 0) (.code (am_y m) (am_cc m) (am_ml m) (am_re m)) && decide ((am_y m).cls = am_own m) && decide ((am_y m).cls ≠ "java/lang/invoke/MethodHandle") && decide ((am_y m).cls ≠ "java/lang/invoke/VarHandle") && (plainName (am_y m).cls || Nat.blt m 3)
set_option maxRecDepth 100000 in
theorem am_md_0 : ((List.range 106).drop 0 |>.take 12).all am_mdb = true := by decide +kernel
set_option maxRecDepth 100000 in
theorem am_md_1 : ((List.range 106).drop 12 |>.take 12).all am_mdb = true := by decide +kernel
set_option maxRecDepth 100000 in
theorem am_md_2 : ((List.range 106).drop 24 |>.take 12).all am_mdb = true := by decide +kernel
set_option maxRecDepth 100000 in
theorem am_md_3 : ((List.range 106).drop 36 |>.take 12).all am_mdb = true := by decide +kernel
set_option maxRecDepth 100000 in
theorem am_md_4 : ((List.range 106).drop 48 |>.take 12).all am_mdb = true := by decide +kernel
set_option maxRecDepth 100000 in
theorem am_md_5 : ((List.range 106).drop 60 |>.take 12).all am_mdb = true := by decide +kernel
set_option maxRecDepth 100000 in
theorem am_md_6 : ((List.range 106).drop 72 |>.take 12).all am_mdb = true := by decide +kernel
set_option maxRecDepth 100000 in
theorem am_md_7 : ((List.range 106).drop 84 |>.take 12).all am_mdb = true := by decide +kernel
set_option maxRecDepth 100000 in
theorem am_md_8 : ((List.range 106).drop 96 |>.take 12).all am_mdb = true := by decide +kernel
def am_fkb (o : Nat) (q : Nat × Nat × Nat × Nat) : Bool := am_hs q.2.2.2 (.fieldLink (am_R o) q.1 (am_T q.2.1 q.2.2.1).1 (am_T q.2.1 q.2.2.1).2.1 (am_T q.2.1 q.2.2.1).2.2.1) && Nat.blt q.2.1 11 && Nat.blt q.2.2.1 (am_N q.2.1)
set_option maxRecDepth 100000 in
theorem am_fk_all : (List.range 13).all (fun o => (am_fkL.getD o []).all (am_fkb o)) = true := by decide +kernel
set_option maxRecDepth 100000 in
theorem am_fi_all : (List.range 11).all (fun ci => (List.range (am_N ci)).all (fun j => am_fi ci j == decide ((am_T ci j).2.2.1 = "I") && (am_fw ci j == (am_fi ci j && !(am_T ci j).2.2.2)))) = true := by decide +kernel
set_option maxRecDepth 100000 in
theorem am_uw_all : (List.range 11).all (fun ci => (u_ws (am_R ci) (am_T ci) (am_N ci)).all (fun w => decide (w ∈ lw_tbl) && goodWord w)) = true := by decide +kernel
set_option maxRecDepth 100000 in
theorem am_nF_all : (List.range 11).all (fun ci => Nat.beq (am_nF ci) (am_N ci) && decide ((vwCl[ci]?).map (fun q => q.1) = some (am_R ci))) = true := by decide +kernel
set_option maxRecDepth 100000 in
theorem am_kd_all : (List.range am_kdL.length).all (fun a => Nat.beq (am_kd a).1 0 || (Nat.beq (am_kd a).1 1 && Nat.blt a am_n0 && Nat.blt (am_kd a).2.1 11) || (Nat.beq (am_kd a).1 2 && Nat.blt a am_n0 && Nat.beq (am_kd a).2.1 0) || (Nat.beq (am_kd a).1 5 && Nat.blt a am_n0 && Nat.beq (am_kd a).2.1 1) || (Nat.beq (am_kd a).1 3 && Nat.blt a am_n0 && Nat.blt 1 (am_kd a).2.1 && Nat.blt (am_kd a).2.1 7) || (Nat.beq (am_kd a).1 4 && Nat.ble am_n0 a && Nat.blt a 208) || (Nat.beq (am_kd a).1 6 && Nat.ble 208 a && Nat.blt a 213)) = true := by decide +kernel
/-- the words of the throws that don't lie in the tables for good -/
abbrev am_tw : List Cond := vx_at0 RX9 319 "java/lang/IndexOutOfBoundsException" ["java/lang/RuntimeException", "java/lang/Exception"]
set_option maxRecDepth 100000 in
theorem am_tw_good : (am_tw.filter goodWord).all (fun w => decide (w ∈ lw_tbl)) = true := by decide +kernel
end
section
/-! ===== an interpreter of my own over a plain heap of ints, and that it tells the truth of the machine ===== -/
section AMDEF
abbrev am_Hp : Type := Nat → Nat → Int32
abbrev am_Out : Type := Option (Option Value)
abbrev am_Lc : Type := List (Nat × Value)
abbrev am_Orc : Type 1 := (γ : Type) → Nat → List Value → am_Hp → (am_Out → am_Hp → Option γ) → Option γ
def am_pi (h : am_Hp) (a k : Nat) (v : Int32) : am_Hp := fun x y => if x = a ∧ y = k then v else h x y
def am_in (x : Int32) (n : Nat) : Bool := decide (¬ (x < 0 ∨ n ≤ x.toNatClampNeg))
def am_isO (a ci : Nat) : Bool := Nat.beq (am_kd a).1 1 && Nat.beq (am_kd a).2.1 ci
def am_isI (a : Nat) : Bool := Nat.beq (am_kd a).1 2
def am_isA (a : Nat) : Bool := Nat.beq (am_kd a).1 3
def am_isF (a : Nat) : Bool := Nat.beq (am_kd a).1 4
def am_isB (a : Nat) : Bool := Nat.beq (am_kd a).1 5
def am_len (a : Nat) : Nat := (am_kd a).2.2
def am_ld (ρ : am_Lc) (i : Nat) : Option Value := (ρ.find? (fun q => Nat.beq q.1 i)).map (fun q => q.2)
def am_stl (ρ : am_Lc) (i : Nat) (v : Value) : am_Lc := (i, v) :: ρ.filter (fun q => !(q.1 == i) && !(q.1 + 1 == i && q.2.category == 2))
variable {γ : Type}
def am_ldi (ρ : am_Lc) (i : Nat) (k : Int32 → Option γ) : Option γ := match am_ld ρ i with
  | some (.int x) => k x
  | _ => none
def am_lda (ρ : am_Lc) (i : Nat) (k : Nat → Option γ) : Option γ := match am_ld ρ i with
  | some (.ref x) => k x
  | _ => none
def am_ldf (ρ : am_Lc) (i : Nat) (k : UInt32 → Option γ) : Option γ := match am_ld ρ i with
  | some (.float x) => k x
  | _ => none
def am_s1 (st : List Value) (k : Int32 → List Value → Option γ) : Option γ := match st with
  | .int x :: r => k x r
  | _ => none
def am_s2 (st : List Value) (k : Int32 → Int32 → List Value → Option γ) : Option γ := match st with
  | .int y :: .int x :: r => k x y r
  | _ => none
def am_sa (st : List Value) (k : Nat → List Value → Option γ) : Option γ := match st with
  | .ref x :: r => k x r
  | _ => none
def am_sia (st : List Value) (k : Nat → Int32 → List Value → Option γ) : Option γ := match st with
  | .int x :: .ref a :: r => k a x r
  | _ => none
def am_siia (st : List Value) (k : Nat → Int32 → Int32 → List Value → Option γ) : Option γ := match st with
  | .int x :: .int i :: .ref a :: r => k a i x r
  | _ => none
def am_sf (st : List Value) (k : UInt32 → List Value → Option γ) : Option γ := match st with
  | .float x :: r => k x r
  | _ => none
def am_sff (st : List Value) (k : UInt32 → UInt32 → List Value → Option γ) : Option γ := match st with
  | .float y :: .float x :: r => k x y r
  | _ => none
def am_d1 (st : List Value) (k : Value → List Value → Option γ) : Option γ := match st with
  | .int x :: r => k (.int x) r
  | .ref x :: r => k (.ref x) r
  | _ => none
def am_d2 (st : List Value) (k : Value → Value → List Value → Option γ) : Option γ := match st with
  | .int x :: .ref y :: r => k (.int x) (.ref y) r
  | .int x :: .int y :: r => k (.int x) (.int y) r
  | _ => none
def am_to (pc : Nat) (off : Int) (k : Nat → Option γ) : Option γ := match (pc : Int) + off with
  | .ofNat t => k t
  | .negSucc _ => none
def am_cmp (cd : ClassFile.Cond) (x y : Int32) (a b : Option γ) : Option γ := match cd with
  | .eq => if x = y then a else b
  | .ne => if x = y then b else a
  | .lt => if x < y then a else b
  | .ge => if y ≤ x then a else b
  | .gt => if y < x then a else b
  | .le => if x ≤ y then a else b
def am_sw (pc : Nat) (x : Int32) (d : Option γ) (k : Nat → Option γ) : Int → List Int → Option γ
  | _, [] => d
  | lo, o :: os => if x.toInt = lo then am_to pc o k else am_sw pc x d k (lo + 1) os
def am_rmOk (me mid : Nat) : Bool := Nat.ble (am_fr mid + 1) (am_fr me) && Nat.ble (8 + (am_ml mid + 11) + am_lo mid) (am_lo me)
def am_rcv (kd mid : Nat) (as : List Value) : Bool := bif Nat.beq kd 1 then true else match as with
  | .ref a :: _ => bif Nat.beq (am_ow mid) 12 then Nat.beq (am_kd a).1 6 else am_isO a (am_ow mid)
  | _ => false
/-- what a call's outcome does to the caller -/
def am_back (pc : Nat) (ρ : am_Lc) (rest : List Value) (ret : am_Out → am_Hp → Option γ) (k : Nat → am_Lc → List Value → am_Hp → Option γ) : am_Out → am_Hp → Option γ := fun o h' => match o with
  | none => ret none h'
  | some none => k (pc + 3) ρ rest h'
  | some (some v) => k (pc + 3) ρ (v :: rest) h'
def am_inv (me kd : Nat) (pc : Nat) (ix : Nat) (ρ : am_Lc) (st : List Value) (h : am_Hp) (orc : am_Orc) (ret : am_Out → am_Hp → Option γ) (k : Nat → am_Lc → List Value → am_Hp → Option γ) : Option γ :=
  match am_mk me ix with
  | none => none
  | some (kd', mid) => bif Nat.blt mid 2 then (bif Nat.beq kd' 1 && Nat.beq kd 1 && Nat.ble st.length 6 && Nat.ble 1 (am_fr me) && Nat.ble 21 (am_lo me) then am_s2 st (fun x y r => k (pc + 3) ρ (.int (bif Nat.beq mid 0 then (if x < y then y else x) else (if y < x then y else x)) :: r) h) else none) else bif Nat.beq (kd' % 2) kd && Nat.ble (am_na mid) st.length && Nat.ble ((st.drop (am_na mid)).map (fun v => v.category)).sum 8 && am_rmOk me mid && am_rcv kd mid (st.take (am_na mid)).reverse
      then orc γ mid (st.take (am_na mid)).reverse h (am_back pc ρ (st.drop (am_na mid)) ret k) else none
/-- one instruction -/
def am_op (me : Nat) (pc : Nat) (ins : Instr) (len : Nat) (ρ : am_Lc) (st : List Value) (h : am_Hp) (orc : am_Orc) (ret : am_Out → am_Hp → Option γ) (k : Nat → am_Lc → List Value → am_Hp → Option γ) : Option γ := match ins with
  | .iload_n i => am_ldi ρ i (fun x => k (pc + len) ρ (.int x :: st) h)
  | .iload i => am_ldi ρ i (fun x => k (pc + len) ρ (.int x :: st) h)
  | .aload_n i => am_lda ρ i (fun x => k (pc + len) ρ (.ref x :: st) h)
  | .aload i => am_lda ρ i (fun x => k (pc + len) ρ (.ref x :: st) h)
  | .istore_n i => am_s1 st (fun x r => bif Nat.blt i (am_ml me) then k (pc + len) (am_stl ρ i (.int x)) r h else none)
  | .istore i => am_s1 st (fun x r => bif Nat.blt i (am_ml me) then k (pc + len) (am_stl ρ i (.int x)) r h else none)
  | .astore_n i => am_sa st (fun x r => bif Nat.blt i (am_ml me) then k (pc + len) (am_stl ρ i (.ref x)) r h else none)
  | .astore i => am_sa st (fun x r => bif Nat.blt i (am_ml me) then k (pc + len) (am_stl ρ i (.ref x)) r h else none)
  | .iinc i n => am_ldi ρ i (fun x => bif Nat.blt i (am_ml me) then k (pc + len) (am_stl ρ i (.int (x + Int32.ofInt n))) st h else none)
  | .iconst n => k (pc + len) ρ (.int (Int32.ofInt n) :: st) h
  | .bipush n => k (pc + len) ρ (.int (Int8.ofInt n).toInt32 :: st) h
  | .sipush n => k (pc + len) ρ (.int (Int16.ofInt n).toInt32 :: st) h
  | .ldc ix => match am_cst me ix with
    | some (.inl v) => k (pc + len) ρ (.int v :: st) h
    | some (.inr i) => k (pc + len) ρ (.ref i :: st) h
    | none => none
  | .iadd => am_s2 st (fun x y r => k (pc + len) ρ (.int (x + y) :: r) h)
  | .isub => am_s2 st (fun x y r => k (pc + len) ρ (.int (x - y) :: r) h)
  | .imul => am_s2 st (fun x y r => k (pc + len) ρ (.int (x * y) :: r) h)
  | .idiv => am_s2 st (fun x y r => if y = 0 then none else k (pc + len) ρ (.int (x / y) :: r) h)
  | .irem => am_s2 st (fun x y r => if y = 0 then none else k (pc + len) ρ (.int (x - x / y * y) :: r) h)
  | .ishl => am_s2 st (fun x y r => k (pc + len) ρ (.int (x <<< (y &&& 31)) :: r) h)
  | .ishr => am_s2 st (fun x y r => k (pc + len) ρ (.int (x >>> (y &&& 31)) :: r) h)
  | .iand => am_s2 st (fun x y r => k (pc + len) ρ (.int (x &&& y) :: r) h)
  | .ior => am_s2 st (fun x y r => k (pc + len) ρ (.int (x ||| y) :: r) h)
  | .ixor => am_s2 st (fun x y r => k (pc + len) ρ (.int (x ^^^ y) :: r) h)
  | .dup => am_d1 st (fun v r => k (pc + len) ρ (v :: v :: r) h)
  | .dup2 => am_d2 st (fun v w r => k (pc + len) ρ (v :: w :: v :: w :: r) h)
  | .pop => am_d1 st (fun _ r => k (pc + len) ρ r h)
  | .i2f => am_s1 st (fun x r => k (pc + len) ρ (.float (FP.i2f x) :: r) h)
  | .fdiv => am_sff st (fun x y r => if FP.fdiv x y &&& 0x7fffffff ≤ 0x7f800000 then k (pc + len) ρ (.float (FP.fdiv x y) :: r) h else none)
  | .fconst n => bif Nat.beq n 0 then k (pc + len) ρ (.float 0 :: st) h else none
  | .goto off => am_to pc off (fun t => k t ρ st h)
  | .if_icmp cd off => am_s2 st (fun x y r => am_to pc off (fun t => am_cmp cd x y (k t ρ r h) (k (pc + len) ρ r h)))
  | .ifCond cd off => am_s1 st (fun x r => am_to pc off (fun t => am_cmp cd x 0 (k t ρ r h) (k (pc + len) ρ r h)))
  | .tableswitch d lo hi offs => am_s1 st (fun x r => bif decide (hi + 1 = lo + (offs.toList.length : Int)) then am_sw pc x (am_to pc d (fun t => k t ρ r h)) (fun t => k t ρ r h) lo offs.toList else none)
  | .getfield ix => match am_fk me ix with
    | none => none
    | some (ci, j) => am_sa st (fun a r => bif am_isO a ci then (bif am_fi ci j then k (pc + len) ρ (.int (h a j) :: r) h else (am_G a j).bind (fun b => k (pc + len) ρ (.ref b :: r) h)) else none)
  | .putfield ix => match am_fk me ix with
    | none => none
    | some (ci, j) => am_s1 st (fun x r => am_sa r (fun a r => bif am_fw ci j && am_isO a ci then k (pc + len) ρ r (am_pi h a j x) else none))
  | .getstatic ix => match am_sk me ix with
    | none => none
    | some i => k (pc + len) ρ (.ref i :: st) h
  | .iaload => am_sia st (fun a x r => bif am_in x (am_len a) then (bif am_isI a then k (pc + len) ρ (.int (h a x.toNatClampNeg) :: r) h else bif am_isF a then k (pc + len) ρ (.int (am_sx a x.toNatClampNeg) :: r) h else none) else none)
  | .baload => am_sia st (fun a x r => bif am_isB a && am_in x (am_len a) then k (pc + len) ρ (.int (h a x.toNatClampNeg) :: r) h else none)
  | .aaload => am_sia st (fun a x r => bif am_isA a && am_in x (am_len a) then (am_G a x.toNatClampNeg).bind (fun b => k (pc + len) ρ (.ref b :: r) h) else none)
  | .iastore => am_siia st (fun a i x r => bif am_isI a && am_in i (am_len a) then k (pc + len) ρ r (am_pi h a i.toNatClampNeg x) else none)
  | .bastore => am_siia st (fun a i x r => bif am_isB a && am_in i (am_len a) then k (pc + len) ρ r (am_pi h a i.toNatClampNeg (x &&& 1)) else none)
  | .arraylength => am_sa st (fun a r => bif am_isI a || am_isA a || am_isF a then k (pc + len) ρ (.int (Int32.ofNat (am_len a)) :: r) h else none)
  | .invokevirtual ix => am_inv me 0 pc ix ρ st h orc ret k
  | .invokestatic ix => am_inv me 1 pc ix ρ st h orc ret k
  | .new ix => bif am_thr me pc ix && Nat.ble 6 (am_fr me) && Nat.ble 100 (am_lo me) && st.isEmpty then ret none h else none
  | .ireturn => am_s1 st (fun x r => bif r.isEmpty then (bif Nat.beq (am_rk me) 1 then ret (some (some (.int x))) h else bif Nat.beq (am_rk me) 2 then (if x &&& 1 = x then ret (some (some (.int x))) h else none) else none) else none)
  | .areturn => am_sa st (fun x r => bif r.isEmpty && Nat.beq (am_rk me) 4 then ret (some (some (.ref x))) h else none)
  | .freturn => am_sf st (fun x r => bif r.isEmpty && Nat.beq (am_rk me) 3 then ret (some (some (.float x))) h else none)
  | .return_ => bif st.isEmpty && Nat.beq (am_rk me) 5 then ret (some none) h else none
  | _ => none
def am_at (tab : List (Nat × Instr × Nat)) (pc : Nat) : Option (Instr × Nat) := (tab.find? (fun q => Nat.beq q.1 pc)).map (fun q => q.2)
abbrev am_Cut (γ : Type) : Type := Nat → Option (am_Lc → List Value → am_Hp → Option γ)
def am_sem (me : Nat) (tab : List (Nat × Instr × Nat)) (cut : am_Cut γ) (orc : am_Orc) (ret : am_Out → am_Hp → Option γ) : Nat → Nat → am_Lc → List Value → am_Hp → Option γ
  | 0, _, _, _, _ => none
  | f + 1, pc, ρ, st, h => match am_at tab pc with
    | none => none
    | some q => am_op me pc q.1 q.2 ρ st h orc ret (fun pc' ρ' st' h' => match cut pc' with
      | some c => c ρ' st' h'
      | none => am_sem me tab cut orc ret f pc' ρ' st' h')
end AMDEF
end
section
/-! ===== that the interpreter tells the truth: what it computes, the machine does ===== -/
section AMS
def am_rl (al : Nat → Nat) (v : Value) : Value := match v with
  | .ref a => .ref (al a)
  | w => w
theorem am_rl_cat (al : Nat → Nat) (v : Value) : (am_rl al v).category = v.category := by cases v <;> rfl
def am_rls (al : Nat → Nat) (ρ : am_Lc) : am_Lc := ρ.map (fun q => (q.1, am_rl al q.2))
def am_fv (al : Nat → Nat) (h : am_Hp) (k j : Nat) : Value := bif am_fi (am_kd k).2.1 j then .int (h k j) else va_rf ((am_G k j).map al)
def am_cell (al : Nat → Nat) (aC : Nat → ClassId) (h : am_Hp) (k : Nat) : va_E :=
  bif Nat.beq (am_kd k).1 1 then .inr ((am_kd k).2.1, (List.range (am_nF (am_kd k).2.1)).map (am_fv al h k))
  else bif Nat.beq (am_kd k).1 3 then .inl (aC (am_kd k).2.1, (am_kd k).2.2, .inr (.inr (.inr (.inr (fun j => (am_G k j).map al)))))
  else .inl (aC (am_kd k).2.1, (am_kd k).2.2, .inl (h k))
def am_W (al : Nat → Nat) (aC : Nat → ClassId) (h : am_Hp) : va_W := (List.range am_n0).map (fun k => (al k, am_cell al aC h k))
def am_tys (aC : Nat → ClassId) : List (ClassId × FieldType) := (List.range 7).map (fun t => (aC t, am_tyL.getD t .int))
def am_A (al : Nat → Nat) (sz : Nat) : Nat → Prop := fun q => (∃ k, k < am_n0 ∧ q = al k) ∨ sz ≤ q
def am_TB : List Cond := [.declares (Bundle.init0 "java/lang/RuntimeException"), .declares (Bundle.init0 "java/lang/Exception"), .declares (Bundle.init0 Bundle.tN), .castable "java/lang/IndexOutOfBoundsException" "java/lang/IndexOutOfBoundsException"]
def am_sbyt : List (List Int32) := am_stL.map (fun t => t.toList.map (fun c => Int32.ofNat c.toNat))
/-- what stays: the static arrays, the statics that a throw reads, the strings, the words that don't lie in the tables for good -/
def am_Fx (al aV : Nat → Nat) (A : Nat → Prop) (U : State) (H : Heap) : Prop :=
  (∀ q ∈ am_sfL, va_X (al q.1) (am_len q.1) (am_sx q.1) U H ∧ ¬ A (al q.1) ∧ al q.1 < H.size ∧ va_Z q.2.1 q.2.2.1 q.2.2.2 (.ref (al q.1)) A U H) ∧
  vx_Zq Bundle.tN "UNASSIGNED_STACK" Bundle.steD A U H ∧ vx_Zq Bundle.tN "SUPPRESSED_SENTINEL" Bundle.listD A U H ∧
  vk_S 5 (am_stL.map (fun t => t.length)) am_sbyt (fun i => al (am_s0 + i)) aV A U H ∧
  (∀ (o : Nat) (q : Nat × (Int32 ⊕ Nat) × Nat) (i : Nat), q ∈ am_ckL.getD o [] → q.2.1 = .inr i → vk_R (am_R o) q.1 (am_stL.getD (i - am_s0) "") (al i) U) ∧
  (∀ w ∈ am_TB, va_Nw w U) ∧ va_Nw (.methodLinkNest "SharedConsole" 11 ⟨"SharedConsole$Text", "<init>", "()V"⟩ "SharedConsole") U ∧
  (∀ (o : Nat) (q : Nat × Nat × Nat × Nat) (z : Nat × String × String × String), q ∈ am_skL.getD o [] → z ∈ am_sfL → z.1 = q.2.1 → (q.2.2.1 = 0 ∧ va_Nw (.fieldLink (am_R o) q.1 z.2.1 z.2.2.1 z.2.2.2) U) ∨ (q.2.2.1 = 1 ∧ va_Nw (.fieldLinkNest (am_R o) q.1 z.2.1 z.2.2.1 z.2.2.2 "SharedConsole") U)) ∧
  (∀ (o : Nat) (q : Nat × (Int32 ⊕ Nat) × Nat) (v : Int32), q ∈ am_ckL.getD o [] → q.2.1 = .inl v → va_Nw (.constant (am_R o) q.1 v) U) ∧
  va_Nw (.classLink RX9 317 "java/lang/IndexOutOfBoundsException") U ∧ va_Nw (.initialized "java/lang/IndexOutOfBoundsException") U ∧
  va_Z "java/lang/String" "COMPACT_STRINGS" "Z" (.int 1) A U H ∧ va_Zq "jdk/internal/util/Preconditions" "SIOOBE_FORMATTER" "Ljava/util/function/BiFunction;" A U H
def am_B (al : Nat → Nat) (dC : Nat → ClassId) (dI : Nat → Nat → Nat) (aC : Nat → ClassId) (h : am_Hp) (U : State) : Prop :=
  va_P (dC, dI) vwCl (am_W al aC h) U.heap ∧ va_K (dC, dI) vwCl (am_tys aC) U
def am_mc (o : am_Out) : Nat := match o with
  | none => 1
  | some _ => 0
def am_ms (o : am_Out) : Nat := match o with
  | none => 6
  | some _ => 0
def am_Q (al : Nat → Nat) (dC : Nat → ClassId) (dI : Nat → Nat → Nat) (aC : Nat → ClassId) (o : am_Out) (h : am_Hp) (A : Nat → Prop) : Array Value → State → Outcome → State → Prop := fun _ st oc t =>
  ∃ v, o = some v ∧ oc = .returned (v.map (am_rl al)) ∧ am_B al dC dI aC h t ∧ va_F A st t
def am_X (al : Nat → Nat) (dC : Nat → ClassId) (dI : Nat → Nat → Nat) (aC : Nat → ClassId) (o : am_Out) (h : am_Hp) (A : Nat → Prop) : String → State → State → Prop := fun E st t =>
  o = none ∧ E = "java/lang/IndexOutOfBoundsException" ∧ am_B al dC dI aC h t ∧ va_F A st t
def am_rm (mid : Nat) (o : am_Out) : Room := { frames := am_fr mid, cells := am_mc o, slots := am_ms o, locals := am_lo mid }
def am_ws (mid : Nat) : List Cond := .code (am_y mid) (am_cc mid) (am_ml mid) (am_re mid) :: am_AT
/-- method mid, called with these values over this heap, ends so, over that heap -/
def am_Met (l : Launch) (al : Nat → Nat) (dC : Nat → ClassId) (dI : Nat → Nat → Nat) (aC : Nat → ClassId) (aV : Nat → Nat) (mid : Nat) (as : List Value) (h : am_Hp) (o : am_Out) (h' : am_Hp) : Prop :=
  ∀ sz : Nat, vx_Met l (am_y mid) (am_ws mid) (am_rm mid o) (va_Pc (as.map (am_rl al)) (fun U => U.heap.size = sz ∧ am_B al dC dI aC h U ∧ am_Fx al aV (am_A al sz) U U.heap)) (am_Q al dC dI aC o h' (am_A al sz)) (am_X al dC dI aC o h' (am_A al sz)) (am_mc o) (am_ms o) (am_A al sz)
def am_OS (l : Launch) (al : Nat → Nat) (dC : Nat → ClassId) (dI : Nat → Nat → Nat) (aC : Nat → ClassId) (aV : Nat → Nat) (orc : am_Orc) : Prop :=
  ∀ (γ : Type) (mid : Nat) (as : List Value) (h : am_Hp) (k : am_Out → am_Hp → Option γ) (g : γ), orc γ mid as h k = some g → ∃ o h', am_Met l al dC dI aC aV mid as h o h' ∧ k o h' = some g
def am_Inj (al : Nat → Nat) : Prop := ∀ i j, i < am_n0 → j < am_n0 → al i = al j → i = j
-- ---- small facts
theorem am_AT_good {w : Cond} (h : w ∈ am_AT) : (w.onTables && w.keeps) = true ∨ ∃ ty, w = .arrayClass ty := good_of_word (List.mem_filter.mp h).2
theorem am_AT_sub {ws : List Cond} (h : ∀ w ∈ ws, w ∈ am_AT) : GoodIn am_AT ws := fun w hw => ⟨h w hw, am_AT_good (h w hw)⟩
theorem am_lk_mem {α : Type} : ∀ (l : List (Nat × α)) (i : Nat) (x : α), am_lk l i = some x → (i, x) ∈ l
  | [], _, _, h => by cases h
  | q :: l, i, x, h => by
    unfold am_lk at h
    cases hq : Nat.beq q.1 i with
    | true =>
      rw [hq] at h
      have e1 : q.1 = i := Nat.eq_of_beq_eq_true hq
      have e2 : q.2 = x := Option.some.inj h
      rw [← e1, ← e2]
      exact List.mem_cons_self
    | false =>
      rw [hq] at h
      exact List.mem_cons_of_mem _ (am_lk_mem l i x h)
theorem am_rngD {α : Type} {L : List (List α)} {n : Nat} {P : Nat → α → Bool} (hn : L.length ≤ n) (h : (List.range n).all (fun o => (L.getD o []).all (P o)) = true) (o : Nat) {x : α} (hx : x ∈ L.getD o []) : P o x = true := by
  have h1 := List.all_eq_true.mp h
  by_cases ho : o < n
  · exact List.all_eq_true.mp (h1 o (List.mem_range.mpr ho)) x hx
  · have : L.getD o [] = [] := by
      rw [List.getD_eq_getElem?_getD, List.getElem?_eq_none (by omega)]; rfl
    rw [this] at hx
    cases hx
theorem am_md {m : Nat} (hm : m < 106) : am_mdb m = true := by
  have key : ∀ i, i < 9 → ((List.range 106).drop (12 * i) |>.take 12).all am_mdb = true := by
    intro i hi
    match i, hi with
    | 0, _ => exact am_md_0
    | 1, _ => exact am_md_1
    | 2, _ => exact am_md_2
    | 3, _ => exact am_md_3
    | 4, _ => exact am_md_4
    | 5, _ => exact am_md_5
    | 6, _ => exact am_md_6
    | 7, _ => exact am_md_7
    | 8, _ => exact am_md_8
    | n + 9, h => exact absurd h (by omega)
  have h := List.all_eq_true.mp (key (m / 12) (by omega)) m
  refine h ?_
  refine List.mem_of_getElem? (i := m % 12) ?_
  rw [List.getElem?_take, if_pos (Nat.mod_lt _ (by omega)), List.getElem?_drop, List.getElem?_range (by omega)]
  congr 1
  omega
theorem am_md_spec {m : Nat} (hm : m < 106) : Cond.code (am_y m) (am_cc m) (am_ml m) (am_re m) ∈ am_AT ∧ (am_y m).cls = am_own m ∧ (am_y m).cls ≠ "java/lang/invoke/MethodHandle" ∧ (am_y m).cls ≠ "java/lang/invoke/VarHandle" ∧ (plainName (am_y m).cls = true ∨ m < 3) := by
  have h := am_md hm
  simp only [am_mdb, Bool.and_eq_true, Bool.or_eq_true, decide_eq_true_eq] at h
  obtain ⟨⟨⟨⟨h1, h2⟩, h3⟩, h4⟩, h5⟩ := h
  exact ⟨am_hs_in h1, h2, h3, h4, h5.imp id Nat.blt_eq.mp⟩
theorem am_mkL_len : am_mkL.length ≤ 13 := by decide
theorem am_mk_spec {me ix kd mid : Nat} (h : am_mk me ix = some (kd, mid)) :
    mid < 106 ∧ (.initialized (am_y mid).cls : Cond) ∈ am_AT ∧
    ((kd = 0 ∧ (.methodLink (am_own me) ix (am_y mid) : Cond) ∈ am_AT ∧ (.instanceMethod (am_y mid) : Cond) ∈ am_AT ∧ (.selects (am_y mid).cls (am_y mid) (am_y mid) : Cond) ∈ am_AT ∧ 1 ≤ am_na mid ∧ (parseMethodDescriptor (am_y mid).desc).map (fun d => d.parameters.length) = some (am_na mid - 1)) ∨
     (kd = 1 ∧ (.methodLink (am_own me) ix (am_y mid) : Cond) ∈ am_AT ∧ (.static (am_y mid) : Cond) ∈ am_AT ∧ (parseMethodDescriptor (am_y mid).desc).map (fun d => d.parameters.length) = some (am_na mid)) ∨
     (kd = 3 ∧ Cond.methodLinkNest (am_own me) ix (am_y mid) "SharedConsole" = Cond.methodLinkNest "SharedConsole" 11 ⟨"SharedConsole$Text", "<init>", "()V"⟩ "SharedConsole" ∧ (.static (am_y mid) : Cond) ∈ am_AT ∧ (parseMethodDescriptor (am_y mid).desc).map (fun d => d.parameters.length) = some (am_na mid))) := by
  unfold am_mk at h
  cases hl : am_lk (am_mkL.getD (am_ow me) []) ix with
  | none => rw [hl] at h; cases h
  | some q =>
    rw [hl] at h
    obtain ⟨kd', mid', w⟩ := q
    cases h
    have hb := am_rngD am_mkL_len am_mk_all (am_ow me) (am_lk_mem _ _ _ hl)
    unfold am_mkb at hb
    split at hb
    · rename_i e
      simp only [Prod.mk.injEq] at e
      obtain ⟨e1, e2, e3, e4⟩ := e
      subst e1 e2 e3
      simp only [Bool.and_eq_true, decide_eq_true_eq] at hb
      obtain ⟨⟨⟨⟨⟨⟨h1, h2⟩, h3⟩, h4⟩, h5⟩, h6⟩, h7⟩ := hb
      exact ⟨Nat.blt_eq.mp h7, am_hs_in h4, Or.inl ⟨rfl, am_hs_in h1, am_hs_in h2, am_hs_in h3, Nat.le_of_ble_eq_true h5, h6⟩⟩
    · rename_i e
      simp only [Prod.mk.injEq] at e
      obtain ⟨e1, e2, e3, e4⟩ := e
      subst e1 e2 e3
      simp only [Bool.and_eq_true, decide_eq_true_eq] at hb
      obtain ⟨⟨⟨⟨h1, h2⟩, h3⟩, h6⟩, h7⟩ := hb
      exact ⟨Nat.blt_eq.mp h7, am_hs_in h3, Or.inr (Or.inl ⟨rfl, am_hs_in h1, am_hs_in h2, h6⟩)⟩
    · rename_i e
      simp only [Prod.mk.injEq] at e
      obtain ⟨e1, e2, e3, e4⟩ := e
      subst e1 e2 e3
      simp only [Bool.and_eq_true, decide_eq_true_eq] at hb
      obtain ⟨⟨⟨⟨h1, h2⟩, h3⟩, h6⟩, h7⟩ := hb
      exact ⟨Nat.blt_eq.mp h7, am_hs_in h3, Or.inr (Or.inr ⟨rfl, h1, am_hs_in h2, h6⟩)⟩
    · cases hb
theorem am_own_lt {a : Nat} (h : Nat.beq (am_kd a).1 1 = true ∨ Nat.beq (am_kd a).1 2 = true ∨ Nat.beq (am_kd a).1 3 = true ∨ Nat.beq (am_kd a).1 5 = true) : a < am_n0 ∧ (Nat.beq (am_kd a).1 1 = true → (am_kd a).2.1 < 11) ∧ (Nat.beq (am_kd a).1 2 = true → (am_kd a).2.1 = 0) ∧ (Nat.beq (am_kd a).1 5 = true → (am_kd a).2.1 = 1) ∧ (Nat.beq (am_kd a).1 3 = true → 1 < (am_kd a).2.1 ∧ (am_kd a).2.1 < 7) := by
  by_cases ha : a < am_kdL.length
  · have hb := List.all_eq_true.mp am_kd_all a (List.mem_range.mpr ha)
    simp only [Bool.or_eq_true, Bool.and_eq_true] at hb
    have e : ∀ {x y : Nat}, Nat.beq x y = true → x = y := fun h => Nat.eq_of_beq_eq_true h
    rcases hb with (((((h0 | h1) | h1) | h1) | h1) | h1) | h1
    · rcases h with q | q | q | q <;> have := e q <;> have := e h0 <;> omega
    · refine ⟨Nat.blt_eq.mp h1.1.2, fun _ => Nat.blt_eq.mp h1.2, fun q => ?_, fun q => ?_, fun q => ?_⟩ <;> have := e h1.1.1 <;> have := e q <;> omega
    · refine ⟨Nat.blt_eq.mp h1.1.2, fun q => ?_, fun q => e h1.2, fun q => ?_, fun q => ?_⟩ <;> have := e h1.1.1 <;> have := e q <;> omega
    · refine ⟨Nat.blt_eq.mp h1.1.2, fun q => ?_, fun q => ?_, fun q => e h1.2, fun q => ?_⟩ <;> have := e h1.1.1 <;> have := e q <;> omega
    · refine ⟨Nat.blt_eq.mp h1.1.1.2, fun q => ?_, fun q => ?_, fun q => ?_, fun q => ⟨Nat.blt_eq.mp h1.1.2, Nat.blt_eq.mp h1.2⟩⟩ <;> have := e h1.1.1.1 <;> have := e q <;> omega
    · rcases h with q | q | q | q <;> have := e q <;> have := e h1.1.1 <;> omega
    · rcases h with q | q | q | q <;> have := e q <;> have := e h1.1.1 <;> omega
  · have h0 : am_kd a = (0, 0, 0) := by
      unfold am_kd
      rw [List.getD_eq_getElem?_getD, List.getElem?_eq_none (by omega)]; rfl
    rw [h0] at h
    rcases h with q | q | q | q <;> exact absurd q (by decide)
end AMS
end
section
section AMW
variable {al : Nat → Nat} {aC : Nat → ClassId} {h : am_Hp}
theorem am_W_get {k : Nat} (hk : k < am_n0) : (am_W al aC h)[k]? = some (al k, am_cell al aC h k) := by
  unfold am_W
  rw [List.getElem?_map, List.getElem?_range hk]
  rfl
theorem am_W_len : (am_W al aC h).length = am_n0 := by simp [am_W]
theorem am_cell_o {a ci : Nat} (ha : am_isO a ci = true) : am_cell al aC h a = .inr (ci, (List.range (am_nF ci)).map (am_fv al h a)) ∧ a < am_n0 ∧ ci < 11 ∧ (am_kd a).2.1 = ci := by
  simp only [am_isO, Bool.and_eq_true] at ha
  have e : (am_kd a).2.1 = ci := Nat.eq_of_beq_eq_true ha.2
  have hl := am_own_lt (a := a) (Or.inl ha.1)
  refine ⟨?_, hl.1, e ▸ hl.2.1 ha.1, e⟩
  simp only [am_cell, ha.1, cond_true, e]
theorem am_cell_i {a : Nat} (ha : am_isI a = true) : am_cell al aC h a = .inl (aC 0, am_len a, .inl (h a)) ∧ a < am_n0 := by
  unfold am_isI at ha
  have e2 : (am_kd a).1 = 2 := Nat.eq_of_beq_eq_true ha
  have hl := am_own_lt (a := a) (Or.inr (Or.inl ha))
  refine ⟨?_, hl.1⟩
  have e3 := hl.2.2.1 ha
  simp only [am_cell, e2, e3, am_len]
  rfl
theorem am_cell_b {a : Nat} (ha : am_isB a = true) : am_cell al aC h a = .inl (aC 1, am_len a, .inl (h a)) ∧ a < am_n0 := by
  unfold am_isB at ha
  have e2 : (am_kd a).1 = 5 := Nat.eq_of_beq_eq_true ha
  have hl := am_own_lt (a := a) (Or.inr (Or.inr (Or.inr ha)))
  refine ⟨?_, hl.1⟩
  have e3 := hl.2.2.2.1 ha
  simp only [am_cell, e2, e3, am_len]
  rfl
theorem am_cell_a {a : Nat} (ha : am_isA a = true) : am_cell al aC h a = .inl (aC (am_kd a).2.1, am_len a, .inr (.inr (.inr (.inr (fun j => (am_G a j).map al))))) ∧ a < am_n0 ∧ 1 < (am_kd a).2.1 ∧ (am_kd a).2.1 < 7 := by
  unfold am_isA at ha
  have e2 : (am_kd a).1 = 3 := Nat.eq_of_beq_eq_true ha
  have hl := am_own_lt (a := a) (Or.inr (Or.inr (Or.inl ha)))
  refine ⟨?_, hl.1, hl.2.2.2.2 ha⟩
  simp only [am_cell, e2, am_len]
  rfl
theorem am_pi_ne {a k b : Nat} {v : Int32} (hb : b ≠ a) : am_pi h a k v b = h b := by
  funext j
  simp [am_pi, hb]
theorem am_pi_eq {a k : Nat} {v : Int32} : am_pi h a k v a = upd (h a) k v := by
  funext j
  simp [am_pi, upd]
theorem am_cell_ne {a k b : Nat} {v : Int32} (hb : b ≠ a) : am_cell al aC (am_pi h a k v) b = am_cell al aC h b := by
  have e : am_fv al (am_pi h a k v) b = am_fv al h b := by
    funext j
    simp only [am_fv, am_pi_ne hb]
  simp only [am_cell, am_pi_ne hb, e]
theorem am_W_set {a k : Nat} {v : Int32} {E : va_E} (ha : a < am_n0) (hE : am_cell al aC (am_pi h a k v) a = E) : (am_W al aC h).set a (al a, E) = am_W al aC (am_pi h a k v) := by
  apply List.ext_getElem?
  intro i
  by_cases hi : i < am_n0
  · rw [am_W_get hi]
    by_cases hia : i = a
    · subst hia
      rw [List.getElem?_set_self (by rw [am_W_len]; exact hi), hE]
    · rw [List.getElem?_set_ne (Ne.symm hia), am_W_get hi, am_cell_ne hia]
  · rw [List.getElem?_eq_none (by rw [List.length_set, am_W_len]; omega), List.getElem?_eq_none (by rw [am_W_len]; omega)]
theorem am_Winj (hi : am_Inj al) (sz : Nat) : va_D (am_A al sz) (am_W al aC h) := by
  have key : ∀ (k : Nat) (q : Nat × va_E), (am_W al aC h)[k]? = some q → k < am_n0 ∧ q.1 = al k := by
    intro k q hk
    have hl : k < am_n0 := by
      have := (List.getElem?_eq_some_iff.mp hk).1
      rwa [am_W_len] at this
    rw [am_W_get hl] at hk
    cases hk
    exact ⟨hl, rfl⟩
  refine ⟨fun i j p q h1 h2 e => ?_, fun k q hk => Or.inl ⟨k, (key k q hk).1, (key k q hk).2⟩⟩
  obtain ⟨a1, a2⟩ := key i p h1
  obtain ⟨b1, b2⟩ := key j q h2
  exact hi i j a1 b1 (a2.symm.trans (e.trans b2))
theorem am_set_o {a ci j : Nat} {x : Int32} (ha : am_isO a ci = true) (hf : am_fi ci j = true) (hj : j < am_nF ci) : am_cell al aC (am_pi h a j x) a = .inr (ci, ((List.range (am_nF ci)).map (am_fv al h a)).set j (.int x)) := by
  obtain ⟨e1, -, -, e2⟩ := am_cell_o (al := al) (aC := aC) (h := am_pi h a j x) ha
  rw [e1]
  congr 2
  apply List.ext_getElem?
  intro i
  by_cases hi : i < am_nF ci
  · rw [List.getElem?_map, List.getElem?_range hi]
    by_cases hij : i = j
    · subst hij
      rw [List.getElem?_set_self (by simpa using hi)]
      simp [am_fv, e2, hf, am_pi]
    · rw [List.getElem?_set_ne (Ne.symm hij), List.getElem?_map, List.getElem?_range hi]
      simp [am_fv, am_pi, hij]
  · rw [List.getElem?_eq_none (by simpa using hi), List.getElem?_eq_none (by simpa using hi)]
theorem am_fv_get {a ci j : Nat} (e : (am_kd a).2.1 = ci) (hj : j < am_nF ci) : ((List.range (am_nF ci)).map (am_fv al h a))[j]? = some (bif am_fi ci j then .int (h a j) else va_rf ((am_G a j).map al)) := by
  rw [List.getElem?_map, List.getElem?_range hj]
  simp [am_fv, e]
end AMW
end
section
section AMO
variable {γ : Type} {g : γ}
theorem am_ld_mem {ρ : am_Lc} {i : Nat} {v : Value} (h : am_ld ρ i = some v) : (i, v) ∈ ρ := by
  unfold am_ld at h
  cases hf : ρ.find? (fun q => Nat.beq q.1 i) with
  | none => rw [hf] at h; cases h
  | some q =>
    rw [hf] at h
    cases h
    have h1 := List.find?_some hf
    have h2 : q.1 = i := Nat.eq_of_beq_eq_true h1
    have h3 := List.mem_of_find?_eq_some hf
    rw [← h2]
    exact h3
theorem am_ldi_some {ρ : am_Lc} {i : Nat} {k : Int32 → Option γ} (h : am_ldi ρ i k = some g) : ∃ x, (i, .int x) ∈ ρ ∧ k x = some g := by
  unfold am_ldi at h
  split at h
  · rename_i x hx
    exact ⟨x, am_ld_mem hx, h⟩
  · cases h
theorem am_lda_some {ρ : am_Lc} {i : Nat} {k : Nat → Option γ} (h : am_lda ρ i k = some g) : ∃ x, (i, .ref x) ∈ ρ ∧ k x = some g := by
  unfold am_lda at h
  split at h
  · rename_i x hx
    exact ⟨x, am_ld_mem hx, h⟩
  · cases h
theorem am_s1_some {st : List Value} {k : Int32 → List Value → Option γ} (h : am_s1 st k = some g) : ∃ x r, st = .int x :: r ∧ k x r = some g := by
  unfold am_s1 at h
  split at h
  · exact ⟨_, _, rfl, h⟩
  · cases h
theorem am_s2_some {st : List Value} {k : Int32 → Int32 → List Value → Option γ} (h : am_s2 st k = some g) : ∃ x y r, st = .int y :: .int x :: r ∧ k x y r = some g := by
  unfold am_s2 at h
  split at h
  · exact ⟨_, _, _, rfl, h⟩
  · cases h
theorem am_sa_some {st : List Value} {k : Nat → List Value → Option γ} (h : am_sa st k = some g) : ∃ x r, st = .ref x :: r ∧ k x r = some g := by
  unfold am_sa at h
  split at h
  · exact ⟨_, _, rfl, h⟩
  · cases h
theorem am_sia_some {st : List Value} {k : Nat → Int32 → List Value → Option γ} (h : am_sia st k = some g) : ∃ a x r, st = .int x :: .ref a :: r ∧ k a x r = some g := by
  unfold am_sia at h
  split at h
  · exact ⟨_, _, _, rfl, h⟩
  · cases h
theorem am_siia_some {st : List Value} {k : Nat → Int32 → Int32 → List Value → Option γ} (h : am_siia st k = some g) : ∃ a i x r, st = .int x :: .int i :: .ref a :: r ∧ k a i x r = some g := by
  unfold am_siia at h
  split at h
  · exact ⟨_, _, _, _, rfl, h⟩
  · cases h
theorem am_sf_some {st : List Value} {k : UInt32 → List Value → Option γ} (h : am_sf st k = some g) : ∃ x r, st = .float x :: r ∧ k x r = some g := by
  unfold am_sf at h
  split at h
  · exact ⟨_, _, rfl, h⟩
  · cases h
theorem am_sff_some {st : List Value} {k : UInt32 → UInt32 → List Value → Option γ} (h : am_sff st k = some g) : ∃ x y r, st = .float y :: .float x :: r ∧ k x y r = some g := by
  unfold am_sff at h
  split at h
  · exact ⟨_, _, _, rfl, h⟩
  · cases h
theorem am_d1_some {st : List Value} {k : Value → List Value → Option γ} (h : am_d1 st k = some g) : ∃ v r, st = v :: r ∧ v.category = 1 ∧ k v r = some g := by
  unfold am_d1 at h
  split at h
  · exact ⟨_, _, rfl, rfl, h⟩
  · exact ⟨_, _, rfl, rfl, h⟩
  · cases h
theorem am_d2_some {st : List Value} {k : Value → Value → List Value → Option γ} (h : am_d2 st k = some g) : ∃ v w r, st = v :: w :: r ∧ v.category = 1 ∧ w.category = 1 ∧ k v w r = some g := by
  unfold am_d2 at h
  split at h
  · exact ⟨_, _, _, rfl, rfl, rfl, h⟩
  · exact ⟨_, _, _, rfl, rfl, rfl, h⟩
  · cases h
theorem am_to_some {pc : Nat} {off : Int} {k : Nat → Option γ} (h : am_to pc off k = some g) : ∃ t : Nat, (pc : Int) + off = (t : Int) ∧ k t = some g := by
  unfold am_to at h
  split at h
  · rename_i t ht
    exact ⟨t, ht, h⟩
  · cases h
theorem am_bif {c : Bool} {a : Option γ} (h : (bif c then a else none) = some g) : c = true ∧ a = some g := by
  cases c with
  | true => exact ⟨rfl, h⟩
  | false => cases h
theorem am_sw_some {pc : Nat} {x : Int32} {d : Option γ} {k : Nat → Option γ} : ∀ (os : List Int) (lo : Int), am_sw pc x d k lo os = some g →
    (∃ (off : Int) (t : Nat), lo ≤ x.toInt ∧ os[(x.toInt - lo).toNat]? = some off ∧ (pc : Int) + off = (t : Int) ∧ k t = some g) ∨ ((x.toInt < lo ∨ lo + os.length ≤ x.toInt) ∧ d = some g)
  | [], lo, h => Or.inr ⟨by simp; omega, h⟩
  | o :: os, lo, h => by
    unfold am_sw at h
    by_cases e : x.toInt = lo
    · rw [if_pos e] at h
      obtain ⟨t, ht, h2⟩ := am_to_some h
      exact Or.inl ⟨o, t, by omega, by rw [e, Int.sub_self]; rfl, ht, h2⟩
    · rw [if_neg e] at h
      rcases am_sw_some os (lo + 1) h with ⟨off, t, h1, h2, h3, h4⟩ | ⟨h1, h2⟩
      · refine Or.inl ⟨off, t, by omega, ?_, h3, h4⟩
        have : (x.toInt - lo).toNat = (x.toInt - (lo + 1)).toNat + 1 := by omega
        rw [this, List.getElem?_cons_succ]
        exact h2
      · refine Or.inr ⟨?_, h2⟩
        simp only [List.length_cons]
        omega
theorem am_rls_stl {al : Nat → Nat} {ρ : am_Lc} {i : Nat} {v : Value} : (i, am_rl al v) :: (am_rls al ρ).filter (fun q => !(q.1 == i) && !(q.1 + 1 == i && q.2.category == 2)) = am_rls al (am_stl ρ i v) := by
  unfold am_rls am_stl
  rw [List.filter_map, List.map_cons]
  congr 3
  funext q
  simp [Function.comp, am_rl_cat]
theorem am_rls_sti {al : Nat → Nat} {ρ : am_Lc} {i : Nat} {x : Int32} : (i, Value.int x) :: (am_rls al ρ).filter (fun q => !(q.1 == i) && !(q.1 + 1 == i && q.2.category == 2)) = am_rls al (am_stl ρ i (.int x)) := am_rls_stl (v := .int x)
theorem am_rls_sta {al : Nat → Nat} {ρ : am_Lc} {i : Nat} {x : Nat} : (i, Value.ref (al x)) :: (am_rls al ρ).filter (fun q => !(q.1 == i) && !(q.1 + 1 == i && q.2.category == 2)) = am_rls al (am_stl ρ i (.ref x)) := am_rls_stl (v := .ref x)
theorem am_rls_mem {al : Nat → Nat} {ρ : am_Lc} {i : Nat} {v : Value} (h : (i, v) ∈ ρ) : (i, am_rl al v) ∈ am_rls al ρ := List.mem_map.mpr ⟨(i, v), h, rfl⟩
theorem am_in_spec {x : Int32} {n : Nat} (h : am_in x n = true) : vp_in x n := by
  unfold am_in at h
  have h2 : ¬ (x < 0 ∨ n ≤ x.toNatClampNeg) := of_decide_eq_true h
  exact h2
theorem am_fx_kept {al aV : Nat → Nat} {A B : Nat → Prop} {U U1 : State} {H H1 : Heap} (h : am_Fx al aV A U H) (hW : U.WarmedH U1.vm) (hz : H.size ≤ H1.size) (hq : ∀ a : Nat, a < H.size → ¬ A a → H1[a]? = H[a]?) (hAB : ∀ q, q < H.size → B q → A q) (hAB2 : ∀ q, B q → A q) : am_Fx al aV B U1 H1 := by
  have hvm := hW.alike
  obtain ⟨h1, h2, h3, h4, h5, h6, h7, h8, h9, h10, h11, h12, h13⟩ := h
  refine ⟨fun q hm => ?_, ((h2.kept hq).narrow hAB2).moved hvm, ((h3.kept hq).narrow hAB2).moved hvm, ((h4.kept hq).narrow hAB2).moved hvm, fun o q i hm e => vk_R.warm hW (h5 o q i hm e), fun w hw => ?_, va_Nw.warmM hW h7, fun o q z hm hz e => ?_, fun o q v hm e => ?_, ?_, ?_, ((h12.kept hq).narrow hAB2).moved hvm, ((h13.kept hq).narrow hAB2).moved hvm⟩
  · obtain ⟨a1, a2, a3, a4⟩ := h1 q hm
    exact ⟨(a1.kept (hq _ a3 a2)).moved hvm, fun z => a2 (hAB2 _ z), Nat.lt_of_lt_of_le a3 hz, ((a4.kept hq).narrow hAB2).moved hvm⟩
  · have h0 := h6 w hw
    simp only [am_TB, List.mem_cons, List.not_mem_nil, or_false] at hw
    rcases hw with rfl | rfl | rfl | rfl
    · exact va_tabs (u := U.setVm U1.vm) rfl rfl ((Cond.declares_setVm hvm _).trans h0)
    · exact va_tabs (u := U.setVm U1.vm) rfl rfl ((Cond.declares_setVm hvm _).trans h0)
    · exact va_tabs (u := U.setVm U1.vm) rfl rfl ((Cond.declares_setVm hvm _).trans h0)
    · exact va_tabs (u := U.setVm U1.vm) rfl rfl ((Cond.castable_setVm hvm _ _).trans h0)
  · rcases h8 o q z hm hz e with ⟨e1, e2⟩ | ⟨e1, e2⟩
    · exact Or.inl ⟨e1, word_at hW (Or.inl rfl) e2⟩
    · exact Or.inr ⟨e1, va_Nw.warmF hW e2⟩
  · exact word_at hW (Or.inl rfl) (h9 o q v hm e)
  · exact word_at hW (Or.inl rfl) h10
  · exact word_at hW (Or.inl rfl) h11
end AMO
end
section
section AMP
def am_il (ins : Instr) (len : Nat) : Bool := match ins with
  | .tableswitch .. => true
  | .iload _ => Nat.beq len 2
  | .aload _ => Nat.beq len 2
  | .istore _ => Nat.beq len 2
  | .astore _ => Nat.beq len 2
  | .bipush _ => Nat.beq len 2
  | .ldc _ => Nat.beq len 2
  | .iinc _ _ => Nat.beq len 3
  | .sipush _ => Nat.beq len 3
  | .goto _ => Nat.beq len 3
  | .if_icmp _ _ => Nat.beq len 3
  | .ifCond _ _ => Nat.beq len 3
  | .getfield _ => Nat.beq len 3
  | .putfield _ => Nat.beq len 3
  | .getstatic _ => Nat.beq len 3
  | .invokevirtual _ => Nat.beq len 3
  | .invokestatic _ => Nat.beq len 3
  | .new _ => Nat.beq len 3
  | _ => Nat.beq len 1
variable {p : Program} {l : Launch} {e : Env} {R : Room} {s : State} {m : MethodId} {args : Array Value} {below : List Frame} {meth : Method} {c : Code}
/-- what a walk stands on -/
def am_Cx (p : Program) (l : Launch) (R : Room) (s : State) (m : MethodId) (args : Array Value) (meth : Method) (c : Code) (al : Nat → Nat) (dC : Nat → ClassId) (dI : Nat → Nat → Nat) (aC : Nat → ClassId) (aV : Nat → Nat) (me : Nat) (o0 : am_Out) : Prop :=
  p.tables.exec = Jvm.exec ∧ c.code = am_cc me ∧ c.maxLocals = am_ml me ∧ s.vm.findClass (am_own me) = some m.cls ∧ (∀ w ∈ am_AT, w.before args s = true) ∧ meth.locks = false ∧ (∀ x ∈ c.exceptionTable.toList, False) ∧ meth.sig.returnType = am_re me ∧ l.stackTraces = false ∧
  va_K (dC, dI) vwCl (am_tys aC) s ∧ am_Fx al aV (am_A al s.heap.size) s s.heap ∧ R = am_rm me o0 ∧ am_Inj al
/-- the machine from here on ends as o0 and h0 say -/
def am_At (p : Program) (l : Launch) (e : Env) (R : Room) (s : State) (m : MethodId) (args : Array Value) (below : List Frame) (meth : Method) (c : Code) (al : Nat → Nat) (dC : Nat → ClassId) (dI : Nat → Nat → Nat) (aC : Nat → ClassId) (me : Nat) (o0 : am_Out) (h0 : am_Hp) (pc : Nat) (ρ : am_Lc) (st : List Value) (h : am_Hp) : Prop :=
  ∀ (H : Heap) (locs : List Loc) (ls : Array Slot), lv_has ls (am_ml me) (am_rls al ρ) → va_P (dC, dI) vwCl (am_W al aC h) H → va_S (am_A al s.heap.size) s.heap H locs →
    W p l e R s m args below meth c H locs 0 0 (vx_MQ below (am_Q al dC dI aC o0 h0 (am_A al s.heap.size)) (am_X al dC dI aC o0 h0 (am_A al s.heap.size)) args s (am_mc o0) (am_ms o0) (am_A al s.heap.size)) (F0 m pc ls (st.map (am_rl al)))
theorem am_thr_ok : am_thL.all (fun q => decide (decode (am_cc q.1) q.2.1 = .ok (.new 317, 3)) && decide (decode (am_cc q.1) (q.2.1 + 3) = .ok (.dup, 1)) && decide (decode (am_cc q.1) (q.2.1 + 4) = .ok (.invokespecial 319, 3)) && decide (decode (am_cc q.1) (q.2.1 + 7) = .ok (.athrow, 1)) && decide (am_own q.1 = RX9)) = true := by decide +kernel
theorem am_tw_bad : am_tw.filter (fun w => !goodWord w) = am_TB := by decide +kernel
theorem am_tw_ot : ∀ w ∈ Cond.classLink RX9 317 "java/lang/IndexOutOfBoundsException" :: Cond.initialized "java/lang/IndexOutOfBoundsException" :: am_tw, vx_ot w = true := by decide +kernel
theorem am_tw_in {w : Cond} (h : w ∈ am_tw.filter goodWord) : w ∈ am_AT := by
  have h1 := List.all_eq_true.mp am_tw_good w h
  exact List.mem_filter.mpr ⟨of_decide_eq_true h1, (List.mem_filter.mp h).2⟩
theorem am_TB_ot : ∀ w ∈ am_TB, w.onTables = true := by decide +kernel
theorem am_leaf {v : Option Value} {H : Heap} {locs : List Loc} {al : Nat → Nat} {dC : Nat → ClassId} {dI : Nat → Nat → Nat} {aC : Nat → ClassId} {h : am_Hp} {A : Nat → Prop} (hK : va_K (dC, dI) vwCl (am_tys aC) s) (hP : va_P (dC, dI) vwCl (am_W al aC h) H) (hS : va_S A s.heap H locs) :
    ∀ t : State, t.heap = H → s.WarmedH t.vm → am_Q al dC dI aC (some v) h A args s (.returned (v.map (am_rl al))) t :=
  fun t ht hW => ⟨v, rfl, rfl, ⟨by rw [ht]; exact hP, va_K.moved hW.alike hK⟩, hS.F ht⟩
theorem am_fkL_len : am_fkL.length ≤ 13 := by decide
theorem am_uw_spec {ci : Nat} (h : ci < 11) : ∀ w ∈ u_ws (am_R ci) (am_T ci) (am_N ci), w ∈ am_AT := by
  intro w hw
  have h1 := List.all_eq_true.mp (List.all_eq_true.mp am_uw_all ci (List.mem_range.mpr h)) w hw
  simp only [Bool.and_eq_true, decide_eq_true_eq] at h1
  exact List.mem_filter.mpr h1
theorem am_cl_spec {ci : Nat} (h : ci < 11) : am_nF ci = am_N ci ∧ vwCl[ci]? = some (am_R ci, am_T ci, am_N ci) := by
  have h1 := List.all_eq_true.mp am_nF_all ci (List.mem_range.mpr h)
  simp only [Bool.and_eq_true, decide_eq_true_eq] at h1
  refine ⟨Nat.eq_of_beq_eq_true h1.1, ?_⟩
  have h2 := h1.2
  unfold am_T am_N
  cases hq : vwCl[ci]? with
  | none => rw [hq] at h2; cases h2
  | some q =>
    rw [hq] at h2
    obtain ⟨a, b, c⟩ := q
    have : a = am_R ci := Option.some.inj h2
    subst this
    rfl
theorem am_fk_spec {me ix ci j : Nat} (h : am_fk me ix = some (ci, j)) : ci < 11 ∧ j < am_nF ci ∧ (Cond.fieldLink (am_own me) ix (am_T ci j).1 (am_T ci j).2.1 (am_T ci j).2.2.1) ∈ am_AT ∧ j < am_N ci ∧ vwCl[ci]? = some (am_R ci, am_T ci, am_N ci) ∧ (∀ w ∈ u_ws (am_R ci) (am_T ci) (am_N ci), w ∈ am_AT) ∧
    (am_fw ci j = true → am_fi ci j = true ∧ (am_T ci j).2.2.2 = false ∧ parseFieldDescriptor (am_T ci j).2.2.1 = some .int) := by
  unfold am_fk at h
  cases hl : am_lk (am_fkL.getD (am_ow me) []) ix with
  | none => rw [hl] at h; cases h
  | some q =>
    rw [hl] at h
    obtain ⟨ci', j', w⟩ := q
    cases h
    have hb := am_rngD am_fkL_len am_fk_all (am_ow me) (am_lk_mem _ _ _ hl)
    simp only [am_fkb, Bool.and_eq_true] at hb
    obtain ⟨⟨b1, b2⟩, b3⟩ := hb
    have b2 := Nat.blt_eq.mp b2
    have b3 := Nat.blt_eq.mp b3
    obtain ⟨c1, c2⟩ := am_cl_spec b2
    refine ⟨b2, by rw [c1]; exact b3, am_hs_in b1, b3, c2, am_uw_spec b2, fun hw => ?_⟩
    have d1 := List.all_eq_true.mp (List.all_eq_true.mp am_fi_all _ (List.mem_range.mpr b2)) _ (List.mem_range.mpr b3)
    simp only [Bool.and_eq_true, beq_iff_eq] at d1
    rw [hw] at d1
    have d2 := d1.2.symm
    rw [Bool.and_eq_true, Bool.not_eq_true'] at d2
    refine ⟨d2.1, d2.2, ?_⟩
    have d3 := d1.1.symm.trans d2.1
    rw [of_decide_eq_true d3]
    rfl
theorem am_tyn {ci : Nat} (h : ci < 11) : ∃ ty0 : Nat → FieldType, (∀ k, k < am_N ci → parseFieldDescriptor (am_T ci k).2.2.1 = some (ty0 k)) ∧ (∀ a, a < am_N ci → ∀ b, b < am_N ci → a ≠ b → (am_T ci a).2.1 ≠ (am_T ci b).2.1) := by
  match ci, h with
  | 0, _ => exact ⟨tyX0, tyX0_ok, nmX0⟩
  | 1, _ => exact ⟨tyX1, tyX1_ok, nmX1⟩
  | 2, _ => exact ⟨tyX2, tyX2_ok, nmX2⟩
  | 3, _ => exact ⟨tyX3, tyX3_ok, nmX3⟩
  | 4, _ => exact ⟨tyX4, tyX4_ok, nmX4⟩
  | 5, _ => exact ⟨tyX5, tyX5_ok, nmX5⟩
  | 6, _ => exact ⟨tyX6, tyX6_ok, nmX6⟩
  | 7, _ => exact ⟨tyX7, tyX7_ok, nmX7⟩
  | 8, _ => exact ⟨tyX8, tyX8_ok, nmX8⟩
  | 9, _ => exact ⟨tyX9, tyX9_ok, nmX9⟩
  | 10, _ => exact ⟨tyX10, tyX10_ok, nmX10⟩
  | n + 11, h => exact absurd h (by omega)
theorem am_skL_all : (List.range 13).all (fun o => (am_skL.getD o []).all (fun q => am_sfL.any (fun z => Nat.beq z.1 q.2.1))) = true := by decide +kernel
theorem am_sk_spec {o : Nat} {q : Nat × Nat × Nat × Nat} (h : q ∈ am_skL.getD o []) : ∃ z ∈ am_sfL, z.1 = q.2.1 := by
  have h1 := am_rngD (n := 13) (P := fun _ q => am_sfL.any (fun z => Nat.beq z.1 q.2.1)) (by decide) am_skL_all o h
  obtain ⟨z, hz, e⟩ := List.any_eq_true.mp h1
  exact ⟨z, hz, Nat.eq_of_beq_eq_true e⟩
theorem am_f_spec {a : Nat} (h : am_isF a = true) : ∃ z ∈ am_sfL, z.1 = a := by
  have key : (List.range am_kdL.length).all (fun a => !am_isF a || am_sfL.any (fun z => Nat.beq z.1 a)) = true := by decide +kernel
  by_cases ha : a < am_kdL.length
  · have h1 := List.all_eq_true.mp key a (List.mem_range.mpr ha)
    rw [h] at h1
    obtain ⟨z, hz, e⟩ := List.any_eq_true.mp (by simpa using h1 : am_sfL.any (fun z => Nat.beq z.1 a) = true)
    exact ⟨z, hz, Nat.eq_of_beq_eq_true e⟩
  · exfalso
    unfold am_isF am_kd at h
    rw [List.getD_eq_getElem?_getD, List.getElem?_eq_none (by omega)] at h
    exact absurd h (by decide)
theorem am_rk1 {me : Nat} (h : Nat.beq (am_rk me) 1 = true) : am_re me = some .int := by
  unfold am_rk at h
  split at h <;> first | assumption | exact absurd h (by decide)
theorem am_rk2 {me : Nat} (h : Nat.beq (am_rk me) 2 = true) : am_re me = some .boolean := by
  unfold am_rk at h
  split at h <;> first | assumption | exact absurd h (by decide)
theorem am_rk3 {me : Nat} (h : Nat.beq (am_rk me) 3 = true) : am_re me = some .float := by
  unfold am_rk at h
  split at h <;> first | assumption | exact absurd h (by decide)
theorem am_rk4 {me : Nat} (h : Nat.beq (am_rk me) 4 = true) : ∃ nm, am_re me = some (.object nm) := by
  unfold am_rk at h
  split at h <;> first | exact ⟨_, by assumption⟩ | exact absurd h (by decide)
theorem am_rk5 {me : Nat} (h : Nat.beq (am_rk me) 5 = true) : am_re me = none := by
  unfold am_rk at h
  split at h <;> first | assumption | exact absurd h (by decide)
theorem am_thr_spec {me pc ix : Nat} (h : am_thr me pc ix = true) : decode (am_cc me) pc = .ok (.new 317, 3) ∧ decode (am_cc me) (pc + 3) = .ok (.dup, 1) ∧ decode (am_cc me) (pc + 4) = .ok (.invokespecial 319, 3) ∧ decode (am_cc me) (pc + 7) = .ok (.athrow, 1) ∧ am_own me = RX9 := by
  obtain ⟨q, hq, e⟩ := List.any_eq_true.mp h
  simp only [Bool.and_eq_true] at e
  have e1 : q.1 = me := Nat.eq_of_beq_eq_true e.1.1
  have e2 : q.2.1 = pc := Nat.eq_of_beq_eq_true e.1.2
  have h1 := List.all_eq_true.mp am_thr_ok q hq
  simp only [Bool.and_eq_true, decide_eq_true_eq] at h1
  rw [e1, e2] at h1
  exact ⟨h1.1.1.1.1, h1.1.1.1.2, h1.1.1.2, h1.1.2, h1.2⟩
set_option maxHeartbeats 4000000 in
theorem am_op_sound {γ : Type} {al : Nat → Nat} {dC : Nat → ClassId} {dI : Nat → Nat → Nat} {aC : Nat → ClassId} {aV : Nat → Nat} {me : Nat} {o0 : am_Out} {h0 : am_Hp} {pc len : Nat} {ins : Instr} {ρ : am_Lc} {st : List Value} {h : am_Hp} {orc : am_Orc} {ret : am_Out → am_Hp → Option γ} {k : Nat → am_Lc → List Value → am_Hp → Option γ} {g : γ}
    (C : am_Cx p l R s m args meth c al dC dI aC aV me o0) (hd : decode (am_cc me) pc = .ok (ins, len)) (hlen : am_il ins len = true) (horc : am_OS l al dC dI aC aV orc) (hret : ∀ o h', ret o h' = some g → o = o0 ∧ h' = h0)
    (hk : ∀ pc' ρ' st' h', k pc' ρ' st' h' = some g → am_At p l e R s m args below meth c al dC dI aC me o0 h0 pc' ρ' st' h')
    (hcall : ∀ kd ix, (ins = .invokevirtual ix ∧ kd = 0 ∨ ins = .invokestatic ix ∧ kd = 1) → am_inv me kd pc ix ρ st h orc ret k = some g → am_At p l e R s m args below meth c al dC dI aC me o0 h0 pc ρ st h)
    (hr : am_op me pc ins len ρ st h orc ret k = some g) : am_At p l e R s m args below meth c al dC dI aC me o0 h0 pc ρ st h := by
  obtain ⟨hx, hb, hml, hown, hts, hlocks, hexc, hrt, htr, hK, hF, hR, hinj⟩ := C
  intro H locs ls hl hP hS
  have hD : ∀ h', va_D (am_A al s.heap.size) (am_W al aC h') := fun h' => am_Winj hinj _
  have hA : ∀ q, s.heap.size ≤ q → am_A al s.heap.size q := fun q h => Or.inr h
  cases ins
  case iload_n i =>
    cases Nat.eq_of_beq_eq_true hlen
    obtain ⟨x, hm, h1⟩ := am_ldi_some hr
    exact lv_iload_n hx hb hd rfl (hl.2.2 _ (am_rls_mem hm)) (hk _ _ _ _ h1 H locs ls hl hP hS)
  case iload i =>
    cases Nat.eq_of_beq_eq_true hlen
    obtain ⟨x, hm, h1⟩ := am_ldi_some hr
    exact lv_iload hx hb hd (hl.2.2 _ (am_rls_mem hm)) (hk _ _ _ _ h1 H locs ls hl hP hS)
  case aload_n i =>
    cases Nat.eq_of_beq_eq_true hlen
    obtain ⟨x, hm, h1⟩ := am_lda_some hr
    exact lv_aload_n hx hb hd rfl (hl.2.2 _ (am_rls_mem hm)) (hk _ _ _ _ h1 H locs ls hl hP hS)
  case aload i =>
    cases Nat.eq_of_beq_eq_true hlen
    obtain ⟨x, hm, h1⟩ := am_lda_some hr
    exact lv_aload hx hb hd (hl.2.2 _ (am_rls_mem hm)) (hk _ _ _ _ h1 H locs ls hl hP hS)
  case istore_n i =>
    cases Nat.eq_of_beq_eq_true hlen
    obtain ⟨x, r, rfl, h1⟩ := am_s1_some hr
    obtain ⟨h2, h3⟩ := am_bif h1
    exact lv_istore_n hx hb hd rfl hl (Nat.blt_eq.mp h2) am_rls_sti (fun ls hl => hk _ _ _ _ h3 H locs ls hl hP hS)
  case istore i =>
    cases Nat.eq_of_beq_eq_true hlen
    obtain ⟨x, r, rfl, h1⟩ := am_s1_some hr
    obtain ⟨h2, h3⟩ := am_bif h1
    exact lv_istore hx hb hd hl (Nat.blt_eq.mp h2) am_rls_sti (fun ls hl => hk _ _ _ _ h3 H locs ls hl hP hS)
  case astore_n i =>
    cases Nat.eq_of_beq_eq_true hlen
    obtain ⟨x, r, rfl, h1⟩ := am_sa_some hr
    obtain ⟨h2, h3⟩ := am_bif h1
    exact lv_astore_n hx hb hd rfl hl (Nat.blt_eq.mp h2) am_rls_sta (fun ls hl => hk _ _ _ _ h3 H locs ls hl hP hS)
  case astore i =>
    cases Nat.eq_of_beq_eq_true hlen
    obtain ⟨x, r, rfl, h1⟩ := am_sa_some hr
    obtain ⟨h2, h3⟩ := am_bif h1
    exact lv_astore hx hb hd hl (Nat.blt_eq.mp h2) am_rls_sta (fun ls hl => hk _ _ _ _ h3 H locs ls hl hP hS)
  case iinc i n =>
    cases Nat.eq_of_beq_eq_true hlen
    obtain ⟨x, hm, h1⟩ := am_ldi_some hr
    obtain ⟨h2, h3⟩ := am_bif h1
    obtain ⟨kk, hkk⟩ := List.getElem?_of_mem (am_rls_mem (al := al) hm)
    exact lv_iinc hx hb hd hl hkk rfl (Nat.blt_eq.mp h2) am_rls_sti (fun ls hl => hk _ _ _ _ h3 H locs ls hl hP hS)
  case iconst n =>
    cases Nat.eq_of_beq_eq_true hlen
    exact lv_iconst hx hb hd rfl (hk _ _ _ _ hr H locs ls hl hP hS)
  case bipush n =>
    cases Nat.eq_of_beq_eq_true hlen
    exact lv_bipush hx hb hd rfl (hk _ _ _ _ hr H locs ls hl hP hS)
  case sipush n =>
    cases Nat.eq_of_beq_eq_true hlen
    exact lv_sipush hx hb hd rfl (hk _ _ _ _ hr H locs ls hl hP hS)
  case ldc ix =>
    cases Nat.eq_of_beq_eq_true hlen
    have hr : (match am_cst me ix with
      | some (.inl v) => k (pc + 2) ρ (.int v :: st) h
      | some (.inr i) => k (pc + 2) ρ (.ref i :: st) h
      | none => none) = some g := hr
    unfold am_cst at hr
    cases hz : am_lk (am_ckL.getD (am_ow me) []) ix with
    | none => rw [hz] at hr; cases hr
    | some q =>
      rw [hz] at hr
      obtain ⟨z, w⟩ := q
      have hmem := am_lk_mem _ _ _ hz
      cases z with
      | inl v => exact lv_ldc hx hb hown (va_Nw.use rfl (hF.2.2.2.2.2.2.2.2.1 (am_ow me) _ v hmem rfl)) hd (hk _ _ _ _ hr H locs ls hl hP hS)
      | inr i => exact va_ldcS hx hb hown (hF.2.2.2.2.1 (am_ow me) _ i hmem rfl) hd (hk _ _ _ _ hr H locs ls hl hP hS)
  case iadd =>
    cases Nat.eq_of_beq_eq_true hlen
    obtain ⟨x, y, r, rfl, h1⟩ := am_s2_some hr
    exact lv_iadd hx hb hd (hk _ _ _ _ h1 H locs ls hl hP hS)
  case isub =>
    cases Nat.eq_of_beq_eq_true hlen
    obtain ⟨x, y, r, rfl, h1⟩ := am_s2_some hr
    exact lv_isub hx hb hd (hk _ _ _ _ h1 H locs ls hl hP hS)
  case imul =>
    cases Nat.eq_of_beq_eq_true hlen
    obtain ⟨x, y, r, rfl, h1⟩ := am_s2_some hr
    exact lv_imul hx hb hd (hk _ _ _ _ h1 H locs ls hl hP hS)
  case idiv =>
    cases Nat.eq_of_beq_eq_true hlen
    obtain ⟨x, y, r, rfl, h1⟩ := am_s2_some hr
    by_cases hy : y = 0
    · rw [if_pos hy] at h1; cases h1
    · rw [if_neg hy] at h1
      exact lv_idiv hx hb hd hy (hk _ _ _ _ h1 H locs ls hl hP hS)
  case irem =>
    cases Nat.eq_of_beq_eq_true hlen
    obtain ⟨x, y, r, rfl, h1⟩ := am_s2_some hr
    by_cases hy : y = 0
    · rw [if_pos hy] at h1; cases h1
    · rw [if_neg hy] at h1
      exact lv_irem hx hb hd hy (hk _ _ _ _ h1 H locs ls hl hP hS)
  case ishl =>
    cases Nat.eq_of_beq_eq_true hlen
    obtain ⟨x, y, r, rfl, h1⟩ := am_s2_some hr
    exact lv_ishl hx hb hd (hk _ _ _ _ h1 H locs ls hl hP hS)
  case ishr =>
    cases Nat.eq_of_beq_eq_true hlen
    obtain ⟨x, y, r, rfl, h1⟩ := am_s2_some hr
    exact lv_ishr hx hb hd (hk _ _ _ _ h1 H locs ls hl hP hS)
  case iand =>
    cases Nat.eq_of_beq_eq_true hlen
    obtain ⟨x, y, r, rfl, h1⟩ := am_s2_some hr
    exact lv_iand hx hb hd (hk _ _ _ _ h1 H locs ls hl hP hS)
  case ior =>
    cases Nat.eq_of_beq_eq_true hlen
    obtain ⟨x, y, r, rfl, h1⟩ := am_s2_some hr
    exact lv_ior hx hb hd (hk _ _ _ _ h1 H locs ls hl hP hS)
  case ixor =>
    cases Nat.eq_of_beq_eq_true hlen
    obtain ⟨x, y, r, rfl, h1⟩ := am_s2_some hr
    exact lv_ixor hx hb hd (hk _ _ _ _ h1 H locs ls hl hP hS)
  case dup =>
    cases Nat.eq_of_beq_eq_true hlen
    have hr : am_d1 st (fun v r => k (pc + 1) ρ (v :: v :: r) h) = some g := hr
    obtain ⟨v, r, rfl, hv, h1⟩ := am_d1_some hr
    exact lv_dup hx hb hd (by rw [am_rl_cat]; exact hv) (hk _ _ _ _ h1 H locs ls hl hP hS)
  case dup2 =>
    cases Nat.eq_of_beq_eq_true hlen
    have hr : am_d2 st (fun v w r => k (pc + 1) ρ (v :: w :: v :: w :: r) h) = some g := hr
    obtain ⟨v, w, r, rfl, hv, hw, h1⟩ := am_d2_some hr
    exact lv_dup2_11 hx hb hd (by rw [am_rl_cat]; exact hv) (by rw [am_rl_cat]; exact hw) (hk _ _ _ _ h1 H locs ls hl hP hS)
  case pop =>
    cases Nat.eq_of_beq_eq_true hlen
    have hr : am_d1 st (fun _ r => k (pc + 1) ρ r h) = some g := hr
    obtain ⟨v, r, rfl, hv, h1⟩ := am_d1_some hr
    exact lv_pop hx hb hd (by rw [am_rl_cat]; exact hv) (hk _ _ _ _ h1 H locs ls hl hP hS)
  case i2f =>
    cases Nat.eq_of_beq_eq_true hlen
    obtain ⟨x, r, rfl, h1⟩ := am_s1_some hr
    exact lv_i2f hx hb hd (hk _ _ _ _ h1 H locs ls hl hP hS)
  case fdiv =>
    cases Nat.eq_of_beq_eq_true hlen
    obtain ⟨x, y, r, rfl, h1⟩ := am_sff_some hr
    by_cases hy : FP.fdiv x y &&& 0x7fffffff ≤ 0x7f800000
    · rw [if_pos hy] at h1
      exact lv_fdiv hx hb hd hy (hk _ _ _ _ h1 H locs ls hl hP hS)
    · rw [if_neg hy] at h1; cases h1
  case goto off =>
    cases Nat.eq_of_beq_eq_true hlen
    obtain ⟨t, ht, h1⟩ := am_to_some hr
    exact lv_goto hx hb hd ht (hk _ _ _ _ h1 H locs ls hl hP hS)
  case fconst n =>
    cases Nat.eq_of_beq_eq_true hlen
    have hr : (bif Nat.beq n 0 then k (pc + 1) ρ (.float 0 :: st) h else none) = some g := hr
    obtain ⟨h2, h3⟩ := am_bif hr
    have e0 : n = 0 := Fin.ext (Nat.eq_of_beq_eq_true h2)
    subst e0
    exact lv_fconst0 hx hb hd (hk _ _ _ _ h3 H locs ls hl hP hS)
  case if_icmp cd off =>
    cases Nat.eq_of_beq_eq_true hlen
    obtain ⟨x, y, r, rfl, h1⟩ := am_s2_some hr
    obtain ⟨t, ht, h2⟩ := am_to_some h1
    have ka : ∀ {P : Prop} {a b : Option γ} [Decidable P], (if P then a else b) = some g → P → a = some g := fun q z => by rw [if_pos z] at q; exact q
    have kb : ∀ {P : Prop} {a b : Option γ} [Decidable P], (if P then a else b) = some g → ¬ P → b = some g := fun q z => by rw [if_neg z] at q; exact q
    cases cd with
    | eq => exact lv_icmp_eq hx hb hd ht (fun z => hk _ _ _ _ (ka h2 z) H locs ls hl hP hS) (fun z => hk _ _ _ _ (kb h2 z) H locs ls hl hP hS)
    | ne => exact lv_icmp_ne hx hb hd ht (fun z => hk _ _ _ _ (kb h2 z) H locs ls hl hP hS) (fun z => hk _ _ _ _ (ka h2 z) H locs ls hl hP hS)
    | lt => exact lv_icmp_lt hx hb hd ht (fun z => hk _ _ _ _ (ka h2 z) H locs ls hl hP hS) (fun z => hk _ _ _ _ (kb h2 z) H locs ls hl hP hS)
    | ge => exact lv_icmp_ge hx hb hd ht (fun z => hk _ _ _ _ (ka h2 z) H locs ls hl hP hS) (fun z => hk _ _ _ _ (kb h2 z) H locs ls hl hP hS)
    | gt => exact lv_icmp_gt hx hb hd ht (fun z => hk _ _ _ _ (ka h2 z) H locs ls hl hP hS) (fun z => hk _ _ _ _ (kb h2 z) H locs ls hl hP hS)
    | le => exact lv_icmp_le hx hb hd ht (fun z => hk _ _ _ _ (ka h2 z) H locs ls hl hP hS) (fun z => hk _ _ _ _ (kb h2 z) H locs ls hl hP hS)
  case ifCond cd off =>
    cases Nat.eq_of_beq_eq_true hlen
    obtain ⟨x, r, rfl, h1⟩ := am_s1_some hr
    obtain ⟨t, ht, h2⟩ := am_to_some h1
    have ka : ∀ {P : Prop} {a b : Option γ} [Decidable P], (if P then a else b) = some g → P → a = some g := fun q z => by rw [if_pos z] at q; exact q
    have kb : ∀ {P : Prop} {a b : Option γ} [Decidable P], (if P then a else b) = some g → ¬ P → b = some g := fun q z => by rw [if_neg z] at q; exact q
    cases cd with
    | eq => exact lv_if_eq hx hb hd ht (fun z => hk _ _ _ _ (ka h2 z) H locs ls hl hP hS) (fun z => hk _ _ _ _ (kb h2 z) H locs ls hl hP hS)
    | ne => exact lv_if_ne hx hb hd ht (fun z => hk _ _ _ _ (kb h2 z) H locs ls hl hP hS) (fun z => hk _ _ _ _ (ka h2 z) H locs ls hl hP hS)
    | lt => exact lv_if_lt hx hb hd ht (fun z => hk _ _ _ _ (ka h2 z) H locs ls hl hP hS) (fun z => hk _ _ _ _ (kb h2 z) H locs ls hl hP hS)
    | ge => exact lv_if_ge hx hb hd ht (fun z => hk _ _ _ _ (ka h2 z) H locs ls hl hP hS) (fun z => hk _ _ _ _ (kb h2 z) H locs ls hl hP hS)
    | gt => exact lv_if_gt hx hb hd ht (fun z => hk _ _ _ _ (ka h2 z) H locs ls hl hP hS) (fun z => hk _ _ _ _ (kb h2 z) H locs ls hl hP hS)
    | le => exact lv_if_le hx hb hd ht (fun z => hk _ _ _ _ (ka h2 z) H locs ls hl hP hS) (fun z => hk _ _ _ _ (kb h2 z) H locs ls hl hP hS)
  case tableswitch d lo hi offs =>
    obtain ⟨x, r, rfl, h1⟩ := am_s1_some hr
    obtain ⟨h2, h3⟩ := am_bif h1
    have h2 := of_decide_eq_true h2
    rcases am_sw_some _ _ h3 with ⟨off, t, a1, a2, a3, a4⟩ | ⟨a1, a2⟩
    · have hlt : (x.toInt - lo).toNat < offs.toList.length := (List.getElem?_eq_some_iff.mp a2).1
      refine lv_tableIn hx hb hd (by omega) (by omega) (by rw [← Array.getElem?_toList]; exact a2) a3 (hk _ _ _ _ a4 H locs ls hl hP hS)
    · obtain ⟨t, ht, h5⟩ := am_to_some a2
      exact lv_tableOut hx hb hd (by omega) ht (hk _ _ _ _ h5 H locs ls hl hP hS)
  case getfield ix =>
    cases Nat.eq_of_beq_eq_true hlen
    have hr : (match am_fk me ix with
      | none => none
      | some (ci, j) => am_sa st (fun a r => bif am_isO a ci then (bif am_fi ci j then k (pc + 3) ρ (.int (h a j) :: r) h else (am_G a j).bind (fun b => k (pc + 3) ρ (.ref b :: r) h)) else none)) = some g := hr
    cases hz : am_fk me ix with
    | none => rw [hz] at hr; cases hr
    | some q =>
      obtain ⟨ci, j⟩ := q
      rw [hz] at hr
      obtain ⟨a, r, rfl, h1⟩ := am_sa_some hr
      obtain ⟨h2, h3⟩ := am_bif h1
      obtain ⟨f1, f2, f3, f4, f5, f6, f7⟩ := am_fk_spec hz
      obtain ⟨g1, g2, g3, g4⟩ := am_cell_o (al := al) (aC := aC) (h := h) h2
      have he := am_W_get (al := al) (aC := aC) (h := h) g2
      rw [g1] at he
      have hv := am_fv_get (al := al) (h := h) g4 f2
      cases hfi : am_fi ci j with
      | true =>
        rw [hfi] at h3 hv
        exact va_get (D := (dC, dI)) (T := am_T ci) (N := am_N ci) hx hb hts f6 hown hK hP a he f5 j f4 (hts _ f3) (fun _ h9 => h9) hv hd (hk _ _ _ _ h3 H locs ls hl hP hS)
      | false =>
        rw [hfi] at h3 hv
        have h3 : (am_G a j).bind (fun b => k (pc + 3) ρ (.ref b :: r) h) = some g := h3
        cases hG : am_G a j with
        | none => rw [hG] at h3; cases h3
        | some b =>
          rw [hG] at h3 hv
          exact va_get (D := (dC, dI)) (T := am_T ci) (N := am_N ci) hx hb hts f6 hown hK hP a he f5 j f4 (hts _ f3) (fun _ h9 => h9) hv hd (hk _ _ _ _ h3 H locs ls hl hP hS)
  case putfield ix =>
    cases Nat.eq_of_beq_eq_true hlen
    have hr : (match am_fk me ix with
      | none => none
      | some (ci, j) => am_s1 st (fun x r => am_sa r (fun a r => bif am_fw ci j && am_isO a ci then k (pc + 3) ρ r (am_pi h a j x) else none))) = some g := hr
    cases hz : am_fk me ix with
    | none => rw [hz] at hr; cases hr
    | some q =>
      obtain ⟨ci, j⟩ := q
      rw [hz] at hr
      obtain ⟨x, r0, rfl, h00⟩ := am_s1_some hr
      obtain ⟨a, r, rfl, h1⟩ := am_sa_some h00
      obtain ⟨h2, h3⟩ := am_bif h1
      rw [Bool.and_eq_true] at h2
      obtain ⟨f1, f2, f3, f4, f5, f6, f7⟩ := am_fk_spec hz
      obtain ⟨w1, w2, w3⟩ := f7 h2.1
      obtain ⟨g1, g2, g3, g4⟩ := am_cell_o (al := al) (aC := aC) (h := h) h2.2
      have he := am_W_get (al := al) (aC := aC) (h := h) g2
      rw [g1] at he
      obtain ⟨ty0, hty, hnm⟩ := am_tyn g3
      refine va_put (D := (dC, dI)) (T := am_T ci) (N := am_N ci) hx hb hts f6 ty0 hty hnm hown hK hP (hD _) hS a he f5 j f4 (hts _ f3) (fun _ h9 => h9) w2 (ty := .int) w3 rfl rfl (by simpa using f2) hd (fun H1 locs1 hP1 hD1 hS1 => ?_)
      have hP1 : va_P (dC, dI) vwCl ((am_W al aC h).set a (al a, .inr (ci, ((List.range (am_nF ci)).map (am_fv al h a)).set j (.int x)))) H1 := hP1
      rw [← am_set_o h2.2 w1 f2, am_W_set g2 rfl] at hP1
      exact hk _ _ _ _ h3 H1 locs1 ls hl hP1 hS1
  case getstatic ix =>
    cases Nat.eq_of_beq_eq_true hlen
    have hr : (match am_sk me ix with
      | none => none
      | some i => k (pc + 3) ρ (.ref i :: st) h) = some g := hr
    unfold am_sk at hr
    cases hz : am_lk (am_skL.getD (am_ow me) []) ix with
    | none => rw [hz] at hr; cases hr
    | some q =>
      rw [hz] at hr
      have hmem := am_lk_mem _ _ _ hz
      obtain ⟨z, hz1, hz2⟩ := am_sk_spec hmem
      obtain ⟨-, -, -, hZ⟩ := hF.1 z hz1
      rw [hz2] at hZ
      rcases hF.2.2.2.2.2.2.2.1 (am_ow me) _ z hmem hz1 hz2 with ⟨-, q2⟩ | ⟨-, q2⟩
      · exact va_gets hx hb hZ hS hown (va_Nw.use rfl q2) (fun _ h9 => h9) hd (hk _ _ _ _ hr H locs ls hl hP hS)
      · exact va_getsN hx hb hZ hS hown (va_Nw.use rfl q2) (fun _ h9 => h9) hd (hk _ _ _ _ hr H locs ls hl hP hS)
  case iaload =>
    cases Nat.eq_of_beq_eq_true hlen
    have hr : am_sia st (fun a x r => bif am_in x (am_len a) then (bif am_isI a then k (pc + 1) ρ (.int (h a x.toNatClampNeg) :: r) h else bif am_isF a then k (pc + 1) ρ (.int (am_sx a x.toNatClampNeg) :: r) h else none) else none) = some g := hr
    obtain ⟨a, x, r, rfl, h1⟩ := am_sia_some hr
    obtain ⟨h2, h3⟩ := am_bif h1
    cases hi : am_isI a with
    | true =>
      rw [hi] at h3
      obtain ⟨g1, g2⟩ := am_cell_i (al := al) (aC := aC) (h := h) hi
      have he := am_W_get (al := al) (aC := aC) (h := h) g2
      rw [g1] at he
      exact va_iald hx hb hK hP a 0 he rfl (am_in_spec h2) hd (hk _ _ _ _ h3 H locs ls hl hP hS)
    | false =>
      rw [hi] at h3
      obtain ⟨h4, h5⟩ := am_bif h3
      obtain ⟨z, hz1, hz2⟩ := am_f_spec h4
      obtain ⟨q1, q2, q3, -⟩ := hF.1 z hz1
      rw [hz2] at q1 q2 q3
      exact va_sld hx hb q1 q3 q2 hS (am_in_spec h2) hd (hk _ _ _ _ h5 H locs ls hl hP hS)
  case baload =>
    cases Nat.eq_of_beq_eq_true hlen
    have hr : am_sia st (fun a x r => bif am_isB a && am_in x (am_len a) then k (pc + 1) ρ (.int (h a x.toNatClampNeg) :: r) h else none) = some g := hr
    obtain ⟨a, x, r, rfl, h1⟩ := am_sia_some hr
    obtain ⟨h2, h3⟩ := am_bif h1
    rw [Bool.and_eq_true] at h2
    obtain ⟨g1, g2⟩ := am_cell_b (al := al) (aC := aC) (h := h) h2.1
    have he := am_W_get (al := al) (aC := aC) (h := h) g2
    rw [g1] at he
    exact va_zald hx hb hK hP a 1 he rfl (am_in_spec h2.2) hd (hk _ _ _ _ h3 H locs ls hl hP hS)
  case aaload =>
    cases Nat.eq_of_beq_eq_true hlen
    have hr : am_sia st (fun a x r => bif am_isA a && am_in x (am_len a) then (am_G a x.toNatClampNeg).bind (fun b => k (pc + 1) ρ (.ref b :: r) h) else none) = some g := hr
    obtain ⟨a, x, r, rfl, h1⟩ := am_sia_some hr
    obtain ⟨h2, h3⟩ := am_bif h1
    rw [Bool.and_eq_true] at h2
    obtain ⟨g1, g2, g3, g4⟩ := am_cell_a (al := al) (aC := aC) (h := h) h2.1
    have he := am_W_get (al := al) (aC := aC) (h := h) g2
    rw [g1] at he
    have hin := am_in_spec h2.2
    have hlt : x.toNatClampNeg < am_len a := Nat.not_le.mp fun q => hin (Or.inr q)
    cases hG : am_G a x.toNatClampNeg with
    | none => rw [hG] at h3; cases h3
    | some b =>
      rw [hG] at h3
      have ht : (am_tys aC)[(am_kd a).2.1]? = some (aC (am_kd a).2.1, am_tyL.getD (am_kd a).2.1 .int) := by
        unfold am_tys
        rw [List.getElem?_map, List.getElem?_range g4]
        rfl
      have hrf : (am_tyL.getD (am_kd a).2.1 FieldType.int).isReference = true := by
        have key : ∀ t, t < 7 → 1 < t → (am_tyL.getD t FieldType.int).isReference = true := by decide
        exact key _ g4 g3
      exact W.aald (v := .ref (al b)) hx hb (hP a _ he) ((hK.2 _ _ ht).1 (am_len a) (fun j => va_rf ((am_G a j).map al))) hrf (fun q => by cases q) (by show ¬ (x < 0 ∨ (arrV _ _ _).slots.size ≤ _); rw [arrV_size]; exact hin) (by show (arrV _ _ _).slots[_]? = _; rw [arrV_read _ _ hlt]; show some (va_rf (Option.map al (am_G a x.toNatClampNeg))) = _; rw [hG]; rfl) rfl rfl hd (hk _ _ _ _ h3 H locs ls hl hP hS)
  case iastore =>
    cases Nat.eq_of_beq_eq_true hlen
    have hr : am_siia st (fun a i x r => bif am_isI a && am_in i (am_len a) then k (pc + 1) ρ r (am_pi h a i.toNatClampNeg x) else none) = some g := hr
    obtain ⟨a, i, x, r, rfl, h1⟩ := am_siia_some hr
    obtain ⟨h2, h3⟩ := am_bif h1
    rw [Bool.and_eq_true] at h2
    obtain ⟨g1, g2⟩ := am_cell_i (al := al) (aC := aC) (h := h) h2.1
    obtain ⟨g5, -⟩ := am_cell_i (al := al) (aC := aC) (h := am_pi h a i.toNatClampNeg x) h2.1
    have he := am_W_get (al := al) (aC := aC) (h := h) g2
    rw [g1] at he
    refine va_iast hx hb hK hP (hD _) hS a 0 he rfl (am_in_spec h2.2) hd (fun H1 locs1 hP1 hD1 hS1 => ?_)
    rw [← am_pi_eq, ← g5, am_W_set g2 rfl] at hP1
    exact hk _ _ _ _ h3 H1 locs1 ls hl hP1 hS1
  case bastore =>
    cases Nat.eq_of_beq_eq_true hlen
    have hr : am_siia st (fun a i x r => bif am_isB a && am_in i (am_len a) then k (pc + 1) ρ r (am_pi h a i.toNatClampNeg (x &&& 1)) else none) = some g := hr
    obtain ⟨a, i, x, r, rfl, h1⟩ := am_siia_some hr
    obtain ⟨h2, h3⟩ := am_bif h1
    rw [Bool.and_eq_true] at h2
    obtain ⟨g1, g2⟩ := am_cell_b (al := al) (aC := aC) (h := h) h2.1
    obtain ⟨g5, -⟩ := am_cell_b (al := al) (aC := aC) (h := am_pi h a i.toNatClampNeg (x &&& 1)) h2.1
    have he := am_W_get (al := al) (aC := aC) (h := h) g2
    rw [g1] at he
    refine va_zast hx hb hK hP (hD _) hS a 1 he rfl (am_in_spec h2.2) hd (fun H1 locs1 hP1 hD1 hS1 => ?_)
    have hnz : vp_nar .boolean x = x &&& 1 := rfl
    rw [hnz, ← am_pi_eq, ← g5, am_W_set g2 rfl] at hP1
    exact hk _ _ _ _ h3 H1 locs1 ls hl hP1 hS1
  case arraylength =>
    cases Nat.eq_of_beq_eq_true hlen
    have hr : am_sa st (fun a r => bif am_isI a || am_isA a || am_isF a then k (pc + 1) ρ (.int (Int32.ofNat (am_len a)) :: r) h else none) = some g := hr
    obtain ⟨a, r, rfl, h1⟩ := am_sa_some hr
    obtain ⟨h2, h3⟩ := am_bif h1
    rw [Bool.or_eq_true, Bool.or_eq_true] at h2
    rcases h2 with (h2 | h2) | h2
    · obtain ⟨g1, g2⟩ := am_cell_i (al := al) (aC := aC) (h := h) h2
      have he := am_W_get (al := al) (aC := aC) (h := h) g2
      rw [g1] at he
      exact va_alen hx hb hK hP a 0 he rfl rfl hd (hk _ _ _ _ h3 H locs ls hl hP hS)
    · obtain ⟨g1, g2, g3, g4⟩ := am_cell_a (al := al) (aC := aC) (h := h) h2
      have he := am_W_get (al := al) (aC := aC) (h := h) g2
      rw [g1] at he
      have ht : (am_tys aC)[(am_kd a).2.1]? = some (aC (am_kd a).2.1, am_tyL.getD (am_kd a).2.1 .int) := by
        unfold am_tys
        rw [List.getElem?_map, List.getElem?_range g4]
        rfl
      exact va_alen hx hb hK hP a _ he ht rfl hd (hk _ _ _ _ h3 H locs ls hl hP hS)
    · obtain ⟨z, hz1, hz2⟩ := am_f_spec h2
      obtain ⟨q1, q2, q3, -⟩ := hF.1 z hz1
      rw [hz2] at q1 q2 q3
      exact va_slen hx hb q1 q3 q2 hS hd (hk _ _ _ _ h3 H locs ls hl hP hS)
  case invokevirtual ix =>
    cases Nat.eq_of_beq_eq_true hlen
    exact hcall 0 ix (Or.inl ⟨rfl, rfl⟩) hr H locs ls hl hP hS
  case invokestatic ix =>
    cases Nat.eq_of_beq_eq_true hlen
    exact hcall 1 ix (Or.inr ⟨rfl, rfl⟩) hr H locs ls hl hP hS
  case ireturn =>
    cases Nat.eq_of_beq_eq_true hlen
    have hr : am_s1 st (fun x r => bif r.isEmpty then (bif Nat.beq (am_rk me) 1 then ret (some (some (.int x))) h else bif Nat.beq (am_rk me) 2 then (if x &&& 1 = x then ret (some (some (.int x))) h else none) else none) else none) = some g := hr
    obtain ⟨x, r, rfl, h1⟩ := am_s1_some hr
    obtain ⟨h2, h3⟩ := am_bif h1
    cases List.isEmpty_iff.mp h2
    cases h4 : Nat.beq (am_rk me) 1 with
    | true =>
      rw [h4] at h3
      obtain ⟨e1, e2⟩ := hret _ _ h3
      subst e1; subst e2
      exact vx_ret (W.iret hx hb (by rw [hrt]; exact am_rk1 h4) (am_leaf (v := some (.int x)) hK hP hS) hS.2.2 hd)
    | false =>
      rw [h4] at h3
      obtain ⟨h5, h6⟩ := am_bif h3
      by_cases hz : x &&& 1 = x
      · rw [if_pos hz] at h6
        obtain ⟨e1, e2⟩ := hret _ _ h6
        subst e1; subst e2
        exact vx_ret (W.zret (ty := .boolean) hx hb (by rw [hrt]; exact am_rk2 h5) (by show Value.int (x &&& 1) = _; rw [hz]) (am_leaf (v := some (.int x)) hK hP hS) hS.2.2 hd)
      · rw [if_neg hz] at h6; cases h6
  case areturn =>
    cases Nat.eq_of_beq_eq_true hlen
    have hr : am_sa st (fun x r => bif r.isEmpty && Nat.beq (am_rk me) 4 then ret (some (some (.ref x))) h else none) = some g := hr
    obtain ⟨x, r, rfl, h1⟩ := am_sa_some hr
    obtain ⟨h2, h3⟩ := am_bif h1
    rw [Bool.and_eq_true] at h2
    cases List.isEmpty_iff.mp h2.1
    obtain ⟨e1, e2⟩ := hret _ _ h3
    subst e1; subst e2
    obtain ⟨nm, hnm⟩ := am_rk4 h2.2
    exact vx_ret (W.aret hx hb (by rw [hrt]; exact hnm) (Or.inl ⟨nm, rfl⟩) (Or.inr ⟨_, rfl⟩) (am_leaf (v := some (.ref x)) hK hP hS) hS.2.2 hd)
  case freturn =>
    cases Nat.eq_of_beq_eq_true hlen
    have hr : am_sf st (fun x r => bif r.isEmpty && Nat.beq (am_rk me) 3 then ret (some (some (.float x))) h else none) = some g := hr
    obtain ⟨x, r, rfl, h1⟩ := am_sf_some hr
    obtain ⟨h2, h3⟩ := am_bif h1
    rw [Bool.and_eq_true] at h2
    cases List.isEmpty_iff.mp h2.1
    obtain ⟨e1, e2⟩ := hret _ _ h3
    subst e1; subst e2
    exact vx_ret (W.fret hx hb (by rw [hrt]; exact am_rk3 h2.2) (am_leaf (v := some (.float x)) hK hP hS) hS.2.2 hd)
  case return_ =>
    cases Nat.eq_of_beq_eq_true hlen
    have hr : (bif st.isEmpty && Nat.beq (am_rk me) 5 then ret (some none) h else none) = some g := hr
    obtain ⟨h2, h3⟩ := am_bif hr
    rw [Bool.and_eq_true] at h2
    cases List.isEmpty_iff.mp h2.1
    obtain ⟨e1, e2⟩ := hret _ _ h3
    subst e1; subst e2
    exact vx_ret (W.vret hx hb (by rw [hrt]; exact am_rk5 h2.2) (am_leaf (v := none) hK hP hS) hS.2.2 hd)
  case new ix =>
    cases Nat.eq_of_beq_eq_true hlen
    have hr : (bif am_thr me pc ix && Nat.ble 6 (am_fr me) && Nat.ble 100 (am_lo me) && st.isEmpty then ret none h else none) = some g := hr
    obtain ⟨h2, h3⟩ := am_bif hr
    simp only [Bool.and_eq_true] at h2
    obtain ⟨⟨⟨t1, t2⟩, t3⟩, t4⟩ := h2
    cases List.isEmpty_iff.mp t4
    obtain ⟨e1, e2⟩ := hret _ _ h3
    subst e1; subst e2
    obtain ⟨d0, d3, d4, d7, ho⟩ := am_thr_spec t1
    rw [ho] at hown
    have t2 := Nat.le_of_ble_eq_true t2
    have t3 := Nat.le_of_ble_eq_true t3
    have hRf : R.frames = am_fr me := by rw [hR]; rfl
    have hRl : R.locals = am_lo me := by rw [hR]; rfl
    have hRc : R.cells = 1 := by rw [hR]; rfl
    have hRs : R.slots = 6 := by rw [hR]; rfl
    have hat : ∀ w ∈ am_tw, w.before args s = true := vx_hat (B := am_TB) (fun w hw => hts w (am_tw_in hw)) (fun w hw => by rw [am_tw_bad] at hw; exact hw) (fun w hw => va_Nw.use (am_TB_ot w hw) (hF.2.2.2.2.2.1 w hw))
    refine vx_throw0 hx hb htr (own := RX9) (cls := "java/lang/IndexOutOfBoundsException") (names := ["java/lang/RuntimeException", "java/lang/Exception"]) (ik := 317) (ic := 319) hown (by decide +kernel) (by decide +kernel) (va_Nw.use rfl hF.2.2.2.2.2.2.2.2.2.1) (va_Nw.use rfl hF.2.2.2.2.2.2.2.2.2.2.1) hat am_tw_ot hF.2.1 hF.2.2.1 hS (by rw [hml]; exact hl.1) d0 d3 d4 d7 (fun x hx => absurd hx (fun q => hexc x q)) (by rw [hRf]; exact t2) (by rw [hRl]; show 0 + (13 * (2 + 1) + 42) ≤ _; omega) (by rw [hRc]; exact Nat.le_refl _) (by rw [hRs]; exact Nat.le_refl _) hlocks ?_ hS.2.2 (Nat.le_refl _) (Nat.le_refl _)
    intro t ht hz hq
    refine ⟨rfl, rfl, ⟨hP.kept (fun kk q hkk => hq _ (hP kk q hkk).lt), va_K.moved ht hK⟩, Nat.le_trans hS.1 hz, fun q h1 h2 => (hq q (Nat.lt_of_lt_of_le h1 hS.1)).trans (hS.2.1 q h1 h2)⟩
  all_goals exact absurd (show (none : Option γ) = some g from hr) (by simp)
end AMP
end
section
section AMCALL
variable {p : Program} {l : Launch} {e : Env} {R : Room} {s : State} {m : MethodId} {args : Array Value} {below : List Frame} {meth : Method} {c : Code}
theorem am_mmax_c : Cond.code (am_y 0) (am_cc 0) (am_ml 0) (am_re 0) = Cond.code Lib.Math.max.name Lib.Math.max.code 2 (some .int) := by decide +kernel
theorem am_mmin_c : Cond.code (am_y 1) (am_cc 1) (am_ml 1) (am_re 1) = Cond.code Lib.Math.min.name Lib.Math.min.code 2 (some .int) := by decide +kernel
theorem am_rcv_some {mid : Nat} {as : List Value} (h : am_rcv 0 mid as = true) : ∃ a as', as = .ref a :: as' ∧ ((am_ow mid ≠ 12 ∧ am_isO a (am_ow mid) = true) ∨ (am_ow mid = 12 ∧ Nat.beq (am_kd a).1 6 = true)) := by
  cases as with
  | nil => exact absurd (show false = true from h) (by decide)
  | cons v as' =>
    cases v
    case ref a =>
      have h : (bif Nat.beq (am_ow mid) 12 then Nat.beq (am_kd a).1 6 else am_isO a (am_ow mid)) = true := h
      refine ⟨a, as', rfl, ?_⟩
      cases hz : Nat.beq (am_ow mid) 12 with
      | true => rw [hz] at h; exact Or.inr ⟨Nat.eq_of_beq_eq_true hz, h⟩
      | false => rw [hz] at h; exact Or.inl ⟨Nat.ne_of_beq_eq_false hz, h⟩
    all_goals exact absurd (show false = true from h) (by decide)
theorem am_str_spec {a : Nat} (h : Nat.beq (am_kd a).1 6 = true) : ∃ i, i < 5 ∧ a = am_s0 + i := by
  have key : (List.range am_kdL.length).all (fun a => !(Nat.beq (am_kd a).1 6) || (Nat.ble am_s0 a && Nat.blt a (am_s0 + 5))) = true := by decide +kernel
  by_cases ha : a < am_kdL.length
  · have h1 := List.all_eq_true.mp key a (List.mem_range.mpr ha)
    rw [h] at h1
    simp only [Bool.not_true, Bool.false_or, Bool.and_eq_true] at h1
    have h2 := Nat.le_of_ble_eq_true h1.1
    have h3 := Nat.blt_eq.mp h1.2
    exact ⟨a - am_s0, by omega, by omega⟩
  · exfalso
    unfold am_kd at h
    rw [List.getD_eq_getElem?_getD, List.getElem?_eq_none (by omega)] at h
    exact absurd h (by decide)
theorem am_blind {al : Nat → Nat} {dC : Nat → ClassId} {dI : Nat → Nat → Nat} {aC : Nat → ClassId} {aV : Nat → Nat} {as : List Value} {h : am_Hp} {sz : Nat} : FrameBlind (va_Pc as (fun U => U.heap.size = sz ∧ am_B al dC dI aC h U ∧ am_Fx al aV (am_A al sz) U U.heap)) := by
  intro a U g mk q
  obtain ⟨q0, q1, ⟨q2, q3⟩, q4⟩ := q
  exact ⟨q0, q1, ⟨q2, va_K.moved (u := U) (U := U.calling g mk a) (Vm.Alike.refl U.vm) q3⟩, am_fx_kept (U1 := U.calling g mk a) q4 (State.WarmedH.refl U) (Nat.le_refl _) (fun _ _ _ => rfl) (fun _ _ h => h) (fun _ h => h)⟩
theorem am_sum {al : Nat → Nat} : ∀ (r : List Value), ((r.map (am_rl al)).map fun v => v.category).sum ≤ 2 * r.length
  | [] => by simp
  | v :: r => by
    have h := am_sum (al := al) r
    have h2 : (am_rl al v).category ≤ 2 := by rw [am_rl_cat]; rcases lv_cat v with q | q <;> omega
    simp only [List.map_cons, List.sum_cons, List.length_cons]
    omega
theorem am_AP {al : Nat → Nat} {a b : Nat} (h : a ≤ b) : ∀ q, am_A al b q → am_A al a q := fun q z => z.imp id (fun y => Nat.le_trans h y)
set_option maxHeartbeats 4000000 in
/-- from what a call does to what the caller sees -/
theorem am_call_end {γ : Type} {al : Nat → Nat} {dC : Nat → ClassId} {dI : Nat → Nat → Nat} {aC : Nat → ClassId} {aV : Nat → Nat} {me : Nat} {o0 o : am_Out} {h0 h' : am_Hp} {pc : Nat} {ρ : am_Lc} {st rest : List Value} {ret : am_Out → am_Hp → Option γ} {k : Nat → am_Lc → List Value → am_Hp → Option γ} {g : γ} {H : Heap} {locs : List Loc} {ls : Array Slot} {fa : Array Value}
    (C : am_Cx p l R s m args meth c al dC dI aC aV me o0) (hret : ∀ o h', ret o h' = some g → o = o0 ∧ h' = h0)
    (hk : ∀ pc' ρ' st' h', k pc' ρ' st' h' = some g → am_At p l e R s m args below meth c al dC dI aC me o0 h0 pc' ρ' st' h')
    (hl : lv_has ls (am_ml me) (am_rls al ρ)) (hS : va_S (am_A al s.heap.size) s.heap H locs) (hback : am_back pc ρ rest ret k o h' = some g)
    (hr : vx_Run p l e R s m args below meth c H locs 0 0 (am_mc o) (am_ms o) (F0 m pc ls st) (rest.map (am_rl al)) (am_Q al dC dI aC o h' (am_A al H.size) fa) (am_X al dC dI aC o h' (am_A al H.size)) (am_A al H.size)) :
    W p l e R s m args below meth c H locs 0 0 (vx_MQ below (am_Q al dC dI aC o0 h0 (am_A al s.heap.size)) (am_X al dC dI aC o0 h0 (am_A al s.heap.size)) args s (am_mc o0) (am_ms o0) (am_A al s.heap.size)) (F0 m pc ls st) := by
  obtain ⟨hx, hb, hml, hown, hts, hlocks, hexc, hrt, htr, hK, hF, hR, hinj⟩ := C
  intro T hT X
  rcases hr T hT X with ⟨v, st₀, t, T', L, h00, X', hL, e1, e2, ⟨v', q1, q2, ⟨q3, q4⟩, q5⟩, stp⟩ | ⟨q, st₀, t, T', L, E, ce, h00, X', hL, e1, e2, ⟨q1, q2, ⟨q3, q4⟩, q5⟩, hce, hcv, hcl, stp⟩
  · obtain ⟨k1, k2, k3⟩ := vx_keep h00 e1 hS (fun q _ z => am_AP hS.1 q z) (fun q z => am_AP hS.1 q z) hL q5
    subst q1
    cases Outcome.returned.inj q2
    cases v' with
    | none =>
      obtain ⟨t2, a1, b1⟩ := hk _ _ _ _ hback T'.heap (locs ++ L) ls hl (by rw [e1]; exact q3) k3 T' rfl X'
      exact ⟨t2, stp t2 a1, b1⟩
    | some w =>
      obtain ⟨t2, a1, b1⟩ := hk _ _ _ _ hback T'.heap (locs ++ L) ls hl (by rw [e1]; exact q3) k3 T' rfl X'
      exact ⟨t2, stp t2 a1, b1⟩
  · obtain ⟨k1, k2, k3⟩ := vx_keep h00 e1 hS (fun q _ z => am_AP hS.1 q z) (fun q z => am_AP hS.1 q z) hL q5
    subst q1
    obtain ⟨z1, z2⟩ := hret _ _ hback
    subst z1; subst z2
    obtain ⟨t2, a1, b1⟩ := vx_out (XC := am_X al dC dI aC none h' (am_A al s.heap.size)) (Qc := am_Q al dC dI aC none h' (am_A al s.heap.size)) (mc := 1) (ms := 6) (free := am_A al s.heap.size) (E := E) (ls := ls) (rest := rest.map (am_rl al)) (pc := pc) (fun x hx => absurd hx (fun q => hexc x q)) hlocks (by rw [e1]; exact hce) hcv hcl (fun t' ht' hW' => ⟨rfl, q2, ⟨by rw [ht', e1]; exact q3, va_K.moved hW' hK⟩, k3.F ht'⟩) k3.2.2 (Nat.le_refl _) (Nat.le_refl _) T' rfl X'
    exact ⟨t2, stp.trans a1, b1⟩
set_option maxHeartbeats 4000000 in
theorem am_inv_sound {γ : Type} {al : Nat → Nat} {dC : Nat → ClassId} {dI : Nat → Nat → Nat} {aC : Nat → ClassId} {aV : Nat → Nat} {me : Nat} {o0 : am_Out} {h0 : am_Hp} {pc : Nat} {ins : Instr} {ρ : am_Lc} {st : List Value} {h : am_Hp} {orc : am_Orc} {ret : am_Out → am_Hp → Option γ} {k : Nat → am_Lc → List Value → am_Hp → Option γ} {g : γ}
    (C : am_Cx p l R s m args meth c al dC dI aC aV me o0) (hd : decode (am_cc me) pc = .ok (ins, 3)) (horc : am_OS l al dC dI aC aV orc) (hret : ∀ o h', ret o h' = some g → o = o0 ∧ h' = h0)
    (hk : ∀ pc' ρ' st' h', k pc' ρ' st' h' = some g → am_At p l e R s m args below meth c al dC dI aC me o0 h0 pc' ρ' st' h')
    (kd ix : Nat) (hi : ins = .invokevirtual ix ∧ kd = 0 ∨ ins = .invokestatic ix ∧ kd = 1) (hr : am_inv me kd pc ix ρ st h orc ret k = some g) : am_At p l e R s m args below meth c al dC dI aC me o0 h0 pc ρ st h := by
  have C' := C
  obtain ⟨hx, hb, hml, hown, hts, hlocks, hexc, hrt, htr, hK, hF, hR, hinj⟩ := C
  intro H locs ls hl hP hS
  unfold am_inv at hr
  cases hz : am_mk me ix with
  | none => rw [hz] at hr; cases hr
  | some q =>
    obtain ⟨kd', mid⟩ := q
    rw [hz] at hr
    obtain ⟨m1, m2, m3⟩ := am_mk_spec hz
    obtain ⟨n1, n2, n3, n4, -⟩ := am_md_spec m1
    have hr : (bif Nat.blt mid 2 then (bif Nat.beq kd' 1 && Nat.beq kd 1 && Nat.ble st.length 6 && Nat.ble 1 (am_fr me) && Nat.ble 21 (am_lo me) then am_s2 st (fun x y r => k (pc + 3) ρ (.int (bif Nat.beq mid 0 then (if x < y then y else x) else (if y < x then y else x)) :: r) h) else none) else bif Nat.beq (kd' % 2) kd && Nat.ble (am_na mid) st.length && Nat.ble ((st.drop (am_na mid)).map (fun v => v.category)).sum 8 && am_rmOk me mid && am_rcv kd mid (st.take (am_na mid)).reverse
      then orc γ mid (st.take (am_na mid)).reverse h (am_back pc ρ (st.drop (am_na mid)) ret k) else none) = some g := hr
    have hRf : R.frames = am_fr me := by rw [hR]; rfl
    have hRl : R.locals = am_lo me := by rw [hR]; rfl
    cases hb2 : Nat.blt mid 2 with
    | true =>
      rw [hb2] at hr
      obtain ⟨h1, h2⟩ := am_bif hr
      simp only [Bool.and_eq_true] at h1
      obtain ⟨⟨⟨⟨h11, h12⟩, h13⟩, h14⟩, h15⟩ := h1
      obtain ⟨x, y, r, rfl, h3⟩ := am_s2_some h2
      have e1 : kd' = 1 := Nat.eq_of_beq_eq_true h11
      have e2 : kd = 1 := Nat.eq_of_beq_eq_true h12
      subst e1; subst e2
      rcases hi with ⟨-, q⟩ | ⟨rfl, -⟩
      · exact absurd q (by decide)
      rcases m3 with ⟨q, -⟩ | ⟨-, w1, w2, -⟩ | ⟨q, -⟩
      · exact absurd q (by decide)
      · have hr4 : r.length ≤ 4 := by have := Nat.le_of_ble_eq_true h13; simp only [List.length_cons] at this; omega
        have hs4 := am_sum (al := al) r
        have hlo := Nat.le_of_ble_eq_true h15
        have hmid : mid = 0 ∨ mid = 1 := by have := Nat.blt_eq.mp hb2; omega
        rcases hmid with rfl | rfl
        · exact va_mmax hx hb (hml.trans hl.1.symm) hown (hts _ w1) (hts _ w2) (hts _ m2) (hts _ (am_mmax_c ▸ n1)) (by rw [hRf]; exact Nat.le_of_ble_eq_true h14) (by rw [hRl]; omega) (Nat.zero_le _) (Nat.zero_le _) hd (hk _ _ _ _ h3 H locs ls hl hP hS)
        · exact va_mmin hx hb (hml.trans hl.1.symm) hown (hts _ w1) (hts _ w2) (hts _ m2) (hts _ (am_mmin_c ▸ n1)) (by rw [hRf]; exact Nat.le_of_ble_eq_true h14) (by rw [hRl]; omega) (Nat.zero_le _) (Nat.zero_le _) hd (hk _ _ _ _ h3 H locs ls hl hP hS)
      · exact absurd q (by decide)
    | false =>
      rw [hb2] at hr
      have hr : (bif Nat.beq (kd' % 2) kd && Nat.ble (am_na mid) st.length && Nat.ble ((st.drop (am_na mid)).map (fun v => v.category)).sum 8 && am_rmOk me mid && am_rcv kd mid (st.take (am_na mid)).reverse
        then orc γ mid (st.take (am_na mid)).reverse h (am_back pc ρ (st.drop (am_na mid)) ret k) else none) = some g := hr
      obtain ⟨h1, h2⟩ := am_bif hr
      simp only [Bool.and_eq_true] at h1
      obtain ⟨⟨⟨⟨h11, h12⟩, h13⟩, h14⟩, h15⟩ := h1
      have h11 := Nat.eq_of_beq_eq_true h11
      have h12 := Nat.le_of_ble_eq_true h12
      have h13 := Nat.le_of_ble_eq_true h13
      unfold am_rmOk at h14
      rw [Bool.and_eq_true] at h14
      have h141 := Nat.le_of_ble_eq_true h14.1
      have h142 := Nat.le_of_ble_eq_true h14.2
      generalize hasd : (st.take (am_na mid)).reverse = as at h2 h15
      generalize hresd : st.drop (am_na mid) = rest at h2 h13
      have hst : st = as.reverse ++ rest := by rw [← hasd, ← hresd, List.reverse_reverse, List.take_append_drop]
      have hln : as.length = am_na mid := by rw [← hasd, List.length_reverse, List.length_take]; omega
      obtain ⟨o, h', hM, hback⟩ := horc _ _ _ _ _ _ h2
      have hmc : 0 + am_mc o ≤ R.cells ∧ 0 + am_ms o ≤ R.slots := by
        rw [hR]
        cases o with
        | some v => exact ⟨Nat.zero_le _, Nat.zero_le _⟩
        | none =>
          obtain ⟨z1, -⟩ := hret _ _ hback
          subst z1
          exact ⟨Nat.le_refl _, Nat.le_refl _⟩
      have hsum : 2 * (F0 m pc ls (st.map (am_rl al))).monitorRoom + ((rest.map (am_rl al)).map fun v => v.category).sum ≤ 8 := by
        have e : (rest.map (am_rl al)).map (fun v => v.category) = rest.map (fun v => v.category) := by
          rw [List.map_map]
          exact List.map_congr_left (fun v _ => am_rl_cat al v)
        show 2 * 0 + _ ≤ 8
        rw [e]
        omega
      have hPre : ∀ U : State, U.heap = H → s.WarmedH U.vm → va_Pc (as.map (am_rl al)) (fun U => U.heap.size = H.size ∧ am_B al dC dI aC h U ∧ am_Fx al aV (am_A al H.size) U U.heap) (as.map (am_rl al)).toArray U := fun U hU hW =>
        ⟨rfl, by rw [hU], ⟨by rw [hU]; exact hP, va_K.moved hW.alike hK⟩, by rw [hU]; exact am_fx_kept hF hW hS.1 hS.2.1 (fun q _ z => am_AP hS.1 q z) (fun q z => am_AP hS.1 q z)⟩
      have hws : GoodIn am_AT (am_ws mid) := am_AT_sub (fun w hw => by
        rcases List.mem_cons.mp hw with rfl | hw
        · exact n1
        · exact hw)
      have hRR : (am_rm mid o).frames + 1 ≤ R.frames ∧ 8 + (am_ml mid + 11) + (am_rm mid o).locals ≤ R.locals := by rw [hRf, hRl]; exact ⟨h141, h142⟩
      refine am_call_end (fa := (as.map (am_rl al)).toArray) C' hret hk hl hS hback ?_
      rcases m3 with ⟨q, w1, w2, w3, w4, w5⟩ | ⟨q, w1, w2, w5⟩ | ⟨q, w1, w2, w5⟩
      · subst q
        have hkd : kd = 0 := h11.symm
        subst hkd
        rcases hi with ⟨rfl, -⟩ | ⟨-, q⟩
        · obtain ⟨a, as', rfl, hrc⟩ := am_rcv_some h15
          have hcell : ∃ cellB : Cell, H[al a]? = some cellB ∧ cellB.vm.isStatics = false ∧ s.vm.findClass (am_y mid).cls = some cellB.cls := by
            rcases hrc with ⟨c1, c2⟩ | ⟨c1, c2⟩
            · obtain ⟨g1, g2, g3, -⟩ := am_cell_o (al := al) (aC := aC) (h := h) c2
              have he := am_W_get (al := al) (aC := aC) (h := h) g2
              rw [g1] at he
              have := va_recv hK hP (am_cl_spec g3).2 he
              rw [n2]
              exact this
            · obtain ⟨i, i1, i2⟩ := am_str_spec c2
              have := vk_recv hF.2.2.2.1 i1 hS
              rw [n2, show am_own mid = "java/lang/String" by unfold am_own; rw [c1]; rfl, i2]
              exact this
          refine vx_runV (cc := am_cc me) (nL := am_ml me) (Ts := am_AT) (own := am_own me) (C := (am_y mid).cls) (bytes := am_cc mid) (maxL := am_ml mid) (ret := am_re mid) (ws := am_ws mid) (rm := am_rm mid o) (n := am_na mid - 1) (index := ix) (As := as'.map (am_rl al)) (b := al a) ⟨hx, hb, hml, hown, hts⟩ (hM H.size) (cwV _ hts (fun w hw => ?_) rfl rfl rfl ⟨rfl, n3, n4, w5⟩ hRR) ⟨am_blind, hcell, hPre⟩ rfl (by rw [List.length_map]; rw [List.length_cons] at hln; omega) hl.1 (by show st.map (am_rl al) = _; rw [hst]; simp [am_rl]) hsum hd hmc
          rcases List.mem_append.mp hw with hw | hw
          · simp only [List.mem_cons, List.not_mem_nil, or_false] at hw
            rcases hw with rfl | rfl | rfl | rfl
            · exact ⟨w1, am_AT_good w1⟩
            · exact ⟨w2, am_AT_good w2⟩
            · exact ⟨w3, am_AT_good w3⟩
            · exact ⟨m2, am_AT_good m2⟩
          · exact hws w hw
        · exact absurd q (by decide)
      · subst q
        have hkd : kd = 1 := h11.symm
        subst hkd
        rcases hi with ⟨-, q⟩ | ⟨rfl, -⟩
        · exact absurd q (by decide)
        · exact vx_runS (cc := am_cc me) (nL := am_ml me) (Ts := am_AT) (own := am_own me) (bytes := am_cc mid) (maxL := am_ml mid) (ret := am_re mid) (ws := am_ws mid) (rm := am_rm mid o) (n := am_na mid) (index := ix) (As := as.map (am_rl al)) ⟨hx, hb, hml, hown, hts⟩ (hM H.size) ⟨callB_of _ hts hws rfl rfl rfl (hts _ m2) (hts _ w1) ⟨n3, n4, w5⟩ hRR, hts _ w2⟩ ⟨am_blind, hPre⟩ rfl (by rw [List.length_map]; exact hln) hl.1 (by show st.map (am_rl al) = _; rw [hst]; simp) hsum hd hmc
      · subst q
        have hkd : kd = 1 := h11.symm
        subst hkd
        rcases hi with ⟨-, q⟩ | ⟨rfl, -⟩
        · exact absurd q (by decide)
        · exact vx_runSN (host := "SharedConsole") (cc := am_cc me) (nL := am_ml me) (Ts := am_AT) (own := am_own me) (bytes := am_cc mid) (maxL := am_ml mid) (ret := am_re mid) (ws := am_ws mid) (rm := am_rm mid o) (n := am_na mid) (index := ix) (As := as.map (am_rl al)) ⟨hx, hb, hml, hown, hts⟩ (hM H.size) ⟨va_cnB _ hts hws rfl rfl rfl (by rw [w1]; exact hF.2.2.2.2.2.2.1) (hts _ m2) ⟨n3, n4, w5⟩ hRR, hts _ w2, trivial⟩ ⟨am_blind, hPre⟩ rfl (by rw [List.length_map]; exact hln) hl.1 (by show st.map (am_rl al) = _; rw [hst]; simp) hsum hd hmc
end AMCALL
end
section
section AMMET
variable {p : Program} {l : Launch} {e : Env} {R : Room} {s : State} {m : MethodId} {args : Array Value} {below : List Frame} {meth : Method} {c : Code}
theorem am_at_mem {tab : List (Nat × Instr × Nat)} {pc : Nat} {q : Instr × Nat} (h : am_at tab pc = some q) : (pc, q) ∈ tab := by
  unfold am_at at h
  cases hf : tab.find? (fun q => Nat.beq q.1 pc) with
  | none => rw [hf] at h; cases h
  | some z =>
    rw [hf] at h
    cases h
    have h2 := List.find?_some hf
    have h1 : z.1 = pc := Nat.eq_of_beq_eq_true h2
    rw [← h1]
    exact List.mem_of_find?_eq_some hf
def am_tok (me : Nat) (tab : List (Nat × Instr × Nat)) : Prop := ∀ q ∈ tab, decode (am_cc me) q.1 = .ok q.2 ∧ am_il q.2.1 q.2.2 = true
theorem am_sem_sound {γ : Type} {al : Nat → Nat} {dC : Nat → ClassId} {dI : Nat → Nat → Nat} {aC : Nat → ClassId} {aV : Nat → Nat} {me : Nat} {o0 : am_Out} {h0 : am_Hp} {tab : List (Nat × Instr × Nat)} {cut : am_Cut γ} {orc : am_Orc} {ret : am_Out → am_Hp → Option γ} {g : γ}
    (C : am_Cx p l R s m args meth c al dC dI aC aV me o0) (htab : am_tok me tab) (horc : am_OS l al dC dI aC aV orc) (hret : ∀ o h', ret o h' = some g → o = o0 ∧ h' = h0)
    (hcut : ∀ pc cc, cut pc = some cc → ∀ ρ st h, cc ρ st h = some g → am_At p l e R s m args below meth c al dC dI aC me o0 h0 pc ρ st h) :
    ∀ (f pc : Nat) (ρ : am_Lc) (st : List Value) (h : am_Hp), am_sem me tab cut orc ret f pc ρ st h = some g → am_At p l e R s m args below meth c al dC dI aC me o0 h0 pc ρ st h
  | 0, _, _, _, _, h => by cases h
  | f + 1, pc, ρ, st, h, hr => by
    have hr : (match am_at tab pc with
      | none => none
      | some q => am_op me pc q.1 q.2 ρ st h orc ret (fun pc' ρ' st' h' => match cut pc' with
        | some c => c ρ' st' h'
        | none => am_sem me tab cut orc ret f pc' ρ' st' h')) = some g := hr
    cases hat : am_at tab pc with
    | none => rw [hat] at hr; cases hr
    | some q =>
      rw [hat] at hr
      obtain ⟨t1, t2⟩ := htab _ (am_at_mem hat)
      have hk : ∀ pc' ρ' st' h', (match cut pc' with
        | some c => c ρ' st' h'
        | none => am_sem me tab cut orc ret f pc' ρ' st' h') = some g → am_At p l e R s m args below meth c al dC dI aC me o0 h0 pc' ρ' st' h' := by
        intro pc' ρ' st' h' hz
        cases hc : cut pc' with
        | some cc => rw [hc] at hz; exact hcut _ _ hc _ _ _ hz
        | none => rw [hc] at hz; exact am_sem_sound C htab horc hret hcut f pc' ρ' st' h' hz
      refine am_op_sound C t1 t2 horc hret hk (fun kd ix hi hz => ?_) hr
      refine am_inv_sound (ins := q.1) C ?_ horc hret hk kd ix hi hz
      have t1 : decode (am_cc me) pc = .ok q := t1
      obtain ⟨q1, q2⟩ := q
      rcases hi with ⟨rfl, -⟩ | ⟨rfl, -⟩
      · cases Nat.eq_of_beq_eq_true t2; exact t1
      · cases Nat.eq_of_beq_eq_true t2; exact t1
theorem am_At_mono {al : Nat → Nat} {dC : Nat → ClassId} {dI : Nat → Nat → Nat} {aC : Nat → ClassId} {me : Nat} {o0 : am_Out} {h0 : am_Hp} {pc : Nat} {ρ ρ' : am_Lc} {st : List Value} {h : am_Hp} (hm : ∀ q ∈ ρ', q ∈ ρ) (k : am_At p l e R s m args below meth c al dC dI aC me o0 h0 pc ρ' st h) : am_At p l e R s m args below meth c al dC dI aC me o0 h0 pc ρ st h := by
  intro H locs ls hl hP hS
  refine k H locs ls ⟨hl.1, hl.2.1, fun q hq => ?_⟩ hP hS
  obtain ⟨z, hz, rfl⟩ := List.mem_map.mp hq
  exact hl.2.2 _ (List.mem_map.mpr ⟨z, hm z hz, rfl⟩)
theorem am_args_map {al : Nat → Nat} : ∀ (as : List Value) (i : Nat), lv_args i (as.map (am_rl al)) = am_rls al (lv_args i as)
  | [], _ => rfl
  | v :: as, i => by
    have h := am_args_map (al := al) as
    show (i, am_rl al v) :: lv_args (if (am_rl al v).category = 2 then i + 2 else i + 1) (as.map (am_rl al)) = (i, am_rl al v) :: am_rls al (lv_args (if v.category = 2 then i + 2 else i + 1) as)
    rw [am_rl_cat, h]
theorem am_sl_len {al : Nat → Nat} : ∀ (as : List Value), (lg_sl (as.map (am_rl al))).length = (lg_sl as).length
  | [] => rfl
  | v :: as => by
    have h := am_sl_len (al := al) as
    unfold lg_sl at h ⊢
    rw [List.map_cons, List.flatMap_cons, List.flatMap_cons, List.length_append, List.length_append, h, am_rl_cat]
    split <;> rfl
set_option maxHeartbeats 1000000 in
/-- a method's contract out of a run of the interpreter: the links are all of it that is shown for each method -/
theorem am_met {γ : Type} {l : Launch} {al : Nat → Nat} {dC : Nat → ClassId} {dI : Nat → Nat → Nat} {aC : Nat → ClassId} {aV : Nat → Nat} {mid : Nat} {o0 : am_Out} {h0 : am_Hp} {tab : List (Nat × Instr × Nat)} {orc : am_Orc} {ret : am_Out → am_Hp → Option γ} {g : γ} {as : List Value} {h : am_Hp}
    (hmid : mid < 106) (hm3 : 3 ≤ mid) (htr : l.stackTraces = false) (hinj : am_Inj al) (htab : am_tok mid tab) (horc : am_OS l al dC dI aC aV orc) (hret : ∀ o h', ret o h' = some g → o = o0 ∧ h' = h0) (hlen : (lg_sl as).length ≤ am_ml mid)
    (hrun : ∀ At : Nat → am_Lc → List Value → am_Hp → Prop,
      (∀ (cut : am_Cut γ), (∀ pc cc, cut pc = some cc → ∀ ρ st h, cc ρ st h = some g → At pc ρ st h) → ∀ f pc ρ st h, am_sem mid tab cut orc ret f pc ρ st h = some g → At pc ρ st h) →
      (∀ pc ρ ρ' st h, (∀ q ∈ ρ', q ∈ ρ) → At pc ρ' st h → At pc ρ st h) → At 0 (lv_args 0 as) [] h) :
    am_Met l al dC dI aC aV mid as h o0 h0 := by
  intro sz
  obtain ⟨n1, n2, n3, n4, n5⟩ := am_md_spec hmid
  refine vx_ofW (cc := am_cc mid) (maxL := am_ml mid) (ret := am_re mid) (n5.resolve_right (by omega)) rfl ?_
  intro p e s m args below meth c s₁ B hml hexc hv
  obtain ⟨rfl, hsz, ⟨hP, hK⟩, hF⟩ := hv
  subst hsz
  have hts := atoms_spec (ws := am_ws mid) B.pre
  have hown : s.vm.findClass (am_own mid) = some m.cls := n2 ▸ findClass_of_methodNamed B.named
  have C : am_Cx p l (am_rm mid o0) s m (as.map (am_rl al)).toArray meth c al dC dI aC aV mid o0 := ⟨B.exec, B.bytes, hml, hown, fun w hw => hts w (List.mem_cons_of_mem _ hw), B.notSynchronized, hexc, B.returns, htr, hK, hF, rfl, hinj⟩
  have key : am_At p l e (am_rm mid o0) s m (as.map (am_rl al)).toArray below meth c al dC dI aC mid o0 h0 0 (lv_args 0 as) [] h :=
    hrun (am_At p l e (am_rm mid o0) s m (as.map (am_rl al)).toArray below meth c al dC dI aC mid o0 h0) (fun cut hcut f pc ρ st h hr => am_sem_sound C htab horc hret hcut f pc ρ st h hr) (fun pc ρ ρ' st h hm k => am_At_mono hm k)
  have hl := lv_entry (as.map (am_rl al)) (n := am_ml mid) (by rw [am_sl_len]; exact hlen)
  rw [am_args_map] at hl
  rw [lg_entry_eq]
  exact key s.heap [] _ hl hP va_S.rf
end AMMET
end
section
/-! ===== small pieces that the printed functions and their links are made of ===== -/
section AMC
variable {γ : Type} {g : γ}
def am_bi {α : Type} (x : Option (α × am_Hp)) (k : α → am_Hp → Option γ) : Option γ := match x with
  | none => none
  | some q => k q.1 q.2
def am_bt {α : Type} (x : Option (Option α × am_Hp)) (kx : am_Hp → Option γ) (k : α → am_Hp → Option γ) : Option γ := match x with
  | none => none
  | some (none, h) => kx h
  | some (some v, h) => k v h
def am_st0 (st : List Value) (k : Option γ) : Option γ := match st with
  | [] => k
  | _ => none
def am_fu : Nat := 100000
theorem am_bi_some {α : Type} {x : Option (α × am_Hp)} {k : α → am_Hp → Option γ} (h : am_bi x k = some g) : ∃ q, x = some q ∧ k q.1 q.2 = some g := by
  cases x with
  | none => cases h
  | some q => exact ⟨q, rfl, h⟩
theorem am_bt_some {α : Type} {x : Option (Option α × am_Hp)} {kx : am_Hp → Option γ} {k : α → am_Hp → Option γ} (h : am_bt x kx k = some g) : (∃ h', x = some (none, h') ∧ kx h' = some g) ∨ ∃ v h', x = some (some v, h') ∧ k v h' = some g := by
  cases x with
  | none => cases h
  | some q =>
    obtain ⟨o, h'⟩ := q
    cases o with
    | none => exact Or.inl ⟨h', rfl, h⟩
    | some v => exact Or.inr ⟨v, h', rfl, h⟩
theorem am_st0_some {st : List Value} {k : Option γ} (h : am_st0 st k = some g) : st = [] ∧ k = some g := by
  cases st with
  | nil => exact ⟨rfl, h⟩
  | cons a r => cases h
def am_ri : am_Out → am_Hp → Option (Int32 × am_Hp) := fun o h => match o with
  | some (some (.int x)) => some (x, h)
  | _ => none
def am_rv : am_Out → am_Hp → Option (Unit × am_Hp) := fun o h => match o with
  | some none => some ((), h)
  | _ => none
def am_rr : am_Out → am_Hp → Option (Nat × am_Hp) := fun o h => match o with
  | some (some (.ref x)) => some (x, h)
  | _ => none
def am_rf : am_Out → am_Hp → Option (UInt32 × am_Hp) := fun o h => match o with
  | some (some (.float x)) => some (x, h)
  | _ => none
def am_ti : am_Out → am_Hp → Option (Option Int32 × am_Hp) := fun o h => match o with
  | some (some (.int x)) => some (some x, h)
  | none => some (none, h)
  | _ => none
def am_tv : am_Out → am_Hp → Option (Option Unit × am_Hp) := fun o h => match o with
  | some none => some (some (), h)
  | none => some (none, h)
  | _ => none
def am_tr : am_Out → am_Hp → Option (Option Nat × am_Hp) := fun o h => match o with
  | some (some (.ref x)) => some (some x, h)
  | none => some (none, h)
  | _ => none
def am_tf : am_Out → am_Hp → Option (Option UInt32 × am_Hp) := fun o h => match o with
  | some (some (.float x)) => some (some x, h)
  | none => some (none, h)
  | _ => none
def am_oi (x : Int32) : am_Out := some (some (.int x))
def am_ov (_ : Unit) : am_Out := some none
def am_or (x : Nat) : am_Out := some (some (.ref x))
def am_of (x : UInt32) : am_Out := some (some (.float x))
def am_ot {α : Type} (f : α → am_Out) (x : Option α) : am_Out := match x with
  | none => none
  | some v => f v
theorem am_ri_inv {r : Int32 × am_Hp} (o : am_Out) (h : am_Hp) (e : am_ri o h = some r) : o = am_oi r.1 ∧ h = r.2 := by
  unfold am_ri at e
  split at e
  · cases e; exact ⟨rfl, rfl⟩
  · cases e
theorem am_rv_inv {r : Unit × am_Hp} (o : am_Out) (h : am_Hp) (e : am_rv o h = some r) : o = am_ov r.1 ∧ h = r.2 := by
  unfold am_rv at e
  split at e
  · cases e; exact ⟨rfl, rfl⟩
  · cases e
theorem am_rr_inv {r : Nat × am_Hp} (o : am_Out) (h : am_Hp) (e : am_rr o h = some r) : o = am_or r.1 ∧ h = r.2 := by
  unfold am_rr at e
  split at e
  · cases e; exact ⟨rfl, rfl⟩
  · cases e
theorem am_rf_inv {r : UInt32 × am_Hp} (o : am_Out) (h : am_Hp) (e : am_rf o h = some r) : o = am_of r.1 ∧ h = r.2 := by
  unfold am_rf at e
  split at e
  · cases e; exact ⟨rfl, rfl⟩
  · cases e
theorem am_ti_inv {r : Option Int32 × am_Hp} (o : am_Out) (h : am_Hp) (e : am_ti o h = some r) : o = am_ot am_oi r.1 ∧ h = r.2 := by
  unfold am_ti at e
  split at e
  · cases e; exact ⟨rfl, rfl⟩
  · cases e; exact ⟨rfl, rfl⟩
  · cases e
theorem am_tv_inv {r : Option Unit × am_Hp} (o : am_Out) (h : am_Hp) (e : am_tv o h = some r) : o = am_ot am_ov r.1 ∧ h = r.2 := by
  unfold am_tv at e
  split at e
  · cases e; exact ⟨rfl, rfl⟩
  · cases e; exact ⟨rfl, rfl⟩
  · cases e
theorem am_tr_inv {r : Option Nat × am_Hp} (o : am_Out) (h : am_Hp) (e : am_tr o h = some r) : o = am_ot am_or r.1 ∧ h = r.2 := by
  unfold am_tr at e
  split at e
  · cases e; exact ⟨rfl, rfl⟩
  · cases e; exact ⟨rfl, rfl⟩
  · cases e
theorem am_tf_inv {r : Option UInt32 × am_Hp} (o : am_Out) (h : am_Hp) (e : am_tf o h = some r) : o = am_ot am_of r.1 ∧ h = r.2 := by
  unfold am_tf at e
  split at e
  · cases e; exact ⟨rfl, rfl⟩
  · cases e; exact ⟨rfl, rfl⟩
  · cases e
abbrev am_Cl : Type 1 := (γ : Type) → List Value → am_Hp → (am_Out → am_Hp → Option γ) → Option γ
def am_oc (m0 : Nat) (cl : am_Cl) (rest : am_Orc) : am_Orc := fun γ mid as h k => bif Nat.beq mid m0 then cl γ as h k else rest γ mid as h k
def am_o0 : am_Orc := fun _ _ _ _ _ => none
def am_Hy (l : Launch) (al : Nat → Nat) : Prop := l.stackTraces = false ∧ am_Inj al
def am_CS (l : Launch) (al : Nat → Nat) (dC : Nat → ClassId) (dI : Nat → Nat → Nat) (aC : Nat → ClassId) (aV : Nat → Nat) (m0 : Nat) (cl : am_Cl) : Prop :=
  ∀ (γ : Type) (as : List Value) (h : am_Hp) (k : am_Out → am_Hp → Option γ) (g : γ), cl γ as h k = some g → ∃ o h', am_Met l al dC dI aC aV m0 as h o h' ∧ k o h' = some g
theorem am_os0 {l : Launch} {al : Nat → Nat} {dC : Nat → ClassId} {dI : Nat → Nat → Nat} {aC : Nat → ClassId} {aV : Nat → Nat} : am_OS l al dC dI aC aV am_o0 := fun _ _ _ _ _ _ h => by cases h
theorem am_os1 {l : Launch} {al : Nat → Nat} {dC : Nat → ClassId} {dI : Nat → Nat → Nat} {aC : Nat → ClassId} {aV : Nat → Nat} {m0 : Nat} {cl : am_Cl} {rest : am_Orc} (h1 : am_CS l al dC dI aC aV m0 cl) (h2 : am_OS l al dC dI aC aV rest) : am_OS l al dC dI aC aV (am_oc m0 cl rest) := by
  intro γ mid as h k g e
  have e : (bif Nat.beq mid m0 then cl γ as h k else rest γ mid as h k) = some g := e
  cases hb : Nat.beq mid m0 with
  | true =>
    rw [hb] at e
    cases Nat.eq_of_beq_eq_true hb
    exact h1 γ as h k g e
  | false =>
    rw [hb] at e
    exact h2 γ mid as h k g e
def am_C0 : am_Cut γ := fun _ => none
def am_C1 (pc0 : Nat) (cc : am_Lc → List Value → am_Hp → Option γ) (rest : am_Cut γ) : am_Cut γ := fun pc => bif Nat.beq pc pc0 then some cc else rest pc
theorem am_c0 {At : Nat → am_Lc → List Value → am_Hp → Prop} : ∀ (pc : Nat) (cc : am_Lc → List Value → am_Hp → Option γ), (am_C0 : am_Cut γ) pc = some cc → ∀ ρ st h, cc ρ st h = some g → At pc ρ st h := fun _ _ h => by cases h
theorem am_c1 {At : Nat → am_Lc → List Value → am_Hp → Prop} {pc0 : Nat} {c0 : am_Lc → List Value → am_Hp → Option γ} {rest : am_Cut γ} (h1 : ∀ ρ st h, c0 ρ st h = some g → At pc0 ρ st h)
    (h2 : ∀ (pc : Nat) (cc : am_Lc → List Value → am_Hp → Option γ), rest pc = some cc → ∀ ρ st h, cc ρ st h = some g → At pc ρ st h) :
    ∀ (pc : Nat) (cc : am_Lc → List Value → am_Hp → Option γ), am_C1 pc0 c0 rest pc = some cc → ∀ ρ st h, cc ρ st h = some g → At pc ρ st h := by
  intro pc cc e
  have e : (bif Nat.beq pc pc0 then some c0 else rest pc) = some cc := e
  cases hb : Nat.beq pc pc0 with
  | true =>
    rw [hb] at e
    cases Nat.eq_of_beq_eq_true hb
    cases e
    exact h1
  | false =>
    rw [hb] at e
    exact h2 pc cc e
theorem am_m0 {ρ : am_Lc} : ∀ q ∈ ([] : am_Lc), q ∈ ρ := fun _ h => absurd h List.not_mem_nil
theorem am_m1 {ρ ρ' : am_Lc} {q : Nat × Value} (h : q ∈ ρ) (h2 : ∀ q ∈ ρ', q ∈ ρ) : ∀ z ∈ q :: ρ', z ∈ ρ := List.forall_mem_cons.mpr ⟨h, h2⟩
theorem am_ldf_some {ρ : am_Lc} {i : Nat} {k : UInt32 → Option γ} (h : am_ldf ρ i k = some g) : ∃ x, (i, .float x) ∈ ρ ∧ k x = some g := by
  unfold am_ldf at h
  split at h
  · rename_i x hx
    exact ⟨x, am_ld_mem hx, h⟩
  · cases h
def am_SL (a : Nat) : Nat := (am_stL.getD (a - am_s0) "").length
end AMC
end
section
def f_J9_floorMod_7cf53 (N : Nat) (i0 : Int32) (i1 : Int32) (h : am_Hp) : Option (Int32 × am_Hp) :=
  if i1 = 0 then none else (if 0 ≤ (i0 ^^^ i1) then
    some (i0 - i0 / i1 * i1, h)
  else
    (if (i0 - i0 / i1 * i1) = 0 then
      some (i0 - i0 / i1 * i1, h)
    else
      some ((i0 - i0 / i1 * i1) + i1, h)))
def c_J9_floorMod_7cf53 (N : Nat) : am_Cl := fun _ as h kk => am_s1 as (fun i0 w0 => am_s1 w0 (fun i1 w1 => am_st0 w1 (am_bi (f_J9_floorMod_7cf53 N i0 i1 h) (fun v h => kk (am_oi v) h))))
def o_J9_floorMod_7cf53 (N : Nat) : am_Orc := am_o0
set_option maxRecDepth 100000 in
theorem tok_J9_floorMod_7cf53 : am_tok 2 tJ9_floorMod_7cf53 := by
  unfold am_tok
  decide +kernel
def f_SLEN (N : Nat) (a0 : Nat) (h : am_Hp) : Option (Int32 × am_Hp) := bif Nat.beq (am_kd a0).1 6 then some (Int32.ofNat (am_SL a0), h) else none
def c_SLEN (N : Nat) : am_Cl := fun _ as h kk => am_sa as (fun a0 w0 => am_st0 w0 (am_bi (f_SLEN N a0 h) (fun v h => kk (am_oi v) h)))
def am_SC (a i : Nat) : Int32 := (am_sbyt.getD (a - am_s0) []).getD i 0
def f_SCHR (N : Nat) (a0 : Nat) (i1 : Int32) (h : am_Hp) : Option (Int32 × am_Hp) := bif Nat.beq (am_kd a0).1 6 && am_in i1 (am_SL a0) then some (am_SC a0 i1.toNatClampNeg, h) else none
def c_SCHR (N : Nat) : am_Cl := fun _ as h kk => am_sa as (fun a0 w0 => am_s1 w0 (fun i1 w1 => am_st0 w1 (am_bi (f_SCHR N a0 i1 h) (fun v h => kk (am_oi v) h))))
section JK
variable {l : Launch}
def jk_yco : MethodName := ⟨"java/lang/String", "coder", "()B"⟩
def jk_yil : MethodName := ⟨"java/lang/String", "isLatin1", "()Z"⟩
def jk_yck : MethodName := ⟨"java/lang/String", "checkIndex", "(II)V"⟩
def jk_yla : MethodName := ⟨"java/lang/StringLatin1", "charAt", "([BI)C"⟩
def jk_ypc : MethodName := ⟨"jdk/internal/util/Preconditions", "checkIndex", "(IILjava/util/function/BiFunction;)I"⟩
abbrev jk_cco : ByteArray := prog_21_method_152_code
abbrev jk_cil : ByteArray := prog_21_method_154_code
abbrev jk_cck : ByteArray := prog_21_method_155_code
abbrev jk_cla : ByteArray := prog_23_method_2_code
abbrev jk_cpc : ByteArray := prog_29_method_11_code
/-- the words of the JDK's own calls -/
def jk_L : List Cond := [.fieldLink "java/lang/String" 38 "java/lang/String" "COMPACT_STRINGS" "Z", .fieldLink "java/lang/String" 15 "java/lang/String" "coder" "B", .fieldLink "java/lang/String" 9 "java/lang/String" "value" "[B",
  .methodLink "java/lang/String" 335 jk_yco, .instanceMethod jk_yco, .selects "java/lang/String" jk_yco jk_yco, .initialized "java/lang/String", .code jk_yco jk_cco 1 (some .byte),
  .methodLink "java/lang/String" 492 jk_yil, .instanceMethod jk_yil, .selects "java/lang/String" jk_yil jk_yil, .code jk_yil jk_cil 1 (some .boolean),
  .methodLink "java/lang/String" 495 jk_yla, .static jk_yla, .initialized "java/lang/StringLatin1", .code jk_yla jk_cla 2 (some .char),
  .methodLink "java/lang/StringLatin1" 9 jk_yck, .static jk_yck, .code jk_yck jk_cck 2 none,
  .fieldLink "java/lang/String" 1053 "jdk/internal/util/Preconditions" "SIOOBE_FORMATTER" "Ljava/util/function/BiFunction;", .methodLink "java/lang/String" 1059 jk_ypc, .static jk_ypc, .initialized "jdk/internal/util/Preconditions", .code jk_ypc jk_cpc 3 (some .int)]
set_option maxRecDepth 100000 in
theorem jk_all : jk_L.all (fun w => lw_tbl.any (fun q => decide (q = w)) && goodWord w) = true := by decide +kernel
theorem jk_in {w : Cond} (h : w ∈ jk_L) : w ∈ am_AT := by
  have h1 := List.all_eq_true.mp jk_all w h
  rw [Bool.and_eq_true] at h1
  obtain ⟨q, hq, e⟩ := List.any_eq_true.mp h1.1
  rw [of_decide_eq_true e] at hq
  exact List.mem_filter.mpr ⟨hq, h1.2⟩
def jk_ws (y : MethodName) (cc : ByteArray) (ml : Nat) (re : Option FieldType) : List Cond := .code y cc ml re :: am_AT
theorem jk_good {own : String} {ix : Nat} {C : String} {y : MethodName} {cc : ByteArray} {ml : Nat} {re : Option FieldType} (h1 : Cond.methodLink own ix y ∈ jk_L) (h2 : Cond.instanceMethod y ∈ jk_L) (h3 : Cond.selects C y y ∈ jk_L) (h4 : Cond.initialized C ∈ jk_L) (h5 : Cond.code y cc ml re ∈ jk_L) : GoodIn am_AT (wsV own ix C y (jk_ws y cc ml re)) := by
  intro w hw
  rcases List.mem_append.mp hw with hw | hw
  · simp only [List.mem_cons, List.not_mem_nil, or_false] at hw
    rcases hw with rfl | rfl | rfl | rfl
    · exact ⟨jk_in h1, am_AT_good (jk_in h1)⟩
    · exact ⟨jk_in h2, am_AT_good (jk_in h2)⟩
    · exact ⟨jk_in h3, am_AT_good (jk_in h3)⟩
    · exact ⟨jk_in h4, am_AT_good (jk_in h4)⟩
  · rcases List.mem_cons.mp hw with rfl | hw
    · exact ⟨jk_in h5, am_AT_good (jk_in h5)⟩
    · exact ⟨hw, am_AT_good hw⟩
theorem jk_goodS {own : String} {ix : Nat} {y : MethodName} {cc : ByteArray} {ml : Nat} {re : Option FieldType} (h1 : Cond.methodLink own ix y ∈ jk_L) (h2 : Cond.static y ∈ jk_L) (h4 : Cond.initialized y.cls ∈ jk_L) (h5 : Cond.code y cc ml re ∈ jk_L) : GoodIn am_AT (va_wsS own ix y (jk_ws y cc ml re)) := by
  intro w hw
  rcases List.mem_append.mp hw with hw | hw
  · simp only [List.mem_cons, List.not_mem_nil, or_false] at hw
    rcases hw with rfl | rfl | rfl
    · exact ⟨jk_in h1, am_AT_good (jk_in h1)⟩
    · exact ⟨jk_in h2, am_AT_good (jk_in h2)⟩
    · exact ⟨jk_in h4, am_AT_good (jk_in h4)⟩
  · rcases List.mem_cons.mp hw with rfl | hw
    · exact ⟨jk_in h5, am_AT_good (jk_in h5)⟩
    · exact ⟨hw, am_AT_good hw⟩
/-- what a JDK method finds: this heap -/
def jk_P (al aV : Nat → Nat) (H0 : Heap) (U : State) : Prop := U.heap = H0 ∧ am_Fx al aV (fun q => H0.size ≤ q) U H0
theorem jk_blind {al aV : Nat → Nat} {as : List Value} {H0 : Heap} : FrameBlind (va_Pc as (jk_P al aV H0)) := by
  intro a U g mk q
  obtain ⟨q0, q1, q4⟩ := q
  exact ⟨q0, q1, am_fx_kept (U1 := U.calling g mk a) q4 (State.WarmedH.refl U) (Nat.le_refl _) (fun _ _ _ => rfl) (fun _ _ h => h) (fun _ h => h)⟩
theorem jk_pre {al aV : Nat → Nat} {s : State} {A : Nat → Prop} {As : List Value} (hF : am_Fx al aV A s s.heap) (hA : ∀ q, s.heap.size ≤ q → A q) : ∀ U : State, U.heap = s.heap → s.WarmedH U.vm → va_Pc As (jk_P al aV s.heap) As.toArray U :=
  fun U hU hW => ⟨rfl, hU, am_fx_kept hF hW (Nat.le_refl _) (fun _ _ _ => rfl) (fun q _ z => hA q z) hA⟩
abbrev jk_i (H0 : Heap) (r0 : Int32) : Array Value → State → Outcome → State → Prop := va_Qi (fun r (_ : Unit) => r = r0) (fun _ t => t.heap = H0) (fun q => H0.size ≤ q)
abbrev jk_v (H0 : Heap) : Array Value → State → Outcome → State → Prop := va_Qv (fun (_ : Unit) => True) (fun _ t => t.heap = H0) (fun q => H0.size ≤ q)
def jk_rm (f lo : Nat) : Room := { frames := f, cells := 0, slots := 0, locals := lo }
theorem jk_leaf {s : State} {args : Array Value} {r : Int32} {locs : List Loc} (hS : va_S (fun q => s.heap.size ≤ q) s.heap s.heap locs) : ∀ t : State, t.heap = s.heap → s.WarmedH t.vm → jk_i s.heap r args s (.returned (some (.int r))) t :=
  fun t ht _ => ⟨⟨r, (), rfl, rfl, ht⟩, hS.F ht⟩
theorem jk_leafv {s : State} {args : Array Value} {locs : List Loc} (hS : va_S (fun q => s.heap.size ≤ q) s.heap s.heap locs) : ∀ t : State, t.heap = s.heap → s.WarmedH t.vm → jk_v s.heap args s (.returned none) t :=
  fun t ht _ => ⟨⟨(), rfl, trivial, ht⟩, hS.F ht⟩
set_option maxHeartbeats 1000000 in
theorem jk_coder {al aV : Nat → Nat} (H0 : Heap) (i : Nat) (hi : i < 5) : Met l jk_yco (jk_ws jk_yco jk_cco 1 (some .byte)) (jk_rm 0 0) (va_Pc [.ref (al (am_s0 + i))] (jk_P al aV H0)) (jk_i H0 0) 0 0 (fun q => H0.size ≤ q) := by
  refine Met.ofW (cc := jk_cco) (maxL := 1) (ret := some .byte) (by decide +kernel) rfl ?_
  intro p e s m args below meth c s₁ B hml hv
  obtain ⟨rfl, rfl, hF⟩ := hv
  have hts : ∀ w ∈ am_AT, w.before _ s = true := fun w hw => atoms_spec (ws := jk_ws jk_yco jk_cco 1 (some .byte)) B.pre w (List.mem_cons_of_mem _ hw)
  have hown : s.vm.findClass "java/lang/String" = some m.cls := findClass_of_methodNamed B.named
  have hl := lv_entry [.ref (al (am_s0 + i))] (n := 1) (Nat.le_of_ble_eq_true rfl)
  rw [lg_entry_eq]
  obtain ⟨-, k2, -, -⟩ := hF.2.2.2.1.1 i hi
  refine va_gets B.exec B.bytes (index := 38) hF.2.2.2.2.2.2.2.2.2.2.2.1 va_S.rf hown (hts _ (jk_in (by simp [jk_L]; try decide))) (fun x h => h) (by decide +kernel) ?_
  refine lv_if_eq B.exec B.bytes (off := 10) (tgt := 13) (by decide +kernel) rfl (fun z => absurd z (by decide)) (fun _ => ?_)
  refine lv_aload_n B.exec B.bytes (k := 0) (i := 0) (by decide +kernel) rfl (hl.2.2 (0, _) List.mem_cons_self) ?_
  refine vk_getf B.exec B.bytes (index := 15) k2 va_S.rf hown (hts _ (jk_in (by simp [jk_L]; try decide))) (fun x h => h) (by decide +kernel) ?_
  refine lv_goto B.exec B.bytes (off := 4) (tgt := 14) (by decide +kernel) rfl ?_
  exact W.zret (ty := .byte) B.exec B.bytes B.returns rfl (jk_leaf va_S.rf) (fun q h => nomatch h) (by decide +kernel)
set_option maxHeartbeats 1000000 in
theorem jk_latin {al aV : Nat → Nat} (H0 : Heap) (i : Nat) (hi : i < 5) : Met l jk_yil (jk_ws jk_yil jk_cil 1 (some .boolean)) (jk_rm 0 0) (va_Pc [.ref (al (am_s0 + i))] (jk_P al aV H0)) (jk_i H0 1) 0 0 (fun q => H0.size ≤ q) := by
  refine Met.ofW (cc := jk_cil) (maxL := 1) (ret := some .boolean) (by decide +kernel) rfl ?_
  intro p e s m args below meth c s₁ B hml hv
  obtain ⟨rfl, rfl, hF⟩ := hv
  have hts : ∀ w ∈ am_AT, w.before _ s = true := fun w hw => atoms_spec (ws := jk_ws jk_yil jk_cil 1 (some .boolean)) B.pre w (List.mem_cons_of_mem _ hw)
  have hown : s.vm.findClass "java/lang/String" = some m.cls := findClass_of_methodNamed B.named
  have hl := lv_entry [.ref (al (am_s0 + i))] (n := 1) (Nat.le_of_ble_eq_true rfl)
  rw [lg_entry_eq]
  obtain ⟨-, k2, -, -⟩ := hF.2.2.2.1.1 i hi
  refine va_gets B.exec B.bytes (index := 38) hF.2.2.2.2.2.2.2.2.2.2.2.1 va_S.rf hown (hts _ (jk_in (by simp [jk_L]; try decide))) (fun x h => h) (by decide +kernel) ?_
  refine lv_if_eq B.exec B.bytes (off := 14) (tgt := 17) (by decide +kernel) rfl (fun z => absurd z (by decide)) (fun _ => ?_)
  refine lv_aload_n B.exec B.bytes (k := 0) (i := 0) (by decide +kernel) rfl (hl.2.2 (0, _) List.mem_cons_self) ?_
  refine vk_getf B.exec B.bytes (index := 15) k2 va_S.rf hown (hts _ (jk_in (by simp [jk_L]; try decide))) (fun x h => h) (by decide +kernel) ?_
  refine lv_if_ne B.exec B.bytes (off := 7) (tgt := 17) (by decide +kernel) rfl (fun z => absurd rfl z) (fun _ => ?_)
  refine lv_iconst B.exec B.bytes (n := 1) (v := 1) (by decide +kernel) rfl ?_
  refine lv_goto B.exec B.bytes (off := 4) (tgt := 18) (by decide +kernel) rfl ?_
  exact W.zret (ty := .boolean) B.exec B.bytes B.returns rfl (jk_leaf va_S.rf) (fun q h => nomatch h) (by decide +kernel)
set_option maxHeartbeats 1000000 in
theorem jk_prec {al aV : Nat → Nat} (H0 : Heap) (i n : Int32) (v : Value) (h0 : ¬ i < 0) (h1 : i < n) (hv : v = .null ∨ ∃ t, v = .ref t) : Met l jk_ypc (jk_ws jk_ypc jk_cpc 3 (some .int)) (jk_rm 0 0) (va_Pc [.int i, .int n, v] (jk_P al aV H0)) (jk_i H0 i) 0 0 (fun q => H0.size ≤ q) := by
  refine Met.ofW (cc := jk_cpc) (maxL := 3) (ret := some .int) (by decide +kernel) rfl ?_
  intro p e s m args below meth c s₁ B hml hv
  obtain ⟨rfl, rfl, hF⟩ := hv
  have hl := lv_entry [.int i, .int n, v] (n := 3) (by rcases hv with rfl | ⟨t, rfl⟩ <;> exact Nat.le_refl _)
  rw [lg_entry_eq]
  refine lv_iload_n B.exec B.bytes (k := 0) (i := 0) (by decide +kernel) rfl (hl.2.2 (0, _) List.mem_cons_self) ?_
  refine lv_if_lt B.exec B.bytes (off := 8) (tgt := 9) (by decide +kernel) rfl (fun z => absurd z h0) (fun _ => ?_)
  refine lv_iload_n B.exec B.bytes (k := 0) (i := 0) (by decide +kernel) rfl (hl.2.2 (0, _) List.mem_cons_self) ?_
  refine lv_iload_n B.exec B.bytes (k := 1) (i := 1) (by decide +kernel) rfl (hl.2.2 (1, _) (List.mem_cons_of_mem _ List.mem_cons_self)) ?_
  refine lv_icmp_lt B.exec B.bytes (off := 10) (tgt := 16) (by decide +kernel) rfl (fun _ => ?_) (fun z => absurd h1 z)
  refine lv_iload_n B.exec B.bytes (k := 0) (i := 0) (by decide +kernel) rfl (hl.2.2 (0, _) List.mem_cons_self) ?_
  exact W.iret B.exec B.bytes B.returns (jk_leaf va_S.rf) (fun q h => nomatch h) (by decide +kernel)
set_option maxHeartbeats 1000000 in
theorem jk_check {al aV : Nat → Nat} (H0 : Heap) (i n : Int32) (h0 : ¬ i < 0) (h1 : i < n) : Met l jk_yck (jk_ws jk_yck jk_cck 2 none) (jk_rm 1 22) (va_Pc [.int i, .int n] (jk_P al aV H0)) (jk_v H0) 0 0 (fun q => H0.size ≤ q) := by
  refine Met.ofW (cc := jk_cck) (maxL := 2) (ret := none) (by decide +kernel) rfl ?_
  intro p e s m args below meth c s₁ B hml hv
  obtain ⟨rfl, rfl, hF⟩ := hv
  have hts : ∀ w ∈ am_AT, w.before _ s = true := fun w hw => atoms_spec (ws := jk_ws jk_yck jk_cck 2 none) B.pre w (List.mem_cons_of_mem _ hw)
  have hown : s.vm.findClass "java/lang/String" = some m.cls := findClass_of_methodNamed B.named
  have hl := lv_entry [.int i, .int n] (n := 2) (Nat.le_of_ble_eq_true rfl)
  rw [lg_entry_eq]
  refine lv_iload_n B.exec B.bytes (k := 0) (i := 0) (by decide +kernel) rfl (hl.2.2 (0, _) List.mem_cons_self) ?_
  refine lv_iload_n B.exec B.bytes (k := 1) (i := 1) (by decide +kernel) rfl (hl.2.2 (1, _) (List.mem_cons_of_mem _ List.mem_cons_self)) ?_
  obtain ⟨v, hv, hZ⟩ : ∃ v : Value, (v = .null ∨ ∃ t, v = .ref t) ∧ va_Z "jdk/internal/util/Preconditions" "SIOOBE_FORMATTER" "Ljava/util/function/BiFunction;" v (fun q => s.heap.size ≤ q) s s.heap := by
    rcases hF.2.2.2.2.2.2.2.2.2.2.2.2 with h | ⟨t, h⟩
    · exact ⟨_, Or.inl rfl, h⟩
    · exact ⟨_, Or.inr ⟨t, rfl⟩, h⟩
  have hc : v.category = 1 := by rcases hv with rfl | ⟨t, rfl⟩ <;> rfl
  refine va_gets B.exec B.bytes (index := 1053) hZ va_S.rf hown (hts _ (jk_in (by simp [jk_L]; try decide))) (fun x h => h) (by decide +kernel) ?_
  refine va_calli (A1 := fun q => s.heap.size ≤ q) (rest := []) (va_runS (cc := jk_cck) (nL := 2) (Ts := am_AT) (own := "java/lang/String") (bytes := jk_cpc) (maxL := 3) (ret := some .int) (ws := jk_ws jk_ypc jk_cpc 3 (some .int)) (rm := jk_rm 0 0) (n := 3) (index := 1059) (As := [.int i, .int n, v]) ⟨B.exec, B.bytes, hml, hown, hts⟩ (jk_prec s.heap i n v h0 h1 hv)
    (va_cwS 3 hts (jk_goodS (by simp [jk_L]; try decide) (by simp [jk_L]; try decide) (by simp [jk_L, jk_ypc]; try decide) (by simp [jk_L]; try decide)) rfl rfl rfl ⟨by decide, by decide, by decide +kernel⟩ ⟨Nat.le_of_ble_eq_true rfl, Nat.le_of_ble_eq_true rfl⟩) ⟨jk_blind, jk_pre hF (fun q z => z)⟩ rfl rfl hl.1 rfl (Nat.le_of_ble_eq_true rfl) (show decode jk_cck 5 = _ by decide +kernel) ⟨Nat.zero_le _, Nat.zero_le _⟩) va_S.rf (fun q _ z => z) (fun q z => z) ?_
  intro r u t H1 locs1 e1 hal hr hb hsz hq hS
  obtain rfl : H1 = s.heap := e1.symm.trans hb
  refine lv_pop B.exec B.bytes (by decide +kernel) rfl ?_
  exact W.vret B.exec B.bytes B.returns (jk_leafv hS) hS.2.2 (by decide +kernel)
set_option maxRecDepth 100000 in
theorem jk_ch : ∀ i, i < 5 → ((List.range ((am_stL.map (fun t => t.length)).getD i 0)).all (fun k => decide (((((am_sbyt.getD i []).getD k 0) &&& 255).toUInt32 % 65536).toInt32 = (am_sbyt.getD i []).getD k 0) && decide (((am_sbyt.getD i []).getD k 0).toUInt32.toUInt16.toUInt32.toInt32 = (am_sbyt.getD i []).getD k 0)) && decide ((am_stL.map (fun t => t.length)).getD i 0 = am_SL (am_s0 + i)) && decide (Int32.ofNat ((am_stL.map (fun t => t.length)).getD i 0) >>> (0 &&& 31) = Int32.ofNat (am_SL (am_s0 + i))) && decide (((am_stL.map (fun t => t.length)).getD i 0) < 100)) = true := by decide +kernel
theorem jk_lt {x : Int32} {n : Nat} (h : vp_in x n) (hn : n < 100) : ¬ x < 0 ∧ x < Int32.ofNat n ∧ x.toNatClampNeg < n := by
  have h0 : ¬ x < 0 := fun z => h (Or.inl z)
  have h1 : x.toNatClampNeg < n := Nat.not_le.mp fun z => h (Or.inr z)
  refine ⟨h0, ?_, h1⟩
  have h2 : (0 : Int) ≤ x.toInt := by
    have := Int32.not_lt.mp h0
    simpa using Int32.le_iff_toInt_le.mp this
  rw [Int32.lt_iff_toInt_lt]
  have e : (Int32.ofNat n).toInt = (n : Int) := Int32.toInt_ofNat_of_lt (by omega)
  rw [e]
  have : x.toNatClampNeg = x.toInt.toNat := rfl
  omega
set_option maxHeartbeats 1000000 in
theorem jk_latAt {al aV : Nat → Nat} (H0 : Heap) (i : Nat) (hi : i < 5) (x : Int32) (hx : vp_in x ((am_stL.map (fun t => t.length)).getD i 0)) : Met l jk_yla (jk_ws jk_yla jk_cla 2 (some .char)) (jk_rm 2 43) (va_Pc [.ref (aV i), .int x] (jk_P al aV H0)) (jk_i H0 ((am_sbyt.getD i []).getD x.toNatClampNeg 0)) 0 0 (fun q => H0.size ≤ q) := by
  refine Met.ofW (cc := jk_cla) (maxL := 2) (ret := some .char) (by decide +kernel) rfl ?_
  intro p e s m args below meth c s₁ B hml hv
  obtain ⟨rfl, rfl, hF⟩ := hv
  have hts : ∀ w ∈ am_AT, w.before _ s = true := fun w hw => atoms_spec (ws := jk_ws jk_yla jk_cla 2 (some .char)) B.pre w (List.mem_cons_of_mem _ hw)
  have hown : s.vm.findClass "java/lang/StringLatin1" = some m.cls := findClass_of_methodNamed B.named
  have hl := lv_entry [.ref (aV i), .int x] (n := 2) (Nat.le_of_ble_eq_true rfl)
  rw [lg_entry_eq]
  obtain ⟨-, -, -, k4⟩ := hF.2.2.2.1.1 i hi
  have hf := jk_ch i hi
  rw [Bool.and_eq_true, Bool.and_eq_true, Bool.and_eq_true] at hf
  obtain ⟨⟨⟨f1, f2⟩, f3⟩, f4⟩ := hf
  obtain ⟨g0, g1, g2⟩ := jk_lt hx (of_decide_eq_true f4)
  have f1 := List.all_eq_true.mp f1 _ (List.mem_range.mpr g2)
  rw [Bool.and_eq_true] at f1
  have c1 := of_decide_eq_true f1.1
  have c2 := of_decide_eq_true f1.2
  refine lv_iload_n B.exec B.bytes (k := 1) (i := 1) (by decide +kernel) rfl (hl.2.2 (1, _) (List.mem_cons_of_mem _ List.mem_cons_self)) ?_
  refine lv_aload_n B.exec B.bytes (k := 0) (i := 0) (by decide +kernel) rfl (hl.2.2 (0, _) List.mem_cons_self) ?_
  refine va_tlen B.exec B.bytes k4 va_S.rf rfl (by decide +kernel) ?_
  refine va_callv (A1 := fun q => s.heap.size ≤ q) (rest := []) (va_runS (cc := jk_cla) (nL := 2) (Ts := am_AT) (own := "java/lang/StringLatin1") (bytes := jk_cck) (maxL := 2) (ret := none) (ws := jk_ws jk_yck jk_cck 2 none) (rm := jk_rm 1 22) (n := 2) (index := 9) (As := [.int x, .int (Int32.ofNat ((am_stL.map (fun t => t.length)).getD i 0))]) ⟨B.exec, B.bytes, hml, hown, hts⟩ (jk_check s.heap x _ g0 g1)
    (va_cwS 2 hts (jk_goodS (by simp [jk_L]; try decide) (by simp [jk_L]; try decide) (by simp [jk_L, jk_yck]; try decide) (by simp [jk_L]; try decide)) rfl rfl rfl ⟨by decide, by decide, by decide +kernel⟩ ⟨Nat.le_of_ble_eq_true rfl, Nat.le_of_ble_eq_true rfl⟩) ⟨jk_blind, jk_pre hF (fun q z => z)⟩ rfl rfl hl.1 rfl (Nat.le_of_ble_eq_true rfl) (show decode jk_cla 3 = _ by decide +kernel) ⟨Nat.zero_le _, Nat.zero_le _⟩) va_S.rf (fun q _ z => z) (fun q z => z) ?_
  intro u t H1 locs1 e1 hal hr hb hsz hq hS
  obtain rfl : H1 = s.heap := e1.symm.trans hb
  refine lv_aload_n B.exec B.bytes (k := 0) (i := 0) (by decide +kernel) rfl (hl.2.2 (0, _) List.mem_cons_self) ?_
  refine lv_iload_n B.exec B.bytes (k := 1) (i := 1) (by decide +kernel) rfl (hl.2.2 (1, _) (List.mem_cons_of_mem _ List.mem_cons_self)) ?_
  refine va_tb B.exec B.bytes k4 hS hx rfl (by decide +kernel) ?_
  refine lv_sipush B.exec B.bytes (n := 255) (v := 255) (by decide +kernel) rfl ?_
  refine lv_iand B.exec B.bytes (by decide +kernel) ?_
  refine lv_i2c B.exec B.bytes (by decide +kernel) c1 ?_
  exact W.zret (ty := .char) B.exec B.bytes B.returns (by show Value.int _ = _; rw [c2]) (jk_leaf hS) hS.2.2 (by decide +kernel)
end JK
section JK2
variable {l : Launch} {al : Nat → Nat} {dC : Nat → ClassId} {dI : Nat → Nat → Nat} {aC : Nat → ClassId} {aV : Nat → Nat}
theorem jk_ofW {y : MethodName} {ws ws' : List Cond} {rm : Room} {Pc : Array Value → State → Prop} {Qc : Array Value → State → Outcome → State → Prop} {XC : String → State → State → Prop} {mc ms : Nat} {free : Addr → Prop} {cc : ByteArray} {maxL : Nat} {ret : Option FieldType}
    (hy : plainFor y = true) (hw : ws = Cond.code y cc maxL ret :: ws')
    (body : ∀ p e s m args below meth c s₁, BodyLoose p l y (headSpec ws rm) cc maxL ret e s m args below meth c s₁ → c.maxLocals = maxL → (∀ x ∈ c.exceptionTable.toList, False) → Pc args s →
      W p l e (headSpec ws rm).room s m args below meth c s.heap [] 0 0 (vx_MQ below Qc XC args s mc ms free) (entryFrame m args maxL)) : vx_Met l y ws rm Pc Qc XC mc ms free := by
  refine MetFree.of_bodySF (code := cc) (maxLocals := maxL) (ret := ret) hy ?_ ?_
  · intro args s m h hn
    obtain ⟨meth, c, h1, h2, h3, h4, h5, h6, -, -⟩ := Cond.code_spec hn (atoms_spec (ws := ws) h _ (by rw [hw]; exact List.mem_cons_self))
    exact ⟨meth, c, h1, h2, h3, h4, h5, h6⟩
  · intro p e s m args below meth c s₁ B hml hP _
    have hh0 : s₁.heap = s.heap := by rw [B.state]; rfl
    have ht : ∀ x ∈ c.exceptionTable.toList, False := by
      obtain ⟨meth9, c9, h1, h2, -, -, -, -, h7, -⟩ := Cond.code_spec B.named (atoms_spec (ws := ws) B.pre _ (by rw [hw]; exact List.mem_cons_self))
      cases Option.some.inj (h1.symm.trans B.method)
      cases Option.some.inj (h2.symm.trans (Stand.of_body B).code)
      intro x hx
      rw [Array.isEmpty_iff.mp h7] at hx
      cases hx
    obtain ⟨t, a1, o, b1, b2, b3⟩ := body p e s m args below meth c s₁ B hml ht hP s₁ hh0 (Stand.of_body B)
    exact ⟨t, o, a1, b1, b2, b3⟩
set_option maxHeartbeats 1000000 in
theorem jk_met {γ : Type} {mid : Nat} {o0 : am_Out} {h0 : am_Hp} {tab : List (Nat × Instr × Nat)} {orc : am_Orc} {ret : am_Out → am_Hp → Option γ} {g : γ} {as : List Value} {h : am_Hp}
    (hmid : mid < 106) (hpl : plainFor (am_y mid) = true) (htr : l.stackTraces = false) (hinj : am_Inj al) (htab : am_tok mid tab) (horc : am_OS l al dC dI aC aV orc) (hret : ∀ o h', ret o h' = some g → o = o0 ∧ h' = h0) (hlen : (lg_sl as).length ≤ am_ml mid)
    (hrun : ∀ At : Nat → am_Lc → List Value → am_Hp → Prop,
      (∀ (cut : am_Cut γ), (∀ pc cc, cut pc = some cc → ∀ ρ st h, cc ρ st h = some g → At pc ρ st h) → ∀ f pc ρ st h, am_sem mid tab cut orc ret f pc ρ st h = some g → At pc ρ st h) →
      (∀ pc ρ ρ' st h, (∀ q ∈ ρ', q ∈ ρ) → At pc ρ' st h → At pc ρ st h) → At 0 (lv_args 0 as) [] h) :
    am_Met l al dC dI aC aV mid as h o0 h0 := by
  intro sz
  obtain ⟨n1, n2, n3, n4, -⟩ := am_md_spec hmid
  refine jk_ofW (cc := am_cc mid) (maxL := am_ml mid) (ret := am_re mid) hpl rfl ?_
  intro p e s m args below meth c s₁ B hml hexc hv
  obtain ⟨rfl, hsz, ⟨hP, hK⟩, hF⟩ := hv
  subst hsz
  have hts := atoms_spec (ws := am_ws mid) B.pre
  have hown : s.vm.findClass (am_own mid) = some m.cls := n2 ▸ findClass_of_methodNamed B.named
  have C : am_Cx p l (am_rm mid o0) s m (as.map (am_rl al)).toArray meth c al dC dI aC aV mid o0 := ⟨B.exec, B.bytes, hml, hown, fun w hw => hts w (List.mem_cons_of_mem _ hw), B.notSynchronized, hexc, B.returns, htr, hK, hF, rfl, hinj⟩
  have key : am_At p l e (am_rm mid o0) s m (as.map (am_rl al)).toArray below meth c al dC dI aC mid o0 h0 0 (lv_args 0 as) [] h :=
    hrun (am_At p l e (am_rm mid o0) s m (as.map (am_rl al)).toArray below meth c al dC dI aC mid o0 h0) (fun cut hcut f pc ρ st h hr => am_sem_sound C htab horc hret hcut f pc ρ st h hr) (fun pc ρ ρ' st h hm k => am_At_mono hm k)
  have hl := lv_entry (as.map (am_rl al)) (n := am_ml mid) (by rw [am_sl_len]; exact hlen)
  rw [am_args_map] at hl
  rw [lg_entry_eq]
  exact key s.heap [] _ hl hP va_S.rf
theorem m_J9_floorMod_7cf53 (hy : am_Hy l al) (N : Nat) (i0 i1 : Int32) (h : am_Hp) (r : (Int32 × am_Hp)) (hf : f_J9_floorMod_7cf53 N i0 i1 h = some r) : am_Met l al dC dI aC aV 2 [.int i0, .int i1] h (am_oi r.1) r.2 :=
  jk_met (tab := tJ9_floorMod_7cf53) (orc := o_J9_floorMod_7cf53 N) (ret := am_ri) (g := r) (by decide) (by decide +kernel) hy.1 hy.2 tok_J9_floorMod_7cf53 am_os0 am_ri_inv (Nat.le_of_ble_eq_true rfl) (fun At cl wk => by
    exact cl am_C0 am_c0 400 0 _ _ h hf)
theorem s_J9_floorMod_7cf53 (hy : am_Hy l al) (N : Nat) : am_CS l al dC dI aC aV 2 (c_J9_floorMod_7cf53 N) := by
  intro γ as h kk g hc0
  obtain ⟨i0, w0, e_0, hc1⟩ := am_s1_some hc0
  obtain ⟨i1, w1, e_1, hc2⟩ := am_s1_some hc1
  obtain ⟨e_2, hc⟩ := am_st0_some hc2
  subst e_2
  subst e_1
  subst e_0
  obtain ⟨q, e1, e2⟩ := am_bi_some hc
  exact ⟨_, _, m_J9_floorMod_7cf53 hy N i0 i1 h _ e1, e2⟩
theorem jk_own3 : am_own 3 = "java/lang/String" := by decide +kernel
theorem jk_own4 : am_own 4 = "java/lang/String" := by decide +kernel
theorem jk_AP {s : State} : ∀ q, s.heap.size ≤ q → am_A al s.heap.size q := fun _ h => Or.inr h
set_option maxHeartbeats 2000000 in
theorem m_SLEN (i : Nat) (hi : i < 5) (h : am_Hp) : am_Met l al dC dI aC aV 3 [.ref (am_s0 + i)] h (some (some (.int (Int32.ofNat (am_SL (am_s0 + i)))))) h := by
  intro sz
  refine vx_ofW (cc := am_cc 3) (maxL := am_ml 3) (ret := am_re 3) (by decide +kernel) rfl ?_
  intro p e s m args below meth c s₁ B hml hexc hv
  obtain ⟨rfl, hsz, ⟨hP, hK⟩, hF⟩ := hv
  subst hsz
  have hts : ∀ w ∈ am_AT, w.before _ s = true := fun w hw => atoms_spec (ws := am_ws 3) B.pre w (List.mem_cons_of_mem _ hw)
  have hown : s.vm.findClass "java/lang/String" = some m.cls := findClass_of_methodNamed B.named
  have hl := lv_entry [.ref (al (am_s0 + i))] (n := am_ml 3) (Nat.le_of_ble_eq_true rfl)
  rw [lg_entry_eq]
  have hf := jk_ch i hi
  rw [Bool.and_eq_true, Bool.and_eq_true, Bool.and_eq_true] at hf
  obtain ⟨⟨⟨f1, f2⟩, f3⟩, f4⟩ := hf
  have f3 := of_decide_eq_true f3
  obtain ⟨k1, k2, k3, k4⟩ := hF.2.2.2.1.1 i hi
  refine lv_aload_n B.exec B.bytes (k := 0) (i := 0) (by decide +kernel) rfl (hl.2.2 (0, _) List.mem_cons_self) ?_
  refine vk_getf B.exec B.bytes (index := 9) k3 va_S.rf hown (hts _ (jk_in (by simp [jk_L]; try decide))) (fun x h => h) (by decide +kernel) ?_
  refine va_tlen B.exec B.bytes k4 va_S.rf rfl (by decide +kernel) ?_
  refine lv_aload_n B.exec B.bytes (k := 0) (i := 0) (by decide +kernel) rfl (hl.2.2 (0, _) List.mem_cons_self) ?_
  refine va_calli (A0 := am_A al s.heap.size) (A1 := fun q => s.heap.size ≤ q) (rest := [_]) (va_runV (cc := am_cc 3) (nL := am_ml 3) (Ts := am_AT) (own := "java/lang/String") (C := "java/lang/String") (bytes := jk_cco) (maxL := 1) (ret := some .byte) (ws := jk_ws jk_yco jk_cco 1 (some .byte)) (rm := jk_rm 0 0) (n := 0) (index := 335) (As := []) (b := al (am_s0 + i)) ⟨B.exec, B.bytes, hml, hown, hts⟩ (jk_coder s.heap i hi)
    (cwV 0 hts (jk_good (by simp [jk_L]; try decide) (by simp [jk_L]; try decide) (by simp [jk_L]; try decide) (by simp [jk_L]; try decide) (by simp [jk_L]; try decide)) rfl rfl rfl ⟨rfl, by decide, by decide, by decide +kernel⟩ ⟨Nat.le_of_ble_eq_true rfl, Nat.le_of_ble_eq_true rfl⟩) ⟨jk_blind, vk_recv (adK := fun i => al (am_s0 + i)) hF.2.2.2.1 hi va_S.rf, jk_pre hF (jk_AP (al := al))⟩ rfl rfl hl.1 rfl (Nat.le_of_ble_eq_true rfl) (show decode (am_cc 3) 6 = _ by decide +kernel) ⟨Nat.zero_le _, Nat.zero_le _⟩) va_S.rf (fun q h1 h2 => absurd h1 (Nat.not_lt.mpr h2)) jk_AP ?_
  intro r u t H1 locs1 e1 hal hr hb hsz hq hS
  obtain rfl : H1 = s.heap := e1.symm.trans hb
  subst hr
  refine lv_ishr B.exec B.bytes (by decide +kernel) ?_
  rw [f3]
  exact vx_ret (W.iret B.exec B.bytes B.returns (am_leaf (v := some (.int _)) hK hP hS) hS.2.2 (by decide +kernel))
theorem s_SLEN (hy : am_Hy l al) (N : Nat) : am_CS l al dC dI aC aV 3 (c_SLEN N) := by
  intro γ as h kk g hc0
  obtain ⟨a0, w0, e_0, hc1⟩ := am_sa_some hc0
  obtain ⟨e_1, hc⟩ := am_st0_some hc1
  subst e_1
  subst e_0
  obtain ⟨q, e1, e2⟩ := am_bi_some hc
  obtain ⟨h1, h2⟩ := am_bif e1
  obtain ⟨i, hi, rfl⟩ := am_str_spec h1
  cases Option.some.inj h2
  exact ⟨_, _, m_SLEN i hi h, e2⟩
set_option maxHeartbeats 2000000 in
theorem m_SCHR (i : Nat) (hi : i < 5) (x : Int32) (hx : vp_in x (am_SL (am_s0 + i))) (h : am_Hp) : am_Met l al dC dI aC aV 4 [.ref (am_s0 + i), .int x] h (some (some (.int (am_SC (am_s0 + i) x.toNatClampNeg)))) h := by
  intro sz
  refine vx_ofW (cc := am_cc 4) (maxL := am_ml 4) (ret := am_re 4) (by decide +kernel) rfl ?_
  intro p e s m args below meth c s₁ B hml hexc hv
  obtain ⟨rfl, hsz, ⟨hP, hK⟩, hF⟩ := hv
  subst hsz
  have hts : ∀ w ∈ am_AT, w.before _ s = true := fun w hw => atoms_spec (ws := am_ws 4) B.pre w (List.mem_cons_of_mem _ hw)
  have hown : s.vm.findClass "java/lang/String" = some m.cls := findClass_of_methodNamed B.named
  have hl := lv_entry [.ref (al (am_s0 + i)), .int x] (n := am_ml 4) (Nat.le_of_ble_eq_true rfl)
  rw [lg_entry_eq]
  have hf := jk_ch i hi
  rw [Bool.and_eq_true, Bool.and_eq_true, Bool.and_eq_true] at hf
  obtain ⟨⟨⟨f1, f2⟩, f3⟩, f4⟩ := hf
  rw [← of_decide_eq_true f2] at hx
  have g2 := (jk_lt hx (of_decide_eq_true f4)).2.2
  have f1 := List.all_eq_true.mp f1 _ (List.mem_range.mpr g2)
  rw [Bool.and_eq_true] at f1
  have c2 := of_decide_eq_true f1.2
  have hSC : am_SC (am_s0 + i) x.toNatClampNeg = (am_sbyt.getD i []).getD x.toNatClampNeg 0 := by unfold am_SC; rw [Nat.add_sub_cancel_left]
  rw [hSC]
  obtain ⟨k1, k2, k3, k4⟩ := hF.2.2.2.1.1 i hi
  refine lv_aload_n B.exec B.bytes (k := 0) (i := 0) (by decide +kernel) rfl (hl.2.2 (0, _) List.mem_cons_self) ?_
  refine va_calli (A0 := am_A al s.heap.size) (A1 := fun q => s.heap.size ≤ q) (rest := []) (va_runV (cc := am_cc 4) (nL := am_ml 4) (Ts := am_AT) (own := "java/lang/String") (C := "java/lang/String") (bytes := jk_cil) (maxL := 1) (ret := some .boolean) (ws := jk_ws jk_yil jk_cil 1 (some .boolean)) (rm := jk_rm 0 0) (n := 0) (index := 492) (As := []) (b := al (am_s0 + i)) ⟨B.exec, B.bytes, hml, hown, hts⟩ (jk_latin s.heap i hi)
    (cwV 0 hts (jk_good (by simp [jk_L]; try decide) (by simp [jk_L]; try decide) (by simp [jk_L]; try decide) (by simp [jk_L]; try decide) (by simp [jk_L]; try decide)) rfl rfl rfl ⟨rfl, by decide, by decide, by decide +kernel⟩ ⟨Nat.le_of_ble_eq_true rfl, Nat.le_of_ble_eq_true rfl⟩) ⟨jk_blind, vk_recv (adK := fun i => al (am_s0 + i)) hF.2.2.2.1 hi va_S.rf, jk_pre hF (jk_AP (al := al))⟩ rfl rfl hl.1 rfl (Nat.le_of_ble_eq_true rfl) (show decode (am_cc 4) 1 = _ by decide +kernel) ⟨Nat.zero_le _, Nat.zero_le _⟩) va_S.rf (fun q h1 h2 => absurd h1 (Nat.not_lt.mpr h2)) jk_AP ?_
  intro r u t H1 locs1 e1 hal hr hb hsz hq hS
  obtain rfl : H1 = s.heap := e1.symm.trans hb
  subst hr
  refine lv_if_eq B.exec B.bytes (off := 12) (tgt := 16) (by decide +kernel) rfl (fun z => absurd z (by decide)) (fun _ => ?_)
  refine lv_aload_n B.exec B.bytes (k := 0) (i := 0) (by decide +kernel) rfl (hl.2.2 (0, _) List.mem_cons_self) ?_
  refine vk_getf B.exec B.bytes (index := 9) k3 hS hown (hts _ (jk_in (by simp [jk_L]; try decide))) (fun x h => h) (by decide +kernel) ?_
  refine lv_iload_n B.exec B.bytes (k := 1) (i := 1) (by decide +kernel) rfl (hl.2.2 (1, _) (List.mem_cons_of_mem _ List.mem_cons_self)) ?_
  refine va_calli (A0 := am_A al s.heap.size) (A1 := fun q => s.heap.size ≤ q) (rest := []) (va_runS (cc := am_cc 4) (nL := am_ml 4) (Ts := am_AT) (own := "java/lang/String") (bytes := jk_cla) (maxL := 2) (ret := some .char) (ws := jk_ws jk_yla jk_cla 2 (some .char)) (rm := jk_rm 2 43) (n := 2) (index := 495) (As := [.ref (aV i), .int x]) ⟨B.exec, B.bytes, hml, hown, hts⟩ (jk_latAt s.heap i hi x hx)
    (va_cwS 2 hts (jk_goodS (by simp [jk_L]; try decide) (by simp [jk_L]; try decide) (by simp [jk_L, jk_yla]; try decide) (by simp [jk_L]; try decide)) rfl rfl rfl ⟨by decide, by decide, by decide +kernel⟩ ⟨Nat.le_of_ble_eq_true rfl, Nat.le_of_ble_eq_true rfl⟩) ⟨jk_blind, jk_pre hF (jk_AP (al := al))⟩ rfl rfl hl.1 rfl (Nat.le_of_ble_eq_true rfl) (show decode (am_cc 4) 12 = _ by decide +kernel) ⟨Nat.zero_le _, Nat.zero_le _⟩) hS (fun q h1 h2 => absurd h1 (Nat.not_lt.mpr h2)) jk_AP ?_
  intro r u t H1 locs2 e1 hal hr hb hsz hq hS2
  obtain rfl : H1 = s.heap := e1.symm.trans hb
  subst hr
  exact vx_ret (W.zret (ty := .char) B.exec B.bytes B.returns (by show Value.int _ = _; rw [c2]) (am_leaf (v := some (.int _)) hK hP hS2) hS2.2.2 (by decide +kernel))
set_option maxRecDepth 100000 in
theorem s_SCHR (hy : am_Hy l al) (N : Nat) : am_CS l al dC dI aC aV 4 (c_SCHR N) := by
  intro γ as h kk g hc0
  obtain ⟨a0, w0, e_0, hc1⟩ := am_sa_some hc0
  obtain ⟨i1, w1, e_1, hc2⟩ := am_s1_some hc1
  obtain ⟨e_2, hc⟩ := am_st0_some hc2
  subst e_2
  subst e_1
  subst e_0
  obtain ⟨q, e1, e2⟩ := am_bi_some hc
  obtain ⟨h1, h2⟩ := am_bif e1
  rw [Bool.and_eq_true] at h1
  obtain ⟨i, hi, rfl⟩ := am_str_spec h1.1
  cases Option.some.inj h2
  have e3 := e2
  exact ⟨_, _, m_SCHR i hi i1 (am_in_spec h1.2) h, e3⟩
end JK2
end
section
def f_X0_handOver (N : Nat) (a0 : Nat) (h : am_Hp) : Option (Unit × am_Hp) :=
  bif am_isO a0 0 then bif am_isO a0 0 then (let h1 := am_pi h a0 1 (h a0 2)
  bif am_isO a0 0 then (let h2 := am_pi h1 a0 2 (-1 : Int32)
  some ((), h2)) else none) else none else none
def c_X0_handOver (N : Nat) : am_Cl := fun _ as h kk => am_sa as (fun a0 w0 => am_st0 w0 (am_bi (f_X0_handOver N a0 h) (fun v h => kk (am_ov v) h)))
def o_X0_handOver (N : Nat) : am_Orc := am_o0
set_option maxRecDepth 100000 in
theorem tok_X0_handOver : am_tok 5 tX0_handOver := by
  unfold am_tok
  decide +kernel
set_option maxHeartbeats 4000000 in
set_option maxRecDepth 100000 in
theorem m_X0_handOver {l : Launch} {al : Nat → Nat} {dC : Nat → ClassId} {dI : Nat → Nat → Nat} {aC : Nat → ClassId} {aV : Nat → Nat} (hy : am_Hy l al) (N : Nat) (a0 : Nat) (h : am_Hp) (r : (Unit × am_Hp)) (hf : f_X0_handOver N a0 h = some r) : am_Met l al dC dI aC aV 5 [.ref a0] h (am_ov r.1) r.2 :=
  am_met (tab := tX0_handOver) (orc := o_X0_handOver N) (ret := am_rv) (g := r) (by decide) (by decide) hy.1 hy.2 tok_X0_handOver am_os0 am_rv_inv (Nat.le_of_ble_eq_true rfl) (fun At cl wk => by
    skip
    exact cl am_C0 am_c0 400 0 _ _ h hf)
theorem s_X0_handOver {l : Launch} {al : Nat → Nat} {dC : Nat → ClassId} {dI : Nat → Nat → Nat} {aC : Nat → ClassId} {aV : Nat → Nat} (hy : am_Hy l al) (N : Nat) : am_CS l al dC dI aC aV 5 (c_X0_handOver N) := by
  intro γ as h kk g hc0
  obtain ⟨a0, w0, e_0, hc1⟩ := am_sa_some hc0
  obtain ⟨e_1, hc⟩ := am_st0_some hc1
  subst e_1
  subst e_0
  obtain ⟨q, e1, e2⟩ := am_bi_some hc
  exact ⟨_, _, m_X0_handOver hy N a0 h _ e1, e2⟩

def f_X0_restart (N : Nat) (a0 : Nat) (h : am_Hp) : Option (Unit × am_Hp) :=
  bif am_isO a0 0 then (let h1 := am_pi h a0 0 (0 : Int32)
  bif am_isO a0 0 then (let h2 := am_pi h1 a0 1 (-1 : Int32)
  bif am_isO a0 0 then (let h3 := am_pi h2 a0 2 (-1 : Int32)
  bif am_isO a0 0 then (let h4 := am_pi h3 a0 3 (0 : Int32)
  some ((), h4)) else none) else none) else none) else none
def c_X0_restart (N : Nat) : am_Cl := fun _ as h kk => am_sa as (fun a0 w0 => am_st0 w0 (am_bi (f_X0_restart N a0 h) (fun v h => kk (am_ov v) h)))
def o_X0_restart (N : Nat) : am_Orc := am_o0
set_option maxRecDepth 100000 in
theorem tok_X0_restart : am_tok 6 tX0_restart := by
  unfold am_tok
  decide +kernel
set_option maxHeartbeats 4000000 in
set_option maxRecDepth 100000 in
theorem m_X0_restart {l : Launch} {al : Nat → Nat} {dC : Nat → ClassId} {dI : Nat → Nat → Nat} {aC : Nat → ClassId} {aV : Nat → Nat} (hy : am_Hy l al) (N : Nat) (a0 : Nat) (h : am_Hp) (r : (Unit × am_Hp)) (hf : f_X0_restart N a0 h = some r) : am_Met l al dC dI aC aV 6 [.ref a0] h (am_ov r.1) r.2 :=
  am_met (tab := tX0_restart) (orc := o_X0_restart N) (ret := am_rv) (g := r) (by decide) (by decide) hy.1 hy.2 tok_X0_restart am_os0 am_rv_inv (Nat.le_of_ble_eq_true rfl) (fun At cl wk => by
    skip
    exact cl am_C0 am_c0 400 0 _ _ h hf)
theorem s_X0_restart {l : Launch} {al : Nat → Nat} {dC : Nat → ClassId} {dI : Nat → Nat → Nat} {aC : Nat → ClassId} {aV : Nat → Nat} (hy : am_Hy l al) (N : Nat) : am_CS l al dC dI aC aV 6 (c_X0_restart N) := by
  intro γ as h kk g hc0
  obtain ⟨a0, w0, e_0, hc1⟩ := am_sa_some hc0
  obtain ⟨e_1, hc⟩ := am_st0_some hc1
  subst e_1
  subst e_0
  obtain ⟨q, e1, e2⟩ := am_bi_some hc
  exact ⟨_, _, m_X0_restart hy N a0 h _ e1, e2⟩

def f_X0_copyFrom (N : Nat) (a0 : Nat) (a1 : Nat) (h : am_Hp) : Option (Unit × am_Hp) :=
  bif am_isO a1 0 then bif am_isO a0 0 then (let h1 := am_pi h a0 0 (h a1 0)
  bif am_isO a1 0 then bif am_isO a0 0 then (let h2 := am_pi h1 a0 1 (h1 a1 1)
  bif am_isO a1 0 then bif am_isO a0 0 then (let h3 := am_pi h2 a0 2 (h2 a1 2)
  bif am_isO a1 0 then bif am_isO a0 0 then (let h4 := am_pi h3 a0 3 (h3 a1 3)
  some ((), h4)) else none else none) else none else none) else none else none) else none else none
def c_X0_copyFrom (N : Nat) : am_Cl := fun _ as h kk => am_sa as (fun a0 w0 => am_sa w0 (fun a1 w1 => am_st0 w1 (am_bi (f_X0_copyFrom N a0 a1 h) (fun v h => kk (am_ov v) h))))
def o_X0_copyFrom (N : Nat) : am_Orc := am_o0
set_option maxRecDepth 100000 in
theorem tok_X0_copyFrom : am_tok 7 tX0_copyFrom := by
  unfold am_tok
  decide +kernel
set_option maxHeartbeats 4000000 in
set_option maxRecDepth 100000 in
theorem m_X0_copyFrom {l : Launch} {al : Nat → Nat} {dC : Nat → ClassId} {dI : Nat → Nat → Nat} {aC : Nat → ClassId} {aV : Nat → Nat} (hy : am_Hy l al) (N : Nat) (a0 : Nat) (a1 : Nat) (h : am_Hp) (r : (Unit × am_Hp)) (hf : f_X0_copyFrom N a0 a1 h = some r) : am_Met l al dC dI aC aV 7 [.ref a0, .ref a1] h (am_ov r.1) r.2 :=
  am_met (tab := tX0_copyFrom) (orc := o_X0_copyFrom N) (ret := am_rv) (g := r) (by decide) (by decide) hy.1 hy.2 tok_X0_copyFrom am_os0 am_rv_inv (Nat.le_of_ble_eq_true rfl) (fun At cl wk => by
    skip
    exact cl am_C0 am_c0 400 0 _ _ h hf)
theorem s_X0_copyFrom {l : Launch} {al : Nat → Nat} {dC : Nat → ClassId} {dI : Nat → Nat → Nat} {aC : Nat → ClassId} {aV : Nat → Nat} (hy : am_Hy l al) (N : Nat) : am_CS l al dC dI aC aV 7 (c_X0_copyFrom N) := by
  intro γ as h kk g hc0
  obtain ⟨a0, w0, e_0, hc1⟩ := am_sa_some hc0
  obtain ⟨a1, w1, e_1, hc2⟩ := am_sa_some hc1
  obtain ⟨e_2, hc⟩ := am_st0_some hc2
  subst e_2
  subst e_1
  subst e_0
  obtain ⟨q, e1, e2⟩ := am_bi_some hc
  exact ⟨_, _, m_X0_copyFrom hy N a0 a1 h _ e1, e2⟩

def l_X1_restart_18 (N : Nat) : Nat → Int32 → am_Hp → Option (Unit × am_Hp)
  | 0, _, _ => none
  | n + 1, i1, h =>
    (if (2 : Int32) ≤ i1 then
      some ((), h)
    else
      bif am_in i1 2 then bif am_in i1 2 then (let h1 := am_pi h 12 i1.toNatClampNeg (am_sx 205 i1.toNatClampNeg)
      bif am_in i1 2 then (let h2 := am_pi h1 13 i1.toNatClampNeg ((0 : Int32) &&& 1)
      l_X1_restart_18 N n (i1 + (1 : Int32)) h2) else none) else none else none)
def f_X1_restart (N : Nat)  (h : am_Hp) : Option (Unit × am_Hp) :=
  let h1 := am_pi h 4 4 (0 : Int32)
  let h2 := am_pi h1 8 4 (0 : Int32)
  l_X1_restart_18 N N (0 : Int32) h2
def c_X1_restart (N : Nat) : am_Cl := fun _ as h kk => am_sa as (fun z w0 => bif Nat.beq z 3 then am_st0 w0 (am_bi (f_X1_restart N  h) (fun v h => kk (am_ov v) h)) else none)
def o_X1_restart (N : Nat) : am_Orc := am_o0
set_option maxRecDepth 100000 in
theorem tok_X1_restart : am_tok 9 tX1_restart := by
  unfold am_tok
  decide +kernel
set_option maxHeartbeats 4000000 in
set_option maxRecDepth 100000 in
theorem m_X1_restart {l : Launch} {al : Nat → Nat} {dC : Nat → ClassId} {dI : Nat → Nat → Nat} {aC : Nat → ClassId} {aV : Nat → Nat} (hy : am_Hy l al) (N : Nat)  (h : am_Hp) (r : (Unit × am_Hp)) (hf : f_X1_restart N  h = some r) : am_Met l al dC dI aC aV 9 [.ref 3] h (am_ov r.1) r.2 :=
  am_met (tab := tX1_restart) (orc := o_X1_restart N) (ret := am_rv) (g := r) (by decide) (by decide) hy.1 hy.2 tok_X1_restart am_os0 am_rv_inv (Nat.le_of_ble_eq_true rfl) (fun At cl wk => by
    have A18 : ∀ n : Nat, ∀ i1 : Int32, ∀ h, l_X1_restart_18 N n i1 h = some r → At 18 [(0, .ref 3), (1, .int i1)] [] h := by
      intro n
      induction n with
      | zero => intro i1 h hr; cases hr
      | succ n ih =>
        intro i1 h hr
        exact cl (am_C1 18 (fun ρ st h => am_lda ρ 0 (fun z => bif Nat.beq z 3 then am_ldi ρ 1 (fun i1 => am_st0 st (l_X1_restart_18 N n i1 h)) else none)) am_C0) (am_c1 (fun ρ st h hc => by
        obtain ⟨z, m_a0, hc⟩ := am_lda_some hc
        obtain ⟨hz, hc⟩ := am_bif hc
        cases Nat.eq_of_beq_eq_true hz
        obtain ⟨i1, m_i1, hc⟩ := am_ldi_some hc
        obtain ⟨rfl, hc⟩ := am_st0_some hc
        exact wk 18 ρ [(0, .ref 3), (1, .int i1)] _ h (am_m1 m_a0 (am_m1 m_i1 am_m0)) (ih i1 h hc)) am_c0) 400 18 _ _ h hr
    exact cl (am_C1 18 (fun ρ st h => am_lda ρ 0 (fun z => bif Nat.beq z 3 then am_ldi ρ 1 (fun i1 => am_st0 st (l_X1_restart_18 N N i1 h)) else none)) am_C0) (am_c1 (fun ρ st h hc => by
        obtain ⟨z, m_a0, hc⟩ := am_lda_some hc
        obtain ⟨hz, hc⟩ := am_bif hc
        cases Nat.eq_of_beq_eq_true hz
        obtain ⟨i1, m_i1, hc⟩ := am_ldi_some hc
        obtain ⟨rfl, hc⟩ := am_st0_some hc
        exact wk 18 ρ [(0, .ref 3), (1, .int i1)] _ h (am_m1 m_a0 (am_m1 m_i1 am_m0)) (A18 N i1 h hc)) am_c0) 400 0 _ _ h hf)
theorem s_X1_restart {l : Launch} {al : Nat → Nat} {dC : Nat → ClassId} {dI : Nat → Nat → Nat} {aC : Nat → ClassId} {aV : Nat → Nat} (hy : am_Hy l al) (N : Nat) : am_CS l al dC dI aC aV 9 (c_X1_restart N) := by
  intro γ as h kk g hc0
  obtain ⟨z0, w0, e_0, hcz0⟩ := am_sa_some hc0
  obtain ⟨hz0, hc1⟩ := am_bif hcz0
  cases Nat.eq_of_beq_eq_true hz0
  obtain ⟨e_1, hc⟩ := am_st0_some hc1
  subst e_1
  subst e_0
  obtain ⟨q, e1, e2⟩ := am_bi_some hc
  exact ⟨_, _, m_X1_restart hy N  h _ e1, e2⟩

def f_X7_tokenLength (N : Nat)  (h : am_Hp) : Option (Int32 × am_Hp) :=
  some ((h 1 5) - (h 1 4), h)
def c_X7_tokenLength (N : Nat) : am_Cl := fun _ as h kk => am_sa as (fun z w0 => bif Nat.beq z 1 then am_st0 w0 (am_bi (f_X7_tokenLength N  h) (fun v h => kk (am_oi v) h)) else none)
def o_X7_tokenLength (N : Nat) : am_Orc := am_o0
set_option maxRecDepth 100000 in
theorem tok_X7_tokenLength : am_tok 45 tX7_tokenLength := by
  unfold am_tok
  decide +kernel
set_option maxHeartbeats 4000000 in
set_option maxRecDepth 100000 in
theorem m_X7_tokenLength {l : Launch} {al : Nat → Nat} {dC : Nat → ClassId} {dI : Nat → Nat → Nat} {aC : Nat → ClassId} {aV : Nat → Nat} (hy : am_Hy l al) (N : Nat)  (h : am_Hp) (r : (Int32 × am_Hp)) (hf : f_X7_tokenLength N  h = some r) : am_Met l al dC dI aC aV 45 [.ref 1] h (am_oi r.1) r.2 :=
  am_met (tab := tX7_tokenLength) (orc := o_X7_tokenLength N) (ret := am_ri) (g := r) (by decide) (by decide) hy.1 hy.2 tok_X7_tokenLength am_os0 am_ri_inv (Nat.le_of_ble_eq_true rfl) (fun At cl wk => by
    skip
    exact cl am_C0 am_c0 400 0 _ _ h hf)
theorem s_X7_tokenLength {l : Launch} {al : Nat → Nat} {dC : Nat → ClassId} {dI : Nat → Nat → Nat} {aC : Nat → ClassId} {aV : Nat → Nat} (hy : am_Hy l al) (N : Nat) : am_CS l al dC dI aC aV 45 (c_X7_tokenLength N) := by
  intro γ as h kk g hc0
  obtain ⟨z0, w0, e_0, hcz0⟩ := am_sa_some hc0
  obtain ⟨hz0, hc1⟩ := am_bif hcz0
  cases Nat.eq_of_beq_eq_true hz0
  obtain ⟨e_1, hc⟩ := am_st0_some hc1
  subst e_1
  subst e_0
  obtain ⟨q, e1, e2⟩ := am_bi_some hc
  exact ⟨_, _, m_X7_tokenLength hy N  h _ e1, e2⟩

def f_X7_byteAt (N : Nat) (i1 : Int32) (h : am_Hp) : Option (Int32 × am_Hp) :=
  (if i1 < 0 then
    some ((-1 : Int32), h)
  else
    (if (h 1 2) ≤ i1 then
      some ((-1 : Int32), h)
    else
      (if i1 < (Int32.ofNat 600) then
        bif am_in i1 600 then some (h 2 i1.toNatClampNeg, h) else none
      else
        some ((-1 : Int32), h))))
def c_X7_byteAt (N : Nat) : am_Cl := fun _ as h kk => am_sa as (fun z w0 => bif Nat.beq z 1 then am_s1 w0 (fun i1 w1 => am_st0 w1 (am_bi (f_X7_byteAt N i1 h) (fun v h => kk (am_oi v) h))) else none)
def o_X7_byteAt (N : Nat) : am_Orc := am_o0
set_option maxRecDepth 100000 in
theorem tok_X7_byteAt : am_tok 50 tX7_byteAt := by
  unfold am_tok
  decide +kernel
set_option maxHeartbeats 4000000 in
set_option maxRecDepth 100000 in
theorem m_X7_byteAt {l : Launch} {al : Nat → Nat} {dC : Nat → ClassId} {dI : Nat → Nat → Nat} {aC : Nat → ClassId} {aV : Nat → Nat} (hy : am_Hy l al) (N : Nat) (i1 : Int32) (h : am_Hp) (r : (Int32 × am_Hp)) (hf : f_X7_byteAt N i1 h = some r) : am_Met l al dC dI aC aV 50 [.ref 1, .int i1] h (am_oi r.1) r.2 :=
  am_met (tab := tX7_byteAt) (orc := o_X7_byteAt N) (ret := am_ri) (g := r) (by decide) (by decide) hy.1 hy.2 tok_X7_byteAt am_os0 am_ri_inv (Nat.le_of_ble_eq_true rfl) (fun At cl wk => by
    skip
    exact cl am_C0 am_c0 400 0 _ _ h hf)
theorem s_X7_byteAt {l : Launch} {al : Nat → Nat} {dC : Nat → ClassId} {dI : Nat → Nat → Nat} {aC : Nat → ClassId} {aV : Nat → Nat} (hy : am_Hy l al) (N : Nat) : am_CS l al dC dI aC aV 50 (c_X7_byteAt N) := by
  intro γ as h kk g hc0
  obtain ⟨z0, w0, e_0, hcz0⟩ := am_sa_some hc0
  obtain ⟨hz0, hc1⟩ := am_bif hcz0
  cases Nat.eq_of_beq_eq_true hz0
  obtain ⟨i1, w1, e_1, hc2⟩ := am_s1_some hc1
  obtain ⟨e_2, hc⟩ := am_st0_some hc2
  subst e_2
  subst e_1
  subst e_0
  obtain ⟨q, e1, e2⟩ := am_bi_some hc
  exact ⟨_, _, m_X7_byteAt hy N i1 h _ e1, e2⟩

def l_X7_isWord_23 (N : Nat) : Nat → Nat → Int32 → am_Hp → Option (Int32 × am_Hp)
  | 0, _, _, _ => none
  | n + 1, a1, i2, h =>
    bif Nat.beq (am_kd a1).1 6 then am_bi (f_SLEN N a1 h) (fun x2 h1 =>
    (if x2 ≤ i2 then
      if (1 : Int32) &&& 1 = (1 : Int32) then some ((1 : Int32), h1) else none
    else
      am_bi (f_X7_byteAt N ((h1 1 4) + i2) h1) (fun x4 h3 =>
      bif Nat.beq (am_kd a1).1 6 then am_bi (f_SCHR N a1 i2 h3) (fun x6 h5 =>
      (if x4 = x6 then
        l_X7_isWord_23 N n a1 (i2 + (1 : Int32)) h5
      else
        if (0 : Int32) &&& 1 = (0 : Int32) then some ((0 : Int32), h5) else none)) else none))) else none
def f_X7_isWord (N : Nat) (a1 : Nat) (h : am_Hp) : Option (Int32 × am_Hp) :=
  (if (h 1 3) = (1 : Int32) then
    am_bi (f_X7_tokenLength N h) (fun x2 h1 =>
    bif Nat.beq (am_kd a1).1 6 then am_bi (f_SLEN N a1 h1) (fun x4 h3 =>
    (if x2 = x4 then
      l_X7_isWord_23 N N a1 (0 : Int32) h3
    else
      if (0 : Int32) &&& 1 = (0 : Int32) then some ((0 : Int32), h3) else none)) else none)
  else
    if (0 : Int32) &&& 1 = (0 : Int32) then some ((0 : Int32), h) else none)
def c_X7_isWord (N : Nat) : am_Cl := fun _ as h kk => am_sa as (fun z w0 => bif Nat.beq z 1 then am_sa w0 (fun a1 w1 => am_st0 w1 (am_bi (f_X7_isWord N a1 h) (fun v h => kk (am_oi v) h))) else none)
def o_X7_isWord (N : Nat) : am_Orc := (am_oc 45 (c_X7_tokenLength N) (am_oc 3 (c_SLEN N) (am_oc 50 (c_X7_byteAt N) (am_oc 4 (c_SCHR N) am_o0))))
set_option maxRecDepth 100000 in
theorem tok_X7_isWord : am_tok 46 tX7_isWord := by
  unfold am_tok
  decide +kernel
set_option maxHeartbeats 4000000 in
set_option maxRecDepth 100000 in
theorem m_X7_isWord {l : Launch} {al : Nat → Nat} {dC : Nat → ClassId} {dI : Nat → Nat → Nat} {aC : Nat → ClassId} {aV : Nat → Nat} (hy : am_Hy l al) (N : Nat) (a1 : Nat) (h : am_Hp) (r : (Int32 × am_Hp)) (hf : f_X7_isWord N a1 h = some r) : am_Met l al dC dI aC aV 46 [.ref 1, .ref a1] h (am_oi r.1) r.2 :=
  am_met (tab := tX7_isWord) (orc := o_X7_isWord N) (ret := am_ri) (g := r) (by decide) (by decide) hy.1 hy.2 tok_X7_isWord (am_os1 (s_X7_tokenLength hy N) (am_os1 (s_SLEN hy N) (am_os1 (s_X7_byteAt hy N) (am_os1 (s_SCHR hy N) am_os0)))) am_ri_inv (Nat.le_of_ble_eq_true rfl) (fun At cl wk => by
    have A23 : ∀ n : Nat, ∀ a1 : Nat, ∀ i2 : Int32, ∀ h, l_X7_isWord_23 N n a1 i2 h = some r → At 23 [(0, .ref 1), (1, .ref a1), (2, .int i2)] [] h := by
      intro n
      induction n with
      | zero => intro a1 i2 h hr; cases hr
      | succ n ih =>
        intro a1 i2 h hr
        exact cl (am_C1 23 (fun ρ st h => am_lda ρ 0 (fun z => bif Nat.beq z 1 then am_lda ρ 1 (fun a1 => am_ldi ρ 2 (fun i2 => am_st0 st (l_X7_isWord_23 N n a1 i2 h))) else none)) am_C0) (am_c1 (fun ρ st h hc => by
        obtain ⟨z, m_a0, hc⟩ := am_lda_some hc
        obtain ⟨hz, hc⟩ := am_bif hc
        cases Nat.eq_of_beq_eq_true hz
        obtain ⟨a1, m_a1, hc⟩ := am_lda_some hc
        obtain ⟨i2, m_i2, hc⟩ := am_ldi_some hc
        obtain ⟨rfl, hc⟩ := am_st0_some hc
        exact wk 23 ρ [(0, .ref 1), (1, .ref a1), (2, .int i2)] _ h (am_m1 m_a0 (am_m1 m_a1 (am_m1 m_i2 am_m0))) (ih a1 i2 h hc)) am_c0) 400 23 _ _ h hr
    exact cl (am_C1 23 (fun ρ st h => am_lda ρ 0 (fun z => bif Nat.beq z 1 then am_lda ρ 1 (fun a1 => am_ldi ρ 2 (fun i2 => am_st0 st (l_X7_isWord_23 N N a1 i2 h))) else none)) am_C0) (am_c1 (fun ρ st h hc => by
        obtain ⟨z, m_a0, hc⟩ := am_lda_some hc
        obtain ⟨hz, hc⟩ := am_bif hc
        cases Nat.eq_of_beq_eq_true hz
        obtain ⟨a1, m_a1, hc⟩ := am_lda_some hc
        obtain ⟨i2, m_i2, hc⟩ := am_ldi_some hc
        obtain ⟨rfl, hc⟩ := am_st0_some hc
        exact wk 23 ρ [(0, .ref 1), (1, .ref a1), (2, .int i2)] _ h (am_m1 m_a0 (am_m1 m_a1 (am_m1 m_i2 am_m0))) (A23 N a1 i2 h hc)) am_c0) 400 0 _ _ h hf)
theorem s_X7_isWord {l : Launch} {al : Nat → Nat} {dC : Nat → ClassId} {dI : Nat → Nat → Nat} {aC : Nat → ClassId} {aV : Nat → Nat} (hy : am_Hy l al) (N : Nat) : am_CS l al dC dI aC aV 46 (c_X7_isWord N) := by
  intro γ as h kk g hc0
  obtain ⟨z0, w0, e_0, hcz0⟩ := am_sa_some hc0
  obtain ⟨hz0, hc1⟩ := am_bif hcz0
  cases Nat.eq_of_beq_eq_true hz0
  obtain ⟨a1, w1, e_1, hc2⟩ := am_sa_some hc1
  obtain ⟨e_2, hc⟩ := am_st0_some hc2
  subst e_2
  subst e_1
  subst e_0
  obtain ⟨q, e1, e2⟩ := am_bi_some hc
  exact ⟨_, _, m_X7_isWord hy N a1 h _ e1, e2⟩

def f_X8_isFull (N : Nat) (a0 : Nat) (h : am_Hp) : Option (Int32 × am_Hp) :=
  bif am_isO a0 8 then bif am_isO a0 8 then (if (h a0 0) ≤ (h a0 4) then
    if (1 : Int32) &&& 1 = (1 : Int32) then some ((1 : Int32), h) else none
  else
    bif am_isO a0 8 then bif am_isO a0 8 then (am_G a0 1).bind (fun b1 => bif am_isI b1 || am_isA b1 || am_isF b1 then (if (h a0 4) < (Int32.ofNat (am_len b1)) then
      if (0 : Int32) &&& 1 = (0 : Int32) then some ((0 : Int32), h) else none
    else
      if (1 : Int32) &&& 1 = (1 : Int32) then some ((1 : Int32), h) else none) else none) else none else none) else none else none
def c_X8_isFull (N : Nat) : am_Cl := fun _ as h kk => am_sa as (fun a0 w0 => am_st0 w0 (am_bi (f_X8_isFull N a0 h) (fun v h => kk (am_oi v) h)))
def o_X8_isFull (N : Nat) : am_Orc := am_o0
set_option maxRecDepth 100000 in
theorem tok_X8_isFull : am_tok 52 tX8_isFull := by
  unfold am_tok
  decide +kernel
set_option maxHeartbeats 4000000 in
set_option maxRecDepth 100000 in
theorem m_X8_isFull {l : Launch} {al : Nat → Nat} {dC : Nat → ClassId} {dI : Nat → Nat → Nat} {aC : Nat → ClassId} {aV : Nat → Nat} (hy : am_Hy l al) (N : Nat) (a0 : Nat) (h : am_Hp) (r : (Int32 × am_Hp)) (hf : f_X8_isFull N a0 h = some r) : am_Met l al dC dI aC aV 52 [.ref a0] h (am_oi r.1) r.2 :=
  am_met (tab := tX8_isFull) (orc := o_X8_isFull N) (ret := am_ri) (g := r) (by decide) (by decide) hy.1 hy.2 tok_X8_isFull am_os0 am_ri_inv (Nat.le_of_ble_eq_true rfl) (fun At cl wk => by
    skip
    exact cl am_C0 am_c0 400 0 _ _ h hf)
theorem s_X8_isFull {l : Launch} {al : Nat → Nat} {dC : Nat → ClassId} {dI : Nat → Nat → Nat} {aC : Nat → ClassId} {aV : Nat → Nat} (hy : am_Hy l al) (N : Nat) : am_CS l al dC dI aC aV 52 (c_X8_isFull N) := by
  intro γ as h kk g hc0
  obtain ⟨a0, w0, e_0, hc1⟩ := am_sa_some hc0
  obtain ⟨e_1, hc⟩ := am_st0_some hc1
  subst e_1
  subst e_0
  obtain ⟨q, e1, e2⟩ := am_bi_some hc
  exact ⟨_, _, m_X8_isFull hy N a0 h _ e1, e2⟩

def f_X7_kindOf (N : Nat) (i0 : Int32) (h : am_Hp) : Option (Int32 × am_Hp) :=
  (if 0 ≤ i0 then
    (if i0 < (97 : Int32) then
      (if i0 < (48 : Int32) then
        (if i0 = (59 : Int32) then
          some ((3 : Int32), h)
        else
          some ((4 : Int32), h))
      else
        (if (57 : Int32) < i0 then
          (if i0 = (59 : Int32) then
            some ((3 : Int32), h)
          else
            some ((4 : Int32), h))
        else
          some ((2 : Int32), h)))
    else
      (if (122 : Int32) < i0 then
        (if i0 < (48 : Int32) then
          (if i0 = (59 : Int32) then
            some ((3 : Int32), h)
          else
            some ((4 : Int32), h))
        else
          (if (57 : Int32) < i0 then
            (if i0 = (59 : Int32) then
              some ((3 : Int32), h)
            else
              some ((4 : Int32), h))
          else
            some ((2 : Int32), h)))
      else
        some ((1 : Int32), h)))
  else
    some ((0 : Int32), h))
def c_X7_kindOf (N : Nat) : am_Cl := fun _ as h kk => am_s1 as (fun i0 w0 => am_st0 w0 (am_bi (f_X7_kindOf N i0 h) (fun v h => kk (am_oi v) h)))
def o_X7_kindOf (N : Nat) : am_Orc := am_o0
set_option maxRecDepth 100000 in
theorem tok_X7_kindOf : am_tok 49 tX7_kindOf := by
  unfold am_tok
  decide +kernel
set_option maxHeartbeats 4000000 in
set_option maxRecDepth 100000 in
theorem m_X7_kindOf {l : Launch} {al : Nat → Nat} {dC : Nat → ClassId} {dI : Nat → Nat → Nat} {aC : Nat → ClassId} {aV : Nat → Nat} (hy : am_Hy l al) (N : Nat) (i0 : Int32) (h : am_Hp) (r : (Int32 × am_Hp)) (hf : f_X7_kindOf N i0 h = some r) : am_Met l al dC dI aC aV 49 [.int i0] h (am_oi r.1) r.2 :=
  am_met (tab := tX7_kindOf) (orc := o_X7_kindOf N) (ret := am_ri) (g := r) (by decide) (by decide) hy.1 hy.2 tok_X7_kindOf am_os0 am_ri_inv (Nat.le_of_ble_eq_true rfl) (fun At cl wk => by
    skip
    exact cl am_C0 am_c0 400 0 _ _ h hf)
theorem s_X7_kindOf {l : Launch} {al : Nat → Nat} {dC : Nat → ClassId} {dI : Nat → Nat → Nat} {aC : Nat → ClassId} {aV : Nat → Nat} (hy : am_Hy l al) (N : Nat) : am_CS l al dC dI aC aV 49 (c_X7_kindOf N) := by
  intro γ as h kk g hc0
  obtain ⟨i0, w0, e_0, hc1⟩ := am_s1_some hc0
  obtain ⟨e_1, hc⟩ := am_st0_some hc1
  subst e_1
  subst e_0
  obtain ⟨q, e1, e2⟩ := am_bi_some hc
  exact ⟨_, _, m_X7_kindOf hy N i0 h _ e1, e2⟩
end
section
def l_X7_advance_97 (N : Nat) : Nat → am_Hp → Option (Unit × am_Hp)
  | 0, _ => none
  | n + 1, h =>
    (if (h 1 2) ≤ (h 1 5) then
      some ((), h)
    else
      am_bi (f_X7_byteAt N (h 1 5) h) (fun x2 h1 =>
      am_bi (f_X7_kindOf N x2 h1) (fun x4 h3 =>
      (if x4 = (h3 1 3) then
        let h5 := am_pi h3 1 5 ((h3 1 5) + (1 : Int32))
        l_X7_advance_97 N n h5
      else
        some ((), h3)))))
def l_X7_advance_8 (N : Nat) : Nat → am_Hp → Option (Unit × am_Hp)
  | 0, _ => none
  | n + 1, h =>
    (if (h 1 2) ≤ (h 1 4) then
      am_bi (f_X7_byteAt N (h 1 4) h) (fun x2 h1 =>
      am_bi (f_X7_kindOf N x2 h1) (fun x4 h3 =>
      let h5 := am_pi h3 1 3 x4
      let h6 := am_pi h5 1 5 (h5 1 4)
      (if (h6 1 3) = (1 : Int32) then
        l_X7_advance_97 N N h6
      else
        (if (h6 1 3) = (2 : Int32) then
          l_X7_advance_97 N N h6
        else
          (if (h6 1 3) = 0 then
            some ((), h6)
          else
            let h7 := am_pi h6 1 5 ((h6 1 5) + (1 : Int32))
            some ((), h7))))))
    else
      am_bi (f_X7_byteAt N (h 1 4) h) (fun x9 h8 =>
      (if x9 = (32 : Int32) then
        let h10 := am_pi h8 1 4 ((h8 1 4) + (1 : Int32))
        l_X7_advance_8 N n h10
      else
        am_bi (f_X7_byteAt N (h8 1 4) h8) (fun x12 h11 =>
        (if x12 = (10 : Int32) then
          let h20 := am_pi h11 1 4 ((h11 1 4) + (1 : Int32))
          l_X7_advance_8 N n h20
        else
          am_bi (f_X7_byteAt N (h11 1 4) h11) (fun x14 h13 =>
          am_bi (f_X7_kindOf N x14 h13) (fun x16 h15 =>
          let h17 := am_pi h15 1 3 x16
          let h18 := am_pi h17 1 5 (h17 1 4)
          (if (h18 1 3) = (1 : Int32) then
            l_X7_advance_97 N N h18
          else
            (if (h18 1 3) = (2 : Int32) then
              l_X7_advance_97 N N h18
            else
              (if (h18 1 3) = 0 then
                some ((), h18)
              else
                let h19 := am_pi h18 1 5 ((h18 1 5) + (1 : Int32))
                some ((), h19)))))))))))
def f_X7_advance (N : Nat)  (h : am_Hp) : Option (Unit × am_Hp) :=
  let h1 := am_pi h 1 4 (h 1 5)
  l_X7_advance_8 N N h1
def c_X7_advance (N : Nat) : am_Cl := fun _ as h kk => am_sa as (fun z w0 => bif Nat.beq z 1 then am_st0 w0 (am_bi (f_X7_advance N  h) (fun v h => kk (am_ov v) h)) else none)
def o_X7_advance (N : Nat) : am_Orc := (am_oc 50 (c_X7_byteAt N) (am_oc 49 (c_X7_kindOf N) am_o0))
set_option maxRecDepth 100000 in
theorem tok_X7_advance : am_tok 44 tX7_advance := by
  unfold am_tok
  decide +kernel
set_option maxHeartbeats 4000000 in
set_option maxRecDepth 100000 in
theorem m_X7_advance {l : Launch} {al : Nat → Nat} {dC : Nat → ClassId} {dI : Nat → Nat → Nat} {aC : Nat → ClassId} {aV : Nat → Nat} (hy : am_Hy l al) (N : Nat)  (h : am_Hp) (r : (Unit × am_Hp)) (hf : f_X7_advance N  h = some r) : am_Met l al dC dI aC aV 44 [.ref 1] h (am_ov r.1) r.2 :=
  am_met (tab := tX7_advance) (orc := o_X7_advance N) (ret := am_rv) (g := r) (by decide) (by decide) hy.1 hy.2 tok_X7_advance (am_os1 (s_X7_byteAt hy N) (am_os1 (s_X7_kindOf hy N) am_os0)) am_rv_inv (Nat.le_of_ble_eq_true rfl) (fun At cl wk => by
    have A97 : ∀ n : Nat, ∀ h, l_X7_advance_97 N n h = some r → At 97 [(0, .ref 1)] [] h := by
      intro n
      induction n with
      | zero => intro h hr; cases hr
      | succ n ih =>
        intro h hr
        exact cl (am_C1 97 (fun ρ st h => am_lda ρ 0 (fun z => bif Nat.beq z 1 then am_st0 st (l_X7_advance_97 N n h) else none)) am_C0) (am_c1 (fun ρ st h hc => by
        obtain ⟨z, m_a0, hc⟩ := am_lda_some hc
        obtain ⟨hz, hc⟩ := am_bif hc
        cases Nat.eq_of_beq_eq_true hz
        obtain ⟨rfl, hc⟩ := am_st0_some hc
        exact wk 97 ρ [(0, .ref 1)] _ h (am_m1 m_a0 am_m0) (ih h hc)) am_c0) 400 97 _ _ h hr
    have A8 : ∀ n : Nat, ∀ h, l_X7_advance_8 N n h = some r → At 8 [(0, .ref 1)] [] h := by
      intro n
      induction n with
      | zero => intro h hr; cases hr
      | succ n ih =>
        intro h hr
        exact cl (am_C1 8 (fun ρ st h => am_lda ρ 0 (fun z => bif Nat.beq z 1 then am_st0 st (l_X7_advance_8 N n h) else none)) (am_C1 97 (fun ρ st h => am_lda ρ 0 (fun z => bif Nat.beq z 1 then am_st0 st (l_X7_advance_97 N N h) else none)) am_C0)) (am_c1 (fun ρ st h hc => by
        obtain ⟨z, m_a0, hc⟩ := am_lda_some hc
        obtain ⟨hz, hc⟩ := am_bif hc
        cases Nat.eq_of_beq_eq_true hz
        obtain ⟨rfl, hc⟩ := am_st0_some hc
        exact wk 8 ρ [(0, .ref 1)] _ h (am_m1 m_a0 am_m0) (ih h hc)) (am_c1 (fun ρ st h hc => by
        obtain ⟨z, m_a0, hc⟩ := am_lda_some hc
        obtain ⟨hz, hc⟩ := am_bif hc
        cases Nat.eq_of_beq_eq_true hz
        obtain ⟨rfl, hc⟩ := am_st0_some hc
        exact wk 97 ρ [(0, .ref 1)] _ h (am_m1 m_a0 am_m0) (A97 N h hc)) am_c0)) 400 8 _ _ h hr
    exact cl (am_C1 8 (fun ρ st h => am_lda ρ 0 (fun z => bif Nat.beq z 1 then am_st0 st (l_X7_advance_8 N N h) else none)) am_C0) (am_c1 (fun ρ st h hc => by
        obtain ⟨z, m_a0, hc⟩ := am_lda_some hc
        obtain ⟨hz, hc⟩ := am_bif hc
        cases Nat.eq_of_beq_eq_true hz
        obtain ⟨rfl, hc⟩ := am_st0_some hc
        exact wk 8 ρ [(0, .ref 1)] _ h (am_m1 m_a0 am_m0) (A8 N h hc)) am_c0) 400 0 _ _ h hf)
theorem s_X7_advance {l : Launch} {al : Nat → Nat} {dC : Nat → ClassId} {dI : Nat → Nat → Nat} {aC : Nat → ClassId} {aV : Nat → Nat} (hy : am_Hy l al) (N : Nat) : am_CS l al dC dI aC aV 44 (c_X7_advance N) := by
  intro γ as h kk g hc0
  obtain ⟨z0, w0, e_0, hcz0⟩ := am_sa_some hc0
  obtain ⟨hz0, hc1⟩ := am_bif hcz0
  cases Nat.eq_of_beq_eq_true hz0
  obtain ⟨e_1, hc⟩ := am_st0_some hc1
  subst e_1
  subst e_0
  obtain ⟨q, e1, e2⟩ := am_bi_some hc
  exact ⟨_, _, m_X7_advance hy N  h _ e1, e2⟩

def l_X7_letters_4 (N : Nat) : Nat → Int32 → Int32 → am_Hp → Option (Int32 × am_Hp)
  | 0, _, _, _ => none
  | n + 1, i1, i2, h =>
    (if (6 : Int32) ≤ i2 then
      some (i1, h)
    else
      (if (h 1 5) ≤ ((h 1 4) + i2) then
        l_X7_letters_4 N n (i1 <<< ((5 : Int32) &&& 31)) (i2 + (1 : Int32)) h
      else
        am_bi (f_X7_byteAt N ((h 1 4) + i2) h) (fun x2 h1 =>
        l_X7_letters_4 N n ((i1 <<< ((5 : Int32) &&& 31)) ||| ((x2 - (97 : Int32)) + (1 : Int32))) (i2 + (1 : Int32)) h1)))
def f_X7_letters (N : Nat)  (h : am_Hp) : Option (Int32 × am_Hp) :=
  l_X7_letters_4 N N (0 : Int32) (0 : Int32) h
def c_X7_letters (N : Nat) : am_Cl := fun _ as h kk => am_sa as (fun z w0 => bif Nat.beq z 1 then am_st0 w0 (am_bi (f_X7_letters N  h) (fun v h => kk (am_oi v) h)) else none)
def o_X7_letters (N : Nat) : am_Orc := (am_oc 50 (c_X7_byteAt N) am_o0)
set_option maxRecDepth 100000 in
theorem tok_X7_letters : am_tok 47 tX7_letters := by
  unfold am_tok
  decide +kernel
set_option maxHeartbeats 4000000 in
set_option maxRecDepth 100000 in
theorem m_X7_letters {l : Launch} {al : Nat → Nat} {dC : Nat → ClassId} {dI : Nat → Nat → Nat} {aC : Nat → ClassId} {aV : Nat → Nat} (hy : am_Hy l al) (N : Nat)  (h : am_Hp) (r : (Int32 × am_Hp)) (hf : f_X7_letters N  h = some r) : am_Met l al dC dI aC aV 47 [.ref 1] h (am_oi r.1) r.2 :=
  am_met (tab := tX7_letters) (orc := o_X7_letters N) (ret := am_ri) (g := r) (by decide) (by decide) hy.1 hy.2 tok_X7_letters (am_os1 (s_X7_byteAt hy N) am_os0) am_ri_inv (Nat.le_of_ble_eq_true rfl) (fun At cl wk => by
    have A4 : ∀ n : Nat, ∀ i1 : Int32, ∀ i2 : Int32, ∀ h, l_X7_letters_4 N n i1 i2 h = some r → At 4 [(0, .ref 1), (1, .int i1), (2, .int i2)] [] h := by
      intro n
      induction n with
      | zero => intro i1 i2 h hr; cases hr
      | succ n ih =>
        intro i1 i2 h hr
        exact cl (am_C1 4 (fun ρ st h => am_lda ρ 0 (fun z => bif Nat.beq z 1 then am_ldi ρ 1 (fun i1 => am_ldi ρ 2 (fun i2 => am_st0 st (l_X7_letters_4 N n i1 i2 h))) else none)) am_C0) (am_c1 (fun ρ st h hc => by
        obtain ⟨z, m_a0, hc⟩ := am_lda_some hc
        obtain ⟨hz, hc⟩ := am_bif hc
        cases Nat.eq_of_beq_eq_true hz
        obtain ⟨i1, m_i1, hc⟩ := am_ldi_some hc
        obtain ⟨i2, m_i2, hc⟩ := am_ldi_some hc
        obtain ⟨rfl, hc⟩ := am_st0_some hc
        exact wk 4 ρ [(0, .ref 1), (1, .int i1), (2, .int i2)] _ h (am_m1 m_a0 (am_m1 m_i1 (am_m1 m_i2 am_m0))) (ih i1 i2 h hc)) am_c0) 400 4 _ _ h hr
    exact cl (am_C1 4 (fun ρ st h => am_lda ρ 0 (fun z => bif Nat.beq z 1 then am_ldi ρ 1 (fun i1 => am_ldi ρ 2 (fun i2 => am_st0 st (l_X7_letters_4 N N i1 i2 h))) else none)) am_C0) (am_c1 (fun ρ st h hc => by
        obtain ⟨z, m_a0, hc⟩ := am_lda_some hc
        obtain ⟨hz, hc⟩ := am_bif hc
        cases Nat.eq_of_beq_eq_true hz
        obtain ⟨i1, m_i1, hc⟩ := am_ldi_some hc
        obtain ⟨i2, m_i2, hc⟩ := am_ldi_some hc
        obtain ⟨rfl, hc⟩ := am_st0_some hc
        exact wk 4 ρ [(0, .ref 1), (1, .int i1), (2, .int i2)] _ h (am_m1 m_a0 (am_m1 m_i1 (am_m1 m_i2 am_m0))) (A4 N i1 i2 h hc)) am_c0) 400 0 _ _ h hf)
theorem s_X7_letters {l : Launch} {al : Nat → Nat} {dC : Nat → ClassId} {dI : Nat → Nat → Nat} {aC : Nat → ClassId} {aV : Nat → Nat} (hy : am_Hy l al) (N : Nat) : am_CS l al dC dI aC aV 47 (c_X7_letters N) := by
  intro γ as h kk g hc0
  obtain ⟨z0, w0, e_0, hcz0⟩ := am_sa_some hc0
  obtain ⟨hz0, hc1⟩ := am_bif hcz0
  cases Nat.eq_of_beq_eq_true hz0
  obtain ⟨e_1, hc⟩ := am_st0_some hc1
  subst e_1
  subst e_0
  obtain ⟨q, e1, e2⟩ := am_bi_some hc
  exact ⟨_, _, m_X7_letters hy N  h _ e1, e2⟩

def l_X8_indexOf_2 (N : Nat) : Nat → Nat → Int32 → Int32 → am_Hp → Option (Int32 × am_Hp)
  | 0, _, _, _, _ => none
  | n + 1, a0, i1, i2, h =>
    bif am_isO a0 8 then (if (h a0 4) ≤ i2 then
      some ((-1 : Int32), h)
    else
      bif am_isO a0 8 then (am_G a0 1).bind (fun b1 => bif am_isI b1 || am_isA b1 || am_isF b1 then (if (Int32.ofNat (am_len b1)) ≤ i2 then
        some ((-1 : Int32), h)
      else
        bif am_isO a0 8 then (am_G a0 1).bind (fun b2 => bif am_in i2 (am_len b2) then (bif am_isI b2 then (if (h b2 i2.toNatClampNeg) = i1 then
          some (i2, h)
        else
          l_X8_indexOf_2 N n a0 i1 (i2 + (1 : Int32)) h) else bif am_isF b2 then (if (am_sx b2 i2.toNatClampNeg) = i1 then
          some (i2, h)
        else
          l_X8_indexOf_2 N n a0 i1 (i2 + (1 : Int32)) h) else none) else none) else none) else none) else none) else none
def f_X8_indexOf (N : Nat) (a0 : Nat) (i1 : Int32) (h : am_Hp) : Option (Int32 × am_Hp) :=
  l_X8_indexOf_2 N N a0 i1 (0 : Int32) h
def c_X8_indexOf (N : Nat) : am_Cl := fun _ as h kk => am_sa as (fun a0 w0 => am_s1 w0 (fun i1 w1 => am_st0 w1 (am_bi (f_X8_indexOf N a0 i1 h) (fun v h => kk (am_oi v) h))))
def o_X8_indexOf (N : Nat) : am_Orc := am_o0
set_option maxRecDepth 100000 in
theorem tok_X8_indexOf : am_tok 53 tX8_indexOf := by
  unfold am_tok
  decide +kernel
set_option maxHeartbeats 4000000 in
set_option maxRecDepth 100000 in
theorem m_X8_indexOf {l : Launch} {al : Nat → Nat} {dC : Nat → ClassId} {dI : Nat → Nat → Nat} {aC : Nat → ClassId} {aV : Nat → Nat} (hy : am_Hy l al) (N : Nat) (a0 : Nat) (i1 : Int32) (h : am_Hp) (r : (Int32 × am_Hp)) (hf : f_X8_indexOf N a0 i1 h = some r) : am_Met l al dC dI aC aV 53 [.ref a0, .int i1] h (am_oi r.1) r.2 :=
  am_met (tab := tX8_indexOf) (orc := o_X8_indexOf N) (ret := am_ri) (g := r) (by decide) (by decide) hy.1 hy.2 tok_X8_indexOf am_os0 am_ri_inv (Nat.le_of_ble_eq_true rfl) (fun At cl wk => by
    have A2 : ∀ n : Nat, ∀ a0 : Nat, ∀ i1 : Int32, ∀ i2 : Int32, ∀ h, l_X8_indexOf_2 N n a0 i1 i2 h = some r → At 2 [(0, .ref a0), (1, .int i1), (2, .int i2)] [] h := by
      intro n
      induction n with
      | zero => intro a0 i1 i2 h hr; cases hr
      | succ n ih =>
        intro a0 i1 i2 h hr
        exact cl (am_C1 2 (fun ρ st h => am_lda ρ 0 (fun a0 => am_ldi ρ 1 (fun i1 => am_ldi ρ 2 (fun i2 => am_st0 st (l_X8_indexOf_2 N n a0 i1 i2 h))))) am_C0) (am_c1 (fun ρ st h hc => by
        obtain ⟨a0, m_a0, hc⟩ := am_lda_some hc
        obtain ⟨i1, m_i1, hc⟩ := am_ldi_some hc
        obtain ⟨i2, m_i2, hc⟩ := am_ldi_some hc
        obtain ⟨rfl, hc⟩ := am_st0_some hc
        exact wk 2 ρ [(0, .ref a0), (1, .int i1), (2, .int i2)] _ h (am_m1 m_a0 (am_m1 m_i1 (am_m1 m_i2 am_m0))) (ih a0 i1 i2 h hc)) am_c0) 400 2 _ _ h hr
    exact cl (am_C1 2 (fun ρ st h => am_lda ρ 0 (fun a0 => am_ldi ρ 1 (fun i1 => am_ldi ρ 2 (fun i2 => am_st0 st (l_X8_indexOf_2 N N a0 i1 i2 h))))) am_C0) (am_c1 (fun ρ st h hc => by
        obtain ⟨a0, m_a0, hc⟩ := am_lda_some hc
        obtain ⟨i1, m_i1, hc⟩ := am_ldi_some hc
        obtain ⟨i2, m_i2, hc⟩ := am_ldi_some hc
        obtain ⟨rfl, hc⟩ := am_st0_some hc
        exact wk 2 ρ [(0, .ref a0), (1, .int i1), (2, .int i2)] _ h (am_m1 m_a0 (am_m1 m_i1 (am_m1 m_i2 am_m0))) (A2 N a0 i1 i2 h hc)) am_c0) 400 0 _ _ h hf)
theorem s_X8_indexOf {l : Launch} {al : Nat → Nat} {dC : Nat → ClassId} {dI : Nat → Nat → Nat} {aC : Nat → ClassId} {aV : Nat → Nat} (hy : am_Hy l al) (N : Nat) : am_CS l al dC dI aC aV 53 (c_X8_indexOf N) := by
  intro γ as h kk g hc0
  obtain ⟨a0, w0, e_0, hc1⟩ := am_sa_some hc0
  obtain ⟨i1, w1, e_1, hc2⟩ := am_s1_some hc1
  obtain ⟨e_2, hc⟩ := am_st0_some hc2
  subst e_2
  subst e_1
  subst e_0
  obtain ⟨q, e1, e2⟩ := am_bi_some hc
  exact ⟨_, _, m_X8_indexOf hy N a0 i1 h _ e1, e2⟩

def l_X7_number_7 (N : Nat) : Nat → Int32 → Int32 → am_Hp → Option (Int32 × am_Hp)
  | 0, _, _, _ => none
  | n + 1, i1, i2, h =>
    (if (h 1 5) ≤ i2 then
      some (i1, h)
    else
      am_bi (f_X7_byteAt N i2 h) (fun x2 h1 =>
      l_X7_number_7 N n (if (1000 : Int32) < (((i1 * (10 : Int32)) + x2) - (48 : Int32)) then (1000 : Int32) else ((i1 * (10 : Int32)) + x2) - (48 : Int32)) (i2 + (1 : Int32)) h1))
def f_X7_number (N : Nat)  (h : am_Hp) : Option (Int32 × am_Hp) :=
  l_X7_number_7 N N (0 : Int32) (h 1 4) h
def c_X7_number (N : Nat) : am_Cl := fun _ as h kk => am_sa as (fun z w0 => bif Nat.beq z 1 then am_st0 w0 (am_bi (f_X7_number N  h) (fun v h => kk (am_oi v) h)) else none)
def o_X7_number (N : Nat) : am_Orc := (am_oc 50 (c_X7_byteAt N) am_o0)
set_option maxRecDepth 100000 in
theorem tok_X7_number : am_tok 48 tX7_number := by
  unfold am_tok
  decide +kernel
set_option maxHeartbeats 4000000 in
set_option maxRecDepth 100000 in
theorem m_X7_number {l : Launch} {al : Nat → Nat} {dC : Nat → ClassId} {dI : Nat → Nat → Nat} {aC : Nat → ClassId} {aV : Nat → Nat} (hy : am_Hy l al) (N : Nat)  (h : am_Hp) (r : (Int32 × am_Hp)) (hf : f_X7_number N  h = some r) : am_Met l al dC dI aC aV 48 [.ref 1] h (am_oi r.1) r.2 :=
  am_met (tab := tX7_number) (orc := o_X7_number N) (ret := am_ri) (g := r) (by decide) (by decide) hy.1 hy.2 tok_X7_number (am_os1 (s_X7_byteAt hy N) am_os0) am_ri_inv (Nat.le_of_ble_eq_true rfl) (fun At cl wk => by
    have A7 : ∀ n : Nat, ∀ i1 : Int32, ∀ i2 : Int32, ∀ h, l_X7_number_7 N n i1 i2 h = some r → At 7 [(0, .ref 1), (1, .int i1), (2, .int i2)] [] h := by
      intro n
      induction n with
      | zero => intro i1 i2 h hr; cases hr
      | succ n ih =>
        intro i1 i2 h hr
        exact cl (am_C1 7 (fun ρ st h => am_lda ρ 0 (fun z => bif Nat.beq z 1 then am_ldi ρ 1 (fun i1 => am_ldi ρ 2 (fun i2 => am_st0 st (l_X7_number_7 N n i1 i2 h))) else none)) am_C0) (am_c1 (fun ρ st h hc => by
        obtain ⟨z, m_a0, hc⟩ := am_lda_some hc
        obtain ⟨hz, hc⟩ := am_bif hc
        cases Nat.eq_of_beq_eq_true hz
        obtain ⟨i1, m_i1, hc⟩ := am_ldi_some hc
        obtain ⟨i2, m_i2, hc⟩ := am_ldi_some hc
        obtain ⟨rfl, hc⟩ := am_st0_some hc
        exact wk 7 ρ [(0, .ref 1), (1, .int i1), (2, .int i2)] _ h (am_m1 m_a0 (am_m1 m_i1 (am_m1 m_i2 am_m0))) (ih i1 i2 h hc)) am_c0) 400 7 _ _ h hr
    exact cl (am_C1 7 (fun ρ st h => am_lda ρ 0 (fun z => bif Nat.beq z 1 then am_ldi ρ 1 (fun i1 => am_ldi ρ 2 (fun i2 => am_st0 st (l_X7_number_7 N N i1 i2 h))) else none)) am_C0) (am_c1 (fun ρ st h hc => by
        obtain ⟨z, m_a0, hc⟩ := am_lda_some hc
        obtain ⟨hz, hc⟩ := am_bif hc
        cases Nat.eq_of_beq_eq_true hz
        obtain ⟨i1, m_i1, hc⟩ := am_ldi_some hc
        obtain ⟨i2, m_i2, hc⟩ := am_ldi_some hc
        obtain ⟨rfl, hc⟩ := am_st0_some hc
        exact wk 7 ρ [(0, .ref 1), (1, .int i1), (2, .int i2)] _ h (am_m1 m_a0 (am_m1 m_i1 (am_m1 m_i2 am_m0))) (A7 N i1 i2 h hc)) am_c0) 400 0 _ _ h hf)
theorem s_X7_number {l : Launch} {al : Nat → Nat} {dC : Nat → ClassId} {dI : Nat → Nat → Nat} {aC : Nat → ClassId} {aV : Nat → Nat} (hy : am_Hy l al) (N : Nat) : am_CS l al dC dI aC aV 48 (c_X7_number N) := by
  intro γ as h kk g hc0
  obtain ⟨z0, w0, e_0, hcz0⟩ := am_sa_some hc0
  obtain ⟨hz0, hc1⟩ := am_bif hcz0
  cases Nat.eq_of_beq_eq_true hz0
  obtain ⟨e_1, hc⟩ := am_st0_some hc1
  subst e_1
  subst e_0
  obtain ⟨q, e1, e2⟩ := am_bi_some hc
  exact ⟨_, _, m_X7_number hy N  h _ e1, e2⟩
end
section
def f_X1_readNumber (N : Nat) (i2 : Int32) (i3 : Int32) (h : am_Hp) : Option (Int32 × am_Hp) :=
  am_bi (f_X7_advance N h) (fun _ h1 =>
  (if (h1 1 3) = (2 : Int32) then
    am_bi (f_X7_number N h1) (fun x3 h2 =>
    (if x3 < i2 then
      some ((-12 : Int32), h2)
    else
      am_bi (f_X7_number N h2) (fun x5 h4 =>
      (if x5 ≤ i3 then
        some ((0 : Int32), h4)
      else
        some ((-12 : Int32), h4)))))
  else
    some ((-11 : Int32), h1)))
def c_X1_readNumber (N : Nat) : am_Cl := fun _ as h kk => am_sa as (fun z w0 => bif Nat.beq z 3 then am_sa w0 (fun z w1 => bif Nat.beq z 1 then am_s1 w1 (fun i2 w2 => am_s1 w2 (fun i3 w3 => am_st0 w3 (am_bi (f_X1_readNumber N i2 i3 h) (fun v h => kk (am_oi v) h)))) else none) else none)
def o_X1_readNumber (N : Nat) : am_Orc := (am_oc 44 (c_X7_advance N) (am_oc 48 (c_X7_number N) am_o0))
set_option maxRecDepth 100000 in
theorem tok_X1_readNumber : am_tok 13 tX1_readNumber := by
  unfold am_tok
  decide +kernel
set_option maxHeartbeats 4000000 in
set_option maxRecDepth 100000 in
theorem m_X1_readNumber {l : Launch} {al : Nat → Nat} {dC : Nat → ClassId} {dI : Nat → Nat → Nat} {aC : Nat → ClassId} {aV : Nat → Nat} (hy : am_Hy l al) (N : Nat) (i2 : Int32) (i3 : Int32) (h : am_Hp) (r : (Int32 × am_Hp)) (hf : f_X1_readNumber N i2 i3 h = some r) : am_Met l al dC dI aC aV 13 [.ref 3, .ref 1, .int i2, .int i3] h (am_oi r.1) r.2 :=
  am_met (tab := tX1_readNumber) (orc := o_X1_readNumber N) (ret := am_ri) (g := r) (by decide) (by decide) hy.1 hy.2 tok_X1_readNumber (am_os1 (s_X7_advance hy N) (am_os1 (s_X7_number hy N) am_os0)) am_ri_inv (Nat.le_of_ble_eq_true rfl) (fun At cl wk => by
    skip
    exact cl am_C0 am_c0 400 0 _ _ h hf)
theorem s_X1_readNumber {l : Launch} {al : Nat → Nat} {dC : Nat → ClassId} {dI : Nat → Nat → Nat} {aC : Nat → ClassId} {aV : Nat → Nat} (hy : am_Hy l al) (N : Nat) : am_CS l al dC dI aC aV 13 (c_X1_readNumber N) := by
  intro γ as h kk g hc0
  obtain ⟨z0, w0, e_0, hcz0⟩ := am_sa_some hc0
  obtain ⟨hz0, hc1⟩ := am_bif hcz0
  cases Nat.eq_of_beq_eq_true hz0
  obtain ⟨z1, w1, e_1, hcz1⟩ := am_sa_some hc1
  obtain ⟨hz1, hc2⟩ := am_bif hcz1
  cases Nat.eq_of_beq_eq_true hz1
  obtain ⟨i2, w2, e_2, hc3⟩ := am_s1_some hc2
  obtain ⟨i3, w3, e_3, hc4⟩ := am_s1_some hc3
  obtain ⟨e_4, hc⟩ := am_st0_some hc4
  subst e_4
  subst e_3
  subst e_2
  subst e_1
  subst e_0
  obtain ⟨q, e1, e2⟩ := am_bi_some hc
  exact ⟨_, _, m_X1_readNumber hy N i2 i3 h _ e1, e2⟩

def f_X8_add (N : Nat) (a0 : Nat) (i1 : Int32) (i2 : Int32) (i3 : Int32) (h : am_Hp) : Option (Unit × am_Hp) :=
  bif am_isO a0 8 then am_bi (f_X8_isFull N a0 h) (fun x2 h1 =>
  (if x2 = 0 then
    bif am_isO a0 8 then (am_G a0 1).bind (fun b3 => bif am_isO a0 8 then bif am_isI b3 && am_in (h1 a0 4) (am_len b3) then (let h4 := am_pi h1 b3 ((h1 a0 4).toNatClampNeg) i1
    bif am_isO a0 8 then (am_G a0 2).bind (fun b5 => bif am_isO a0 8 then bif am_isI b5 && am_in (h4 a0 4) (am_len b5) then (let h6 := am_pi h4 b5 ((h4 a0 4).toNatClampNeg) i2
    bif am_isO a0 8 then (am_G a0 3).bind (fun b7 => bif am_isO a0 8 then bif am_isI b7 && am_in (h6 a0 4) (am_len b7) then (let h8 := am_pi h6 b7 ((h6 a0 4).toNatClampNeg) i3
    bif am_isO a0 8 then bif am_isO a0 8 then (let h9 := am_pi h8 a0 4 ((h8 a0 4) + (1 : Int32))
    some ((), h9)) else none else none) else none else none) else none) else none else none) else none) else none else none) else none
  else
    some ((), h1))) else none
def c_X8_add (N : Nat) : am_Cl := fun _ as h kk => am_sa as (fun a0 w0 => am_s1 w0 (fun i1 w1 => am_s1 w1 (fun i2 w2 => am_s1 w2 (fun i3 w3 => am_st0 w3 (am_bi (f_X8_add N a0 i1 i2 i3 h) (fun v h => kk (am_ov v) h))))))
def o_X8_add (N : Nat) : am_Orc := (am_oc 52 (c_X8_isFull N) am_o0)
set_option maxRecDepth 100000 in
theorem tok_X8_add : am_tok 55 tX8_add := by
  unfold am_tok
  decide +kernel
set_option maxHeartbeats 4000000 in
set_option maxRecDepth 100000 in
theorem m_X8_add {l : Launch} {al : Nat → Nat} {dC : Nat → ClassId} {dI : Nat → Nat → Nat} {aC : Nat → ClassId} {aV : Nat → Nat} (hy : am_Hy l al) (N : Nat) (a0 : Nat) (i1 : Int32) (i2 : Int32) (i3 : Int32) (h : am_Hp) (r : (Unit × am_Hp)) (hf : f_X8_add N a0 i1 i2 i3 h = some r) : am_Met l al dC dI aC aV 55 [.ref a0, .int i1, .int i2, .int i3] h (am_ov r.1) r.2 :=
  am_met (tab := tX8_add) (orc := o_X8_add N) (ret := am_rv) (g := r) (by decide) (by decide) hy.1 hy.2 tok_X8_add (am_os1 (s_X8_isFull hy N) am_os0) am_rv_inv (Nat.le_of_ble_eq_true rfl) (fun At cl wk => by
    skip
    exact cl am_C0 am_c0 400 0 _ _ h hf)
theorem s_X8_add {l : Launch} {al : Nat → Nat} {dC : Nat → ClassId} {dI : Nat → Nat → Nat} {aC : Nat → ClassId} {aV : Nat → Nat} (hy : am_Hy l al) (N : Nat) : am_CS l al dC dI aC aV 55 (c_X8_add N) := by
  intro γ as h kk g hc0
  obtain ⟨a0, w0, e_0, hc1⟩ := am_sa_some hc0
  obtain ⟨i1, w1, e_1, hc2⟩ := am_s1_some hc1
  obtain ⟨i2, w2, e_2, hc3⟩ := am_s1_some hc2
  obtain ⟨i3, w3, e_3, hc4⟩ := am_s1_some hc3
  obtain ⟨e_4, hc⟩ := am_st0_some hc4
  subst e_4
  subst e_3
  subst e_2
  subst e_1
  subst e_0
  obtain ⟨q, e1, e2⟩ := am_bi_some hc
  exact ⟨_, _, m_X8_add hy N a0 i1 i2 i3 h _ e1, e2⟩

def f_X1_readDeclaration (N : Nat) (a2 : Nat) (h : am_Hp) : Option (Int32 × am_Hp) :=
  bif am_isO a2 8 then am_bi (f_X8_isFull N a2 h) (fun x2 h1 =>
  (if x2 = 0 then
    am_bi (f_X7_advance N h1) (fun _ h3 =>
    (if (h3 1 3) = (1 : Int32) then
      am_bi (f_X7_tokenLength N h3) (fun x5 h4 =>
      (if x5 ≤ (6 : Int32) then
        am_bi (f_X7_letters N h4) (fun x7 h6 =>
        bif am_isO a2 8 then am_bi (f_X8_indexOf N a2 x7 h6) (fun x9 h8 =>
        (if x9 = (-1 : Int32) then
          am_bi (f_X1_readNumber N (2 : Int32) (16 : Int32) h8) (fun x11 h10 =>
          (if x11 = 0 then
            am_bi (f_X7_number N h10) (fun x13 h12 =>
            am_bi (f_X1_readNumber N (1 : Int32) (6 : Int32) h12) (fun x15 h14 =>
            (if x15 = 0 then
              am_bi (f_X7_number N h14) (fun x17 h16 =>
              bif am_isO a2 8 then am_bi (f_X8_add N a2 x7 x13 x17 h16) (fun _ h18 =>
              some ((0 : Int32), h18)) else none)
            else
              some (x15, h14))))
          else
            some (x11, h10)))
        else
          some ((-14 : Int32), h8))) else none)
      else
        some ((-11 : Int32), h4)))
    else
      some ((-11 : Int32), h3)))
  else
    some ((-15 : Int32), h1))) else none
def c_X1_readDeclaration (N : Nat) : am_Cl := fun _ as h kk => am_sa as (fun z w0 => bif Nat.beq z 3 then am_sa w0 (fun z w1 => bif Nat.beq z 1 then am_sa w1 (fun a2 w2 => am_st0 w2 (am_bi (f_X1_readDeclaration N a2 h) (fun v h => kk (am_oi v) h))) else none) else none)
def o_X1_readDeclaration (N : Nat) : am_Orc := (am_oc 52 (c_X8_isFull N) (am_oc 44 (c_X7_advance N) (am_oc 45 (c_X7_tokenLength N) (am_oc 47 (c_X7_letters N) (am_oc 53 (c_X8_indexOf N) (am_oc 13 (c_X1_readNumber N) (am_oc 48 (c_X7_number N) (am_oc 55 (c_X8_add N) am_o0))))))))
set_option maxRecDepth 100000 in
theorem tok_X1_readDeclaration : am_tok 11 tX1_readDeclaration := by
  unfold am_tok
  decide +kernel
set_option maxHeartbeats 4000000 in
set_option maxRecDepth 100000 in
theorem m_X1_readDeclaration {l : Launch} {al : Nat → Nat} {dC : Nat → ClassId} {dI : Nat → Nat → Nat} {aC : Nat → ClassId} {aV : Nat → Nat} (hy : am_Hy l al) (N : Nat) (a2 : Nat) (h : am_Hp) (r : (Int32 × am_Hp)) (hf : f_X1_readDeclaration N a2 h = some r) : am_Met l al dC dI aC aV 11 [.ref 3, .ref 1, .ref a2] h (am_oi r.1) r.2 :=
  am_met (tab := tX1_readDeclaration) (orc := o_X1_readDeclaration N) (ret := am_ri) (g := r) (by decide) (by decide) hy.1 hy.2 tok_X1_readDeclaration (am_os1 (s_X8_isFull hy N) (am_os1 (s_X7_advance hy N) (am_os1 (s_X7_tokenLength hy N) (am_os1 (s_X7_letters hy N) (am_os1 (s_X8_indexOf hy N) (am_os1 (s_X1_readNumber hy N) (am_os1 (s_X7_number hy N) (am_os1 (s_X8_add hy N) am_os0)))))))) am_ri_inv (Nat.le_of_ble_eq_true rfl) (fun At cl wk => by
    skip
    exact cl am_C0 am_c0 400 0 _ _ h hf)
theorem s_X1_readDeclaration {l : Launch} {al : Nat → Nat} {dC : Nat → ClassId} {dI : Nat → Nat → Nat} {aC : Nat → ClassId} {aV : Nat → Nat} (hy : am_Hy l al) (N : Nat) : am_CS l al dC dI aC aV 11 (c_X1_readDeclaration N) := by
  intro γ as h kk g hc0
  obtain ⟨z0, w0, e_0, hcz0⟩ := am_sa_some hc0
  obtain ⟨hz0, hc1⟩ := am_bif hcz0
  cases Nat.eq_of_beq_eq_true hz0
  obtain ⟨z1, w1, e_1, hcz1⟩ := am_sa_some hc1
  obtain ⟨hz1, hc2⟩ := am_bif hcz1
  cases Nat.eq_of_beq_eq_true hz1
  obtain ⟨a2, w2, e_2, hc3⟩ := am_sa_some hc2
  obtain ⟨e_3, hc⟩ := am_st0_some hc3
  subst e_3
  subst e_2
  subst e_1
  subst e_0
  obtain ⟨q, e1, e2⟩ := am_bi_some hc
  exact ⟨_, _, m_X1_readDeclaration hy N a2 h _ e1, e2⟩

def f_X1_readSetting (N : Nat)  (h : am_Hp) : Option (Int32 × am_Hp) :=
  am_bi (f_X7_advance N h) (fun _ h1 =>
  am_bi (f_X7_isWord N 211 h1) (fun x3 h2 =>
  (if x3 = 0 then
    am_bi (f_X7_isWord N 212 h2) (fun x19 h18 =>
    (if x19 = 0 then
      some ((-11 : Int32), h18)
    else
      am_bi (f_X7_isWord N 211 h18) (fun x21 h20 =>
      (if x21 = 0 then
        bif am_in (1 : Int32) 2 then (if (h20 13 1) = 0 then
          bif am_in (1 : Int32) 2 then bif am_in (1 : Int32) 2 then am_bi (f_X1_readNumber N (am_sx 206 1) (am_sx 207 1) h20) (fun x23 h22 =>
          (if x23 = 0 then
            bif am_in (1 : Int32) 2 then (let h24 := am_pi h22 13 1 ((1 : Int32) &&& 1)
            am_bi (f_X7_number N h24) (fun x26 h25 =>
            bif am_in (1 : Int32) 2 then (let h27 := am_pi h25 12 1 x26
            some ((0 : Int32), h27)) else none)) else none
          else
            some (x23, h22))) else none else none
        else
          some ((-14 : Int32), h20)) else none
      else
        bif am_in (0 : Int32) 2 then (if (h20 13 0) = 0 then
          bif am_in (0 : Int32) 2 then bif am_in (0 : Int32) 2 then am_bi (f_X1_readNumber N (am_sx 206 0) (am_sx 207 0) h20) (fun x29 h28 =>
          (if x29 = 0 then
            bif am_in (0 : Int32) 2 then (let h30 := am_pi h28 13 0 ((1 : Int32) &&& 1)
            am_bi (f_X7_number N h30) (fun x32 h31 =>
            bif am_in (0 : Int32) 2 then (let h33 := am_pi h31 12 0 x32
            some ((0 : Int32), h33)) else none)) else none
          else
            some (x29, h28))) else none else none
        else
          some ((-14 : Int32), h20)) else none))))
  else
    am_bi (f_X7_isWord N 211 h2) (fun x5 h4 =>
    (if x5 = 0 then
      bif am_in (1 : Int32) 2 then (if (h4 13 1) = 0 then
        bif am_in (1 : Int32) 2 then bif am_in (1 : Int32) 2 then am_bi (f_X1_readNumber N (am_sx 206 1) (am_sx 207 1) h4) (fun x7 h6 =>
        (if x7 = 0 then
          bif am_in (1 : Int32) 2 then (let h8 := am_pi h6 13 1 ((1 : Int32) &&& 1)
          am_bi (f_X7_number N h8) (fun x10 h9 =>
          bif am_in (1 : Int32) 2 then (let h11 := am_pi h9 12 1 x10
          some ((0 : Int32), h11)) else none)) else none
        else
          some (x7, h6))) else none else none
      else
        some ((-14 : Int32), h4)) else none
    else
      bif am_in (0 : Int32) 2 then (if (h4 13 0) = 0 then
        bif am_in (0 : Int32) 2 then bif am_in (0 : Int32) 2 then am_bi (f_X1_readNumber N (am_sx 206 0) (am_sx 207 0) h4) (fun x13 h12 =>
        (if x13 = 0 then
          bif am_in (0 : Int32) 2 then (let h14 := am_pi h12 13 0 ((1 : Int32) &&& 1)
          am_bi (f_X7_number N h14) (fun x16 h15 =>
          bif am_in (0 : Int32) 2 then (let h17 := am_pi h15 12 0 x16
          some ((0 : Int32), h17)) else none)) else none
        else
          some (x13, h12))) else none else none
      else
        some ((-14 : Int32), h4)) else none)))))
def c_X1_readSetting (N : Nat) : am_Cl := fun _ as h kk => am_sa as (fun z w0 => bif Nat.beq z 3 then am_sa w0 (fun z w1 => bif Nat.beq z 1 then am_st0 w1 (am_bi (f_X1_readSetting N  h) (fun v h => kk (am_oi v) h)) else none) else none)
def o_X1_readSetting (N : Nat) : am_Orc := (am_oc 44 (c_X7_advance N) (am_oc 46 (c_X7_isWord N) (am_oc 13 (c_X1_readNumber N) (am_oc 48 (c_X7_number N) am_o0))))
set_option maxRecDepth 100000 in
theorem tok_X1_readSetting : am_tok 12 tX1_readSetting := by
  unfold am_tok
  decide +kernel
set_option maxHeartbeats 4000000 in
set_option maxRecDepth 100000 in
theorem m_X1_readSetting {l : Launch} {al : Nat → Nat} {dC : Nat → ClassId} {dI : Nat → Nat → Nat} {aC : Nat → ClassId} {aV : Nat → Nat} (hy : am_Hy l al) (N : Nat)  (h : am_Hp) (r : (Int32 × am_Hp)) (hf : f_X1_readSetting N  h = some r) : am_Met l al dC dI aC aV 12 [.ref 3, .ref 1] h (am_oi r.1) r.2 :=
  am_met (tab := tX1_readSetting) (orc := o_X1_readSetting N) (ret := am_ri) (g := r) (by decide) (by decide) hy.1 hy.2 tok_X1_readSetting (am_os1 (s_X7_advance hy N) (am_os1 (s_X7_isWord hy N) (am_os1 (s_X1_readNumber hy N) (am_os1 (s_X7_number hy N) am_os0)))) am_ri_inv (Nat.le_of_ble_eq_true rfl) (fun At cl wk => by
    skip
    exact cl am_C0 am_c0 400 0 _ _ h hf)
theorem s_X1_readSetting {l : Launch} {al : Nat → Nat} {dC : Nat → ClassId} {dI : Nat → Nat → Nat} {aC : Nat → ClassId} {aV : Nat → Nat} (hy : am_Hy l al) (N : Nat) : am_CS l al dC dI aC aV 12 (c_X1_readSetting N) := by
  intro γ as h kk g hc0
  obtain ⟨z0, w0, e_0, hcz0⟩ := am_sa_some hc0
  obtain ⟨hz0, hc1⟩ := am_bif hcz0
  cases Nat.eq_of_beq_eq_true hz0
  obtain ⟨z1, w1, e_1, hcz1⟩ := am_sa_some hc1
  obtain ⟨hz1, hc2⟩ := am_bif hcz1
  cases Nat.eq_of_beq_eq_true hz1
  obtain ⟨e_2, hc⟩ := am_st0_some hc2
  subst e_2
  subst e_1
  subst e_0
  obtain ⟨q, e1, e2⟩ := am_bi_some hc
  exact ⟨_, _, m_X1_readSetting hy N  h _ e1, e2⟩
end
section
def f_X1_readStatement (N : Nat)  (h : am_Hp) : Option (Int32 × am_Hp) :=
  am_bi (f_X7_isWord N 208 h) (fun x2 h1 =>
  (if x2 = 0 then
    am_bi (f_X7_isWord N 209 h1) (fun x4 h3 =>
    (if x4 = 0 then
      am_bi (f_X7_isWord N 210 h3) (fun x6 h5 =>
      (if x6 = 0 then
        (if (-11 : Int32) = 0 then
          am_bi (f_X7_advance N h5) (fun _ h7 =>
          (if (h7 1 3) = (3 : Int32) then
            some ((0 : Int32), h7)
          else
            some ((-11 : Int32), h7)))
        else
          some ((-11 : Int32), h5))
      else
        am_bi (f_X1_readSetting N h5) (fun x9 h8 =>
        (if x9 = 0 then
          am_bi (f_X7_advance N h8) (fun _ h10 =>
          (if (h10 1 3) = (3 : Int32) then
            some ((0 : Int32), h10)
          else
            some ((-11 : Int32), h10)))
        else
          some (x9, h8)))))
    else
      am_bi (f_X1_readDeclaration N 8 h3) (fun x12 h11 =>
      (if x12 = 0 then
        am_bi (f_X7_advance N h11) (fun _ h13 =>
        (if (h13 1 3) = (3 : Int32) then
          some ((0 : Int32), h13)
        else
          some ((-11 : Int32), h13)))
      else
        some (x12, h11)))))
  else
    am_bi (f_X1_readDeclaration N 4 h1) (fun x15 h14 =>
    (if x15 = 0 then
      am_bi (f_X7_advance N h14) (fun _ h16 =>
      (if (h16 1 3) = (3 : Int32) then
        some ((0 : Int32), h16)
      else
        some ((-11 : Int32), h16)))
    else
      some (x15, h14)))))
def c_X1_readStatement (N : Nat) : am_Cl := fun _ as h kk => am_sa as (fun z w0 => bif Nat.beq z 3 then am_sa w0 (fun z w1 => bif Nat.beq z 1 then am_st0 w1 (am_bi (f_X1_readStatement N  h) (fun v h => kk (am_oi v) h)) else none) else none)
def o_X1_readStatement (N : Nat) : am_Orc := (am_oc 46 (c_X7_isWord N) (am_oc 11 (c_X1_readDeclaration N) (am_oc 12 (c_X1_readSetting N) (am_oc 44 (c_X7_advance N) am_o0))))
set_option maxRecDepth 100000 in
theorem tok_X1_readStatement : am_tok 10 tX1_readStatement := by
  unfold am_tok
  decide +kernel
set_option maxHeartbeats 4000000 in
set_option maxRecDepth 100000 in
theorem m_X1_readStatement {l : Launch} {al : Nat → Nat} {dC : Nat → ClassId} {dI : Nat → Nat → Nat} {aC : Nat → ClassId} {aV : Nat → Nat} (hy : am_Hy l al) (N : Nat)  (h : am_Hp) (r : (Int32 × am_Hp)) (hf : f_X1_readStatement N  h = some r) : am_Met l al dC dI aC aV 10 [.ref 3, .ref 1] h (am_oi r.1) r.2 :=
  am_met (tab := tX1_readStatement) (orc := o_X1_readStatement N) (ret := am_ri) (g := r) (by decide) (by decide) hy.1 hy.2 tok_X1_readStatement (am_os1 (s_X7_isWord hy N) (am_os1 (s_X1_readDeclaration hy N) (am_os1 (s_X1_readSetting hy N) (am_os1 (s_X7_advance hy N) am_os0)))) am_ri_inv (Nat.le_of_ble_eq_true rfl) (fun At cl wk => by
    skip
    exact cl am_C0 am_c0 400 0 _ _ h hf)
theorem s_X1_readStatement {l : Launch} {al : Nat → Nat} {dC : Nat → ClassId} {dI : Nat → Nat → Nat} {aC : Nat → ClassId} {aV : Nat → Nat} (hy : am_Hy l al) (N : Nat) : am_CS l al dC dI aC aV 10 (c_X1_readStatement N) := by
  intro γ as h kk g hc0
  obtain ⟨z0, w0, e_0, hcz0⟩ := am_sa_some hc0
  obtain ⟨hz0, hc1⟩ := am_bif hcz0
  cases Nat.eq_of_beq_eq_true hz0
  obtain ⟨z1, w1, e_1, hcz1⟩ := am_sa_some hc1
  obtain ⟨hz1, hc2⟩ := am_bif hcz1
  cases Nat.eq_of_beq_eq_true hz1
  obtain ⟨e_2, hc⟩ := am_st0_some hc2
  subst e_2
  subst e_1
  subst e_0
  obtain ⟨q, e1, e2⟩ := am_bi_some hc
  exact ⟨_, _, m_X1_readStatement hy N  h _ e1, e2⟩

def l_X1_read_6 (N : Nat) : Nat → Int32 → am_Hp → Option (Int32 × am_Hp)
  | 0, _, _ => none
  | n + 1, i2, h =>
    (if (600 : Int32) ≤ i2 then
      some (i2, h)
    else
      (if (h 1 3) = 0 then
        some (i2, h)
      else
        am_bi (f_X1_readStatement N h) (fun x2 h1 =>
        (if x2 = 0 then
          am_bi (f_X7_advance N h1) (fun _ h3 =>
          l_X1_read_6 N n (i2 + (1 : Int32)) h3)
        else
          some (x2, h1)))))
def f_X1_read (N : Nat)  (h : am_Hp) : Option (Int32 × am_Hp) :=
  am_bi (f_X1_restart N h) (fun _ h1 =>
  l_X1_read_6 N N (0 : Int32) h1)
def c_X1_read (N : Nat) : am_Cl := fun _ as h kk => am_sa as (fun z w0 => bif Nat.beq z 3 then am_sa w0 (fun z w1 => bif Nat.beq z 1 then am_st0 w1 (am_bi (f_X1_read N  h) (fun v h => kk (am_oi v) h)) else none) else none)
def o_X1_read (N : Nat) : am_Orc := (am_oc 9 (c_X1_restart N) (am_oc 10 (c_X1_readStatement N) (am_oc 44 (c_X7_advance N) am_o0)))
set_option maxRecDepth 100000 in
theorem tok_X1_read : am_tok 8 tX1_read := by
  unfold am_tok
  decide +kernel
set_option maxHeartbeats 4000000 in
set_option maxRecDepth 100000 in
theorem m_X1_read {l : Launch} {al : Nat → Nat} {dC : Nat → ClassId} {dI : Nat → Nat → Nat} {aC : Nat → ClassId} {aV : Nat → Nat} (hy : am_Hy l al) (N : Nat)  (h : am_Hp) (r : (Int32 × am_Hp)) (hf : f_X1_read N  h = some r) : am_Met l al dC dI aC aV 8 [.ref 3, .ref 1] h (am_oi r.1) r.2 :=
  am_met (tab := tX1_read) (orc := o_X1_read N) (ret := am_ri) (g := r) (by decide) (by decide) hy.1 hy.2 tok_X1_read (am_os1 (s_X1_restart hy N) (am_os1 (s_X1_readStatement hy N) (am_os1 (s_X7_advance hy N) am_os0))) am_ri_inv (Nat.le_of_ble_eq_true rfl) (fun At cl wk => by
    have A6 : ∀ n : Nat, ∀ i2 : Int32, ∀ h, l_X1_read_6 N n i2 h = some r → At 6 [(0, .ref 3), (1, .ref 1), (2, .int i2)] [] h := by
      intro n
      induction n with
      | zero => intro i2 h hr; cases hr
      | succ n ih =>
        intro i2 h hr
        exact cl (am_C1 6 (fun ρ st h => am_lda ρ 0 (fun z => bif Nat.beq z 3 then am_lda ρ 1 (fun z => bif Nat.beq z 1 then am_ldi ρ 2 (fun i2 => am_st0 st (l_X1_read_6 N n i2 h)) else none) else none)) am_C0) (am_c1 (fun ρ st h hc => by
        obtain ⟨z, m_a0, hc⟩ := am_lda_some hc
        obtain ⟨hz, hc⟩ := am_bif hc
        cases Nat.eq_of_beq_eq_true hz
        obtain ⟨z, m_a1, hc⟩ := am_lda_some hc
        obtain ⟨hz, hc⟩ := am_bif hc
        cases Nat.eq_of_beq_eq_true hz
        obtain ⟨i2, m_i2, hc⟩ := am_ldi_some hc
        obtain ⟨rfl, hc⟩ := am_st0_some hc
        exact wk 6 ρ [(0, .ref 3), (1, .ref 1), (2, .int i2)] _ h (am_m1 m_a0 (am_m1 m_a1 (am_m1 m_i2 am_m0))) (ih i2 h hc)) am_c0) 400 6 _ _ h hr
    exact cl (am_C1 6 (fun ρ st h => am_lda ρ 0 (fun z => bif Nat.beq z 3 then am_lda ρ 1 (fun z => bif Nat.beq z 1 then am_ldi ρ 2 (fun i2 => am_st0 st (l_X1_read_6 N N i2 h)) else none) else none)) am_C0) (am_c1 (fun ρ st h hc => by
        obtain ⟨z, m_a0, hc⟩ := am_lda_some hc
        obtain ⟨hz, hc⟩ := am_bif hc
        cases Nat.eq_of_beq_eq_true hz
        obtain ⟨z, m_a1, hc⟩ := am_lda_some hc
        obtain ⟨hz, hc⟩ := am_bif hc
        cases Nat.eq_of_beq_eq_true hz
        obtain ⟨i2, m_i2, hc⟩ := am_ldi_some hc
        obtain ⟨rfl, hc⟩ := am_st0_some hc
        exact wk 6 ρ [(0, .ref 3), (1, .ref 1), (2, .int i2)] _ h (am_m1 m_a0 (am_m1 m_a1 (am_m1 m_i2 am_m0))) (A6 N i2 h hc)) am_c0) 400 0 _ _ h hf)
theorem s_X1_read {l : Launch} {al : Nat → Nat} {dC : Nat → ClassId} {dI : Nat → Nat → Nat} {aC : Nat → ClassId} {aV : Nat → Nat} (hy : am_Hy l al) (N : Nat) : am_CS l al dC dI aC aV 8 (c_X1_read N) := by
  intro γ as h kk g hc0
  obtain ⟨z0, w0, e_0, hcz0⟩ := am_sa_some hc0
  obtain ⟨hz0, hc1⟩ := am_bif hcz0
  cases Nat.eq_of_beq_eq_true hz0
  obtain ⟨z1, w1, e_1, hcz1⟩ := am_sa_some hc1
  obtain ⟨hz1, hc2⟩ := am_bif hcz1
  cases Nat.eq_of_beq_eq_true hz1
  obtain ⟨e_2, hc⟩ := am_st0_some hc2
  subst e_2
  subst e_1
  subst e_0
  obtain ⟨q, e1, e2⟩ := am_bi_some hc
  exact ⟨_, _, m_X1_read hy N  h _ e1, e2⟩

def f_X5_copyFrom (N : Nat) (a0 : Nat) (a1 : Nat) (h : am_Hp) : Option (Unit × am_Hp) :=
  bif am_isO a1 5 then bif am_isO a0 5 then (let h1 := am_pi h a0 0 (h a1 0)
  bif am_isO a1 5 then bif am_isO a0 5 then (let h2 := am_pi h1 a0 1 (h1 a1 1)
  bif am_isO a1 5 then bif am_isO a0 5 then (let h3 := am_pi h2 a0 2 (h2 a1 2)
  bif am_isO a1 5 then bif am_isO a0 5 then (let h4 := am_pi h3 a0 3 (h3 a1 3)
  bif am_isO a1 5 then bif am_isO a0 5 then (let h5 := am_pi h4 a0 4 (h4 a1 4)
  bif am_isO a1 5 then bif am_isO a0 5 then (let h6 := am_pi h5 a0 5 (h5 a1 5)
  bif am_isO a1 5 then bif am_isO a0 5 then (let h7 := am_pi h6 a0 6 (h6 a1 6)
  bif am_isO a1 5 then bif am_isO a0 5 then (let h8 := am_pi h7 a0 7 (h7 a1 7)
  some ((), h8)) else none else none) else none else none) else none else none) else none else none) else none else none) else none else none) else none else none) else none else none
def c_X5_copyFrom (N : Nat) : am_Cl := fun _ as h kk => am_sa as (fun a0 w0 => am_sa w0 (fun a1 w1 => am_st0 w1 (am_bi (f_X5_copyFrom N a0 a1 h) (fun v h => kk (am_ov v) h))))
def o_X5_copyFrom (N : Nat) : am_Orc := am_o0
set_option maxRecDepth 100000 in
theorem tok_X5_copyFrom : am_tok 39 tX5_copyFrom := by
  unfold am_tok
  decide +kernel
set_option maxHeartbeats 4000000 in
set_option maxRecDepth 100000 in
theorem m_X5_copyFrom {l : Launch} {al : Nat → Nat} {dC : Nat → ClassId} {dI : Nat → Nat → Nat} {aC : Nat → ClassId} {aV : Nat → Nat} (hy : am_Hy l al) (N : Nat) (a0 : Nat) (a1 : Nat) (h : am_Hp) (r : (Unit × am_Hp)) (hf : f_X5_copyFrom N a0 a1 h = some r) : am_Met l al dC dI aC aV 39 [.ref a0, .ref a1] h (am_ov r.1) r.2 :=
  am_met (tab := tX5_copyFrom) (orc := o_X5_copyFrom N) (ret := am_rv) (g := r) (by decide) (by decide) hy.1 hy.2 tok_X5_copyFrom am_os0 am_rv_inv (Nat.le_of_ble_eq_true rfl) (fun At cl wk => by
    skip
    exact cl am_C0 am_c0 400 0 _ _ h hf)
theorem s_X5_copyFrom {l : Launch} {al : Nat → Nat} {dC : Nat → ClassId} {dI : Nat → Nat → Nat} {aC : Nat → ClassId} {aV : Nat → Nat} (hy : am_Hy l al) (N : Nat) : am_CS l al dC dI aC aV 39 (c_X5_copyFrom N) := by
  intro γ as h kk g hc0
  obtain ⟨a0, w0, e_0, hc1⟩ := am_sa_some hc0
  obtain ⟨a1, w1, e_1, hc2⟩ := am_sa_some hc1
  obtain ⟨e_2, hc⟩ := am_st0_some hc2
  subst e_2
  subst e_1
  subst e_0
  obtain ⟨q, e1, e2⟩ := am_bi_some hc
  exact ⟨_, _, m_X5_copyFrom hy N a0 a1 h _ e1, e2⟩
end
section
def l_X6_copyFrom_88 (N : Nat) : Nat → Nat → Nat → Int32 → am_Hp → Option (Unit × am_Hp)
  | 0, _, _, _, _ => none
  | n + 1, a0, a1, i2, h =>
    (if (6 : Int32) ≤ i2 then
      some ((), h)
    else
      bif am_isO a0 6 then (am_G a0 4).bind (fun b1 => bif am_isA b1 && am_in i2 (am_len b1) then (am_G b1 i2.toNatClampNeg).bind (fun b2 => bif am_isO a1 6 then (am_G a1 4).bind (fun b3 => bif am_isA b3 && am_in i2 (am_len b3) then (am_G b3 i2.toNatClampNeg).bind (fun b4 => bif am_isO b2 5 then am_bi (f_X5_copyFrom N b2 b4 h) (fun _ h5 =>
      l_X6_copyFrom_88 N n a0 a1 (i2 + (1 : Int32)) h5) else none) else none) else none) else none) else none)
def l_X6_copyFrom_60 (N : Nat) : Nat → Nat → Nat → Int32 → am_Hp → Option (Unit × am_Hp)
  | 0, _, _, _, _ => none
  | n + 1, a0, a1, i2, h =>
    (if (4 : Int32) ≤ i2 then
      l_X6_copyFrom_88 N N a0 a1 (0 : Int32) h
    else
      bif am_isO a0 6 then (am_G a0 3).bind (fun b1 => bif am_isA b1 && am_in i2 (am_len b1) then (am_G b1 i2.toNatClampNeg).bind (fun b2 => bif am_isO a1 6 then (am_G a1 3).bind (fun b3 => bif am_isA b3 && am_in i2 (am_len b3) then (am_G b3 i2.toNatClampNeg).bind (fun b4 => bif am_isO b2 0 then am_bi (f_X0_copyFrom N b2 b4 h) (fun _ h5 =>
      l_X6_copyFrom_60 N n a0 a1 (i2 + (1 : Int32)) h5) else none) else none) else none) else none) else none)
def l_X6_copyFrom_35 (N : Nat) : Nat → Nat → Nat → Int32 → am_Hp → Option (Unit × am_Hp)
  | 0, _, _, _, _ => none
  | n + 1, a0, a1, i2, h =>
    (if (4 : Int32) ≤ i2 then
      l_X6_copyFrom_60 N N a0 a1 (0 : Int32) h
    else
      bif am_isO a0 6 then (am_G a0 2).bind (fun b1 => bif am_isO a1 6 then (am_G a1 2).bind (fun b2 => bif am_in i2 (am_len b2) then (bif am_isI b2 then bif am_isI b1 && am_in i2 (am_len b1) then (let h3 := am_pi h b1 i2.toNatClampNeg (h b2 i2.toNatClampNeg)
      l_X6_copyFrom_35 N n a0 a1 (i2 + (1 : Int32)) h3) else none else bif am_isF b2 then bif am_isI b1 && am_in i2 (am_len b1) then (let h4 := am_pi h b1 i2.toNatClampNeg (am_sx b2 i2.toNatClampNeg)
      l_X6_copyFrom_35 N n a0 a1 (i2 + (1 : Int32)) h4) else none else none) else none) else none) else none)
def l_X6_copyFrom_10 (N : Nat) : Nat → Nat → Nat → Int32 → am_Hp → Option (Unit × am_Hp)
  | 0, _, _, _, _ => none
  | n + 1, a0, a1, i2, h =>
    (if (2 : Int32) ≤ i2 then
      l_X6_copyFrom_35 N N a0 a1 (0 : Int32) h
    else
      bif am_isO a0 6 then (am_G a0 1).bind (fun b1 => bif am_isO a1 6 then (am_G a1 1).bind (fun b2 => bif am_in i2 (am_len b2) then (bif am_isI b2 then bif am_isI b1 && am_in i2 (am_len b1) then (let h3 := am_pi h b1 i2.toNatClampNeg (h b2 i2.toNatClampNeg)
      l_X6_copyFrom_10 N n a0 a1 (i2 + (1 : Int32)) h3) else none else bif am_isF b2 then bif am_isI b1 && am_in i2 (am_len b1) then (let h4 := am_pi h b1 i2.toNatClampNeg (am_sx b2 i2.toNatClampNeg)
      l_X6_copyFrom_10 N n a0 a1 (i2 + (1 : Int32)) h4) else none else none) else none) else none) else none)
def f_X6_copyFrom (N : Nat) (a0 : Nat) (a1 : Nat) (h : am_Hp) : Option (Unit × am_Hp) :=
  bif am_isO a1 6 then bif am_isO a0 6 then (let h1 := am_pi h a0 0 (h a1 0)
  l_X6_copyFrom_10 N N a0 a1 (0 : Int32) h1) else none else none
def c_X6_copyFrom (N : Nat) : am_Cl := fun _ as h kk => am_sa as (fun a0 w0 => am_sa w0 (fun a1 w1 => am_st0 w1 (am_bi (f_X6_copyFrom N a0 a1 h) (fun v h => kk (am_ov v) h))))
def o_X6_copyFrom (N : Nat) : am_Orc := (am_oc 7 (c_X0_copyFrom N) (am_oc 39 (c_X5_copyFrom N) am_o0))
set_option maxRecDepth 100000 in
theorem tok_X6_copyFrom : am_tok 41 tX6_copyFrom := by
  unfold am_tok
  decide +kernel
set_option maxHeartbeats 4000000 in
set_option maxRecDepth 100000 in
theorem m_X6_copyFrom {l : Launch} {al : Nat → Nat} {dC : Nat → ClassId} {dI : Nat → Nat → Nat} {aC : Nat → ClassId} {aV : Nat → Nat} (hy : am_Hy l al) (N : Nat) (a0 : Nat) (a1 : Nat) (h : am_Hp) (r : (Unit × am_Hp)) (hf : f_X6_copyFrom N a0 a1 h = some r) : am_Met l al dC dI aC aV 41 [.ref a0, .ref a1] h (am_ov r.1) r.2 :=
  am_met (tab := tX6_copyFrom) (orc := o_X6_copyFrom N) (ret := am_rv) (g := r) (by decide) (by decide) hy.1 hy.2 tok_X6_copyFrom (am_os1 (s_X0_copyFrom hy N) (am_os1 (s_X5_copyFrom hy N) am_os0)) am_rv_inv (Nat.le_of_ble_eq_true rfl) (fun At cl wk => by
    have A88 : ∀ n : Nat, ∀ a0 : Nat, ∀ a1 : Nat, ∀ i2 : Int32, ∀ h, l_X6_copyFrom_88 N n a0 a1 i2 h = some r → At 88 [(0, .ref a0), (1, .ref a1), (2, .int i2)] [] h := by
      intro n
      induction n with
      | zero => intro a0 a1 i2 h hr; cases hr
      | succ n ih =>
        intro a0 a1 i2 h hr
        exact cl (am_C1 88 (fun ρ st h => am_lda ρ 0 (fun a0 => am_lda ρ 1 (fun a1 => am_ldi ρ 2 (fun i2 => am_st0 st (l_X6_copyFrom_88 N n a0 a1 i2 h))))) am_C0) (am_c1 (fun ρ st h hc => by
        obtain ⟨a0, m_a0, hc⟩ := am_lda_some hc
        obtain ⟨a1, m_a1, hc⟩ := am_lda_some hc
        obtain ⟨i2, m_i2, hc⟩ := am_ldi_some hc
        obtain ⟨rfl, hc⟩ := am_st0_some hc
        exact wk 88 ρ [(0, .ref a0), (1, .ref a1), (2, .int i2)] _ h (am_m1 m_a0 (am_m1 m_a1 (am_m1 m_i2 am_m0))) (ih a0 a1 i2 h hc)) am_c0) 400 88 _ _ h hr
    have A60 : ∀ n : Nat, ∀ a0 : Nat, ∀ a1 : Nat, ∀ i2 : Int32, ∀ h, l_X6_copyFrom_60 N n a0 a1 i2 h = some r → At 60 [(0, .ref a0), (1, .ref a1), (2, .int i2)] [] h := by
      intro n
      induction n with
      | zero => intro a0 a1 i2 h hr; cases hr
      | succ n ih =>
        intro a0 a1 i2 h hr
        exact cl (am_C1 60 (fun ρ st h => am_lda ρ 0 (fun a0 => am_lda ρ 1 (fun a1 => am_ldi ρ 2 (fun i2 => am_st0 st (l_X6_copyFrom_60 N n a0 a1 i2 h))))) (am_C1 88 (fun ρ st h => am_lda ρ 0 (fun a0 => am_lda ρ 1 (fun a1 => am_ldi ρ 2 (fun i2 => am_st0 st (l_X6_copyFrom_88 N N a0 a1 i2 h))))) am_C0)) (am_c1 (fun ρ st h hc => by
        obtain ⟨a0, m_a0, hc⟩ := am_lda_some hc
        obtain ⟨a1, m_a1, hc⟩ := am_lda_some hc
        obtain ⟨i2, m_i2, hc⟩ := am_ldi_some hc
        obtain ⟨rfl, hc⟩ := am_st0_some hc
        exact wk 60 ρ [(0, .ref a0), (1, .ref a1), (2, .int i2)] _ h (am_m1 m_a0 (am_m1 m_a1 (am_m1 m_i2 am_m0))) (ih a0 a1 i2 h hc)) (am_c1 (fun ρ st h hc => by
        obtain ⟨a0, m_a0, hc⟩ := am_lda_some hc
        obtain ⟨a1, m_a1, hc⟩ := am_lda_some hc
        obtain ⟨i2, m_i2, hc⟩ := am_ldi_some hc
        obtain ⟨rfl, hc⟩ := am_st0_some hc
        exact wk 88 ρ [(0, .ref a0), (1, .ref a1), (2, .int i2)] _ h (am_m1 m_a0 (am_m1 m_a1 (am_m1 m_i2 am_m0))) (A88 N a0 a1 i2 h hc)) am_c0)) 400 60 _ _ h hr
    have A35 : ∀ n : Nat, ∀ a0 : Nat, ∀ a1 : Nat, ∀ i2 : Int32, ∀ h, l_X6_copyFrom_35 N n a0 a1 i2 h = some r → At 35 [(0, .ref a0), (1, .ref a1), (2, .int i2)] [] h := by
      intro n
      induction n with
      | zero => intro a0 a1 i2 h hr; cases hr
      | succ n ih =>
        intro a0 a1 i2 h hr
        exact cl (am_C1 35 (fun ρ st h => am_lda ρ 0 (fun a0 => am_lda ρ 1 (fun a1 => am_ldi ρ 2 (fun i2 => am_st0 st (l_X6_copyFrom_35 N n a0 a1 i2 h))))) (am_C1 60 (fun ρ st h => am_lda ρ 0 (fun a0 => am_lda ρ 1 (fun a1 => am_ldi ρ 2 (fun i2 => am_st0 st (l_X6_copyFrom_60 N N a0 a1 i2 h))))) am_C0)) (am_c1 (fun ρ st h hc => by
        obtain ⟨a0, m_a0, hc⟩ := am_lda_some hc
        obtain ⟨a1, m_a1, hc⟩ := am_lda_some hc
        obtain ⟨i2, m_i2, hc⟩ := am_ldi_some hc
        obtain ⟨rfl, hc⟩ := am_st0_some hc
        exact wk 35 ρ [(0, .ref a0), (1, .ref a1), (2, .int i2)] _ h (am_m1 m_a0 (am_m1 m_a1 (am_m1 m_i2 am_m0))) (ih a0 a1 i2 h hc)) (am_c1 (fun ρ st h hc => by
        obtain ⟨a0, m_a0, hc⟩ := am_lda_some hc
        obtain ⟨a1, m_a1, hc⟩ := am_lda_some hc
        obtain ⟨i2, m_i2, hc⟩ := am_ldi_some hc
        obtain ⟨rfl, hc⟩ := am_st0_some hc
        exact wk 60 ρ [(0, .ref a0), (1, .ref a1), (2, .int i2)] _ h (am_m1 m_a0 (am_m1 m_a1 (am_m1 m_i2 am_m0))) (A60 N a0 a1 i2 h hc)) am_c0)) 400 35 _ _ h hr
    have A10 : ∀ n : Nat, ∀ a0 : Nat, ∀ a1 : Nat, ∀ i2 : Int32, ∀ h, l_X6_copyFrom_10 N n a0 a1 i2 h = some r → At 10 [(0, .ref a0), (1, .ref a1), (2, .int i2)] [] h := by
      intro n
      induction n with
      | zero => intro a0 a1 i2 h hr; cases hr
      | succ n ih =>
        intro a0 a1 i2 h hr
        exact cl (am_C1 10 (fun ρ st h => am_lda ρ 0 (fun a0 => am_lda ρ 1 (fun a1 => am_ldi ρ 2 (fun i2 => am_st0 st (l_X6_copyFrom_10 N n a0 a1 i2 h))))) (am_C1 35 (fun ρ st h => am_lda ρ 0 (fun a0 => am_lda ρ 1 (fun a1 => am_ldi ρ 2 (fun i2 => am_st0 st (l_X6_copyFrom_35 N N a0 a1 i2 h))))) am_C0)) (am_c1 (fun ρ st h hc => by
        obtain ⟨a0, m_a0, hc⟩ := am_lda_some hc
        obtain ⟨a1, m_a1, hc⟩ := am_lda_some hc
        obtain ⟨i2, m_i2, hc⟩ := am_ldi_some hc
        obtain ⟨rfl, hc⟩ := am_st0_some hc
        exact wk 10 ρ [(0, .ref a0), (1, .ref a1), (2, .int i2)] _ h (am_m1 m_a0 (am_m1 m_a1 (am_m1 m_i2 am_m0))) (ih a0 a1 i2 h hc)) (am_c1 (fun ρ st h hc => by
        obtain ⟨a0, m_a0, hc⟩ := am_lda_some hc
        obtain ⟨a1, m_a1, hc⟩ := am_lda_some hc
        obtain ⟨i2, m_i2, hc⟩ := am_ldi_some hc
        obtain ⟨rfl, hc⟩ := am_st0_some hc
        exact wk 35 ρ [(0, .ref a0), (1, .ref a1), (2, .int i2)] _ h (am_m1 m_a0 (am_m1 m_a1 (am_m1 m_i2 am_m0))) (A35 N a0 a1 i2 h hc)) am_c0)) 400 10 _ _ h hr
    exact cl (am_C1 10 (fun ρ st h => am_lda ρ 0 (fun a0 => am_lda ρ 1 (fun a1 => am_ldi ρ 2 (fun i2 => am_st0 st (l_X6_copyFrom_10 N N a0 a1 i2 h))))) am_C0) (am_c1 (fun ρ st h hc => by
        obtain ⟨a0, m_a0, hc⟩ := am_lda_some hc
        obtain ⟨a1, m_a1, hc⟩ := am_lda_some hc
        obtain ⟨i2, m_i2, hc⟩ := am_ldi_some hc
        obtain ⟨rfl, hc⟩ := am_st0_some hc
        exact wk 10 ρ [(0, .ref a0), (1, .ref a1), (2, .int i2)] _ h (am_m1 m_a0 (am_m1 m_a1 (am_m1 m_i2 am_m0))) (A10 N a0 a1 i2 h hc)) am_c0) 400 0 _ _ h hf)
theorem s_X6_copyFrom {l : Launch} {al : Nat → Nat} {dC : Nat → ClassId} {dI : Nat → Nat → Nat} {aC : Nat → ClassId} {aV : Nat → Nat} (hy : am_Hy l al) (N : Nat) : am_CS l al dC dI aC aV 41 (c_X6_copyFrom N) := by
  intro γ as h kk g hc0
  obtain ⟨a0, w0, e_0, hc1⟩ := am_sa_some hc0
  obtain ⟨a1, w1, e_1, hc2⟩ := am_sa_some hc1
  obtain ⟨e_2, hc⟩ := am_st0_some hc2
  subst e_2
  subst e_1
  subst e_0
  obtain ⟨q, e1, e2⟩ := am_bi_some hc
  exact ⟨_, _, m_X6_copyFrom hy N a0 a1 h _ e1, e2⟩

def f_X2_keep (N : Nat) (a1 : Nat) (h : am_Hp) : Option (Unit × am_Hp) :=
  am_bi (f_J9_floorMod_7cf53 N (h 39 1) (8 : Int32) h) (fun x2 h1 =>
  bif am_in x2 8 then (am_G 40 x2.toNatClampNeg).bind (fun b3 => bif am_isO b3 6 then am_bi (f_X6_copyFrom N b3 a1 h1) (fun _ h4 =>
  am_bi (f_J9_floorMod_7cf53 N ((h4 39 1) + (1 : Int32)) (8 : Int32) h4) (fun x6 h5 =>
  let h7 := am_pi h5 39 1 x6
  let h8 := am_pi h7 39 2 (if (8 : Int32) < ((h7 39 2) + (1 : Int32)) then (8 : Int32) else (h7 39 2) + (1 : Int32))
  some ((), h8))) else none) else none)
def c_X2_keep (N : Nat) : am_Cl := fun _ as h kk => am_sa as (fun z w0 => bif Nat.beq z 39 then am_sa w0 (fun a1 w1 => am_st0 w1 (am_bi (f_X2_keep N a1 h) (fun v h => kk (am_ov v) h))) else none)
def o_X2_keep (N : Nat) : am_Orc := (am_oc 2 (c_J9_floorMod_7cf53 N) (am_oc 41 (c_X6_copyFrom N) am_o0))
set_option maxRecDepth 100000 in
theorem tok_X2_keep : am_tok 14 tX2_keep := by
  unfold am_tok
  decide +kernel
set_option maxHeartbeats 4000000 in
set_option maxRecDepth 100000 in
theorem m_X2_keep {l : Launch} {al : Nat → Nat} {dC : Nat → ClassId} {dI : Nat → Nat → Nat} {aC : Nat → ClassId} {aV : Nat → Nat} (hy : am_Hy l al) (N : Nat) (a1 : Nat) (h : am_Hp) (r : (Unit × am_Hp)) (hf : f_X2_keep N a1 h = some r) : am_Met l al dC dI aC aV 14 [.ref 39, .ref a1] h (am_ov r.1) r.2 :=
  am_met (tab := tX2_keep) (orc := o_X2_keep N) (ret := am_rv) (g := r) (by decide) (by decide) hy.1 hy.2 tok_X2_keep (am_os1 (s_J9_floorMod_7cf53 hy N) (am_os1 (s_X6_copyFrom hy N) am_os0)) am_rv_inv (Nat.le_of_ble_eq_true rfl) (fun At cl wk => by
    skip
    exact cl am_C0 am_c0 400 0 _ _ h hf)
theorem s_X2_keep {l : Launch} {al : Nat → Nat} {dC : Nat → ClassId} {dI : Nat → Nat → Nat} {aC : Nat → ClassId} {aV : Nat → Nat} (hy : am_Hy l al) (N : Nat) : am_CS l al dC dI aC aV 14 (c_X2_keep N) := by
  intro γ as h kk g hc0
  obtain ⟨z0, w0, e_0, hcz0⟩ := am_sa_some hc0
  obtain ⟨hz0, hc1⟩ := am_bif hcz0
  cases Nat.eq_of_beq_eq_true hz0
  obtain ⟨a1, w1, e_1, hc2⟩ := am_sa_some hc1
  obtain ⟨e_2, hc⟩ := am_st0_some hc2
  subst e_2
  subst e_1
  subst e_0
  obtain ⟨q, e1, e2⟩ := am_bi_some hc
  exact ⟨_, _, m_X2_keep hy N a1 h _ e1, e2⟩

def f_X2_forget (N : Nat)  (h : am_Hp) : Option (Unit × am_Hp) :=
  let h1 := am_pi h 39 2 (0 : Int32)
  some ((), h1)
def c_X2_forget (N : Nat) : am_Cl := fun _ as h kk => am_sa as (fun z w0 => bif Nat.beq z 39 then am_st0 w0 (am_bi (f_X2_forget N  h) (fun v h => kk (am_ov v) h)) else none)
def o_X2_forget (N : Nat) : am_Orc := am_o0
set_option maxRecDepth 100000 in
theorem tok_X2_forget : am_tok 15 tX2_forget := by
  unfold am_tok
  decide +kernel
set_option maxHeartbeats 4000000 in
set_option maxRecDepth 100000 in
theorem m_X2_forget {l : Launch} {al : Nat → Nat} {dC : Nat → ClassId} {dI : Nat → Nat → Nat} {aC : Nat → ClassId} {aV : Nat → Nat} (hy : am_Hy l al) (N : Nat)  (h : am_Hp) (r : (Unit × am_Hp)) (hf : f_X2_forget N  h = some r) : am_Met l al dC dI aC aV 15 [.ref 39] h (am_ov r.1) r.2 :=
  am_met (tab := tX2_forget) (orc := o_X2_forget N) (ret := am_rv) (g := r) (by decide) (by decide) hy.1 hy.2 tok_X2_forget am_os0 am_rv_inv (Nat.le_of_ble_eq_true rfl) (fun At cl wk => by
    skip
    exact cl am_C0 am_c0 400 0 _ _ h hf)
theorem s_X2_forget {l : Launch} {al : Nat → Nat} {dC : Nat → ClassId} {dI : Nat → Nat → Nat} {aC : Nat → ClassId} {aV : Nat → Nat} (hy : am_Hy l al) (N : Nat) : am_CS l al dC dI aC aV 15 (c_X2_forget N) := by
  intro γ as h kk g hc0
  obtain ⟨z0, w0, e_0, hcz0⟩ := am_sa_some hc0
  obtain ⟨hz0, hc1⟩ := am_bif hcz0
  cases Nat.eq_of_beq_eq_true hz0
  obtain ⟨e_1, hc⟩ := am_st0_some hc1
  subst e_1
  subst e_0
  obtain ⟨q, e1, e2⟩ := am_bi_some hc
  exact ⟨_, _, m_X2_forget hy N  h _ e1, e2⟩

def f_X3_number (N : Nat) (a0 : Nat) (i1 : Int32) (i2 : Int32) (h : am_Hp) : Option (Int32 × am_Hp) :=
  (if i1 < 0 then
    some ((0 : Int32), h)
  else
    (if (5 : Int32) ≤ i1 then
      some ((0 : Int32), h)
    else
      (if i2 < 0 then
        some ((0 : Int32), h)
      else
        (if i2 < (300 : Int32) then
          bif am_isO a0 3 then (am_G a0 0).bind (fun b1 => bif am_isA b1 && am_in i1 (am_len b1) then (am_G b1 i1.toNatClampNeg).bind (fun b2 => bif am_in i2 (am_len b2) then (bif am_isI b2 then some (h b2 i2.toNatClampNeg, h) else bif am_isF b2 then some (am_sx b2 i2.toNatClampNeg, h) else none) else none) else none) else none
        else
          some ((0 : Int32), h)))))
def c_X3_number (N : Nat) : am_Cl := fun _ as h kk => am_sa as (fun a0 w0 => am_s1 w0 (fun i1 w1 => am_s1 w1 (fun i2 w2 => am_st0 w2 (am_bi (f_X3_number N a0 i1 i2 h) (fun v h => kk (am_oi v) h)))))
def o_X3_number (N : Nat) : am_Orc := am_o0
set_option maxRecDepth 100000 in
theorem tok_X3_number : am_tok 16 tX3_number := by
  unfold am_tok
  decide +kernel
set_option maxHeartbeats 4000000 in
set_option maxRecDepth 100000 in
theorem m_X3_number {l : Launch} {al : Nat → Nat} {dC : Nat → ClassId} {dI : Nat → Nat → Nat} {aC : Nat → ClassId} {aV : Nat → Nat} (hy : am_Hy l al) (N : Nat) (a0 : Nat) (i1 : Int32) (i2 : Int32) (h : am_Hp) (r : (Int32 × am_Hp)) (hf : f_X3_number N a0 i1 i2 h = some r) : am_Met l al dC dI aC aV 16 [.ref a0, .int i1, .int i2] h (am_oi r.1) r.2 :=
  am_met (tab := tX3_number) (orc := o_X3_number N) (ret := am_ri) (g := r) (by decide) (by decide) hy.1 hy.2 tok_X3_number am_os0 am_ri_inv (Nat.le_of_ble_eq_true rfl) (fun At cl wk => by
    skip
    exact cl am_C0 am_c0 400 0 _ _ h hf)
theorem s_X3_number {l : Launch} {al : Nat → Nat} {dC : Nat → ClassId} {dI : Nat → Nat → Nat} {aC : Nat → ClassId} {aV : Nat → Nat} (hy : am_Hy l al) (N : Nat) : am_CS l al dC dI aC aV 16 (c_X3_number N) := by
  intro γ as h kk g hc0
  obtain ⟨a0, w0, e_0, hc1⟩ := am_sa_some hc0
  obtain ⟨i1, w1, e_1, hc2⟩ := am_s1_some hc1
  obtain ⟨i2, w2, e_2, hc3⟩ := am_s1_some hc2
  obtain ⟨e_3, hc⟩ := am_st0_some hc3
  subst e_3
  subst e_2
  subst e_1
  subst e_0
  obtain ⟨q, e1, e2⟩ := am_bi_some hc
  exact ⟨_, _, m_X3_number hy N a0 i1 i2 h _ e1, e2⟩

def f_X3_put (N : Nat) (a0 : Nat) (i1 : Int32) (i2 : Int32) (i3 : Int32) (i4 : Int32) (h : am_Hp) : Option (Unit × am_Hp) :=
  (if i1 < 0 then
    some ((), h)
  else
    (if (300 : Int32) ≤ i1 then
      some ((), h)
    else
      bif am_isO a0 3 then (am_G a0 0).bind (fun b1 => bif am_isA b1 && am_in (0 : Int32) (am_len b1) then (am_G b1 0).bind (fun b2 => bif am_isI b2 && am_in i1 (am_len b2) then (let h3 := am_pi h b2 i1.toNatClampNeg i2
      bif am_isO a0 3 then (am_G a0 0).bind (fun b4 => bif am_isA b4 && am_in (1 : Int32) (am_len b4) then (am_G b4 1).bind (fun b5 => bif am_isI b5 && am_in i1 (am_len b5) then (let h6 := am_pi h3 b5 i1.toNatClampNeg i3
      bif am_isO a0 3 then (am_G a0 0).bind (fun b7 => bif am_isA b7 && am_in (2 : Int32) (am_len b7) then (am_G b7 2).bind (fun b8 => bif am_isI b8 && am_in i1 (am_len b8) then (let h9 := am_pi h6 b8 i1.toNatClampNeg i4
      some ((), h9)) else none) else none) else none) else none) else none) else none) else none) else none) else none))
def c_X3_put (N : Nat) : am_Cl := fun _ as h kk => am_sa as (fun a0 w0 => am_s1 w0 (fun i1 w1 => am_s1 w1 (fun i2 w2 => am_s1 w2 (fun i3 w3 => am_s1 w3 (fun i4 w4 => am_st0 w4 (am_bi (f_X3_put N a0 i1 i2 i3 i4 h) (fun v h => kk (am_ov v) h)))))))
def o_X3_put (N : Nat) : am_Orc := am_o0
set_option maxRecDepth 100000 in
theorem tok_X3_put : am_tok 20 tX3_put := by
  unfold am_tok
  decide +kernel
set_option maxHeartbeats 4000000 in
set_option maxRecDepth 100000 in
theorem m_X3_put {l : Launch} {al : Nat → Nat} {dC : Nat → ClassId} {dI : Nat → Nat → Nat} {aC : Nat → ClassId} {aV : Nat → Nat} (hy : am_Hy l al) (N : Nat) (a0 : Nat) (i1 : Int32) (i2 : Int32) (i3 : Int32) (i4 : Int32) (h : am_Hp) (r : (Unit × am_Hp)) (hf : f_X3_put N a0 i1 i2 i3 i4 h = some r) : am_Met l al dC dI aC aV 20 [.ref a0, .int i1, .int i2, .int i3, .int i4] h (am_ov r.1) r.2 :=
  am_met (tab := tX3_put) (orc := o_X3_put N) (ret := am_rv) (g := r) (by decide) (by decide) hy.1 hy.2 tok_X3_put am_os0 am_rv_inv (Nat.le_of_ble_eq_true rfl) (fun At cl wk => by
    skip
    exact cl am_C0 am_c0 400 0 _ _ h hf)
theorem s_X3_put {l : Launch} {al : Nat → Nat} {dC : Nat → ClassId} {dI : Nat → Nat → Nat} {aC : Nat → ClassId} {aV : Nat → Nat} (hy : am_Hy l al) (N : Nat) : am_CS l al dC dI aC aV 20 (c_X3_put N) := by
  intro γ as h kk g hc0
  obtain ⟨a0, w0, e_0, hc1⟩ := am_sa_some hc0
  obtain ⟨i1, w1, e_1, hc2⟩ := am_s1_some hc1
  obtain ⟨i2, w2, e_2, hc3⟩ := am_s1_some hc2
  obtain ⟨i3, w3, e_3, hc4⟩ := am_s1_some hc3
  obtain ⟨i4, w4, e_4, hc5⟩ := am_s1_some hc4
  obtain ⟨e_5, hc⟩ := am_st0_some hc5
  subst e_5
  subst e_4
  subst e_3
  subst e_2
  subst e_1
  subst e_0
  obtain ⟨q, e1, e2⟩ := am_bi_some hc
  exact ⟨_, _, m_X3_put hy N a0 i1 i2 i3 i4 h _ e1, e2⟩

def f_X3_putOrigin (N : Nat) (a0 : Nat) (i1 : Int32) (i2 : Int32) (i3 : Int32) (h : am_Hp) : Option (Unit × am_Hp) :=
  (if i1 < 0 then
    some ((), h)
  else
    (if (300 : Int32) ≤ i1 then
      some ((), h)
    else
      bif am_isO a0 3 then (am_G a0 0).bind (fun b1 => bif am_isA b1 && am_in (3 : Int32) (am_len b1) then (am_G b1 3).bind (fun b2 => bif am_isI b2 && am_in i1 (am_len b2) then (let h3 := am_pi h b2 i1.toNatClampNeg i2
      bif am_isO a0 3 then (am_G a0 0).bind (fun b4 => bif am_isA b4 && am_in (4 : Int32) (am_len b4) then (am_G b4 4).bind (fun b5 => bif am_isI b5 && am_in i1 (am_len b5) then (let h6 := am_pi h3 b5 i1.toNatClampNeg i3
      some ((), h6)) else none) else none) else none) else none) else none) else none))
def c_X3_putOrigin (N : Nat) : am_Cl := fun _ as h kk => am_sa as (fun a0 w0 => am_s1 w0 (fun i1 w1 => am_s1 w1 (fun i2 w2 => am_s1 w2 (fun i3 w3 => am_st0 w3 (am_bi (f_X3_putOrigin N a0 i1 i2 i3 h) (fun v h => kk (am_ov v) h))))))
def o_X3_putOrigin (N : Nat) : am_Orc := am_o0
set_option maxRecDepth 100000 in
theorem tok_X3_putOrigin : am_tok 21 tX3_putOrigin := by
  unfold am_tok
  decide +kernel
set_option maxHeartbeats 4000000 in
set_option maxRecDepth 100000 in
theorem m_X3_putOrigin {l : Launch} {al : Nat → Nat} {dC : Nat → ClassId} {dI : Nat → Nat → Nat} {aC : Nat → ClassId} {aV : Nat → Nat} (hy : am_Hy l al) (N : Nat) (a0 : Nat) (i1 : Int32) (i2 : Int32) (i3 : Int32) (h : am_Hp) (r : (Unit × am_Hp)) (hf : f_X3_putOrigin N a0 i1 i2 i3 h = some r) : am_Met l al dC dI aC aV 21 [.ref a0, .int i1, .int i2, .int i3] h (am_ov r.1) r.2 :=
  am_met (tab := tX3_putOrigin) (orc := o_X3_putOrigin N) (ret := am_rv) (g := r) (by decide) (by decide) hy.1 hy.2 tok_X3_putOrigin am_os0 am_rv_inv (Nat.le_of_ble_eq_true rfl) (fun At cl wk => by
    skip
    exact cl am_C0 am_c0 400 0 _ _ h hf)
theorem s_X3_putOrigin {l : Launch} {al : Nat → Nat} {dC : Nat → ClassId} {dI : Nat → Nat → Nat} {aC : Nat → ClassId} {aV : Nat → Nat} (hy : am_Hy l al) (N : Nat) : am_CS l al dC dI aC aV 21 (c_X3_putOrigin N) := by
  intro γ as h kk g hc0
  obtain ⟨a0, w0, e_0, hc1⟩ := am_sa_some hc0
  obtain ⟨i1, w1, e_1, hc2⟩ := am_s1_some hc1
  obtain ⟨i2, w2, e_2, hc3⟩ := am_s1_some hc2
  obtain ⟨i3, w3, e_3, hc4⟩ := am_s1_some hc3
  obtain ⟨e_4, hc⟩ := am_st0_some hc4
  subst e_4
  subst e_3
  subst e_2
  subst e_1
  subst e_0
  obtain ⟨q, e1, e2⟩ := am_bi_some hc
  exact ⟨_, _, m_X3_putOrigin hy N a0 i1 i2 i3 h _ e1, e2⟩
end
