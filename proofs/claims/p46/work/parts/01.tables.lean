-- ===== PART A: goes FIRST, ahead of the names: the tables' words, and 'selects' of the private methods out of them =====
/-- a private method of a class that the tables say can be made, by its rows of tables_1 -/
def lw_okq (q : MethodName × Nat) : Prop := (q.1.cls ≠ "java/lang/invoke/MethodHandle" ∧ q.1.cls ≠ "java/lang/invoke/VarHandle") ∧ Cond.instantiable q.1.cls q.2 ∈ tables_1 ∧ Cond.privateMethod q.1 ∈ tables_1 ∧ Cond.instanceMethod q.1 ∈ tables_1
theorem lw_p0 : lw_okq (⟨"SharedConsole", "usersWhoWatch", "()I"⟩, 12) := ⟨⟨by decide +kernel, by decide +kernel⟩, List.mem_of_getElem? (i := 34) (by decide +kernel), List.mem_of_getElem? (i := 32) (by decide +kernel), List.mem_of_getElem? (i := 33) (by decide +kernel)⟩
theorem lw_p1 : lw_okq (⟨"SharedConsole", "seatOf", "(I)LSharedConsole$Seat;"⟩, 12) := ⟨⟨by decide +kernel, by decide +kernel⟩, List.mem_of_getElem? (i := 34) (by decide +kernel), List.mem_of_getElem? (i := 37) (by decide +kernel), List.mem_of_getElem? (i := 38) (by decide +kernel)⟩
theorem lw_p2 : lw_okq (⟨"java/lang/Throwable", "fillInStackTrace", "(I)Ljava/lang/Throwable;"⟩, 6) := ⟨⟨by decide +kernel, by decide +kernel⟩, List.mem_of_getElem? (i := 83) (by decide +kernel), List.mem_of_getElem? (i := 81) (by decide +kernel), List.mem_of_getElem? (i := 82) (by decide +kernel)⟩
theorem lw_p3 : lw_okq (⟨"SharedConsole", "deskOf", "(I)LSharedConsole$Desk;"⟩, 12) := ⟨⟨by decide +kernel, by decide +kernel⟩, List.mem_of_getElem? (i := 34) (by decide +kernel), List.mem_of_getElem? (i := 112) (by decide +kernel), List.mem_of_getElem? (i := 113) (by decide +kernel)⟩
theorem lw_p4 : lw_okq (⟨"SharedConsole$Text", "byteAt", "(I)I"⟩, 6) := ⟨⟨by decide +kernel, by decide +kernel⟩, List.mem_of_getElem? (i := 136) (by decide +kernel), List.mem_of_getElem? (i := 733) (by decide +kernel), List.mem_of_getElem? (i := 734) (by decide +kernel)⟩
theorem lw_p5 : lw_okq (⟨"SharedConsole$Draft", "restart", "()V"⟩, 4) := ⟨⟨by decide +kernel, by decide +kernel⟩, List.mem_of_getElem? (i := 165) (by decide +kernel), List.mem_of_getElem? (i := 744) (by decide +kernel), List.mem_of_getElem? (i := 745) (by decide +kernel)⟩
theorem lw_p6 : lw_okq (⟨"SharedConsole$Draft", "readStatement", "(LSharedConsole$Text;)I"⟩, 4) := ⟨⟨by decide +kernel, by decide +kernel⟩, List.mem_of_getElem? (i := 165) (by decide +kernel), List.mem_of_getElem? (i := 749) (by decide +kernel), List.mem_of_getElem? (i := 750) (by decide +kernel)⟩
theorem lw_p7 : lw_okq (⟨"SharedConsole$Draft", "readDeclaration", "(LSharedConsole$Text;LSharedConsole$Things;)I"⟩, 4) := ⟨⟨by decide +kernel, by decide +kernel⟩, List.mem_of_getElem? (i := 165) (by decide +kernel), List.mem_of_getElem? (i := 764) (by decide +kernel), List.mem_of_getElem? (i := 765) (by decide +kernel)⟩
theorem lw_p8 : lw_okq (⟨"SharedConsole$Draft", "readNumber", "(LSharedConsole$Text;II)I"⟩, 4) := ⟨⟨by decide +kernel, by decide +kernel⟩, List.mem_of_getElem? (i := 165) (by decide +kernel), List.mem_of_getElem? (i := 782) (by decide +kernel), List.mem_of_getElem? (i := 783) (by decide +kernel)⟩
theorem lw_p9 : lw_okq (⟨"SharedConsole$Draft", "readSetting", "(LSharedConsole$Text;)I"⟩, 4) := ⟨⟨by decide +kernel, by decide +kernel⟩, List.mem_of_getElem? (i := 165) (by decide +kernel), List.mem_of_getElem? (i := 798) (by decide +kernel), List.mem_of_getElem? (i := 799) (by decide +kernel)⟩
theorem lw_p10 : lw_okq (⟨"SharedConsole", "positionOf", "(LSharedConsole$Seat;)I"⟩, 12) := ⟨⟨by decide +kernel, by decide +kernel⟩, List.mem_of_getElem? (i := 34) (by decide +kernel), List.mem_of_getElem? (i := 840) (by decide +kernel), List.mem_of_getElem? (i := 841) (by decide +kernel)⟩
theorem lw_p11 : lw_okq (⟨"SharedConsole", "recordingOf", "(I)LSharedConsole$Recording;"⟩, 12) := ⟨⟨by decide +kernel, by decide +kernel⟩, List.mem_of_getElem? (i := 34) (by decide +kernel), List.mem_of_getElem? (i := 844) (by decide +kernel), List.mem_of_getElem? (i := 845) (by decide +kernel)⟩
theorem lw_p12 : lw_okq (⟨"SharedConsole", "loseControl", "(ILSharedConsole$Seat;)V"⟩, 12) := ⟨⟨by decide +kernel, by decide +kernel⟩, List.mem_of_getElem? (i := 34) (by decide +kernel), List.mem_of_getElem? (i := 880) (by decide +kernel), List.mem_of_getElem? (i := 881) (by decide +kernel)⟩
theorem lw_p13 : lw_okq (⟨"SharedConsole", "recordRightSizes", "()V"⟩, 12) := ⟨⟨by decide +kernel, by decide +kernel⟩, List.mem_of_getElem? (i := 34) (by decide +kernel), List.mem_of_getElem? (i := 888) (by decide +kernel), List.mem_of_getElem? (i := 889) (by decide +kernel)⟩
theorem lw_p14 : lw_okq (⟨"SharedConsole", "sizeThatIsRight", "(IZ)I"⟩, 12) := ⟨⟨by decide +kernel, by decide +kernel⟩, List.mem_of_getElem? (i := 34) (by decide +kernel), List.mem_of_getElem? (i := 892) (by decide +kernel), List.mem_of_getElem? (i := 893) (by decide +kernel)⟩
theorem lw_p15 : lw_okq (⟨"SharedConsole", "userWithLeastWindow", "(IZ)I"⟩, 12) := ⟨⟨by decide +kernel, by decide +kernel⟩, List.mem_of_getElem? (i := 34) (by decide +kernel), List.mem_of_getElem? (i := 896) (by decide +kernel), List.mem_of_getElem? (i := 897) (by decide +kernel)⟩
def lw_privs_1 : List (MethodName × Nat) := [(⟨"SharedConsole", "usersWhoWatch", "()I"⟩, 12), (⟨"SharedConsole", "seatOf", "(I)LSharedConsole$Seat;"⟩, 12), (⟨"java/lang/Throwable", "fillInStackTrace", "(I)Ljava/lang/Throwable;"⟩, 6), (⟨"SharedConsole", "deskOf", "(I)LSharedConsole$Desk;"⟩, 12), (⟨"SharedConsole$Text", "byteAt", "(I)I"⟩, 6), (⟨"SharedConsole$Draft", "restart", "()V"⟩, 4), (⟨"SharedConsole$Draft", "readStatement", "(LSharedConsole$Text;)I"⟩, 4), (⟨"SharedConsole$Draft", "readDeclaration", "(LSharedConsole$Text;LSharedConsole$Things;)I"⟩, 4), (⟨"SharedConsole$Draft", "readNumber", "(LSharedConsole$Text;II)I"⟩, 4), (⟨"SharedConsole$Draft", "readSetting", "(LSharedConsole$Text;)I"⟩, 4), (⟨"SharedConsole", "positionOf", "(LSharedConsole$Seat;)I"⟩, 12), (⟨"SharedConsole", "recordingOf", "(I)LSharedConsole$Recording;"⟩, 12), (⟨"SharedConsole", "loseControl", "(ILSharedConsole$Seat;)V"⟩, 12), (⟨"SharedConsole", "recordRightSizes", "()V"⟩, 12), (⟨"SharedConsole", "sizeThatIsRight", "(IZ)I"⟩, 12), (⟨"SharedConsole", "userWithLeastWindow", "(IZ)I"⟩, 12)]
theorem lw_r1 : ∀ q ∈ lw_privs_1, lw_okq q := List.forall_mem_cons.mpr ⟨lw_p0, List.forall_mem_cons.mpr ⟨lw_p1, List.forall_mem_cons.mpr ⟨lw_p2, List.forall_mem_cons.mpr ⟨lw_p3, List.forall_mem_cons.mpr ⟨lw_p4, List.forall_mem_cons.mpr ⟨lw_p5, List.forall_mem_cons.mpr ⟨lw_p6, List.forall_mem_cons.mpr ⟨lw_p7, List.forall_mem_cons.mpr ⟨lw_p8, List.forall_mem_cons.mpr ⟨lw_p9, List.forall_mem_cons.mpr ⟨lw_p10, List.forall_mem_cons.mpr ⟨lw_p11, List.forall_mem_cons.mpr ⟨lw_p12, List.forall_mem_cons.mpr ⟨lw_p13, List.forall_mem_cons.mpr ⟨lw_p14, List.forall_mem_cons.mpr ⟨lw_p15, fun _ h => absurd h List.not_mem_nil⟩⟩⟩⟩⟩⟩⟩⟩⟩⟩⟩⟩⟩⟩⟩⟩
theorem lw_p16 : lw_okq (⟨"SharedConsole", "lastSize", "(IZ)I"⟩, 12) := ⟨⟨by decide +kernel, by decide +kernel⟩, List.mem_of_getElem? (i := 34) (by decide +kernel), List.mem_of_getElem? (i := 908) (by decide +kernel), List.mem_of_getElem? (i := 909) (by decide +kernel)⟩
theorem lw_p17 : lw_okq (⟨"SharedConsole$Recording", "put", "(IIII)V"⟩, 1) := ⟨⟨by decide +kernel, by decide +kernel⟩, List.mem_of_getElem? (i := 360) (by decide +kernel), List.mem_of_getElem? (i := 917) (by decide +kernel), List.mem_of_getElem? (i := 918) (by decide +kernel)⟩
theorem lw_p18 : lw_okq (⟨"SharedConsole$Recording", "putOrigin", "(III)V"⟩, 1) := ⟨⟨by decide +kernel, by decide +kernel⟩, List.mem_of_getElem? (i := 360) (by decide +kernel), List.mem_of_getElem? (i := 921) (by decide +kernel), List.mem_of_getElem? (i := 922) (by decide +kernel)⟩
theorem lw_p19 : lw_okq (⟨"SharedConsole", "usersWhoWatchSession", "(I)I"⟩, 12) := ⟨⟨by decide +kernel, by decide +kernel⟩, List.mem_of_getElem? (i := 34) (by decide +kernel), List.mem_of_getElem? (i := 925) (by decide +kernel), List.mem_of_getElem? (i := 926) (by decide +kernel)⟩
theorem lw_p20 : lw_okq (⟨"SharedConsole", "reasonNotToType", "(ILSharedConsole$Seat;)I"⟩, 12) := ⟨⟨by decide +kernel, by decide +kernel⟩, List.mem_of_getElem? (i := 34) (by decide +kernel), List.mem_of_getElem? (i := 946) (by decide +kernel), List.mem_of_getElem? (i := 947) (by decide +kernel)⟩
theorem lw_p21 : lw_okq (⟨"SharedConsole", "controlsItsSession", "(ILSharedConsole$Seat;)Z"⟩, 12) := ⟨⟨by decide +kernel, by decide +kernel⟩, List.mem_of_getElem? (i := 34) (by decide +kernel), List.mem_of_getElem? (i := 958) (by decide +kernel), List.mem_of_getElem? (i := 959) (by decide +kernel)⟩
theorem lw_p22 : lw_okq (⟨"SharedConsole", "whyNotAWatcher", "(I)I"⟩, 12) := ⟨⟨by decide +kernel, by decide +kernel⟩, List.mem_of_getElem? (i := 34) (by decide +kernel), List.mem_of_getElem? (i := 970) (by decide +kernel), List.mem_of_getElem? (i := 971) (by decide +kernel)⟩
theorem lw_p23 : lw_okq (⟨"SharedConsole", "grantOldRequests", "()I"⟩, 12) := ⟨⟨by decide +kernel, by decide +kernel⟩, List.mem_of_getElem? (i := 34) (by decide +kernel), List.mem_of_getElem? (i := 1004) (by decide +kernel), List.mem_of_getElem? (i := 1005) (by decide +kernel)⟩
theorem lw_p24 : lw_okq (⟨"SharedConsoleLaw$Screen", "blank", "(I)V"⟩, 6) := ⟨⟨by decide +kernel, by decide +kernel⟩, List.mem_of_getElem? (i := 1014) (by decide +kernel), List.mem_of_getElem? (i := 1046) (by decide +kernel), List.mem_of_getElem? (i := 1047) (by decide +kernel)⟩
theorem lw_p25 : lw_okq (⟨"SharedConsoleLaw$Screen", "typed", "(I)V"⟩, 6) := ⟨⟨by decide +kernel, by decide +kernel⟩, List.mem_of_getElem? (i := 1014) (by decide +kernel), List.mem_of_getElem? (i := 1055) (by decide +kernel), List.mem_of_getElem? (i := 1056) (by decide +kernel)⟩
theorem lw_p26 : lw_okq (⟨"SharedConsoleLaw$Screen", "down", "()V"⟩, 6) := ⟨⟨by decide +kernel, by decide +kernel⟩, List.mem_of_getElem? (i := 1014) (by decide +kernel), List.mem_of_getElem? (i := 1059) (by decide +kernel), List.mem_of_getElem? (i := 1060) (by decide +kernel)⟩
theorem lw_p27 : lw_okq (⟨"SharedConsoleLaw$Screen", "up", "()V"⟩, 6) := ⟨⟨by decide +kernel, by decide +kernel⟩, List.mem_of_getElem? (i := 1014) (by decide +kernel), List.mem_of_getElem? (i := 1063) (by decide +kernel), List.mem_of_getElem? (i := 1064) (by decide +kernel)⟩
theorem lw_p28 : lw_okq (⟨"SharedConsoleLaw$Screen", "row", "()[I"⟩, 6) := ⟨⟨by decide +kernel, by decide +kernel⟩, List.mem_of_getElem? (i := 1014) (by decide +kernel), List.mem_of_getElem? (i := 1067) (by decide +kernel), List.mem_of_getElem? (i := 1068) (by decide +kernel)⟩
theorem lw_p29 : lw_okq (⟨"SharedConsoleLaw$Screen", "sized", "(II)V"⟩, 6) := ⟨⟨by decide +kernel, by decide +kernel⟩, List.mem_of_getElem? (i := 1014) (by decide +kernel), List.mem_of_getElem? (i := 1072) (by decide +kernel), List.mem_of_getElem? (i := 1073) (by decide +kernel)⟩
theorem lw_p30 : lw_okq (⟨"SharedConsole", "draw", "(LSharedConsole$Screen;II)V"⟩, 12) := ⟨⟨by decide +kernel, by decide +kernel⟩, List.mem_of_getElem? (i := 34) (by decide +kernel), List.mem_of_getElem? (i := 1080) (by decide +kernel), List.mem_of_getElem? (i := 1081) (by decide +kernel)⟩
theorem lw_p31 : lw_okq (⟨"SharedConsole$Screen", "addRow", "()V"⟩, 7) := ⟨⟨by decide +kernel, by decide +kernel⟩, List.mem_of_getElem? (i := 328) (by decide +kernel), List.mem_of_getElem? (i := 1088) (by decide +kernel), List.mem_of_getElem? (i := 1089) (by decide +kernel)⟩
def lw_privs_2 : List (MethodName × Nat) := [(⟨"SharedConsole", "lastSize", "(IZ)I"⟩, 12), (⟨"SharedConsole$Recording", "put", "(IIII)V"⟩, 1), (⟨"SharedConsole$Recording", "putOrigin", "(III)V"⟩, 1), (⟨"SharedConsole", "usersWhoWatchSession", "(I)I"⟩, 12), (⟨"SharedConsole", "reasonNotToType", "(ILSharedConsole$Seat;)I"⟩, 12), (⟨"SharedConsole", "controlsItsSession", "(ILSharedConsole$Seat;)Z"⟩, 12), (⟨"SharedConsole", "whyNotAWatcher", "(I)I"⟩, 12), (⟨"SharedConsole", "grantOldRequests", "()I"⟩, 12), (⟨"SharedConsoleLaw$Screen", "blank", "(I)V"⟩, 6), (⟨"SharedConsoleLaw$Screen", "typed", "(I)V"⟩, 6), (⟨"SharedConsoleLaw$Screen", "down", "()V"⟩, 6), (⟨"SharedConsoleLaw$Screen", "up", "()V"⟩, 6), (⟨"SharedConsoleLaw$Screen", "row", "()[I"⟩, 6), (⟨"SharedConsoleLaw$Screen", "sized", "(II)V"⟩, 6), (⟨"SharedConsole", "draw", "(LSharedConsole$Screen;II)V"⟩, 12), (⟨"SharedConsole$Screen", "addRow", "()V"⟩, 7)]
theorem lw_r2 : ∀ q ∈ lw_privs_2, lw_okq q := List.forall_mem_cons.mpr ⟨lw_p16, List.forall_mem_cons.mpr ⟨lw_p17, List.forall_mem_cons.mpr ⟨lw_p18, List.forall_mem_cons.mpr ⟨lw_p19, List.forall_mem_cons.mpr ⟨lw_p20, List.forall_mem_cons.mpr ⟨lw_p21, List.forall_mem_cons.mpr ⟨lw_p22, List.forall_mem_cons.mpr ⟨lw_p23, List.forall_mem_cons.mpr ⟨lw_p24, List.forall_mem_cons.mpr ⟨lw_p25, List.forall_mem_cons.mpr ⟨lw_p26, List.forall_mem_cons.mpr ⟨lw_p27, List.forall_mem_cons.mpr ⟨lw_p28, List.forall_mem_cons.mpr ⟨lw_p29, List.forall_mem_cons.mpr ⟨lw_p30, List.forall_mem_cons.mpr ⟨lw_p31, fun _ h => absurd h List.not_mem_nil⟩⟩⟩⟩⟩⟩⟩⟩⟩⟩⟩⟩⟩⟩⟩⟩
theorem lw_p32 : lw_okq (⟨"SharedConsole$Screen", "emptyFrom", "(II)V"⟩, 7) := ⟨⟨by decide +kernel, by decide +kernel⟩, List.mem_of_getElem? (i := 328) (by decide +kernel), List.mem_of_getElem? (i := 1092) (by decide +kernel), List.mem_of_getElem? (i := 1093) (by decide +kernel)⟩
theorem lw_p33 : lw_okq (⟨"SharedConsole$Screen", "startOf", "(I)I"⟩, 7) := ⟨⟨by decide +kernel, by decide +kernel⟩, List.mem_of_getElem? (i := 328) (by decide +kernel), List.mem_of_getElem? (i := 1096) (by decide +kernel), List.mem_of_getElem? (i := 1097) (by decide +kernel)⟩
theorem lw_p34 : lw_okq (⟨"SharedConsole$Screen", "resize", "(II)V"⟩, 7) := ⟨⟨by decide +kernel, by decide +kernel⟩, List.mem_of_getElem? (i := 328) (by decide +kernel), List.mem_of_getElem? (i := 1107) (by decide +kernel), List.mem_of_getElem? (i := 1108) (by decide +kernel)⟩
theorem lw_p35 : lw_okq (⟨"SharedConsole$Screen", "sendUppermostRowUp", "()V"⟩, 7) := ⟨⟨by decide +kernel, by decide +kernel⟩, List.mem_of_getElem? (i := 328) (by decide +kernel), List.mem_of_getElem? (i := 1112) (by decide +kernel), List.mem_of_getElem? (i := 1113) (by decide +kernel)⟩
theorem lw_p36 : lw_okq (⟨"SharedConsole$Screen", "goDown", "()V"⟩, 7) := ⟨⟨by decide +kernel, by decide +kernel⟩, List.mem_of_getElem? (i := 328) (by decide +kernel), List.mem_of_getElem? (i := 1116) (by decide +kernel), List.mem_of_getElem? (i := 1117) (by decide +kernel)⟩
theorem lw_p37 : lw_okq (⟨"SharedConsole$Screen", "clear", "()V"⟩, 7) := ⟨⟨by decide +kernel, by decide +kernel⟩, List.mem_of_getElem? (i := 328) (by decide +kernel), List.mem_of_getElem? (i := 1120) (by decide +kernel), List.mem_of_getElem? (i := 1121) (by decide +kernel)⟩
theorem lw_p38 : lw_okq (⟨"SharedConsole$Screen", "put", "(I)V"⟩, 7) := ⟨⟨by decide +kernel, by decide +kernel⟩, List.mem_of_getElem? (i := 328) (by decide +kernel), List.mem_of_getElem? (i := 1124) (by decide +kernel), List.mem_of_getElem? (i := 1125) (by decide +kernel)⟩
theorem lw_p39 : lw_okq (⟨"SharedConsole", "uppermostLine", "(LSharedConsole$Seat;)I"⟩, 12) := ⟨⟨by decide +kernel, by decide +kernel⟩, List.mem_of_getElem? (i := 34) (by decide +kernel), List.mem_of_getElem? (i := 1165) (by decide +kernel), List.mem_of_getElem? (i := 1166) (by decide +kernel)⟩
theorem lw_p40 : lw_okq (⟨"SharedConsole", "putOut", "(I)V"⟩, 12) := ⟨⟨by decide +kernel, by decide +kernel⟩, List.mem_of_getElem? (i := 34) (by decide +kernel), List.mem_of_getElem? (i := 1182) (by decide +kernel), List.mem_of_getElem? (i := 1183) (by decide +kernel)⟩
def lw_privs_3 : List (MethodName × Nat) := [(⟨"SharedConsole$Screen", "emptyFrom", "(II)V"⟩, 7), (⟨"SharedConsole$Screen", "startOf", "(I)I"⟩, 7), (⟨"SharedConsole$Screen", "resize", "(II)V"⟩, 7), (⟨"SharedConsole$Screen", "sendUppermostRowUp", "()V"⟩, 7), (⟨"SharedConsole$Screen", "goDown", "()V"⟩, 7), (⟨"SharedConsole$Screen", "clear", "()V"⟩, 7), (⟨"SharedConsole$Screen", "put", "(I)V"⟩, 7), (⟨"SharedConsole", "uppermostLine", "(LSharedConsole$Seat;)I"⟩, 12), (⟨"SharedConsole", "putOut", "(I)V"⟩, 12)]
theorem lw_r3 : ∀ q ∈ lw_privs_3, lw_okq q := List.forall_mem_cons.mpr ⟨lw_p32, List.forall_mem_cons.mpr ⟨lw_p33, List.forall_mem_cons.mpr ⟨lw_p34, List.forall_mem_cons.mpr ⟨lw_p35, List.forall_mem_cons.mpr ⟨lw_p36, List.forall_mem_cons.mpr ⟨lw_p37, List.forall_mem_cons.mpr ⟨lw_p38, List.forall_mem_cons.mpr ⟨lw_p39, List.forall_mem_cons.mpr ⟨lw_p40, fun _ h => absurd h List.not_mem_nil⟩⟩⟩⟩⟩⟩⟩⟩⟩
def lw_privs : List (MethodName × Nat) := lw_privs_1 ++ (lw_privs_2 ++ (lw_privs_3))
def lw_tbl : List Cond := k2_sels lw_privs ++ tables_1
theorem lw_privs_ok : ∀ q ∈ lw_privs, lw_okq q := by
  show ∀ q ∈ lw_privs_1 ++ (lw_privs_2 ++ (lw_privs_3)), lw_okq q
  exact List.forall_mem_append.mpr ⟨lw_r1, List.forall_mem_append.mpr ⟨lw_r2, lw_r3⟩⟩
/-- the streams that the claim lets the run draw from -/
abbrev lw_cs : List Choice := [Jvm.Choice.named "NaN.bits"]
theorem lw_bits : nanBits ∈ lw_cs := by first | decide | exact List.mem_cons_self | simp [lw_cs, nanBits]
-- ===== names of the program (from NAMES.whole) =====
def RX0 : String := "SharedConsole$Desk"
def TX0 : u_T := fun k => match k with
  | 0 => ("SharedConsole$Desk", "events", "I", false)
  | 1 => ("SharedConsole$Desk", "holder", "I", false)
  | 2 => ("SharedConsole$Desk", "asker", "I", false)
  | _ => ("SharedConsole$Desk", "askedAt", "I", false)
def tyX0 : Nat → FieldType := fun k => match k with
  | 0 => .int
  | 1 => .int
  | 2 => .int
  | _ => .int
theorem nmX0 : ∀ a, a < 4 → ∀ b, b < 4 → a ≠ b → (TX0 a).2.1 ≠ (TX0 b).2.1 := by decide +kernel
theorem tyX0_ok : ∀ k, k < 4 → parseFieldDescriptor (TX0 k).2.2.1 = some (tyX0 k) := by decide +kernel
def RX1 : String := "SharedConsole$Draft"
def TX1 : u_T := fun k => match k with
  | 0 => ("SharedConsole$Draft", "sessions", "LSharedConsole$Things;", true)
  | 1 => ("SharedConsole$Draft", "users", "LSharedConsole$Things;", true)
  | 2 => ("SharedConsole$Draft", "settings", "[I", true)
  | _ => ("SharedConsole$Draft", "given", "[Z", true)
def tyX1 : Nat → FieldType := fun k => match k with
  | 0 => .object "SharedConsole$Things"
  | 1 => .object "SharedConsole$Things"
  | 2 => .array .int
  | _ => .array .boolean
theorem nmX1 : ∀ a, a < 4 → ∀ b, b < 4 → a ≠ b → (TX1 a).2.1 ≠ (TX1 b).2.1 := by decide +kernel
theorem tyX1_ok : ∀ k, k < 4 → parseFieldDescriptor (TX1 k).2.2.1 = some (tyX1 k) := by decide +kernel
def RX2 : String := "SharedConsole$History"
def TX2 : u_T := fun k => match k with
  | 0 => ("SharedConsole$History", "states", "[LSharedConsole$State;", true)
  | 1 => ("SharedConsole$History", "next", "I", false)
  | _ => ("SharedConsole$History", "count", "I", false)
def tyX2 : Nat → FieldType := fun k => match k with
  | 0 => .array (.object "SharedConsole$State")
  | 1 => .int
  | _ => .int
theorem nmX2 : ∀ a, a < 3 → ∀ b, b < 3 → a ≠ b → (TX2 a).2.1 ≠ (TX2 b).2.1 := by decide +kernel
theorem tyX2_ok : ∀ k, k < 3 → parseFieldDescriptor (TX2 k).2.2.1 = some (tyX2 k) := by decide +kernel
def RX3 : String := "SharedConsole$Recording"
def TX3 : u_T := fun k => match k with
  | _ => ("SharedConsole$Recording", "numbers", "[[I", true)
def tyX3 : Nat → FieldType := fun k => match k with
  | _ => .array (.array .int)
theorem nmX3 : ∀ a, a < 1 → ∀ b, b < 1 → a ≠ b → (TX3 a).2.1 ≠ (TX3 b).2.1 := by decide +kernel
theorem tyX3_ok : ∀ k, k < 1 → parseFieldDescriptor (TX3 k).2.2.1 = some (tyX3 k) := by decide +kernel
def RX4 : String := "SharedConsole$Screen"
def TX4 : u_T := fun k => match k with
  | 0 => ("SharedConsole$Screen", "places", "[I", true)
  | 1 => ("SharedConsole$Screen", "first", "I", false)
  | 2 => ("SharedConsole$Screen", "up", "I", false)
  | 3 => ("SharedConsole$Screen", "width", "I", false)
  | 4 => ("SharedConsole$Screen", "height", "I", false)
  | 5 => ("SharedConsole$Screen", "row", "I", false)
  | _ => ("SharedConsole$Screen", "column", "I", false)
def tyX4 : Nat → FieldType := fun k => match k with
  | 0 => .array .int
  | 1 => .int
  | 2 => .int
  | 3 => .int
  | 4 => .int
  | 5 => .int
  | _ => .int
theorem nmX4 : ∀ a, a < 7 → ∀ b, b < 7 → a ≠ b → (TX4 a).2.1 ≠ (TX4 b).2.1 := by decide +kernel
theorem tyX4_ok : ∀ k, k < 7 → parseFieldDescriptor (TX4 k).2.2.1 = some (tyX4 k) := by decide +kernel
def RX5 : String := "SharedConsole$Seat"
def TX5 : u_T := fun k => match k with
  | 0 => ("SharedConsole$Seat", "width", "I", false)
  | 1 => ("SharedConsole$Seat", "height", "I", false)
  | 2 => ("SharedConsole$Seat", "way", "I", false)
  | 3 => ("SharedConsole$Seat", "session", "I", false)
  | 4 => ("SharedConsole$Seat", "position", "I", false)
  | 5 => ("SharedConsole$Seat", "startedAt", "I", false)
  | 6 => ("SharedConsole$Seat", "speed", "I", false)
  | _ => ("SharedConsole$Seat", "linesBack", "I", false)
def tyX5 : Nat → FieldType := fun k => match k with
  | 0 => .int
  | 1 => .int
  | 2 => .int
  | 3 => .int
  | 4 => .int
  | 5 => .int
  | 6 => .int
  | _ => .int
theorem nmX5 : ∀ a, a < 8 → ∀ b, b < 8 → a ≠ b → (TX5 a).2.1 ≠ (TX5 b).2.1 := by decide +kernel
theorem tyX5_ok : ∀ k, k < 8 → parseFieldDescriptor (TX5 k).2.2.1 = some (tyX5 k) := by decide +kernel
def RX6 : String := "SharedConsole$State"
def TX6 : u_T := fun k => match k with
  | 0 => ("SharedConsole$State", "time", "I", false)
  | 1 => ("SharedConsole$State", "settings", "[I", true)
  | 2 => ("SharedConsole$State", "accounts", "[I", true)
  | 3 => ("SharedConsole$State", "desks", "[LSharedConsole$Desk;", true)
  | _ => ("SharedConsole$State", "seats", "[LSharedConsole$Seat;", true)
def tyX6 : Nat → FieldType := fun k => match k with
  | 0 => .int
  | 1 => .array .int
  | 2 => .array .int
  | 3 => .array (.object "SharedConsole$Desk")
  | _ => .array (.object "SharedConsole$Seat")
theorem nmX6 : ∀ a, a < 5 → ∀ b, b < 5 → a ≠ b → (TX6 a).2.1 ≠ (TX6 b).2.1 := by decide +kernel
theorem tyX6_ok : ∀ k, k < 5 → parseFieldDescriptor (TX6 k).2.2.1 = some (tyX6 k) := by decide +kernel
def RX7 : String := "SharedConsole$Text"
def TX7 : u_T := fun k => match k with
  | 0 => ("SharedConsole$Text", "bytes", "[I", true)
  | 1 => ("SharedConsole$Text", "filled", "I", false)
  | 2 => ("SharedConsole$Text", "length", "I", false)
  | 3 => ("SharedConsole$Text", "kind", "I", false)
  | 4 => ("SharedConsole$Text", "start", "I", false)
  | _ => ("SharedConsole$Text", "end", "I", false)
def tyX7 : Nat → FieldType := fun k => match k with
  | 0 => .array .int
  | 1 => .int
  | 2 => .int
  | 3 => .int
  | 4 => .int
  | _ => .int
theorem nmX7 : ∀ a, a < 6 → ∀ b, b < 6 → a ≠ b → (TX7 a).2.1 ≠ (TX7 b).2.1 := by decide +kernel
theorem tyX7_ok : ∀ k, k < 6 → parseFieldDescriptor (TX7 k).2.2.1 = some (tyX7 k) := by decide +kernel
def RX8 : String := "SharedConsole$Things"
def TX8 : u_T := fun k => match k with
  | 0 => ("SharedConsole$Things", "most", "I", true)
  | 1 => ("SharedConsole$Things", "names", "[I", true)
  | 2 => ("SharedConsole$Things", "widths", "[I", true)
  | 3 => ("SharedConsole$Things", "heights", "[I", true)
  | _ => ("SharedConsole$Things", "count", "I", false)
def tyX8 : Nat → FieldType := fun k => match k with
  | 0 => .int
  | 1 => .array .int
  | 2 => .array .int
  | 3 => .array .int
  | _ => .int
theorem nmX8 : ∀ a, a < 5 → ∀ b, b < 5 → a ≠ b → (TX8 a).2.1 ≠ (TX8 b).2.1 := by decide +kernel
theorem tyX8_ok : ∀ k, k < 5 → parseFieldDescriptor (TX8 k).2.2.1 = some (tyX8 k) := by decide +kernel
def RX9 : String := "SharedConsole"
def TX9 : u_T := fun k => match k with
  | 0 => ("SharedConsole", "text", "LSharedConsole$Text;", true)
  | 1 => ("SharedConsole", "draft", "LSharedConsole$Draft;", true)
  | 2 => ("SharedConsole", "errorAt", "I", false)
  | 3 => ("SharedConsole", "output", "[I", true)
  | 4 => ("SharedConsole", "outputLength", "I", false)
  | 5 => ("SharedConsole", "sessions", "LSharedConsole$Things;", true)
  | 6 => ("SharedConsole", "users", "LSharedConsole$Things;", true)
  | 7 => ("SharedConsole", "recordings", "[LSharedConsole$Recording;", true)
  | 8 => ("SharedConsole", "now", "LSharedConsole$State;", true)
  | 9 => ("SharedConsole", "history", "LSharedConsole$History;", true)
  | 10 => ("SharedConsole", "screen", "LSharedConsole$Screen;", true)
  | _ => ("SharedConsole", "otherScreen", "LSharedConsole$Screen;", true)
def tyX9 : Nat → FieldType := fun k => match k with
  | 0 => .object "SharedConsole$Text"
  | 1 => .object "SharedConsole$Draft"
  | 2 => .int
  | 3 => .array .int
  | 4 => .int
  | 5 => .object "SharedConsole$Things"
  | 6 => .object "SharedConsole$Things"
  | 7 => .array (.object "SharedConsole$Recording")
  | 8 => .object "SharedConsole$State"
  | 9 => .object "SharedConsole$History"
  | 10 => .object "SharedConsole$Screen"
  | _ => .object "SharedConsole$Screen"
theorem nmX9 : ∀ a, a < 12 → ∀ b, b < 12 → a ≠ b → (TX9 a).2.1 ≠ (TX9 b).2.1 := by decide +kernel
theorem tyX9_ok : ∀ k, k < 12 → parseFieldDescriptor (TX9 k).2.2.1 = some (tyX9 k) := by decide +kernel
def RX10 : String := "SharedConsoleLaw$Screen"
def TX10 : u_T := fun k => match k with
  | 0 => ("SharedConsoleLaw$Screen", "rows", "[[I", false)
  | 1 => ("SharedConsoleLaw$Screen", "y", "I", false)
  | 2 => ("SharedConsoleLaw$Screen", "x", "I", false)
  | 3 => ("SharedConsoleLaw$Screen", "wide", "I", false)
  | 4 => ("SharedConsoleLaw$Screen", "lines", "[[I", true)
  | _ => ("SharedConsoleLaw$Screen", "gone", "I", false)
def tyX10 : Nat → FieldType := fun k => match k with
  | 0 => .array (.array .int)
  | 1 => .int
  | 2 => .int
  | 3 => .int
  | 4 => .array (.array .int)
  | _ => .int
theorem nmX10 : ∀ a, a < 6 → ∀ b, b < 6 → a ≠ b → (TX10 a).2.1 ≠ (TX10 b).2.1 := by decide +kernel
theorem tyX10_ok : ∀ k, k < 6 → parseFieldDescriptor (TX10 k).2.2.1 = some (tyX10 k) := by decide +kernel
def RJ0 : String := "java/lang/String"
def TJ0 : u_T := fun k => match k with
  | 0 => ("java/lang/String", "value", "[B", true)
  | 1 => ("java/lang/String", "coder", "B", true)
  | 2 => ("java/lang/String", "hash", "I", false)
  | _ => ("java/lang/String", "hashIsZero", "Z", false)
def RJ4 : String := "java/lang/StringBuilder"
def TJ4 : u_T := fun k => match k with
  | 0 => ("java/lang/AbstractStringBuilder", "value", "[B", false)
  | 1 => ("java/lang/AbstractStringBuilder", "coder", "B", false)
  | 2 => ("java/lang/AbstractStringBuilder", "maybeLatin1", "Z", false)
  | _ => ("java/lang/AbstractStringBuilder", "count", "I", false)
def RJ9 : String := "java/lang/Math"
def RL : String := "SharedConsoleLaw"
abbrev vwCl : List vw_C := [(RX0, TX0, 4), (RX1, TX1, 4), (RX2, TX2, 3), (RX3, TX3, 1), (RX4, TX4, 7), (RX5, TX5, 8), (RX6, TX6, 5), (RX7, TX7, 6), (RX8, TX8, 5), (RX9, TX9, 12), (RX10, TX10, 6), (RJ0, TJ0, 4), (RJ4, TJ4, 4)]
abbrev cX0_init : ByteArray := prog_2_method_1_code
def yX0_init : MethodName := ⟨RX0, "<init>", "()V"⟩
abbrev cX0_handOver : ByteArray := prog_2_method_2_code
def yX0_handOver : MethodName := ⟨RX0, "handOver", "()V"⟩
abbrev cX0_restart : ByteArray := prog_2_method_3_code
def yX0_restart : MethodName := ⟨RX0, "restart", "()V"⟩
abbrev cX0_copyFrom : ByteArray := prog_2_method_4_code
def yX0_copyFrom : MethodName := ⟨RX0, "copyFrom", "(LSharedConsole$Desk;)V"⟩
abbrev cX1_init : ByteArray := prog_3_method_1_code
def yX1_init : MethodName := ⟨RX1, "<init>", "()V"⟩
abbrev cX1_read : ByteArray := prog_3_method_2_code
def yX1_read : MethodName := ⟨RX1, "read", "(LSharedConsole$Text;)I"⟩
abbrev cX1_restart : ByteArray := prog_3_method_3_code
def yX1_restart : MethodName := ⟨RX1, "restart", "()V"⟩
abbrev cX1_readStatement : ByteArray := prog_3_method_4_code
def yX1_readStatement : MethodName := ⟨RX1, "readStatement", "(LSharedConsole$Text;)I"⟩
abbrev cX1_readDeclaration : ByteArray := prog_3_method_5_code
def yX1_readDeclaration : MethodName := ⟨RX1, "readDeclaration", "(LSharedConsole$Text;LSharedConsole$Things;)I"⟩
abbrev cX1_readSetting : ByteArray := prog_3_method_6_code
def yX1_readSetting : MethodName := ⟨RX1, "readSetting", "(LSharedConsole$Text;)I"⟩
abbrev cX1_readNumber : ByteArray := prog_3_method_7_code
def yX1_readNumber : MethodName := ⟨RX1, "readNumber", "(LSharedConsole$Text;II)I"⟩
abbrev cX2_init : ByteArray := prog_4_method_1_code
def yX2_init : MethodName := ⟨RX2, "<init>", "()V"⟩
abbrev cX2_keep : ByteArray := prog_4_method_2_code
def yX2_keep : MethodName := ⟨RX2, "keep", "(LSharedConsole$State;)V"⟩
abbrev cX2_forget : ByteArray := prog_4_method_4_code
def yX2_forget : MethodName := ⟨RX2, "forget", "()V"⟩
abbrev cX3_init : ByteArray := prog_5_method_1_code
def yX3_init : MethodName := ⟨RX3, "<init>", "()V"⟩
abbrev cX3_number : ByteArray := prog_5_method_2_code
def yX3_number : MethodName := ⟨RX3, "number", "(II)I"⟩
abbrev cX3_putTyped : ByteArray := prog_5_method_3_code
def yX3_putTyped : MethodName := ⟨RX3, "putTyped", "(IIII)V"⟩
abbrev cX3_putSized : ByteArray := prog_5_method_4_code
def yX3_putSized : MethodName := ⟨RX3, "putSized", "(IIII)V"⟩
abbrev cX3_timeBetween : ByteArray := prog_5_method_5_code
def yX3_timeBetween : MethodName := ⟨RX3, "timeBetween", "(II)I"⟩
abbrev cX3_put : ByteArray := prog_5_method_7_code
def yX3_put : MethodName := ⟨RX3, "put", "(IIII)V"⟩
abbrev cX3_putOrigin : ByteArray := prog_5_method_8_code
def yX3_putOrigin : MethodName := ⟨RX3, "putOrigin", "(III)V"⟩
abbrev cX4_init : ByteArray := prog_6_method_1_code
def yX4_init : MethodName := ⟨RX4, "<init>", "()V"⟩
abbrev cX4_restart : ByteArray := prog_6_method_2_code
def yX4_restart : MethodName := ⟨RX4, "restart", "(II)V"⟩
abbrev cX4_cursorLine : ByteArray := prog_6_method_3_code
def yX4_cursorLine : MethodName := ⟨RX4, "cursorLine", "()I"⟩
abbrev cX4_symbolInLine : ByteArray := prog_6_method_4_code
def yX4_symbolInLine : MethodName := ⟨RX4, "symbolInLine", "(II)I"⟩
abbrev cX4_symbolOnScreen : ByteArray := prog_6_method_5_code
def yX4_symbolOnScreen : MethodName := ⟨RX4, "symbolOnScreen", "(II)I"⟩
abbrev cX4_fullPlaces : ByteArray := prog_6_method_6_code
def yX4_fullPlaces : MethodName := ⟨RX4, "fullPlaces", "()I"⟩
abbrev cX4_play : ByteArray := prog_6_method_9_code
def yX4_play : MethodName := ⟨RX4, "play", "(LSharedConsole$Recording;I)V"⟩
abbrev cX4_resize : ByteArray := prog_6_method_10_code
def yX4_resize : MethodName := ⟨RX4, "resize", "(II)V"⟩
abbrev cX4_goDown : ByteArray := prog_6_method_11_code
def yX4_goDown : MethodName := ⟨RX4, "goDown", "()V"⟩
abbrev cX4_clear : ByteArray := prog_6_method_12_code
def yX4_clear : MethodName := ⟨RX4, "clear", "()V"⟩
abbrev cX4_sendUppermostRowUp : ByteArray := prog_6_method_13_code
def yX4_sendUppermostRowUp : MethodName := ⟨RX4, "sendUppermostRowUp", "()V"⟩
abbrev cX4_addRow : ByteArray := prog_6_method_14_code
def yX4_addRow : MethodName := ⟨RX4, "addRow", "()V"⟩
abbrev cX4_put : ByteArray := prog_6_method_15_code
def yX4_put : MethodName := ⟨RX4, "put", "(I)V"⟩
abbrev cX4_emptyFrom : ByteArray := prog_6_method_16_code
def yX4_emptyFrom : MethodName := ⟨RX4, "emptyFrom", "(II)V"⟩
abbrev cX4_startOf : ByteArray := prog_6_method_17_code
def yX4_startOf : MethodName := ⟨RX4, "startOf", "(I)I"⟩
abbrev cX5_init : ByteArray := prog_7_method_1_code
def yX5_init : MethodName := ⟨RX5, "<init>", "()V"⟩
abbrev cX5_watches : ByteArray := prog_7_method_2_code
def yX5_watches : MethodName := ⟨RX5, "watches", "(II)Z"⟩
abbrev cX5_windowSize : ByteArray := prog_7_method_3_code
def yX5_windowSize : MethodName := ⟨RX5, "windowSize", "(Z)I"⟩
abbrev cX5_restart : ByteArray := prog_7_method_4_code
def yX5_restart : MethodName := ⟨RX5, "restart", "(II)V"⟩
abbrev cX5_copyFrom : ByteArray := prog_7_method_5_code
def yX5_copyFrom : MethodName := ⟨RX5, "copyFrom", "(LSharedConsole$Seat;)V"⟩
abbrev cX6_init : ByteArray := prog_8_method_1_code
def yX6_init : MethodName := ⟨RX6, "<init>", "()V"⟩
abbrev cX6_restart : ByteArray := prog_8_method_2_code
def yX6_restart : MethodName := ⟨RX6, "restart", "(LSharedConsole$Things;[I)V"⟩
abbrev cX6_copyFrom : ByteArray := prog_8_method_3_code
def yX6_copyFrom : MethodName := ⟨RX6, "copyFrom", "(LSharedConsole$State;)V"⟩
abbrev cX7_init : ByteArray := prog_9_method_1_code
def yX7_init : MethodName := ⟨RX7, "<init>", "()V"⟩
abbrev cX7_append : ByteArray := prog_9_method_2_code
def yX7_append : MethodName := ⟨RX7, "append", "(I)V"⟩
abbrev cX7_open : ByteArray := prog_9_method_3_code
def yX7_open : MethodName := ⟨RX7, "open", "(I)V"⟩
abbrev cX7_advance : ByteArray := prog_9_method_4_code
def yX7_advance : MethodName := ⟨RX7, "advance", "()V"⟩
abbrev cX7_tokenLength : ByteArray := prog_9_method_5_code
def yX7_tokenLength : MethodName := ⟨RX7, "tokenLength", "()I"⟩
abbrev cX7_isWord : ByteArray := prog_9_method_6_code
def yX7_isWord : MethodName := ⟨RX7, "isWord", "(Ljava/lang/String;)Z"⟩
abbrev cX7_letters : ByteArray := prog_9_method_7_code
def yX7_letters : MethodName := ⟨RX7, "letters", "()I"⟩
abbrev cX7_number : ByteArray := prog_9_method_8_code
def yX7_number : MethodName := ⟨RX7, "number", "()I"⟩
abbrev cX7_kindOf : ByteArray := prog_9_method_9_code
def yX7_kindOf : MethodName := ⟨RX7, "kindOf", "(I)I"⟩
abbrev cX7_byteAt : ByteArray := prog_9_method_10_code
def yX7_byteAt : MethodName := ⟨RX7, "byteAt", "(I)I"⟩
abbrev cX8_init : ByteArray := prog_10_method_1_code
def yX8_init : MethodName := ⟨RX8, "<init>", "(I)V"⟩
abbrev cX8_has : ByteArray := prog_10_method_2_code
def yX8_has : MethodName := ⟨RX8, "has", "(I)Z"⟩
abbrev cX8_isFull : ByteArray := prog_10_method_3_code
def yX8_isFull : MethodName := ⟨RX8, "isFull", "()Z"⟩
abbrev cX8_indexOf : ByteArray := prog_10_method_4_code
def yX8_indexOf : MethodName := ⟨RX8, "indexOf", "(I)I"⟩
abbrev cX8_sizeOf : ByteArray := prog_10_method_5_code
def yX8_sizeOf : MethodName := ⟨RX8, "sizeOf", "(IZ)I"⟩
abbrev cX8_add : ByteArray := prog_10_method_6_code
def yX8_add : MethodName := ⟨RX8, "add", "(III)V"⟩
abbrev cX8_copyFrom : ByteArray := prog_10_method_7_code
def yX8_copyFrom : MethodName := ⟨RX8, "copyFrom", "(LSharedConsole$Things;)V"⟩
abbrev cX9_init : ByteArray := prog_1_method_1_code
def yX9_init : MethodName := ⟨RX9, "<init>", "()V"⟩
abbrev cX9_feed : ByteArray := prog_1_method_2_code
def yX9_feed : MethodName := ⟨RX9, "feed", "(IIIII)I"⟩
abbrev cX9_load : ByteArray := prog_1_method_3_code
def yX9_load : MethodName := ⟨RX9, "load", "(I)I"⟩
abbrev cX9_count : ByteArray := prog_1_method_5_code
def yX9_count : MethodName := ⟨RX9, "count", "(I)I"⟩
abbrev cX9_session : ByteArray := prog_1_method_9_code
def yX9_session : MethodName := ⟨RX9, "session", "(II)I"⟩
abbrev cX9_event : ByteArray := prog_1_method_10_code
def yX9_event : MethodName := ⟨RX9, "event", "(III)I"⟩
abbrev cX9_screen : ByteArray := prog_1_method_11_code
def yX9_screen : MethodName := ⟨RX9, "screen", "(III)I"⟩
abbrev cX9_at : ByteArray := prog_1_method_12_code
def yX9_at : MethodName := ⟨RX9, "at", "(IIII)I"⟩
abbrev cX9_above : ByteArray := prog_1_method_13_code
def yX9_above : MethodName := ⟨RX9, "above", "(IIII)I"⟩
abbrev cX9_user : ByteArray := prog_1_method_14_code
def yX9_user : MethodName := ⟨RX9, "user", "(II)I"⟩
abbrev cX9_shown : ByteArray := prog_1_method_15_code
def yX9_shown : MethodName := ⟨RX9, "shown", "(III)I"⟩
abbrev cX9_cursorRow : ByteArray := prog_1_method_16_code
def yX9_cursorRow : MethodName := ⟨RX9, "cursorRow", "(I)I"⟩
abbrev cX9_firstDifference : ByteArray := prog_1_method_25_code
def yX9_firstDifference : MethodName := ⟨RX9, "firstDifference", "(III)I"⟩
abbrev cX9_fullness : ByteArray := prog_1_method_26_code
def yX9_fullness : MethodName := ⟨RX9, "fullness", "(II)F"⟩
abbrev cX9_attach : ByteArray := prog_1_method_29_code
def yX9_attach : MethodName := ⟨RX9, "attach", "(II)I"⟩
abbrev cX9_detach : ByteArray := prog_1_method_30_code
def yX9_detach : MethodName := ⟨RX9, "detach", "(I)I"⟩
abbrev cX9_goTo : ByteArray := prog_1_method_31_code
def yX9_goTo : MethodName := ⟨RX9, "goTo", "(II)I"⟩
abbrev cX9_goLive : ByteArray := prog_1_method_32_code
def yX9_goLive : MethodName := ⟨RX9, "goLive", "(I)I"⟩
abbrev cX9_replay : ByteArray := prog_1_method_33_code
def yX9_replay : MethodName := ⟨RX9, "replay", "(III)I"⟩
abbrev cX9_lookBack : ByteArray := prog_1_method_34_code
def yX9_lookBack : MethodName := ⟨RX9, "lookBack", "(II)I"⟩
abbrev cX9_window : ByteArray := prog_1_method_35_code
def yX9_window : MethodName := ⟨RX9, "window", "(III)I"⟩
abbrev cX9_type : ByteArray := prog_1_method_36_code
def yX9_type : MethodName := ⟨RX9, "type", "(II)I"⟩
abbrev cX9_request : ByteArray := prog_1_method_37_code
def yX9_request : MethodName := ⟨RX9, "request", "(I)I"⟩
abbrev cX9_answer : ByteArray := prog_1_method_38_code
def yX9_answer : MethodName := ⟨RX9, "answer", "(IZ)I"⟩
abbrev cX9_yield : ByteArray := prog_1_method_39_code
def yX9_yield : MethodName := ⟨RX9, "yield", "(I)I"⟩
abbrev cX9_pass : ByteArray := prog_1_method_40_code
def yX9_pass : MethodName := ⟨RX9, "pass", "(I)I"⟩
abbrev cX9_setSetting : ByteArray := prog_1_method_41_code
def yX9_setSetting : MethodName := ⟨RX9, "setSetting", "(II)I"⟩
abbrev cX9_write : ByteArray := prog_1_method_43_code
def yX9_write : MethodName := ⟨RX9, "write", "(I)I"⟩
abbrev cX9_outputAt : ByteArray := prog_1_method_44_code
def yX9_outputAt : MethodName := ⟨RX9, "outputAt", "(I)I"⟩
abbrev cX9_deskOf : ByteArray := prog_1_method_45_code
def yX9_deskOf : MethodName := ⟨RX9, "deskOf", "(I)LSharedConsole$Desk;"⟩
abbrev cX9_recordingOf : ByteArray := prog_1_method_46_code
def yX9_recordingOf : MethodName := ⟨RX9, "recordingOf", "(I)LSharedConsole$Recording;"⟩
abbrev cX9_seatOf : ByteArray := prog_1_method_47_code
def yX9_seatOf : MethodName := ⟨RX9, "seatOf", "(I)LSharedConsole$Seat;"⟩
abbrev cX9_whyNotAWatcher : ByteArray := prog_1_method_48_code
def yX9_whyNotAWatcher : MethodName := ⟨RX9, "whyNotAWatcher", "(I)I"⟩
abbrev cX9_usersWhoWatch : ByteArray := prog_1_method_49_code
def yX9_usersWhoWatch : MethodName := ⟨RX9, "usersWhoWatch", "()I"⟩
abbrev cX9_usersWhoWatchSession : ByteArray := prog_1_method_50_code
def yX9_usersWhoWatchSession : MethodName := ⟨RX9, "usersWhoWatchSession", "(I)I"⟩
abbrev cX9_draw : ByteArray := prog_1_method_51_code
def yX9_draw : MethodName := ⟨RX9, "draw", "(LSharedConsole$Screen;II)V"⟩
abbrev cX9_positionOf : ByteArray := prog_1_method_52_code
def yX9_positionOf : MethodName := ⟨RX9, "positionOf", "(LSharedConsole$Seat;)I"⟩
abbrev cX9_uppermostLine : ByteArray := prog_1_method_53_code
def yX9_uppermostLine : MethodName := ⟨RX9, "uppermostLine", "(LSharedConsole$Seat;)I"⟩
abbrev cX9_userWithLeastWindow : ByteArray := prog_1_method_54_code
def yX9_userWithLeastWindow : MethodName := ⟨RX9, "userWithLeastWindow", "(IZ)I"⟩
abbrev cX9_sizeThatIsRight : ByteArray := prog_1_method_55_code
def yX9_sizeThatIsRight : MethodName := ⟨RX9, "sizeThatIsRight", "(IZ)I"⟩
abbrev cX9_recordRightSizes : ByteArray := prog_1_method_56_code
def yX9_recordRightSizes : MethodName := ⟨RX9, "recordRightSizes", "()V"⟩
abbrev cX9_lastSize : ByteArray := prog_1_method_57_code
def yX9_lastSize : MethodName := ⟨RX9, "lastSize", "(IZ)I"⟩
abbrev cX9_reasonNotToType : ByteArray := prog_1_method_58_code
def yX9_reasonNotToType : MethodName := ⟨RX9, "reasonNotToType", "(ILSharedConsole$Seat;)I"⟩
abbrev cX9_controlsItsSession : ByteArray := prog_1_method_59_code
def yX9_controlsItsSession : MethodName := ⟨RX9, "controlsItsSession", "(ILSharedConsole$Seat;)Z"⟩
abbrev cX9_loseControl : ByteArray := prog_1_method_60_code
def yX9_loseControl : MethodName := ⟨RX9, "loseControl", "(ILSharedConsole$Seat;)V"⟩
abbrev cX9_grantOldRequests : ByteArray := prog_1_method_61_code
def yX9_grantOldRequests : MethodName := ⟨RX9, "grantOldRequests", "()I"⟩
abbrev cX9_putOut : ByteArray := prog_1_method_62_code
def yX9_putOut : MethodName := ⟨RX9, "putOut", "(I)V"⟩
abbrev cX9_characterFor : ByteArray := prog_1_method_63_code
def yX9_characterFor : MethodName := ⟨RX9, "characterFor", "(I)I"⟩
abbrev cX9_groupAt : ByteArray := prog_1_method_64_code
def yX9_groupAt : MethodName := ⟨RX9, "groupAt", "(II)I"⟩
abbrev cX9_groupsIn : ByteArray := prog_1_method_65_code
def yX9_groupsIn : MethodName := ⟨RX9, "groupsIn", "(II)I"⟩
abbrev cX10_init : ByteArray := prog_12_method_1_code
def yX10_init : MethodName := ⟨RX10, "<init>", "()V"⟩
abbrev cX10_blank : ByteArray := prog_12_method_2_code
def yX10_blank : MethodName := ⟨RX10, "blank", "(I)V"⟩
abbrev cX10_up : ByteArray := prog_12_method_3_code
def yX10_up : MethodName := ⟨RX10, "up", "()V"⟩
abbrev cX10_row : ByteArray := prog_12_method_4_code
def yX10_row : MethodName := ⟨RX10, "row", "()[I"⟩
abbrev cX10_down : ByteArray := prog_12_method_5_code
def yX10_down : MethodName := ⟨RX10, "down", "()V"⟩
abbrev cX10_typed : ByteArray := prog_12_method_6_code
def yX10_typed : MethodName := ⟨RX10, "typed", "(I)V"⟩
abbrev cX10_sized : ByteArray := prog_12_method_7_code
def yX10_sized : MethodName := ⟨RX10, "sized", "(II)V"⟩
abbrev cJ9_floorMod_7cf53 : ByteArray := prog_19_method_50_code
def yJ9_floorMod_7cf53 : MethodName := ⟨RJ9, "floorMod", "(II)I"⟩
abbrev cJ9_max_7cf53 : ByteArray := prog_19_method_65_code
def yJ9_max_7cf53 : MethodName := ⟨RJ9, "max", "(II)I"⟩
abbrev cJ9_min_7cf53 : ByteArray := prog_19_method_69_code
def yJ9_min_7cf53 : MethodName := ⟨RJ9, "min", "(II)I"⟩
abbrev cL_cell : ByteArray := method_2_code
def yL_cell : MethodName := ⟨RL, "cell", "([II)I"⟩
abbrev cL_in : ByteArray := method_3_code
def yL_in : MethodName := ⟨RL, "in", "(II)I"⟩
abbrev cL_put : ByteArray := method_4_code
def yL_put : MethodName := ⟨RL, "put", "(LSharedConsole;Ljava/lang/String;)V"⟩
abbrev cL_statements : ByteArray := method_5_code
def yL_statements : MethodName := ⟨RL, "statements", "(Ljava/lang/String;)I"⟩
abbrev cL_sessions : ByteArray := method_6_code
def yL_sessions : MethodName := ⟨RL, "sessions", "([I)I"⟩
abbrev cL_users : ByteArray := method_7_code
def yL_users : MethodName := ⟨RL, "users", "([I)I"⟩
abbrev cL_size : ByteArray := method_8_code
def yL_size : MethodName := ⟨RL, "size", "([IZII)I"⟩
abbrev cL_setting : ByteArray := method_9_code
def yL_setting : MethodName := ⟨RL, "setting", "([II)I"⟩
abbrev cL_name : ByteArray := method_10_code
def yL_name : MethodName := ⟨RL, "name", "(ZI)Ljava/lang/String;"⟩
abbrev cL_text : ByteArray := method_11_code
def yL_text : MethodName := ⟨RL, "text", "([I)Ljava/lang/String;"⟩
abbrev cL_console : ByteArray := method_12_code
def yL_console : MethodName := ⟨RL, "console", "([I)LSharedConsole;"⟩
abbrev cL_symbols : ByteArray := method_13_code
def yL_symbols : MethodName := ⟨RL, "symbols", "(I)I"⟩
abbrev cL_changes : ByteArray := method_14_code
def yL_changes : MethodName := ⟨RL, "changes", "(LSharedConsole;I)V"⟩
abbrev cL_screen : ByteArray := method_16_code
def yL_screen : MethodName := ⟨RL, "screen", "(LSharedConsole;II)LSharedConsoleLaw$Screen;"⟩
abbrev cL_isDrawn : ByteArray := method_17_code
def yL_isDrawn : MethodName := ⟨RL, "isDrawn", "(LSharedConsole;II)Z"⟩
abbrev cL_isSeen : ByteArray := method_18_code
def yL_isSeen : MethodName := ⟨RL, "isSeen", "(LSharedConsole;I)Z"⟩
abbrev cL_isUnlike : ByteArray := method_19_code
def yL_isUnlike : MethodName := ⟨RL, "isUnlike", "(LSharedConsole;III)Z"⟩
abbrev cL_law : ByteArray := code
def yL_law : MethodName := ⟨RL, "law", "([I)Z"⟩
-- ===== tables of my interpreter (by program: gen3.py) =====
def am_lk {α : Type} : List (Nat × α) → Nat → Option α
  | [], _ => none
  | q :: l, i => bif Nat.beq q.1 i then some q.2 else am_lk l i
def am_kdL : List (Nat × Nat × Nat) := [(1, 9, 0), (1, 7, 0), (2, 0, 600), (1, 1, 0), (1, 8, 0), (2, 0, 6), (2, 0, 6), (2, 0, 6), (1, 8, 0), (2, 0, 6), (2, 0, 6), (2, 0, 6), (2, 0, 2), (5, 1, 2), (2, 0, 102), (1, 8, 0), (2, 0, 6), (2, 0, 6), (2, 0, 6), (1, 8, 0), (2, 0, 6), (2, 0, 6), (2, 0, 6), (3, 2, 4), (1, 6, 0), (2, 0, 2), (2, 0, 4), (3, 3, 4), (3, 4, 6), (1, 0, 0), (1, 0, 0), (1, 0, 0), (1, 0, 0), (1, 5, 0), (1, 5, 0), (1, 5, 0), (1, 5, 0), (1, 5, 0), (1, 5, 0), (1, 2, 0), (3, 5, 8), (1, 6, 0), (2, 0, 2), (2, 0, 4), (3, 3, 4), (3, 4, 6), (1, 0, 0), (1, 0, 0), (1, 0, 0), (1, 0, 0), (1, 5, 0), (1, 5, 0), (1, 5, 0), (1, 5, 0), (1, 5, 0), (1, 5, 0), (1, 6, 0), (2, 0, 2), (2, 0, 4), (3, 3, 4), (3, 4, 6), (1, 0, 0), (1, 0, 0), (1, 0, 0), (1, 0, 0), (1, 5, 0), (1, 5, 0), (1, 5, 0), (1, 5, 0), (1, 5, 0), (1, 5, 0), (1, 6, 0), (2, 0, 2), (2, 0, 4), (3, 3, 4), (3, 4, 6), (1, 0, 0), (1, 0, 0), (1, 0, 0), (1, 0, 0), (1, 5, 0), (1, 5, 0), (1, 5, 0), (1, 5, 0), (1, 5, 0), (1, 5, 0), (1, 6, 0), (2, 0, 2), (2, 0, 4), (3, 3, 4), (3, 4, 6), (1, 0, 0), (1, 0, 0), (1, 0, 0), (1, 0, 0), (1, 5, 0), (1, 5, 0), (1, 5, 0), (1, 5, 0), (1, 5, 0), (1, 5, 0), (1, 6, 0), (2, 0, 2), (2, 0, 4), (3, 3, 4), (3, 4, 6), (1, 0, 0), (1, 0, 0), (1, 0, 0), (1, 0, 0), (1, 5, 0), (1, 5, 0), (1, 5, 0), (1, 5, 0), (1, 5, 0), (1, 5, 0), (1, 6, 0), (2, 0, 2), (2, 0, 4), (3, 3, 4), (3, 4, 6), (1, 0, 0), (1, 0, 0), (1, 0, 0), (1, 0, 0), (1, 5, 0), (1, 5, 0), (1, 5, 0), (1, 5, 0), (1, 5, 0), (1, 5, 0), (1, 6, 0), (2, 0, 2), (2, 0, 4), (3, 3, 4), (3, 4, 6), (1, 0, 0), (1, 0, 0), (1, 0, 0), (1, 0, 0), (1, 5, 0), (1, 5, 0), (1, 5, 0), (1, 5, 0), (1, 5, 0), (1, 5, 0), (1, 6, 0), (2, 0, 2), (2, 0, 4), (3, 3, 4), (3, 4, 6), (1, 0, 0), (1, 0, 0), (1, 0, 0), (1, 0, 0), (1, 5, 0), (1, 5, 0), (1, 5, 0), (1, 5, 0), (1, 5, 0), (1, 5, 0), (1, 4, 0), (2, 0, 736), (1, 4, 0), (2, 0, 736), (1, 3, 0), (3, 6, 5), (2, 0, 300), (2, 0, 300), (2, 0, 300), (2, 0, 300), (2, 0, 300), (1, 3, 0), (3, 6, 5), (2, 0, 300), (2, 0, 300), (2, 0, 300), (2, 0, 300), (2, 0, 300), (1, 3, 0), (3, 6, 5), (2, 0, 300), (2, 0, 300), (2, 0, 300), (2, 0, 300), (2, 0, 300), (1, 3, 0), (3, 6, 5), (2, 0, 300), (2, 0, 300), (2, 0, 300), (2, 0, 300), (2, 0, 300), (0, 0, 0), (0, 0, 0), (0, 0, 0), (0, 0, 0), (0, 0, 0), (0, 0, 0), (0, 0, 0), (0, 0, 0), (0, 0, 0), (0, 0, 0), (0, 0, 0), (0, 0, 0), (4, 0, 2), (4, 0, 2), (4, 0, 2), (6, 0, 7), (6, 0, 4), (6, 0, 3), (6, 0, 4), (6, 0, 6), (7, 0, 17), (7, 0, 12)]
def am_kd (a : Nat) : Nat × Nat × Nat := am_kdL.getD a (0, 0, 0)
def am_grL : List (List (Option Nat)) := [[some 1, some 3, none, some 14, none, some 15, some 19, some 23, some 24, some 39, some 161, some 163], [some 2, none, none, none, none, none], [], [some 4, some 8, some 12, some 13], [none, some 5, some 6, some 7, none], [], [], [], [none, some 9, some 10, some 11, none], [], [], [], [], [], [], [none, some 16, some 17, some 18, none], [], [], [], [none, some 20, some 21, some 22, none], [], [], [], [some 165, some 172, some 179, some 186], [none, some 25, some 26, some 27, some 28], [], [], [some 29, some 30, some 31, some 32], [some 33, some 34, some 35, some 36, some 37, some 38], [], [], [], [], [], [], [], [], [], [], [some 40, none, none], [some 41, some 56, some 71, some 86, some 101, some 116, some 131, some 146], [none, some 42, some 43, some 44, some 45], [], [], [some 46, some 47, some 48, some 49], [some 50, some 51, some 52, some 53, some 54, some 55], [], [], [], [], [], [], [], [], [], [], [none, some 57, some 58, some 59, some 60], [], [], [some 61, some 62, some 63, some 64], [some 65, some 66, some 67, some 68, some 69, some 70], [], [], [], [], [], [], [], [], [], [], [none, some 72, some 73, some 74, some 75], [], [], [some 76, some 77, some 78, some 79], [some 80, some 81, some 82, some 83, some 84, some 85], [], [], [], [], [], [], [], [], [], [], [none, some 87, some 88, some 89, some 90], [], [], [some 91, some 92, some 93, some 94], [some 95, some 96, some 97, some 98, some 99, some 100], [], [], [], [], [], [], [], [], [], [], [none, some 102, some 103, some 104, some 105], [], [], [some 106, some 107, some 108, some 109], [some 110, some 111, some 112, some 113, some 114, some 115], [], [], [], [], [], [], [], [], [], [], [none, some 117, some 118, some 119, some 120], [], [], [some 121, some 122, some 123, some 124], [some 125, some 126, some 127, some 128, some 129, some 130], [], [], [], [], [], [], [], [], [], [], [none, some 132, some 133, some 134, some 135], [], [], [some 136, some 137, some 138, some 139], [some 140, some 141, some 142, some 143, some 144, some 145], [], [], [], [], [], [], [], [], [], [], [none, some 147, some 148, some 149, some 150], [], [], [some 151, some 152, some 153, some 154], [some 155, some 156, some 157, some 158, some 159, some 160], [], [], [], [], [], [], [], [], [], [], [some 162, none, none, none, none, none, none], [], [some 164, none, none, none, none, none, none], [], [some 166], [some 167, some 168, some 169, some 170, some 171], [], [], [], [], [], [some 173], [some 174, some 175, some 176, some 177, some 178], [], [], [], [], [], [some 180], [some 181, some 182, some 183, some 184, some 185], [], [], [], [], [], [some 187], [some 188, some 189, some 190, some 191, some 192], [], [], [], [], [], [], [], [], [], [], [], [], [], [], [], [], [], [], [], [], [], [], [], [], [], [], []]
def am_G (a k : Nat) : Option Nat := (am_grL.getD a []).getD k none
def am_n0 : Nat := 193
def am_fiL : List (List Bool) := [[true, true, true, true], [false, false, false, false], [false, true, true], [false], [false, true, true, true, true, true, true], [true, true, true, true, true, true, true, true], [true, false, false, false, false], [false, true, true, true, true, true], [true, false, false, false, true], [false, false, true, false, true, false, false, false, false, false, false, false], [false, true, true, true, false, true]]
def am_fi (ci k : Nat) : Bool := (am_fiL.getD ci []).getD k false
def am_fwL : List (List Bool) := [[true, true, true, true], [false, false, false, false], [false, true, true], [false], [false, true, true, true, true, true, true], [true, true, true, true, true, true, true, true], [true, false, false, false, false], [false, true, true, true, true, true], [false, false, false, false, true], [false, false, true, false, true, false, false, false, false, false, false, false], [false, true, true, true, false, true]]
def am_fw (ci k : Nat) : Bool := (am_fwL.getD ci []).getD k false
def am_nFL : List Nat := [4, 4, 3, 1, 7, 8, 5, 6, 5, 12, 6]
def am_nF (ci : Nat) : Nat := am_nFL.getD ci 0
def am_tyL : List FieldType := [.int, .boolean, .object "SharedConsole$Recording", .object "SharedConsole$Desk", .object "SharedConsole$Seat", .object "SharedConsole$State", .array .int]
def am_sxL : List (Nat × List Int32) := [(205, [10, 0]), (206, [1, 0]), (207, [99, 1])]
def am_sx (a i : Nat) : Int32 := ((am_lk am_sxL a).getD []).getD i 0
def am_sfL : List (Nat × String × String × String) := [(205, "SharedConsole", "INITIAL_SETTING", "[I"), (206, "SharedConsole", "LEAST_SETTING", "[I"), (207, "SharedConsole", "MOST_SETTING", "[I")]
def am_stL : List String := ["session", "user", "set", "wait", "shrink", "session user set ", "wait shrink "]
def am_s0 : Nat := 208
def am_yL : List MethodName := [⟨"java/lang/Math", "max", "(II)I"⟩, ⟨"java/lang/Math", "min", "(II)I"⟩, yJ9_floorMod_7cf53, ⟨"java/lang/String", "length", "()I"⟩, ⟨"java/lang/String", "charAt", "(I)C"⟩, yX0_handOver, yX0_restart, yX0_copyFrom, yX1_read, yX1_restart, yX1_readStatement, yX1_readDeclaration, yX1_readSetting, yX1_readNumber, yX2_keep, yX2_forget, yX3_number, yX3_putTyped, yX3_putSized, yX3_timeBetween, yX3_put, yX3_putOrigin, yX4_restart, yX4_cursorLine, yX4_symbolInLine, yX4_symbolOnScreen, yX4_fullPlaces, yX4_play, yX4_resize, yX4_goDown, yX4_clear, yX4_sendUppermostRowUp, yX4_addRow, yX4_put, yX4_emptyFrom, yX4_startOf, yX5_watches, yX5_windowSize, yX5_restart, yX5_copyFrom, yX6_restart, yX6_copyFrom, yX7_append, yX7_open, yX7_advance, yX7_tokenLength, yX7_isWord, yX7_letters, yX7_number, yX7_kindOf, yX7_byteAt, yX8_has, yX8_isFull, yX8_indexOf, yX8_sizeOf, yX8_add, yX8_copyFrom, yX9_feed, yX9_load, yX9_count, yX9_session, yX9_event, yX9_screen, yX9_at, yX9_above, yX9_user, yX9_shown, yX9_cursorRow, yX9_firstDifference, yX9_fullness, yX9_attach, yX9_detach, yX9_goTo, yX9_goLive, yX9_replay, yX9_lookBack, yX9_window, yX9_type, yX9_request, yX9_answer, yX9_yield, yX9_pass, yX9_setSetting, yX9_write, yX9_outputAt, yX9_deskOf, yX9_recordingOf, yX9_seatOf, yX9_whyNotAWatcher, yX9_usersWhoWatch, yX9_usersWhoWatchSession, yX9_draw, yX9_positionOf, yX9_uppermostLine, yX9_userWithLeastWindow, yX9_sizeThatIsRight, yX9_recordRightSizes, yX9_lastSize, yX9_reasonNotToType, yX9_controlsItsSession, yX9_loseControl, yX9_grantOldRequests, yX9_putOut, yX9_characterFor, yX9_groupAt, yX9_groupsIn]
def am_y (m : Nat) : MethodName := am_yL.getD m ⟨"", "", ""⟩
def am_ccL : List ByteArray := [prog_19_method_65_code, prog_19_method_69_code, cJ9_floorMod_7cf53, prog_21_method_54_code, prog_21_method_56_code, cX0_handOver, cX0_restart, cX0_copyFrom, cX1_read, cX1_restart, cX1_readStatement, cX1_readDeclaration, cX1_readSetting, cX1_readNumber, cX2_keep, cX2_forget, cX3_number, cX3_putTyped, cX3_putSized, cX3_timeBetween, cX3_put, cX3_putOrigin, cX4_restart, cX4_cursorLine, cX4_symbolInLine, cX4_symbolOnScreen, cX4_fullPlaces, cX4_play, cX4_resize, cX4_goDown, cX4_clear, cX4_sendUppermostRowUp, cX4_addRow, cX4_put, cX4_emptyFrom, cX4_startOf, cX5_watches, cX5_windowSize, cX5_restart, cX5_copyFrom, cX6_restart, cX6_copyFrom, cX7_append, cX7_open, cX7_advance, cX7_tokenLength, cX7_isWord, cX7_letters, cX7_number, cX7_kindOf, cX7_byteAt, cX8_has, cX8_isFull, cX8_indexOf, cX8_sizeOf, cX8_add, cX8_copyFrom, cX9_feed, cX9_load, cX9_count, cX9_session, cX9_event, cX9_screen, cX9_at, cX9_above, cX9_user, cX9_shown, cX9_cursorRow, cX9_firstDifference, cX9_fullness, cX9_attach, cX9_detach, cX9_goTo, cX9_goLive, cX9_replay, cX9_lookBack, cX9_window, cX9_type, cX9_request, cX9_answer, cX9_yield, cX9_pass, cX9_setSetting, cX9_write, cX9_outputAt, cX9_deskOf, cX9_recordingOf, cX9_seatOf, cX9_whyNotAWatcher, cX9_usersWhoWatch, cX9_usersWhoWatchSession, cX9_draw, cX9_positionOf, cX9_uppermostLine, cX9_userWithLeastWindow, cX9_sizeThatIsRight, cX9_recordRightSizes, cX9_lastSize, cX9_reasonNotToType, cX9_controlsItsSession, cX9_loseControl, cX9_grantOldRequests, cX9_putOut, cX9_characterFor, cX9_groupAt, cX9_groupsIn]
def am_cc (m : Nat) : ByteArray := am_ccL.getD m ⟨#[]⟩
def am_mlL : List Nat := [2, 2, 3, 1, 2, 1, 1, 2, 4, 2, 3, 6, 4, 4, 2, 1, 3, 5, 5, 3, 5, 4, 4, 1, 3, 3, 4, 4, 4, 1, 2, 1, 1, 2, 5, 2, 3, 2, 3, 2, 4, 3, 3, 2, 1, 1, 3, 3, 3, 1, 2, 2, 1, 3, 3, 4, 3, 6, 3, 2, 4, 6, 4, 5, 5, 4, 5, 4, 8, 4, 4, 4, 6, 5, 6, 6, 6, 8, 4, 6, 4, 4, 4, 6, 2, 2, 2, 2, 2, 3, 5, 6, 6, 2, 7, 4, 6, 5, 4, 3, 4, 4, 2, 1, 2, 5]
def am_ml (m : Nat) : Nat := am_mlL.getD m 0
def am_reL : List (Option FieldType) := [some .int, some .int, some .int, some .int, some .char, none, none, none, some .int, none, some .int, some .int, some .int, some .int, none, none, some .int, none, none, some .int, none, none, none, some .int, some .int, some .int, some .int, none, none, none, none, none, none, none, none, some .int, some .boolean, some .int, none, none, none, none, none, none, none, some .int, some .boolean, some .int, some .int, some .int, some .int, some .boolean, some .boolean, some .int, some .int, none, none, some .int, some .int, some .int, some .int, some .int, some .int, some .int, some .int, some .int, some .int, some .int, some .int, some .float, some .int, some .int, some .int, some .int, some .int, some .int, some .int, some .int, some .int, some .int, some .int, some .int, some .int, some .int, some .int, some (.object "SharedConsole$Desk"), some (.object "SharedConsole$Recording"), some (.object "SharedConsole$Seat"), some .int, some .int, some .int, none, some .int, some .int, some .int, some .int, none, some .int, some .int, some .boolean, none, some .int, none, some .int, some .int, some .int]
def am_re (m : Nat) : Option FieldType := am_reL.getD m none
def am_rk (m : Nat) : Nat := match am_re m with
  | some .int => 1
  | some .boolean => 2
  | some .float => 3
  | some (.object _) => 4
  | none => 5
  | _ => 0
def am_owL : List Nat := [11, 11, 11, 12, 12, 0, 0, 0, 1, 1, 1, 1, 1, 1, 2, 2, 3, 3, 3, 3, 3, 3, 4, 4, 4, 4, 4, 4, 4, 4, 4, 4, 4, 4, 4, 4, 5, 5, 5, 5, 6, 6, 7, 7, 7, 7, 7, 7, 7, 7, 7, 8, 8, 8, 8, 8, 8, 9, 9, 9, 9, 9, 9, 9, 9, 9, 9, 9, 9, 9, 9, 9, 9, 9, 9, 9, 9, 9, 9, 9, 9, 9, 9, 9, 9, 9, 9, 9, 9, 9, 9, 9, 9, 9, 9, 9, 9, 9, 9, 9, 9, 9, 9, 9, 9, 9]
def am_ow (m : Nat) : Nat := am_owL.getD m 99
def am_RL : List String := [RX0, RX1, RX2, RX3, RX4, RX5, RX6, RX7, RX8, RX9, RX10, RJ9, "java/lang/String"]
def am_R (i : Nat) : String := am_RL.getD i ""
def am_own (m : Nat) : String := am_R (am_ow m)
def am_naL : List Nat := [2, 2, 2, 1, 2, 1, 1, 2, 2, 1, 2, 3, 2, 4, 2, 1, 3, 5, 5, 3, 5, 4, 3, 1, 3, 3, 1, 3, 3, 1, 1, 1, 1, 2, 3, 2, 3, 2, 3, 2, 3, 2, 2, 2, 1, 1, 2, 1, 1, 1, 2, 2, 1, 2, 3, 4, 2, 6, 2, 2, 3, 4, 4, 5, 5, 3, 4, 2, 4, 3, 3, 2, 3, 2, 4, 3, 4, 3, 2, 3, 2, 2, 3, 2, 2, 2, 2, 2, 2, 1, 2, 4, 2, 2, 3, 3, 1, 3, 3, 3, 3, 1, 2, 1, 2, 2]
def am_na (m : Nat) : Nat := am_naL.getD m 0
def am_frL : List Nat := [0, 0, 0, 3, 6, 0, 0, 0, 10, 0, 9, 3, 8, 2, 2, 0, 0, 1, 1, 1, 0, 0, 4, 0, 2, 3, 4, 5, 4, 4, 3, 1, 3, 2, 2, 1, 0, 0, 0, 0, 2, 1, 0, 2, 1, 0, 7, 1, 1, 0, 0, 0, 0, 0, 1, 1, 2, 1, 11, 8, 7, 7, 8, 8, 8, 8, 8, 8, 8, 8, 10, 10, 10, 10, 10, 10, 10, 10, 10, 10, 10, 10, 10, 8, 0, 6, 6, 6, 7, 7, 7, 7, 7, 1, 7, 8, 9, 7, 7, 7, 7, 7, 0, 0, 0, 1]
def am_fr (m : Nat) : Nat := am_frL.getD m 0
def am_loL : List Nat := [0, 0, 0, 60, 140, 0, 0, 0, 228, 0, 206, 66, 183, 43, 43, 0, 0, 24, 24, 22, 0, 0, 87, 0, 43, 65, 87, 110, 87, 87, 67, 22, 67, 43, 43, 22, 0, 0, 0, 0, 43, 21, 0, 41, 21, 0, 161, 21, 21, 0, 0, 0, 0, 0, 21, 20, 43, 22, 251, 143, 121, 121, 158, 158, 158, 146, 158, 158, 158, 158, 195, 195, 195, 195, 195, 195, 195, 195, 195, 195, 195, 195, 195, 158, 0, 100, 100, 100, 121, 121, 121, 133, 121, 21, 121, 147, 170, 121, 121, 121, 121, 121, 0, 0, 0, 21]
def am_lo (m : Nat) : Nat := am_loL.getD m 0
def am_stat (m : Nat) : Bool := List.contains [0, 1, 2, 49, 103, 104, 105] m
def am_mk0 : List (Nat × Nat × Nat × List Nat) := []
def am_mk1 : List (Nat × Nat × Nat × List Nat) := [(31, 0, 9, [784, 786, 5, 44]), (40, 0, 10, [789, 791, 6, 44]), (44, 0, 44, [812, 770, 771, 43]), (55, 0, 46, [794, 795, 796, 43]), (59, 0, 11, [804, 806, 7, 44]), (67, 0, 12, [838, 840, 9, 44]), (70, 0, 52, [808, 809, 810, 45]), (74, 0, 45, [813, 799, 800, 43]), (78, 0, 47, [814, 815, 816, 43]), (81, 0, 53, [818, 819, 820, 45]), (85, 0, 13, [822, 824, 8, 44]), (89, 0, 48, [826, 827, 828, 43]), (92, 0, 55, [831, 832, 833, 45])]
def am_mk2 : List (Nat × Nat × Nat × List Nat) := [(25, 1, 2, [904, 905, 57]), (31, 0, 41, [907, 908, 909, 46]), (35, 1, 1, [919, 526, 57])]
def am_mk3 : List (Nat × Nat × Nat × List Nat) := [(16, 0, 20, [957, 959, 17, 51]), (20, 0, 21, [961, 963, 18, 51]), (24, 0, 16, [892, 893, 894, 51])]
def am_mk4 : List (Nat × Nat × Nat × List Nat) := [(34, 0, 32, [1128, 1130, 31, 50]), (37, 0, 35, [1136, 1138, 33, 50]), (41, 0, 24, [1180, 1181, 1182, 50]), (45, 0, 25, [1197, 1177, 1178, 50]), (57, 0, 16, [1146, 893, 894, 51]), (60, 0, 28, [1147, 1149, 34, 50]), (64, 0, 29, [1156, 1158, 36, 50]), (67, 1, 0, [1141, 508, 57]), (72, 0, 30, [1160, 1162, 37, 50]), (75, 0, 33, [1164, 1166, 38, 50]), (79, 0, 34, [1132, 1134, 32, 50]), (82, 1, 1, [1151, 526, 57]), (85, 0, 31, [1152, 1154, 35, 50]), (88, 1, 2, [1140, 905, 57]), (91, 0, 23, [1168, 1169, 1170, 50])]
def am_mk5 : List (Nat × Nat × Nat × List Nat) := []
def am_mk6 : List (Nat × Nat × Nat × List Nat) := [(39, 0, 6, [857, 858, 859, 47]), (42, 0, 54, [861, 157, 158, 45]), (48, 0, 38, [862, 863, 864, 48]), (51, 0, 7, [911, 912, 913, 47]), (55, 0, 39, [915, 916, 917, 48])]
def am_mk7 : List (Nat × Nat × Nat × List Nat) := [(31, 0, 44, [769, 770, 771, 43]), (34, 0, 50, [773, 775, 4, 43]), (38, 1, 49, [777, 778, 43]), (41, 0, 45, [798, 799, 800, 43]), (45, 0, 3, [802, 563, 564, 54]), (49, 0, 4, [803, 739, 740, 54]), (53, 1, 1, [830, 526, 57])]
def am_mk8 : List (Nat × Nat × Nat × List Nat) := [(28, 0, 51, [160, 82, 83, 45]), (32, 0, 52, [835, 809, 810, 45]), (36, 0, 55, [852, 832, 833, 45])]
def am_mk9 : List (Nat × Nat × Nat × List Nat) := [(80, 0, 42, [757, 758, 759, 43]), (83, 0, 43, [765, 766, 767, 43]), (86, 0, 8, [780, 781, 782, 44]), (94, 0, 56, [848, 849, 850, 45]), (102, 0, 40, [853, 854, 855, 46]), (106, 0, 15, [866, 867, 868, 49]), (112, 0, 89, [72, 74, 0, 42]), (125, 0, 85, [152, 154, 3, 42]), (129, 0, 54, [156, 157, 158, 45]), (147, 0, 86, [884, 886, 11, 42]), (151, 0, 16, [952, 893, 894, 51]), (155, 0, 91, [1120, 1122, 30, 42]), (174, 0, 25, [1176, 1177, 1178, 50]), (177, 0, 24, [1188, 1181, 1182, 50]), (180, 0, 87, [77, 79, 1, 42]), (194, 0, 92, [880, 882, 10, 42]), (204, 0, 93, [1205, 1207, 39, 42]), (207, 0, 23, [1209, 1169, 1170, 50]), (210, 0, 36, [940, 941, 942, 48]), (214, 0, 95, [932, 934, 14, 42]), (217, 0, 94, [936, 938, 15, 42]), (220, 0, 98, [986, 988, 20, 42]), (224, 1, 0, [1210, 508, 57]), (235, 0, 19, [888, 889, 890, 51]), (238, 1, 105, [980, 981, 42]), (241, 0, 27, [1142, 1143, 1144, 50]), (249, 1, 1, [1238, 526, 57]), (252, 0, 26, [1193, 1194, 1195, 50]), (261, 0, 51, [81, 82, 83, 45]), (264, 0, 14, [900, 901, 902, 49]), (268, 0, 100, [920, 922, 12, 42]), (272, 0, 96, [928, 930, 13, 42]), (275, 0, 90, [965, 967, 19, 42]), (278, 0, 88, [1010, 1012, 22, 42]), (281, 1, 104, [983, 984, 42]), (284, 0, 17, [990, 991, 992, 51]), (288, 0, 5, [924, 925, 926, 47]), (291, 0, 99, [998, 1000, 21, 42]), (295, 0, 101, [1044, 1046, 23, 42]), (307, 1, 103, [1219, 1220, 42]), (310, 0, 102, [1222, 1224, 40, 42]), (324, 0, 22, [1124, 1125, 1126, 50]), (327, 0, 37, [944, 945, 946, 48]), (331, 0, 97, [948, 950, 16, 42]), (334, 0, 18, [953, 954, 955, 51])]
def am_mk10 : List (Nat × Nat × Nat × List Nat) := []
def am_mk11 : List (Nat × Nat × Nat × List Nat) := []
def am_mk12 : List (Nat × Nat × Nat × List Nat) := []
def am_mkL : List (List (Nat × Nat × Nat × List Nat)) := [am_mk0, am_mk1, am_mk2, am_mk3, am_mk4, am_mk5, am_mk6, am_mk7, am_mk8, am_mk9, am_mk10, am_mk11, am_mk12]
def am_mk (m ix : Nat) : Option (Nat × Nat) := (am_lk (am_mkL.getD (am_ow m) []) ix).map (fun q => (q.1, q.2.1))
def am_fk0 : List (Nat × Nat × Nat × Nat) := [(9, 0, 0, 273), (15, 0, 1, 275), (18, 0, 2, 277), (21, 0, 3, 279)]
def am_fk1 : List (Nat × Nat × Nat × Nat) := [(14, 1, 0, 235), (20, 1, 1, 237), (23, 1, 2, 239), (27, 1, 3, 241), (34, 7, 3, 187), (47, 8, 4, 222)]
def am_fk2 : List (Nat × Nat × Nat × Nat) := [(11, 2, 0, 358), (17, 2, 1, 359), (21, 2, 2, 360)]
def am_fk3 : List (Nat × Nat × Nat × Nat) := [(13, 3, 0, 408)]
def am_fk4 : List (Nat × Nat × Nat × Nat) := [(11, 4, 0, 374), (15, 4, 1, 375), (19, 4, 2, 376), (22, 4, 3, 378), (25, 4, 4, 380), (28, 4, 5, 382), (31, 4, 6, 384)]
def am_fk5 : List (Nat × Nat × Nat × Nat) := [(9, 5, 0, 295), (15, 5, 1, 297), (18, 5, 2, 299), (21, 5, 3, 301), (24, 5, 4, 303), (27, 5, 5, 305), (30, 5, 6, 307), (33, 5, 7, 309)]
def am_fk6 : List (Nat × Nat × Nat × Nat) := [(9, 6, 0, 328), (15, 6, 1, 330), (19, 6, 2, 332), (24, 6, 3, 334), (30, 6, 4, 336)]
def am_fk7 : List (Nat × Nat × Nat × Nat) := [(9, 7, 0, 182), (15, 7, 1, 183), (19, 7, 2, 185), (22, 7, 3, 186), (25, 7, 4, 188), (28, 7, 5, 190)]
def am_fk8 : List (Nat × Nat × Nat × Nat) := [(9, 8, 1, 218), (15, 8, 2, 219), (18, 8, 3, 220), (21, 8, 4, 221), (25, 8, 0, 217)]
def am_fk9 : List (Nat × Nat × Nat × Nat) := [(12, 9, 0, 412), (19, 9, 1, 413), (23, 9, 2, 414), (27, 9, 3, 415), (31, 9, 4, 416), (39, 9, 5, 417), (43, 9, 6, 418), (48, 9, 7, 419), (55, 9, 8, 420), (62, 9, 9, 421), (69, 9, 10, 422), (73, 9, 11, 423), (77, 7, 1, 184), (90, 7, 4, 189), (93, 1, 0, 236), (98, 1, 1, 238), (99, 1, 2, 240), (109, 8, 4, 223), (116, 6, 0, 329), (124, 6, 1, 331), (133, 0, 0, 274), (138, 0, 1, 276), (141, 0, 2, 278), (144, 0, 3, 280), (159, 4, 3, 379), (162, 4, 4, 381), (165, 4, 5, 383), (168, 4, 6, 385), (171, 4, 2, 377), (184, 5, 0, 296), (187, 5, 1, 298), (188, 5, 2, 300), (191, 5, 3, 302), (198, 5, 7, 310), (201, 5, 6, 308), (229, 5, 4, 304), (232, 5, 5, 306), (258, 6, 2, 333), (313, 6, 3, 335), (320, 6, 4, 337)]
def am_fk10 : List (Nat × Nat × Nat × Nat) := []
def am_fk11 : List (Nat × Nat × Nat × Nat) := []
def am_fk12 : List (Nat × Nat × Nat × Nat) := []
def am_fkL : List (List (Nat × Nat × Nat × Nat)) := [am_fk0, am_fk1, am_fk2, am_fk3, am_fk4, am_fk5, am_fk6, am_fk7, am_fk8, am_fk9, am_fk10, am_fk11, am_fk12]
def am_fk (m ix : Nat) : Option (Nat × Nat) := (am_lk (am_fkL.getD (am_ow m) []) ix).map (fun q => (q.1, q.2.1))
def am_skL : List (List (Nat × Nat × Nat × Nat)) := [[], [(50, 205, 1, 788), (100, 206, 1, 844), (103, 207, 1, 846)], [], [], [], [], [(34, 205, 1, 266)], [], [], [(298, 206, 0, 1038), (301, 207, 0, 1039)], [], [], []]
def am_sk (m ix : Nat) : Option Nat := (am_lk (am_skL.getD (am_ow m) []) ix).map (fun q => q.1)
def am_ckL : List (List (Nat × (Int32 ⊕ Nat) × Nat)) := [[], [(53, .inr 208, 793), (63, .inr 209, 836), (65, .inr 210, 837), (96, .inr 211, 842), (98, .inr 212, 843)], [], [], [], [], [], [], [], [], [], [], []]
def am_cst (m ix : Nat) : Option (Int32 ⊕ Nat) := (am_lk (am_ckL.getD (am_ow m) []) ix).map (fun q => q.1)
def am_thL : List (Nat × Nat × Nat) := [(85, 23, 317), (86, 20, 317), (87, 23, 317), (91, 16, 317)]
def am_thr (m pc ix : Nat) : Bool := am_thL.any (fun q => Nat.beq q.1 m && Nat.beq q.2.1 pc && Nat.beq q.2.2 ix)
def am_cwL : List Nat := [509, 527, 906, 565, 741, 927, 860, 914, 783, 787, 792, 807, 841, 825, 903, 869, 895, 993, 956, 891, 960, 964, 1127, 1171, 1183, 1179, 1196, 1145, 1150, 1159, 1163, 1155, 1131, 1167, 1135, 1139, 943, 947, 865, 918, 856, 910, 760, 768, 772, 801, 797, 817, 829, 779, 776, 84, 811, 821, 159, 834, 851, 756, 764, 71, 151, 1094, 1119, 1175, 1187, 879, 1204, 1214, 1237, 1192, 899, 1033, 1009, 1017, 1021, 1025, 1029, 979, 972, 997, 1005, 1043, 1037, 1218, 1230, 155, 887, 80, 1013, 76, 968, 1123, 883, 1208, 939, 935, 931, 951, 989, 1001, 923, 1047, 1225, 1221, 985, 982]
def am_AT : List Cond := lw_tbl.filter goodWord
def am_hs (i : Nat) (w : Cond) : Bool := decide (lw_tbl[i]? = some w) && goodWord w
theorem am_hs_in {i : Nat} {w : Cond} (h : am_hs i w = true) : w ∈ am_AT := by
  simp only [am_hs, Bool.and_eq_true, decide_eq_true_eq] at h
  exact List.mem_filter.mpr ⟨List.mem_of_getElem? h.1, h.2⟩
def tMMAX : List (Nat × Instr × Nat) := [(0, .iload_n 0, 1), (1, .iload_n 1, 1), (2, .if_icmp .lt 7, 3), (5, .iload_n 0, 1), (6, .goto 4, 3), (9, .iload_n 1, 1), (10, .ireturn, 1)]
def tMMIN : List (Nat × Instr × Nat) := [(0, .iload_n 0, 1), (1, .iload_n 1, 1), (2, .if_icmp .gt 7, 3), (5, .iload_n 0, 1), (6, .goto 4, 3), (9, .iload_n 1, 1), (10, .ireturn, 1)]
def tJ9_floorMod_7cf53 : List (Nat × Instr × Nat) := [(0, .iload_n 0, 1), (1, .iload_n 1, 1), (2, .irem, 1), (3, .istore_n 2, 1), (4, .iload_n 0, 1), (5, .iload_n 1, 1), (6, .ixor, 1), (7, .ifCond .ge 11, 3), (10, .iload_n 2, 1), (11, .ifCond .eq 7, 3), (14, .iload_n 2, 1), (15, .iload_n 1, 1), (16, .iadd, 1), (17, .ireturn, 1), (18, .iload_n 2, 1), (19, .ireturn, 1)]
def tX0_handOver : List (Nat × Instr × Nat) := [(0, .aload_n 0, 1), (1, .aload_n 0, 1), (2, .getfield 18, 3), (5, .putfield 15, 3), (8, .aload_n 0, 1), (9, .iconst (-1), 1), (10, .putfield 18, 3), (13, .return_, 1)]
def tX0_restart : List (Nat × Instr × Nat) := [(0, .aload_n 0, 1), (1, .iconst 0, 1), (2, .putfield 9, 3), (5, .aload_n 0, 1), (6, .iconst (-1), 1), (7, .putfield 15, 3), (10, .aload_n 0, 1), (11, .iconst (-1), 1), (12, .putfield 18, 3), (15, .aload_n 0, 1), (16, .iconst 0, 1), (17, .putfield 21, 3), (20, .return_, 1)]
def tX0_copyFrom : List (Nat × Instr × Nat) := [(0, .aload_n 0, 1), (1, .aload_n 1, 1), (2, .getfield 9, 3), (5, .putfield 9, 3), (8, .aload_n 0, 1), (9, .aload_n 1, 1), (10, .getfield 15, 3), (13, .putfield 15, 3), (16, .aload_n 0, 1), (17, .aload_n 1, 1), (18, .getfield 18, 3), (21, .putfield 18, 3), (24, .aload_n 0, 1), (25, .aload_n 1, 1), (26, .getfield 21, 3), (29, .putfield 21, 3), (32, .return_, 1)]
def tX1_read : List (Nat × Instr × Nat) := [(0, .aload_n 0, 1), (1, .invokevirtual 31, 3), (4, .iconst 0, 1), (5, .istore_n 2, 1), (6, .iload_n 2, 1), (7, .sipush 600, 3), (10, .if_icmp .ge 32, 3), (13, .aload_n 1, 1), (14, .getfield 34, 3), (17, .ifCond .eq 25, 3), (20, .aload_n 0, 1), (21, .aload_n 1, 1), (22, .invokevirtual 40, 3), (25, .istore_n 3, 1), (26, .iload_n 3, 1), (27, .ifCond .eq 5, 3), (30, .iload_n 3, 1), (31, .ireturn, 1), (32, .iinc 2 1, 3), (35, .aload_n 1, 1), (36, .invokevirtual 44, 3), (39, .goto (-33), 3), (42, .iload_n 2, 1), (43, .ireturn, 1)]
def tX1_restart : List (Nat × Instr × Nat) := [(0, .aload_n 0, 1), (1, .getfield 14, 3), (4, .iconst 0, 1), (5, .putfield 47, 3), (8, .aload_n 0, 1), (9, .getfield 20, 3), (12, .iconst 0, 1), (13, .putfield 47, 3), (16, .iconst 0, 1), (17, .istore_n 1, 1), (18, .iload_n 1, 1), (19, .iconst 2, 1), (20, .if_icmp .ge 27, 3), (23, .aload_n 0, 1), (24, .getfield 23, 3), (27, .iload_n 1, 1), (28, .getstatic 50, 3), (31, .iload_n 1, 1), (32, .iaload, 1), (33, .iastore, 1), (34, .aload_n 0, 1), (35, .getfield 27, 3), (38, .iload_n 1, 1), (39, .iconst 0, 1), (40, .bastore, 1), (41, .iinc 1 1, 3), (44, .goto (-26), 3), (47, .return_, 1)]
def tX1_readStatement : List (Nat × Instr × Nat) := [(0, .aload_n 1, 1), (1, .ldc 53, 2), (3, .invokevirtual 55, 3), (6, .ifCond .eq 16, 3), (9, .aload_n 0, 1), (10, .aload_n 1, 1), (11, .aload_n 0, 1), (12, .getfield 14, 3), (15, .invokevirtual 59, 3), (18, .istore_n 2, 1), (19, .goto 46, 3), (22, .aload_n 1, 1), (23, .ldc 63, 2), (25, .invokevirtual 55, 3), (28, .ifCond .eq 16, 3), (31, .aload_n 0, 1), (32, .aload_n 1, 1), (33, .aload_n 0, 1), (34, .getfield 20, 3), (37, .invokevirtual 59, 3), (40, .istore_n 2, 1), (41, .goto 24, 3), (44, .aload_n 1, 1), (45, .ldc 65, 2), (47, .invokevirtual 55, 3), (50, .ifCond .eq 12, 3), (53, .aload_n 0, 1), (54, .aload_n 1, 1), (55, .invokevirtual 67, 3), (58, .istore_n 2, 1), (59, .goto 6, 3), (62, .bipush (-11), 2), (64, .istore_n 2, 1), (65, .iload_n 2, 1), (66, .ifCond .eq 5, 3), (69, .iload_n 2, 1), (70, .ireturn, 1), (71, .aload_n 1, 1), (72, .invokevirtual 44, 3), (75, .aload_n 1, 1), (76, .getfield 34, 3), (79, .iconst 3, 1), (80, .if_icmp .ne 7, 3), (83, .iconst 0, 1), (84, .goto 5, 3), (87, .bipush (-11), 2), (89, .ireturn, 1)]
def tX1_readDeclaration : List (Nat × Instr × Nat) := [(0, .aload_n 2, 1), (1, .invokevirtual 70, 3), (4, .ifCond .eq 6, 3), (7, .bipush (-15), 2), (9, .ireturn, 1), (10, .aload_n 1, 1), (11, .invokevirtual 44, 3), (14, .aload_n 1, 1), (15, .getfield 34, 3), (18, .iconst 1, 1), (19, .if_icmp .ne 12, 3), (22, .aload_n 1, 1), (23, .invokevirtual 74, 3), (26, .bipush 6, 2), (28, .if_icmp .le 6, 3), (31, .bipush (-11), 2), (33, .ireturn, 1), (34, .aload_n 1, 1), (35, .invokevirtual 78, 3), (38, .istore_n 3, 1), (39, .aload_n 2, 1), (40, .iload_n 3, 1), (41, .invokevirtual 81, 3), (44, .iconst (-1), 1), (45, .if_icmp .eq 6, 3), (48, .bipush (-14), 2), (50, .ireturn, 1), (51, .aload_n 0, 1), (52, .aload_n 1, 1), (53, .iconst 2, 1), (54, .bipush 16, 2), (56, .invokevirtual 85, 3), (59, .istore 4, 2), (61, .iload 4, 2), (63, .ifCond .eq 6, 3), (66, .iload 4, 2), (68, .ireturn, 1), (69, .aload_n 1, 1), (70, .invokevirtual 89, 3), (73, .istore 5, 2), (75, .aload_n 0, 1), (76, .aload_n 1, 1), (77, .iconst 1, 1), (78, .bipush 6, 2), (80, .invokevirtual 85, 3), (83, .istore 4, 2), (85, .iload 4, 2), (87, .ifCond .eq 6, 3), (90, .iload 4, 2), (92, .ireturn, 1), (93, .aload_n 2, 1), (94, .iload_n 3, 1), (95, .iload 5, 2), (97, .aload_n 1, 1), (98, .invokevirtual 89, 3), (101, .invokevirtual 92, 3), (104, .iconst 0, 1), (105, .ireturn, 1)]
def tX1_readSetting : List (Nat × Instr × Nat) := [(0, .aload_n 1, 1), (1, .invokevirtual 44, 3), (4, .aload_n 1, 1), (5, .ldc 96, 2), (7, .invokevirtual 55, 3), (10, .ifCond .ne 15, 3), (13, .aload_n 1, 1), (14, .ldc 98, 2), (16, .invokevirtual 55, 3), (19, .ifCond .ne 6, 3), (22, .bipush (-11), 2), (24, .ireturn, 1), (25, .aload_n 1, 1), (26, .ldc 96, 2), (28, .invokevirtual 55, 3), (31, .ifCond .eq 7, 3), (34, .iconst 0, 1), (35, .goto 4, 3), (38, .iconst 1, 1), (39, .istore_n 2, 1), (40, .aload_n 0, 1), (41, .getfield 27, 3), (44, .iload_n 2, 1), (45, .baload, 1), (46, .ifCond .eq 6, 3), (49, .bipush (-14), 2), (51, .ireturn, 1), (52, .aload_n 0, 1), (53, .aload_n 1, 1), (54, .getstatic 100, 3), (57, .iload_n 2, 1), (58, .iaload, 1), (59, .getstatic 103, 3), (62, .iload_n 2, 1), (63, .iaload, 1), (64, .invokevirtual 85, 3), (67, .istore_n 3, 1), (68, .iload_n 3, 1), (69, .ifCond .eq 5, 3), (72, .iload_n 3, 1), (73, .ireturn, 1), (74, .aload_n 0, 1), (75, .getfield 27, 3), (78, .iload_n 2, 1), (79, .iconst 1, 1), (80, .bastore, 1), (81, .aload_n 0, 1), (82, .getfield 23, 3), (85, .iload_n 2, 1), (86, .aload_n 1, 1), (87, .invokevirtual 89, 3), (90, .iastore, 1), (91, .iconst 0, 1), (92, .ireturn, 1)]
def tX1_readNumber : List (Nat × Instr × Nat) := [(0, .aload_n 1, 1), (1, .invokevirtual 44, 3), (4, .aload_n 1, 1), (5, .getfield 34, 3), (8, .iconst 2, 1), (9, .if_icmp .eq 6, 3), (12, .bipush (-11), 2), (14, .ireturn, 1), (15, .aload_n 1, 1), (16, .invokevirtual 89, 3), (19, .iload_n 2, 1), (20, .if_icmp .lt 11, 3), (23, .aload_n 1, 1), (24, .invokevirtual 89, 3), (27, .iload_n 3, 1), (28, .if_icmp .le 8, 3), (31, .bipush (-12), 2), (33, .goto 4, 3), (36, .iconst 0, 1), (37, .ireturn, 1)]
def tX2_keep : List (Nat × Instr × Nat) := [(0, .aload_n 0, 1), (1, .getfield 11, 3), (4, .aload_n 0, 1), (5, .getfield 17, 3), (8, .bipush 8, 2), (10, .invokestatic 25, 3), (13, .aaload, 1), (14, .aload_n 1, 1), (15, .invokevirtual 31, 3), (18, .aload_n 0, 1), (19, .aload_n 0, 1), (20, .getfield 17, 3), (23, .iconst 1, 1), (24, .iadd, 1), (25, .bipush 8, 2), (27, .invokestatic 25, 3), (30, .putfield 17, 3), (33, .aload_n 0, 1), (34, .aload_n 0, 1), (35, .getfield 21, 3), (38, .iconst 1, 1), (39, .iadd, 1), (40, .bipush 8, 2), (42, .invokestatic 35, 3), (45, .putfield 21, 3), (48, .return_, 1)]
def tX2_forget : List (Nat × Instr × Nat) := [(0, .aload_n 0, 1), (1, .iconst 0, 1), (2, .putfield 21, 3), (5, .return_, 1)]
def tX3_number : List (Nat × Instr × Nat) := [(0, .iload_n 1, 1), (1, .ifCond .lt 19, 3), (4, .iload_n 1, 1), (5, .iconst 5, 1), (6, .if_icmp .ge 14, 3), (9, .iload_n 2, 1), (10, .ifCond .lt 10, 3), (13, .iload_n 2, 1), (14, .sipush 300, 3), (17, .if_icmp .lt 5, 3), (20, .iconst 0, 1), (21, .ireturn, 1), (22, .aload_n 0, 1), (23, .getfield 13, 3), (26, .iload_n 1, 1), (27, .aaload, 1), (28, .iload_n 2, 1), (29, .iaload, 1), (30, .ireturn, 1)]
def tX3_putTyped : List (Nat × Instr × Nat) := [(0, .aload_n 0, 1), (1, .iload_n 1, 1), (2, .iconst 0, 1), (3, .iload_n 2, 1), (4, .iconst 0, 1), (5, .invokevirtual 16, 3), (8, .aload_n 0, 1), (9, .iload_n 1, 1), (10, .iload_n 3, 1), (11, .iload 4, 2), (13, .invokevirtual 20, 3), (16, .return_, 1)]
def tX3_putSized : List (Nat × Instr × Nat) := [(0, .aload_n 0, 1), (1, .iload_n 1, 1), (2, .iconst 1, 1), (3, .iload_n 2, 1), (4, .iload_n 3, 1), (5, .invokevirtual 16, 3), (8, .aload_n 0, 1), (9, .iload_n 1, 1), (10, .iload 4, 2), (12, .iconst (-1), 1), (13, .invokevirtual 20, 3), (16, .return_, 1)]
def tX3_timeBetween : List (Nat × Instr × Nat) := [(0, .aload_n 0, 1), (1, .iconst 3, 1), (2, .iload_n 2, 1), (3, .invokevirtual 24, 3), (6, .aload_n 0, 1), (7, .iconst 3, 1), (8, .iload_n 1, 1), (9, .invokevirtual 24, 3), (12, .isub, 1), (13, .ireturn, 1)]
def tX3_put : List (Nat × Instr × Nat) := [(0, .iload_n 1, 1), (1, .ifCond .lt 38, 3), (4, .iload_n 1, 1), (5, .sipush 300, 3), (8, .if_icmp .ge 31, 3), (11, .aload_n 0, 1), (12, .getfield 13, 3), (15, .iconst 0, 1), (16, .aaload, 1), (17, .iload_n 1, 1), (18, .iload_n 2, 1), (19, .iastore, 1), (20, .aload_n 0, 1), (21, .getfield 13, 3), (24, .iconst 1, 1), (25, .aaload, 1), (26, .iload_n 1, 1), (27, .iload_n 3, 1), (28, .iastore, 1), (29, .aload_n 0, 1), (30, .getfield 13, 3), (33, .iconst 2, 1), (34, .aaload, 1), (35, .iload_n 1, 1), (36, .iload 4, 2), (38, .iastore, 1), (39, .return_, 1)]
def tX3_putOrigin : List (Nat × Instr × Nat) := [(0, .iload_n 1, 1), (1, .ifCond .lt 28, 3), (4, .iload_n 1, 1), (5, .sipush 300, 3), (8, .if_icmp .ge 21, 3), (11, .aload_n 0, 1), (12, .getfield 13, 3), (15, .iconst 3, 1), (16, .aaload, 1), (17, .iload_n 1, 1), (18, .iload_n 2, 1), (19, .iastore, 1), (20, .aload_n 0, 1), (21, .getfield 13, 3), (24, .iconst 4, 1), (25, .aaload, 1), (26, .iload_n 1, 1), (27, .iload_n 3, 1), (28, .iastore, 1), (29, .return_, 1)]
def tX4_restart : List (Nat × Instr × Nat) := [(0, .aload_n 0, 1), (1, .iconst 0, 1), (2, .putfield 15, 3), (5, .aload_n 0, 1), (6, .iconst 0, 1), (7, .putfield 19, 3), (10, .aload_n 0, 1), (11, .iload_n 1, 1), (12, .putfield 22, 3), (15, .aload_n 0, 1), (16, .iconst 0, 1), (17, .putfield 25, 3), (20, .aload_n 0, 1), (21, .iconst 0, 1), (22, .putfield 28, 3), (25, .aload_n 0, 1), (26, .iconst 0, 1), (27, .putfield 31, 3), (30, .iconst 0, 1), (31, .istore_n 3, 1), (32, .iload_n 3, 1), (33, .iload_n 2, 1), (34, .if_icmp .ge 13, 3), (37, .aload_n 0, 1), (38, .invokevirtual 34, 3), (41, .iinc 3 1, 3), (44, .goto (-12), 3), (47, .return_, 1)]
def tX4_cursorLine : List (Nat × Instr × Nat) := [(0, .aload_n 0, 1), (1, .getfield 19, 3), (4, .aload_n 0, 1), (5, .getfield 28, 3), (8, .iadd, 1), (9, .ireturn, 1)]
def tX4_symbolInLine : List (Nat × Instr × Nat) := [(0, .iload_n 1, 1), (1, .ifCond .lt 26, 3), (4, .iload_n 1, 1), (5, .aload_n 0, 1), (6, .getfield 19, 3), (9, .aload_n 0, 1), (10, .getfield 25, 3), (13, .iadd, 1), (14, .if_icmp .ge 13, 3), (17, .iload_n 2, 1), (18, .ifCond .lt 9, 3), (21, .iload_n 2, 1), (22, .bipush 16, 2), (24, .if_icmp .lt 6, 3), (27, .bipush 27, 2), (29, .ireturn, 1), (30, .aload_n 0, 1), (31, .getfield 11, 3), (34, .aload_n 0, 1), (35, .iload_n 1, 1), (36, .invokevirtual 37, 3), (39, .iload_n 2, 1), (40, .iadd, 1), (41, .iaload, 1), (42, .ireturn, 1)]
def tX4_symbolOnScreen : List (Nat × Instr × Nat) := [(0, .aload_n 0, 1), (1, .aload_n 0, 1), (2, .getfield 19, 3), (5, .iload_n 1, 1), (6, .iadd, 1), (7, .iload_n 2, 1), (8, .invokevirtual 41, 3), (11, .ireturn, 1)]
def tX4_fullPlaces : List (Nat × Instr × Nat) := [(0, .iconst 0, 1), (1, .istore_n 1, 1), (2, .iconst 0, 1), (3, .istore_n 2, 1), (4, .iload_n 2, 1), (5, .aload_n 0, 1), (6, .getfield 25, 3), (9, .if_icmp .ge 39, 3), (12, .iconst 0, 1), (13, .istore_n 3, 1), (14, .iload_n 3, 1), (15, .aload_n 0, 1), (16, .getfield 22, 3), (19, .if_icmp .ge 23, 3), (22, .aload_n 0, 1), (23, .iload_n 2, 1), (24, .iload_n 3, 1), (25, .invokevirtual 45, 3), (28, .bipush 27, 2), (30, .if_icmp .eq 6, 3), (33, .iinc 1 1, 3), (36, .iinc 3 1, 3), (39, .goto (-25), 3), (42, .iinc 2 1, 3), (45, .goto (-41), 3), (48, .iload_n 1, 1), (49, .ireturn, 1)]
def tX4_play : List (Nat × Instr × Nat) := [(0, .aload_n 1, 1), (1, .iconst 1, 1), (2, .iload_n 2, 1), (3, .invokevirtual 57, 3), (6, .istore_n 3, 1), (7, .aload_n 1, 1), (8, .iconst 0, 1), (9, .iload_n 2, 1), (10, .invokevirtual 57, 3), (13, .iconst 1, 1), (14, .if_icmp .ne 15, 3), (17, .aload_n 0, 1), (18, .iload_n 3, 1), (19, .aload_n 1, 1), (20, .iconst 2, 1), (21, .iload_n 2, 1), (22, .invokevirtual 57, 3), (25, .invokevirtual 60, 3), (28, .return_, 1), (29, .iload_n 3, 1), (30, .tableswitch 69 28 31 #[30, 37, 45, 62], 30), (60, .aload_n 0, 1), (61, .invokevirtual 64, 3), (64, .goto 40, 3), (67, .aload_n 0, 1), (68, .iconst 0, 1), (69, .putfield 31, 3), (72, .goto 32, 3), (75, .aload_n 0, 1), (76, .aload_n 0, 1), (77, .getfield 31, 3), (80, .iconst 1, 1), (81, .isub, 1), (82, .iconst 0, 1), (83, .invokestatic 67, 3), (86, .putfield 31, 3), (89, .goto 15, 3), (92, .aload_n 0, 1), (93, .invokevirtual 72, 3), (96, .goto 8, 3), (99, .aload_n 0, 1), (100, .iload_n 3, 1), (101, .invokevirtual 75, 3), (104, .aload_n 0, 1), (105, .getfield 31, 3), (108, .aload_n 0, 1), (109, .getfield 22, 3), (112, .if_icmp .lt 7, 3), (115, .aload_n 0, 1), (116, .invokevirtual 64, 3), (119, .return_, 1)]
def tX4_resize : List (Nat × Instr × Nat) := [(0, .iconst 0, 1), (1, .istore_n 3, 1), (2, .iload_n 3, 1), (3, .aload_n 0, 1), (4, .getfield 25, 3), (7, .if_icmp .ge 20, 3), (10, .aload_n 0, 1), (11, .aload_n 0, 1), (12, .getfield 19, 3), (15, .iload_n 3, 1), (16, .iadd, 1), (17, .iload_n 1, 1), (18, .invokevirtual 79, 3), (21, .iinc 3 1, 3), (24, .goto (-22), 3), (27, .aload_n 0, 1), (28, .iload_n 1, 1), (29, .putfield 22, 3), (32, .aload_n 0, 1), (33, .aload_n 0, 1), (34, .getfield 31, 3), (37, .iload_n 1, 1), (38, .iconst 1, 1), (39, .isub, 1), (40, .invokestatic 82, 3), (43, .putfield 31, 3), (46, .aload_n 0, 1), (47, .getfield 28, 3), (50, .iload_n 2, 1), (51, .isub, 1), (52, .iconst 1, 1), (53, .iadd, 1), (54, .istore_n 3, 1), (55, .iload_n 3, 1), (56, .ifCond .le 23, 3), (59, .aload_n 0, 1), (60, .invokevirtual 85, 3), (63, .aload_n 0, 1), (64, .dup, 1), (65, .getfield 28, 3), (68, .iconst 1, 1), (69, .isub, 1), (70, .putfield 28, 3), (73, .iinc 3 (-1), 3), (76, .goto (-21), 3), (79, .aload_n 0, 1), (80, .aload_n 0, 1), (81, .getfield 25, 3), (84, .iload_n 2, 1), (85, .invokestatic 82, 3), (88, .putfield 25, 3), (91, .aload_n 0, 1), (92, .getfield 25, 3), (95, .istore_n 3, 1), (96, .iload_n 3, 1), (97, .iload_n 2, 1), (98, .if_icmp .ge 13, 3), (101, .aload_n 0, 1), (102, .invokevirtual 34, 3), (105, .iinc 3 1, 3), (108, .goto (-12), 3), (111, .return_, 1)]
def tX4_goDown : List (Nat × Instr × Nat) := [(0, .aload_n 0, 1), (1, .iconst 0, 1), (2, .putfield 31, 3), (5, .aload_n 0, 1), (6, .getfield 28, 3), (9, .aload_n 0, 1), (10, .getfield 25, 3), (13, .iconst 1, 1), (14, .isub, 1), (15, .if_icmp .ge 16, 3), (18, .aload_n 0, 1), (19, .dup, 1), (20, .getfield 28, 3), (23, .iconst 1, 1), (24, .iadd, 1), (25, .putfield 28, 3), (28, .goto 11, 3), (31, .aload_n 0, 1), (32, .invokevirtual 85, 3), (35, .aload_n 0, 1), (36, .invokevirtual 34, 3), (39, .return_, 1)]
def tX4_clear : List (Nat × Instr × Nat) := [(0, .aload_n 0, 1), (1, .iconst 0, 1), (2, .putfield 28, 3), (5, .aload_n 0, 1), (6, .iconst 0, 1), (7, .putfield 31, 3), (10, .iconst 0, 1), (11, .istore_n 1, 1), (12, .iload_n 1, 1), (13, .aload_n 0, 1), (14, .getfield 25, 3), (17, .if_icmp .ge 20, 3), (20, .aload_n 0, 1), (21, .aload_n 0, 1), (22, .getfield 19, 3), (25, .iload_n 1, 1), (26, .iadd, 1), (27, .iconst 0, 1), (28, .invokevirtual 79, 3), (31, .iinc 1 1, 3), (34, .goto (-22), 3), (37, .return_, 1)]
def tX4_sendUppermostRowUp : List (Nat × Instr × Nat) := [(0, .aload_n 0, 1), (1, .getfield 19, 3), (4, .bipush 40, 2), (6, .if_icmp .ge 16, 3), (9, .aload_n 0, 1), (10, .dup, 1), (11, .getfield 19, 3), (14, .iconst 1, 1), (15, .iadd, 1), (16, .putfield 19, 3), (19, .goto 18, 3), (22, .aload_n 0, 1), (23, .aload_n 0, 1), (24, .getfield 15, 3), (27, .iconst 1, 1), (28, .iadd, 1), (29, .bipush 46, 2), (31, .invokestatic 88, 3), (34, .putfield 15, 3), (37, .aload_n 0, 1), (38, .dup, 1), (39, .getfield 25, 3), (42, .iconst 1, 1), (43, .isub, 1), (44, .putfield 25, 3), (47, .return_, 1)]
def tX4_addRow : List (Nat × Instr × Nat) := [(0, .aload_n 0, 1), (1, .dup, 1), (2, .getfield 25, 3), (5, .iconst 1, 1), (6, .iadd, 1), (7, .putfield 25, 3), (10, .aload_n 0, 1), (11, .aload_n 0, 1), (12, .getfield 19, 3), (15, .aload_n 0, 1), (16, .getfield 25, 3), (19, .iadd, 1), (20, .iconst 1, 1), (21, .isub, 1), (22, .iconst 0, 1), (23, .invokevirtual 79, 3), (26, .return_, 1)]
def tX4_put : List (Nat × Instr × Nat) := [(0, .aload_n 0, 1), (1, .getfield 31, 3), (4, .ifCond .lt 31, 3), (7, .aload_n 0, 1), (8, .getfield 31, 3), (11, .bipush 16, 2), (13, .if_icmp .ge 22, 3), (16, .aload_n 0, 1), (17, .getfield 11, 3), (20, .aload_n 0, 1), (21, .aload_n 0, 1), (22, .invokevirtual 91, 3), (25, .invokevirtual 37, 3), (28, .aload_n 0, 1), (29, .getfield 31, 3), (32, .iadd, 1), (33, .iload_n 1, 1), (34, .iastore, 1), (35, .aload_n 0, 1), (36, .dup, 1), (37, .getfield 31, 3), (40, .iconst 1, 1), (41, .iadd, 1), (42, .putfield 31, 3), (45, .return_, 1)]
def tX4_emptyFrom : List (Nat × Instr × Nat) := [(0, .aload_n 0, 1), (1, .iload_n 1, 1), (2, .invokevirtual 37, 3), (5, .istore_n 3, 1), (6, .iload_n 2, 1), (7, .iconst 0, 1), (8, .invokestatic 67, 3), (11, .istore 4, 2), (13, .iload 4, 2), (15, .bipush 16, 2), (17, .if_icmp .ge 20, 3), (20, .aload_n 0, 1), (21, .getfield 11, 3), (24, .iload_n 3, 1), (25, .iload 4, 2), (27, .iadd, 1), (28, .bipush 27, 2), (30, .iastore, 1), (31, .iinc 4 1, 3), (34, .goto (-21), 3), (37, .return_, 1)]
def tX4_startOf : List (Nat × Instr × Nat) := [(0, .aload_n 0, 1), (1, .getfield 15, 3), (4, .iload_n 1, 1), (5, .iadd, 1), (6, .bipush 46, 2), (8, .invokestatic 88, 3), (11, .bipush 16, 2), (13, .imul, 1), (14, .ireturn, 1)]
def tX5_watches : List (Nat × Instr × Nat) := [(0, .aload_n 0, 1), (1, .getfield 18, 3), (4, .iload_n 2, 1), (5, .if_icmp .ne 15, 3), (8, .aload_n 0, 1), (9, .getfield 21, 3), (12, .iload_n 1, 1), (13, .if_icmp .ne 7, 3), (16, .iconst 1, 1), (17, .goto 4, 3), (20, .iconst 0, 1), (21, .ireturn, 1)]
def tX5_windowSize : List (Nat × Instr × Nat) := [(0, .iload_n 1, 1), (1, .ifCond .eq 10, 3), (4, .aload_n 0, 1), (5, .getfield 15, 3), (8, .goto 7, 3), (11, .aload_n 0, 1), (12, .getfield 9, 3), (15, .ireturn, 1)]
def tX5_restart : List (Nat × Instr × Nat) := [(0, .aload_n 0, 1), (1, .iload_n 1, 1), (2, .putfield 9, 3), (5, .aload_n 0, 1), (6, .iload_n 2, 1), (7, .putfield 15, 3), (10, .aload_n 0, 1), (11, .iconst 0, 1), (12, .putfield 18, 3), (15, .aload_n 0, 1), (16, .iconst 0, 1), (17, .putfield 21, 3), (20, .aload_n 0, 1), (21, .iconst 0, 1), (22, .putfield 24, 3), (25, .aload_n 0, 1), (26, .iconst 0, 1), (27, .putfield 27, 3), (30, .aload_n 0, 1), (31, .iconst 0, 1), (32, .putfield 30, 3), (35, .aload_n 0, 1), (36, .iconst 0, 1), (37, .putfield 33, 3), (40, .return_, 1)]
def tX5_copyFrom : List (Nat × Instr × Nat) := [(0, .aload_n 0, 1), (1, .aload_n 1, 1), (2, .getfield 9, 3), (5, .putfield 9, 3), (8, .aload_n 0, 1), (9, .aload_n 1, 1), (10, .getfield 15, 3), (13, .putfield 15, 3), (16, .aload_n 0, 1), (17, .aload_n 1, 1), (18, .getfield 18, 3), (21, .putfield 18, 3), (24, .aload_n 0, 1), (25, .aload_n 1, 1), (26, .getfield 21, 3), (29, .putfield 21, 3), (32, .aload_n 0, 1), (33, .aload_n 1, 1), (34, .getfield 24, 3), (37, .putfield 24, 3), (40, .aload_n 0, 1), (41, .aload_n 1, 1), (42, .getfield 27, 3), (45, .putfield 27, 3), (48, .aload_n 0, 1), (49, .aload_n 1, 1), (50, .getfield 30, 3), (53, .putfield 30, 3), (56, .aload_n 0, 1), (57, .aload_n 1, 1), (58, .getfield 33, 3), (61, .putfield 33, 3), (64, .return_, 1)]
def tX6_restart : List (Nat × Instr × Nat) := [(0, .aload_n 0, 1), (1, .iconst 0, 1), (2, .putfield 9, 3), (5, .iconst 0, 1), (6, .istore_n 3, 1), (7, .iload_n 3, 1), (8, .iconst 2, 1), (9, .if_icmp .ge 24, 3), (12, .iload_n 3, 1), (13, .aload_n 2, 1), (14, .arraylength, 1), (15, .if_icmp .ge 18, 3), (18, .aload_n 0, 1), (19, .getfield 15, 3), (22, .iload_n 3, 1), (23, .aload_n 2, 1), (24, .iload_n 3, 1), (25, .iaload, 1), (26, .iastore, 1), (27, .iinc 3 1, 3), (30, .goto (-23), 3), (33, .iconst 0, 1), (34, .istore_n 3, 1), (35, .iload_n 3, 1), (36, .iconst 4, 1), (37, .if_icmp .ge 16, 3), (40, .aload_n 0, 1), (41, .getfield 19, 3), (44, .iload_n 3, 1), (45, .iconst 0, 1), (46, .iastore, 1), (47, .iinc 3 1, 3), (50, .goto (-15), 3), (53, .iconst 0, 1), (54, .istore_n 3, 1), (55, .iload_n 3, 1), (56, .iconst 4, 1), (57, .if_icmp .ge 18, 3), (60, .aload_n 0, 1), (61, .getfield 24, 3), (64, .iload_n 3, 1), (65, .aaload, 1), (66, .invokevirtual 39, 3), (69, .iinc 3 1, 3), (72, .goto (-17), 3), (75, .iconst 0, 1), (76, .istore_n 3, 1), (77, .iload_n 3, 1), (78, .bipush 6, 2), (80, .if_icmp .ge 30, 3), (83, .aload_n 0, 1), (84, .getfield 30, 3), (87, .iload_n 3, 1), (88, .aaload, 1), (89, .aload_n 1, 1), (90, .iload_n 3, 1), (91, .iconst 0, 1), (92, .invokevirtual 42, 3), (95, .aload_n 1, 1), (96, .iload_n 3, 1), (97, .iconst 1, 1), (98, .invokevirtual 42, 3), (101, .invokevirtual 48, 3), (104, .iinc 3 1, 3), (107, .goto (-30), 3), (110, .return_, 1)]
def tX6_copyFrom : List (Nat × Instr × Nat) := [(0, .aload_n 0, 1), (1, .aload_n 1, 1), (2, .getfield 9, 3), (5, .putfield 9, 3), (8, .iconst 0, 1), (9, .istore_n 2, 1), (10, .iload_n 2, 1), (11, .iconst 2, 1), (12, .if_icmp .ge 21, 3), (15, .aload_n 0, 1), (16, .getfield 15, 3), (19, .iload_n 2, 1), (20, .aload_n 1, 1), (21, .getfield 15, 3), (24, .iload_n 2, 1), (25, .iaload, 1), (26, .iastore, 1), (27, .iinc 2 1, 3), (30, .goto (-20), 3), (33, .iconst 0, 1), (34, .istore_n 2, 1), (35, .iload_n 2, 1), (36, .iconst 4, 1), (37, .if_icmp .ge 21, 3), (40, .aload_n 0, 1), (41, .getfield 19, 3), (44, .iload_n 2, 1), (45, .aload_n 1, 1), (46, .getfield 19, 3), (49, .iload_n 2, 1), (50, .iaload, 1), (51, .iastore, 1), (52, .iinc 2 1, 3), (55, .goto (-20), 3), (58, .iconst 0, 1), (59, .istore_n 2, 1), (60, .iload_n 2, 1), (61, .iconst 4, 1), (62, .if_icmp .ge 24, 3), (65, .aload_n 0, 1), (66, .getfield 24, 3), (69, .iload_n 2, 1), (70, .aaload, 1), (71, .aload_n 1, 1), (72, .getfield 24, 3), (75, .iload_n 2, 1), (76, .aaload, 1), (77, .invokevirtual 51, 3), (80, .iinc 2 1, 3), (83, .goto (-23), 3), (86, .iconst 0, 1), (87, .istore_n 2, 1), (88, .iload_n 2, 1), (89, .bipush 6, 2), (91, .if_icmp .ge 24, 3), (94, .aload_n 0, 1), (95, .getfield 30, 3), (98, .iload_n 2, 1), (99, .aaload, 1), (100, .aload_n 1, 1), (101, .getfield 30, 3), (104, .iload_n 2, 1), (105, .aaload, 1), (106, .invokevirtual 55, 3), (109, .iinc 2 1, 3), (112, .goto (-24), 3), (115, .return_, 1)]
def tX7_append : List (Nat × Instr × Nat) := [(0, .bipush 24, 2), (2, .istore_n 2, 1), (3, .iload_n 2, 1), (4, .ifCond .lt 47, 3), (7, .aload_n 0, 1), (8, .getfield 15, 3), (11, .aload_n 0, 1), (12, .getfield 9, 3), (15, .arraylength, 1), (16, .if_icmp .ge 29, 3), (19, .aload_n 0, 1), (20, .getfield 9, 3), (23, .aload_n 0, 1), (24, .getfield 15, 3), (27, .iload_n 1, 1), (28, .iload_n 2, 1), (29, .ishr, 1), (30, .sipush 255, 3), (33, .iand, 1), (34, .iastore, 1), (35, .aload_n 0, 1), (36, .dup, 1), (37, .getfield 15, 3), (40, .iconst 1, 1), (41, .iadd, 1), (42, .putfield 15, 3), (45, .iinc 2 (-8), 3), (48, .goto (-45), 3), (51, .return_, 1)]
def tX7_open : List (Nat × Instr × Nat) := [(0, .aload_n 0, 1), (1, .iload_n 1, 1), (2, .putfield 19, 3), (5, .aload_n 0, 1), (6, .iconst 0, 1), (7, .putfield 25, 3), (10, .aload_n 0, 1), (11, .iconst 0, 1), (12, .putfield 28, 3), (15, .aload_n 0, 1), (16, .invokevirtual 31, 3), (19, .return_, 1)]
def tX7_advance : List (Nat × Instr × Nat) := [(0, .aload_n 0, 1), (1, .aload_n 0, 1), (2, .getfield 28, 3), (5, .putfield 25, 3), (8, .aload_n 0, 1), (9, .getfield 25, 3), (12, .aload_n 0, 1), (13, .getfield 19, 3), (16, .if_icmp .ge 42, 3), (19, .aload_n 0, 1), (20, .aload_n 0, 1), (21, .getfield 25, 3), (24, .invokevirtual 34, 3), (27, .bipush 32, 2), (29, .if_icmp .eq 16, 3), (32, .aload_n 0, 1), (33, .aload_n 0, 1), (34, .getfield 25, 3), (37, .invokevirtual 34, 3), (40, .bipush 10, 2), (42, .if_icmp .ne 16, 3), (45, .aload_n 0, 1), (46, .dup, 1), (47, .getfield 25, 3), (50, .iconst 1, 1), (51, .iadd, 1), (52, .putfield 25, 3), (55, .goto (-47), 3), (58, .aload_n 0, 1), (59, .aload_n 0, 1), (60, .aload_n 0, 1), (61, .getfield 25, 3), (64, .invokevirtual 34, 3), (67, .invokestatic 38, 3), (70, .putfield 22, 3), (73, .aload_n 0, 1), (74, .aload_n 0, 1), (75, .getfield 25, 3), (78, .putfield 28, 3), (81, .aload_n 0, 1), (82, .getfield 22, 3), (85, .iconst 1, 1), (86, .if_icmp .eq 11, 3), (89, .aload_n 0, 1), (90, .getfield 22, 3), (93, .iconst 2, 1), (94, .if_icmp .ne 45, 3), (97, .aload_n 0, 1), (98, .getfield 28, 3), (101, .aload_n 0, 1), (102, .getfield 19, 3), (105, .if_icmp .ge 51, 3), (108, .aload_n 0, 1), (109, .aload_n 0, 1), (110, .getfield 28, 3), (113, .invokevirtual 34, 3), (116, .invokestatic 38, 3), (119, .aload_n 0, 1), (120, .getfield 22, 3), (123, .if_icmp .ne 33, 3), (126, .aload_n 0, 1), (127, .dup, 1), (128, .getfield 28, 3), (131, .iconst 1, 1), (132, .iadd, 1), (133, .putfield 28, 3), (136, .goto (-39), 3), (139, .aload_n 0, 1), (140, .getfield 22, 3), (143, .ifCond .eq 13, 3), (146, .aload_n 0, 1), (147, .dup, 1), (148, .getfield 28, 3), (151, .iconst 1, 1), (152, .iadd, 1), (153, .putfield 28, 3), (156, .return_, 1)]
def tX7_tokenLength : List (Nat × Instr × Nat) := [(0, .aload_n 0, 1), (1, .getfield 28, 3), (4, .aload_n 0, 1), (5, .getfield 25, 3), (8, .isub, 1), (9, .ireturn, 1)]
def tX7_isWord : List (Nat × Instr × Nat) := [(0, .aload_n 0, 1), (1, .getfield 22, 3), (4, .iconst 1, 1), (5, .if_icmp .ne 14, 3), (8, .aload_n 0, 1), (9, .invokevirtual 41, 3), (12, .aload_n 1, 1), (13, .invokevirtual 45, 3), (16, .if_icmp .eq 5, 3), (19, .iconst 0, 1), (20, .ireturn, 1), (21, .iconst 0, 1), (22, .istore_n 2, 1), (23, .iload_n 2, 1), (24, .aload_n 1, 1), (25, .invokevirtual 45, 3), (28, .if_icmp .ge 29, 3), (31, .aload_n 0, 1), (32, .aload_n 0, 1), (33, .getfield 25, 3), (36, .iload_n 2, 1), (37, .iadd, 1), (38, .invokevirtual 34, 3), (41, .aload_n 1, 1), (42, .iload_n 2, 1), (43, .invokevirtual 49, 3), (46, .if_icmp .eq 5, 3), (49, .iconst 0, 1), (50, .ireturn, 1), (51, .iinc 2 1, 3), (54, .goto (-31), 3), (57, .iconst 1, 1), (58, .ireturn, 1)]
def tX7_letters : List (Nat × Instr × Nat) := [(0, .iconst 0, 1), (1, .istore_n 1, 1), (2, .iconst 0, 1), (3, .istore_n 2, 1), (4, .iload_n 2, 1), (5, .bipush 6, 2), (7, .if_icmp .ge 44, 3), (10, .iload_n 1, 1), (11, .iconst 5, 1), (12, .ishl, 1), (13, .istore_n 1, 1), (14, .aload_n 0, 1), (15, .getfield 25, 3), (18, .iload_n 2, 1), (19, .iadd, 1), (20, .aload_n 0, 1), (21, .getfield 28, 3), (24, .if_icmp .ge 21, 3), (27, .iload_n 1, 1), (28, .aload_n 0, 1), (29, .aload_n 0, 1), (30, .getfield 25, 3), (33, .iload_n 2, 1), (34, .iadd, 1), (35, .invokevirtual 34, 3), (38, .bipush 97, 2), (40, .isub, 1), (41, .iconst 1, 1), (42, .iadd, 1), (43, .ior, 1), (44, .istore_n 1, 1), (45, .iinc 2 1, 3), (48, .goto (-44), 3), (51, .iload_n 1, 1), (52, .ireturn, 1)]
def tX7_number : List (Nat × Instr × Nat) := [(0, .iconst 0, 1), (1, .istore_n 1, 1), (2, .aload_n 0, 1), (3, .getfield 25, 3), (6, .istore_n 2, 1), (7, .iload_n 2, 1), (8, .aload_n 0, 1), (9, .getfield 28, 3), (12, .if_icmp .ge 29, 3), (15, .iload_n 1, 1), (16, .bipush 10, 2), (18, .imul, 1), (19, .aload_n 0, 1), (20, .iload_n 2, 1), (21, .invokevirtual 34, 3), (24, .iadd, 1), (25, .bipush 48, 2), (27, .isub, 1), (28, .sipush 1000, 3), (31, .invokestatic 53, 3), (34, .istore_n 1, 1), (35, .iinc 2 1, 3), (38, .goto (-31), 3), (41, .iload_n 1, 1), (42, .ireturn, 1)]
def tX7_kindOf : List (Nat × Instr × Nat) := [(0, .iload_n 0, 1), (1, .ifCond .ge 5, 3), (4, .iconst 0, 1), (5, .ireturn, 1), (6, .iload_n 0, 1), (7, .bipush 97, 2), (9, .if_icmp .lt 11, 3), (12, .iload_n 0, 1), (13, .bipush 122, 2), (15, .if_icmp .gt 5, 3), (18, .iconst 1, 1), (19, .ireturn, 1), (20, .iload_n 0, 1), (21, .bipush 48, 2), (23, .if_icmp .lt 11, 3), (26, .iload_n 0, 1), (27, .bipush 57, 2), (29, .if_icmp .gt 5, 3), (32, .iconst 2, 1), (33, .ireturn, 1), (34, .iload_n 0, 1), (35, .bipush 59, 2), (37, .if_icmp .ne 7, 3), (40, .iconst 3, 1), (41, .goto 4, 3), (44, .iconst 4, 1), (45, .ireturn, 1)]
def tX7_byteAt : List (Nat × Instr × Nat) := [(0, .iload_n 1, 1), (1, .ifCond .lt 20, 3), (4, .iload_n 1, 1), (5, .aload_n 0, 1), (6, .getfield 19, 3), (9, .if_icmp .ge 12, 3), (12, .iload_n 1, 1), (13, .aload_n 0, 1), (14, .getfield 9, 3), (17, .arraylength, 1), (18, .if_icmp .lt 5, 3), (21, .iconst (-1), 1), (22, .ireturn, 1), (23, .aload_n 0, 1), (24, .getfield 9, 3), (27, .iload_n 1, 1), (28, .iaload, 1), (29, .ireturn, 1)]
def tX8_has : List (Nat × Instr × Nat) := [(0, .iload_n 1, 1), (1, .ifCond .lt 24, 3), (4, .iload_n 1, 1), (5, .aload_n 0, 1), (6, .getfield 21, 3), (9, .if_icmp .ge 16, 3), (12, .iload_n 1, 1), (13, .aload_n 0, 1), (14, .getfield 9, 3), (17, .arraylength, 1), (18, .if_icmp .ge 7, 3), (21, .iconst 1, 1), (22, .goto 4, 3), (25, .iconst 0, 1), (26, .ireturn, 1)]
def tX8_isFull : List (Nat × Instr × Nat) := [(0, .aload_n 0, 1), (1, .getfield 21, 3), (4, .aload_n 0, 1), (5, .getfield 25, 3), (8, .if_icmp .ge 15, 3), (11, .aload_n 0, 1), (12, .getfield 21, 3), (15, .aload_n 0, 1), (16, .getfield 9, 3), (19, .arraylength, 1), (20, .if_icmp .lt 7, 3), (23, .iconst 1, 1), (24, .goto 4, 3), (27, .iconst 0, 1), (28, .ireturn, 1)]
def tX8_indexOf : List (Nat × Instr × Nat) := [(0, .iconst 0, 1), (1, .istore_n 2, 1), (2, .iload_n 2, 1), (3, .aload_n 0, 1), (4, .getfield 21, 3), (7, .if_icmp .ge 30, 3), (10, .iload_n 2, 1), (11, .aload_n 0, 1), (12, .getfield 9, 3), (15, .arraylength, 1), (16, .if_icmp .ge 21, 3), (19, .aload_n 0, 1), (20, .getfield 9, 3), (23, .iload_n 2, 1), (24, .iaload, 1), (25, .iload_n 1, 1), (26, .if_icmp .ne 5, 3), (29, .iload_n 2, 1), (30, .ireturn, 1), (31, .iinc 2 1, 3), (34, .goto (-32), 3), (37, .iconst (-1), 1), (38, .ireturn, 1)]
def tX8_sizeOf : List (Nat × Instr × Nat) := [(0, .aload_n 0, 1), (1, .iload_n 1, 1), (2, .invokevirtual 28, 3), (5, .ifCond .ne 5, 3), (8, .iconst 0, 1), (9, .ireturn, 1), (10, .iload_n 2, 1), (11, .ifCond .eq 12, 3), (14, .aload_n 0, 1), (15, .getfield 18, 3), (18, .iload_n 1, 1), (19, .iaload, 1), (20, .goto 9, 3), (23, .aload_n 0, 1), (24, .getfield 15, 3), (27, .iload_n 1, 1), (28, .iaload, 1), (29, .ireturn, 1)]
def tX8_add : List (Nat × Instr × Nat) := [(0, .aload_n 0, 1), (1, .invokevirtual 32, 3), (4, .ifCond .ne 43, 3), (7, .aload_n 0, 1), (8, .getfield 9, 3), (11, .aload_n 0, 1), (12, .getfield 21, 3), (15, .iload_n 1, 1), (16, .iastore, 1), (17, .aload_n 0, 1), (18, .getfield 15, 3), (21, .aload_n 0, 1), (22, .getfield 21, 3), (25, .iload_n 2, 1), (26, .iastore, 1), (27, .aload_n 0, 1), (28, .getfield 18, 3), (31, .aload_n 0, 1), (32, .getfield 21, 3), (35, .iload_n 3, 1), (36, .iastore, 1), (37, .aload_n 0, 1), (38, .dup, 1), (39, .getfield 21, 3), (42, .iconst 1, 1), (43, .iadd, 1), (44, .putfield 21, 3), (47, .return_, 1)]
def tX8_copyFrom : List (Nat × Instr × Nat) := [(0, .aload_n 0, 1), (1, .iconst 0, 1), (2, .putfield 21, 3), (5, .iconst 0, 1), (6, .istore_n 2, 1), (7, .iload_n 2, 1), (8, .aload_n 1, 1), (9, .getfield 21, 3), (12, .if_icmp .ge 40, 3), (15, .iload_n 2, 1), (16, .aload_n 1, 1), (17, .getfield 9, 3), (20, .arraylength, 1), (21, .if_icmp .ge 31, 3), (24, .aload_n 0, 1), (25, .aload_n 1, 1), (26, .getfield 9, 3), (29, .iload_n 2, 1), (30, .iaload, 1), (31, .aload_n 1, 1), (32, .getfield 15, 3), (35, .iload_n 2, 1), (36, .iaload, 1), (37, .aload_n 1, 1), (38, .getfield 18, 3), (41, .iload_n 2, 1), (42, .iaload, 1), (43, .invokevirtual 36, 3), (46, .iinc 2 1, 3), (49, .goto (-42), 3), (52, .return_, 1)]
def tX9_feed : List (Nat × Instr × Nat) := [(0, .aload_n 0, 1), (1, .getfield 12, 3), (4, .getfield 77, 3), (7, .bipush 20, 2), (9, .iadd, 1), (10, .sipush 600, 3), (13, .if_icmp .le 6, 3), (16, .bipush (-3), 2), (18, .ireturn, 1), (19, .aload_n 0, 1), (20, .getfield 12, 3), (23, .iload_n 1, 1), (24, .invokevirtual 80, 3), (27, .aload_n 0, 1), (28, .getfield 12, 3), (31, .iload_n 2, 1), (32, .invokevirtual 80, 3), (35, .aload_n 0, 1), (36, .getfield 12, 3), (39, .iload_n 3, 1), (40, .invokevirtual 80, 3), (43, .aload_n 0, 1), (44, .getfield 12, 3), (47, .iload 4, 2), (49, .invokevirtual 80, 3), (52, .aload_n 0, 1), (53, .getfield 12, 3), (56, .iload 5, 2), (58, .invokevirtual 80, 3), (61, .aload_n 0, 1), (62, .getfield 12, 3), (65, .getfield 77, 3), (68, .ireturn, 1)]
def tX9_load : List (Nat × Instr × Nat) := [(0, .iload_n 1, 1), (1, .ifCond .lt 14, 3), (4, .iload_n 1, 1), (5, .aload_n 0, 1), (6, .getfield 12, 3), (9, .getfield 77, 3), (12, .if_icmp .le 6, 3), (15, .bipush (-2), 2), (17, .ireturn, 1), (18, .aload_n 0, 1), (19, .getfield 12, 3), (22, .iload_n 1, 1), (23, .invokevirtual 83, 3), (26, .aload_n 0, 1), (27, .getfield 19, 3), (30, .aload_n 0, 1), (31, .getfield 12, 3), (34, .invokevirtual 86, 3), (37, .istore_n 2, 1), (38, .aload_n 0, 1), (39, .getfield 12, 3), (42, .iconst 0, 1), (43, .putfield 77, 3), (46, .iload_n 2, 1), (47, .ifCond .ge 16, 3), (50, .aload_n 0, 1), (51, .aload_n 0, 1), (52, .getfield 12, 3), (55, .getfield 90, 3), (58, .putfield 23, 3), (61, .iload_n 2, 1), (62, .ireturn, 1), (63, .aload_n 0, 1), (64, .iconst (-1), 1), (65, .putfield 23, 3), (68, .aload_n 0, 1), (69, .getfield 39, 3), (72, .aload_n 0, 1), (73, .getfield 19, 3), (76, .getfield 93, 3), (79, .invokevirtual 94, 3), (82, .aload_n 0, 1), (83, .getfield 43, 3), (86, .aload_n 0, 1), (87, .getfield 19, 3), (90, .getfield 98, 3), (93, .invokevirtual 94, 3), (96, .aload_n 0, 1), (97, .getfield 55, 3), (100, .aload_n 0, 1), (101, .getfield 43, 3), (104, .aload_n 0, 1), (105, .getfield 19, 3), (108, .getfield 99, 3), (111, .invokevirtual 102, 3), (114, .aload_n 0, 1), (115, .getfield 62, 3), (118, .invokevirtual 106, 3), (121, .iload_n 2, 1), (122, .ireturn, 1)]
def tX9_count : List (Nat × Instr × Nat) := [(0, .iload_n 1, 1), (1, .tableswitch 60 0 3 #[31, 39, 47, 52], 31), (32, .aload_n 0, 1), (33, .getfield 39, 3), (36, .getfield 109, 3), (39, .ireturn, 1), (40, .aload_n 0, 1), (41, .getfield 43, 3), (44, .getfield 109, 3), (47, .ireturn, 1), (48, .aload_n 0, 1), (49, .invokevirtual 112, 3), (52, .ireturn, 1), (53, .aload_n 0, 1), (54, .getfield 55, 3), (57, .getfield 116, 3), (60, .ireturn, 1), (61, .bipush (-2), 2), (63, .ireturn, 1)]
def tX9_session : List (Nat × Instr × Nat) := [(0, .aload_n 0, 1), (1, .iload_n 1, 1), (2, .invokevirtual 125, 3), (5, .astore_n 3, 1), (6, .iload_n 2, 1), (7, .tableswitch 89 0 5 #[37, 47, 57, 62, 67, 72], 37), (44, .aload_n 0, 1), (45, .getfield 39, 3), (48, .iload_n 1, 1), (49, .iconst 0, 1), (50, .invokevirtual 129, 3), (53, .ireturn, 1), (54, .aload_n 0, 1), (55, .getfield 39, 3), (58, .iload_n 1, 1), (59, .iconst 1, 1), (60, .invokevirtual 129, 3), (63, .ireturn, 1), (64, .aload_n 3, 1), (65, .getfield 133, 3), (68, .ireturn, 1), (69, .aload_n 3, 1), (70, .getfield 138, 3), (73, .ireturn, 1), (74, .aload_n 3, 1), (75, .getfield 141, 3), (78, .ireturn, 1), (79, .aload_n 3, 1), (80, .getfield 141, 3), (83, .iconst (-1), 1), (84, .if_icmp .ne 7, 3), (87, .iconst (-1), 1), (88, .goto 7, 3), (91, .aload_n 3, 1), (92, .getfield 144, 3), (95, .ireturn, 1), (96, .bipush (-2), 2), (98, .ireturn, 1)]
def tX9_event : List (Nat × Instr × Nat) := [(0, .aload_n 0, 1), (1, .iload_n 1, 1), (2, .invokevirtual 125, 3), (5, .astore 4, 2), (7, .iload_n 2, 1), (8, .ifCond .lt 12, 3), (11, .iload_n 2, 1), (12, .aload 4, 2), (14, .getfield 133, 3), (17, .if_icmp .lt 5, 3), (20, .iconst (-1), 1), (21, .ireturn, 1), (22, .aload_n 0, 1), (23, .iload_n 1, 1), (24, .invokevirtual 147, 3), (27, .astore 5, 2), (29, .iload_n 3, 1), (30, .tableswitch 62 0 3 #[30, 38, 46, 54], 30), (60, .aload 5, 2), (62, .iconst 0, 1), (63, .iload_n 2, 1), (64, .invokevirtual 151, 3), (67, .ireturn, 1), (68, .aload 5, 2), (70, .iconst 1, 1), (71, .iload_n 2, 1), (72, .invokevirtual 151, 3), (75, .ireturn, 1), (76, .aload 5, 2), (78, .iconst 2, 1), (79, .iload_n 2, 1), (80, .invokevirtual 151, 3), (83, .ireturn, 1), (84, .aload 5, 2), (86, .iconst 3, 1), (87, .iload_n 2, 1), (88, .invokevirtual 151, 3), (91, .ireturn, 1), (92, .bipush (-2), 2), (94, .ireturn, 1)]
def tX9_screen : List (Nat × Instr × Nat) := [(0, .aload_n 0, 1), (1, .aload_n 0, 1), (2, .getfield 69, 3), (5, .iload_n 1, 1), (6, .iload_n 2, 1), (7, .invokevirtual 155, 3), (10, .iload_n 3, 1), (11, .tableswitch 73 0 4 #[33, 41, 49, 57, 65], 33), (44, .aload_n 0, 1), (45, .getfield 69, 3), (48, .getfield 159, 3), (51, .ireturn, 1), (52, .aload_n 0, 1), (53, .getfield 69, 3), (56, .getfield 162, 3), (59, .ireturn, 1), (60, .aload_n 0, 1), (61, .getfield 69, 3), (64, .getfield 165, 3), (67, .ireturn, 1), (68, .aload_n 0, 1), (69, .getfield 69, 3), (72, .getfield 168, 3), (75, .ireturn, 1), (76, .aload_n 0, 1), (77, .getfield 69, 3), (80, .getfield 171, 3), (83, .ireturn, 1), (84, .bipush (-2), 2), (86, .ireturn, 1)]
def tX9_at : List (Nat × Instr × Nat) := [(0, .aload_n 0, 1), (1, .aload_n 0, 1), (2, .getfield 69, 3), (5, .iload_n 1, 1), (6, .iload_n 2, 1), (7, .invokevirtual 155, 3), (10, .iload_n 3, 1), (11, .ifCond .lt 31, 3), (14, .iload_n 3, 1), (15, .aload_n 0, 1), (16, .getfield 69, 3), (19, .getfield 162, 3), (22, .if_icmp .ge 20, 3), (25, .iload 4, 2), (27, .ifCond .lt 15, 3), (30, .iload 4, 2), (32, .aload_n 0, 1), (33, .getfield 69, 3), (36, .getfield 159, 3), (39, .if_icmp .lt 5, 3), (42, .iconst (-1), 1), (43, .ireturn, 1), (44, .aload_n 0, 1), (45, .getfield 69, 3), (48, .iload_n 3, 1), (49, .iload 4, 2), (51, .invokevirtual 174, 3), (54, .ireturn, 1)]
def tX9_above : List (Nat × Instr × Nat) := [(0, .aload_n 0, 1), (1, .aload_n 0, 1), (2, .getfield 69, 3), (5, .iload_n 1, 1), (6, .iload_n 2, 1), (7, .invokevirtual 155, 3), (10, .iload_n 3, 1), (11, .ifCond .lt 26, 3), (14, .iload_n 3, 1), (15, .aload_n 0, 1), (16, .getfield 69, 3), (19, .getfield 171, 3), (22, .if_icmp .ge 15, 3), (25, .iload 4, 2), (27, .ifCond .lt 10, 3), (30, .iload 4, 2), (32, .bipush 16, 2), (34, .if_icmp .lt 5, 3), (37, .iconst (-1), 1), (38, .ireturn, 1), (39, .aload_n 0, 1), (40, .getfield 69, 3), (43, .iload_n 3, 1), (44, .iload 4, 2), (46, .invokevirtual 177, 3), (49, .ireturn, 1)]
def tX9_user : List (Nat × Instr × Nat) := [(0, .aload_n 0, 1), (1, .iload_n 1, 1), (2, .invokevirtual 180, 3), (5, .astore_n 3, 1), (6, .iload_n 2, 1), (7, .tableswitch 111 0 6 #[41, 46, 51, 56, 72, 89, 94], 41), (48, .aload_n 3, 1), (49, .getfield 184, 3), (52, .ireturn, 1), (53, .aload_n 3, 1), (54, .getfield 187, 3), (57, .ireturn, 1), (58, .aload_n 3, 1), (59, .getfield 188, 3), (62, .ireturn, 1), (63, .aload_n 3, 1), (64, .getfield 188, 3), (67, .ifCond .ne 7, 3), (70, .iconst (-1), 1), (71, .goto 7, 3), (74, .aload_n 3, 1), (75, .getfield 191, 3), (78, .ireturn, 1), (79, .aload_n 3, 1), (80, .getfield 188, 3), (83, .ifCond .ne 7, 3), (86, .iconst (-1), 1), (87, .goto 8, 3), (90, .aload_n 0, 1), (91, .aload_n 3, 1), (92, .invokevirtual 194, 3), (95, .ireturn, 1), (96, .aload_n 3, 1), (97, .getfield 198, 3), (100, .ireturn, 1), (101, .aload_n 3, 1), (102, .getfield 188, 3), (105, .iconst 3, 1), (106, .if_icmp .ne 10, 3), (109, .aload_n 3, 1), (110, .getfield 201, 3), (113, .goto 4, 3), (116, .iconst 0, 1), (117, .ireturn, 1), (118, .bipush (-2), 2), (120, .ireturn, 1)]
def tX9_shown : List (Nat × Instr × Nat) := [(0, .aload_n 0, 1), (1, .iload_n 1, 1), (2, .invokevirtual 180, 3), (5, .astore 4, 2), (7, .aload 4, 2), (9, .getfield 188, 3), (12, .ifCond .eq 29, 3), (15, .iload_n 2, 1), (16, .ifCond .lt 25, 3), (19, .iload_n 2, 1), (20, .aload 4, 2), (22, .getfield 187, 3), (25, .if_icmp .ge 16, 3), (28, .iload_n 3, 1), (29, .ifCond .lt 12, 3), (32, .iload_n 3, 1), (33, .aload 4, 2), (35, .getfield 184, 3), (38, .if_icmp .lt 5, 3), (41, .iconst (-1), 1), (42, .ireturn, 1), (43, .aload_n 0, 1), (44, .aload_n 0, 1), (45, .getfield 69, 3), (48, .aload 4, 2), (50, .getfield 191, 3), (53, .aload_n 0, 1), (54, .aload 4, 2), (56, .invokevirtual 194, 3), (59, .invokevirtual 155, 3), (62, .aload_n 0, 1), (63, .getfield 69, 3), (66, .aload_n 0, 1), (67, .aload 4, 2), (69, .invokevirtual 204, 3), (72, .iload_n 2, 1), (73, .iadd, 1), (74, .iload_n 3, 1), (75, .invokevirtual 177, 3), (78, .ireturn, 1)]
def tX9_cursorRow : List (Nat × Instr × Nat) := [(0, .aload_n 0, 1), (1, .iload_n 1, 1), (2, .invokevirtual 180, 3), (5, .astore_n 2, 1), (6, .aload_n 2, 1), (7, .getfield 188, 3), (10, .ifCond .ne 5, 3), (13, .iconst (-1), 1), (14, .ireturn, 1), (15, .aload_n 0, 1), (16, .aload_n 0, 1), (17, .getfield 69, 3), (20, .aload_n 2, 1), (21, .getfield 191, 3), (24, .aload_n 0, 1), (25, .aload_n 2, 1), (26, .invokevirtual 194, 3), (29, .invokevirtual 155, 3), (32, .aload_n 0, 1), (33, .getfield 69, 3), (36, .invokevirtual 207, 3), (39, .aload_n 0, 1), (40, .aload_n 2, 1), (41, .invokevirtual 204, 3), (44, .isub, 1), (45, .istore_n 3, 1), (46, .iload_n 3, 1), (47, .aload_n 2, 1), (48, .getfield 187, 3), (51, .if_icmp .ge 7, 3), (54, .iload_n 3, 1), (55, .goto 4, 3), (58, .iconst (-1), 1), (59, .ireturn, 1)]
def tX9_firstDifference : List (Nat × Instr × Nat) := [(0, .aload_n 0, 1), (1, .aload_n 0, 1), (2, .getfield 69, 3), (5, .iload_n 1, 1), (6, .iload_n 2, 1), (7, .invokevirtual 155, 3), (10, .aload_n 0, 1), (11, .aload_n 0, 1), (12, .getfield 73, 3), (15, .iload_n 1, 1), (16, .iload_n 3, 1), (17, .invokevirtual 155, 3), (20, .aload_n 0, 1), (21, .getfield 69, 3), (24, .getfield 162, 3), (27, .aload_n 0, 1), (28, .getfield 73, 3), (31, .getfield 162, 3), (34, .invokestatic 249, 3), (37, .istore 4, 2), (39, .aload_n 0, 1), (40, .getfield 69, 3), (43, .getfield 159, 3), (46, .aload_n 0, 1), (47, .getfield 73, 3), (50, .getfield 159, 3), (53, .invokestatic 249, 3), (56, .istore 5, 2), (58, .iconst 0, 1), (59, .istore 6, 2), (61, .iload 6, 2), (63, .iload 4, 2), (65, .if_icmp .ge 59, 3), (68, .iconst 0, 1), (69, .istore 7, 2), (71, .iload 7, 2), (73, .iload 5, 2), (75, .if_icmp .ge 43, 3), (78, .aload_n 0, 1), (79, .getfield 69, 3), (82, .iload 6, 2), (84, .iload 7, 2), (86, .invokevirtual 174, 3), (89, .aload_n 0, 1), (90, .getfield 73, 3), (93, .iload 6, 2), (95, .iload 7, 2), (97, .invokevirtual 174, 3), (100, .if_icmp .eq 12, 3), (103, .bipush 16, 2), (105, .iload 6, 2), (107, .imul, 1), (108, .iload 7, 2), (110, .iadd, 1), (111, .ireturn, 1), (112, .iinc 7 1, 3), (115, .goto (-44), 3), (118, .iinc 6 1, 3), (121, .goto (-60), 3), (124, .iconst (-1), 1), (125, .ireturn, 1)]
def tX9_fullness : List (Nat × Instr × Nat) := [(0, .aload_n 0, 1), (1, .aload_n 0, 1), (2, .getfield 69, 3), (5, .iload_n 1, 1), (6, .iload_n 2, 1), (7, .invokevirtual 155, 3), (10, .aload_n 0, 1), (11, .getfield 69, 3), (14, .getfield 162, 3), (17, .aload_n 0, 1), (18, .getfield 69, 3), (21, .getfield 159, 3), (24, .imul, 1), (25, .istore_n 3, 1), (26, .iload_n 3, 1), (27, .ifCond .gt 5, 3), (30, .fconst 0, 1), (31, .freturn, 1), (32, .aload_n 0, 1), (33, .getfield 69, 3), (36, .invokevirtual 252, 3), (39, .i2f, 1), (40, .iload_n 3, 1), (41, .i2f, 1), (42, .fdiv, 1), (43, .freturn, 1)]
def tX9_attach : List (Nat × Instr × Nat) := [(0, .aload_n 0, 1), (1, .getfield 43, 3), (4, .iload_n 1, 1), (5, .invokevirtual 261, 3), (8, .ifCond .eq 14, 3), (11, .aload_n 0, 1), (12, .getfield 39, 3), (15, .iload_n 2, 1), (16, .invokevirtual 261, 3), (19, .ifCond .ne 5, 3), (22, .iconst (-1), 1), (23, .ireturn, 1), (24, .aload_n 0, 1), (25, .getfield 62, 3), (28, .aload_n 0, 1), (29, .getfield 55, 3), (32, .invokevirtual 264, 3), (35, .aload_n 0, 1), (36, .iload_n 1, 1), (37, .invokevirtual 180, 3), (40, .astore_n 3, 1), (41, .aload_n 0, 1), (42, .iload_n 1, 1), (43, .aload_n 3, 1), (44, .invokevirtual 268, 3), (47, .aload_n 3, 1), (48, .iconst 1, 1), (49, .putfield 188, 3), (52, .aload_n 3, 1), (53, .iload_n 2, 1), (54, .putfield 191, 3), (57, .aload_n 3, 1), (58, .iconst 0, 1), (59, .putfield 198, 3), (62, .aload_n 0, 1), (63, .invokevirtual 272, 3), (66, .aload_n 0, 1), (67, .iload_n 2, 1), (68, .invokevirtual 275, 3), (71, .ireturn, 1)]
def tX9_detach : List (Nat × Instr × Nat) := [(0, .aload_n 0, 1), (1, .iload_n 1, 1), (2, .invokevirtual 278, 3), (5, .istore_n 2, 1), (6, .iload_n 2, 1), (7, .ifCond .eq 5, 3), (10, .iload_n 2, 1), (11, .ireturn, 1), (12, .aload_n 0, 1), (13, .iload_n 1, 1), (14, .invokevirtual 180, 3), (17, .astore_n 3, 1), (18, .aload_n 0, 1), (19, .getfield 62, 3), (22, .aload_n 0, 1), (23, .getfield 55, 3), (26, .invokevirtual 264, 3), (29, .aload_n 0, 1), (30, .iload_n 1, 1), (31, .aload_n 3, 1), (32, .invokevirtual 268, 3), (35, .aload_n 3, 1), (36, .iconst 0, 1), (37, .putfield 188, 3), (40, .aload_n 0, 1), (41, .invokevirtual 272, 3), (44, .aload_n 0, 1), (45, .aload_n 3, 1), (46, .getfield 191, 3), (49, .invokevirtual 275, 3), (52, .ireturn, 1)]
def tX9_goTo : List (Nat × Instr × Nat) := [(0, .aload_n 0, 1), (1, .iload_n 1, 1), (2, .invokevirtual 278, 3), (5, .istore_n 3, 1), (6, .iload_n 3, 1), (7, .ifCond .eq 5, 3), (10, .iload_n 3, 1), (11, .ireturn, 1), (12, .aload_n 0, 1), (13, .iload_n 1, 1), (14, .invokevirtual 180, 3), (17, .astore 4, 2), (19, .iload_n 2, 1), (20, .ifCond .lt 19, 3), (23, .iload_n 2, 1), (24, .aload_n 0, 1), (25, .aload 4, 2), (27, .getfield 191, 3), (30, .invokevirtual 125, 3), (33, .getfield 133, 3), (36, .if_icmp .le 6, 3), (39, .bipush (-2), 2), (41, .ireturn, 1), (42, .aload_n 0, 1), (43, .getfield 62, 3), (46, .aload_n 0, 1), (47, .getfield 55, 3), (50, .invokevirtual 264, 3), (53, .aload_n 0, 1), (54, .aload 4, 2), (56, .invokevirtual 194, 3), (59, .istore 5, 2), (61, .aload_n 0, 1), (62, .iload_n 1, 1), (63, .aload 4, 2), (65, .invokevirtual 268, 3), (68, .aload 4, 2), (70, .iconst 2, 1), (71, .putfield 188, 3), (74, .aload 4, 2), (76, .iload_n 2, 1), (77, .putfield 229, 3), (80, .aload_n 0, 1), (81, .invokevirtual 272, 3), (84, .iload 5, 2), (86, .ireturn, 1)]
def tX9_goLive : List (Nat × Instr × Nat) := [(0, .aload_n 0, 1), (1, .iload_n 1, 1), (2, .invokevirtual 278, 3), (5, .istore_n 2, 1), (6, .iload_n 2, 1), (7, .ifCond .eq 5, 3), (10, .iload_n 2, 1), (11, .ireturn, 1), (12, .aload_n 0, 1), (13, .iload_n 1, 1), (14, .invokevirtual 180, 3), (17, .astore_n 3, 1), (18, .aload_n 0, 1), (19, .getfield 62, 3), (22, .aload_n 0, 1), (23, .getfield 55, 3), (26, .invokevirtual 264, 3), (29, .aload_n 0, 1), (30, .aload_n 3, 1), (31, .invokevirtual 194, 3), (34, .istore 4, 2), (36, .aload_n 3, 1), (37, .iconst 1, 1), (38, .putfield 188, 3), (41, .aload_n 0, 1), (42, .invokevirtual 272, 3), (45, .iload 4, 2), (47, .ireturn, 1)]
def tX9_replay : List (Nat × Instr × Nat) := [(0, .aload_n 0, 1), (1, .iload_n 1, 1), (2, .invokevirtual 278, 3), (5, .istore 4, 2), (7, .iload 4, 2), (9, .ifCond .eq 6, 3), (12, .iload 4, 2), (14, .ireturn, 1), (15, .aload_n 0, 1), (16, .iload_n 1, 1), (17, .invokevirtual 180, 3), (20, .astore 5, 2), (22, .iload_n 3, 1), (23, .bipush 10, 2), (25, .if_icmp .lt 30, 3), (28, .iload_n 3, 1), (29, .sipush 1000, 3), (32, .if_icmp .gt 23, 3), (35, .iload_n 2, 1), (36, .ifCond .lt 19, 3), (39, .iload_n 2, 1), (40, .aload_n 0, 1), (41, .aload 5, 2), (43, .getfield 191, 3), (46, .invokevirtual 125, 3), (49, .getfield 133, 3), (52, .if_icmp .le 6, 3), (55, .bipush (-2), 2), (57, .ireturn, 1), (58, .aload_n 0, 1), (59, .getfield 62, 3), (62, .aload_n 0, 1), (63, .getfield 55, 3), (66, .invokevirtual 264, 3), (69, .aload_n 0, 1), (70, .iload_n 1, 1), (71, .aload 5, 2), (73, .invokevirtual 268, 3), (76, .aload 5, 2), (78, .iconst 3, 1), (79, .putfield 188, 3), (82, .aload 5, 2), (84, .iload_n 2, 1), (85, .putfield 229, 3), (88, .aload 5, 2), (90, .iload_n 3, 1), (91, .putfield 201, 3), (94, .aload 5, 2), (96, .aload_n 0, 1), (97, .getfield 55, 3), (100, .getfield 116, 3), (103, .putfield 232, 3), (106, .aload_n 0, 1), (107, .invokevirtual 272, 3), (110, .aload_n 0, 1), (111, .aload 5, 2), (113, .invokevirtual 194, 3), (116, .ireturn, 1)]
def tX9_lookBack : List (Nat × Instr × Nat) := [(0, .aload_n 0, 1), (1, .iload_n 1, 1), (2, .invokevirtual 278, 3), (5, .istore_n 3, 1), (6, .iload_n 3, 1), (7, .ifCond .eq 5, 3), (10, .iload_n 3, 1), (11, .ireturn, 1), (12, .aload_n 0, 1), (13, .iload_n 1, 1), (14, .invokevirtual 180, 3), (17, .astore 4, 2), (19, .iload_n 2, 1), (20, .ifCond .lt 9, 3), (23, .iload_n 2, 1), (24, .bipush 40, 2), (26, .if_icmp .le 6, 3), (29, .bipush (-2), 2), (31, .ireturn, 1), (32, .aload_n 0, 1), (33, .getfield 62, 3), (36, .aload_n 0, 1), (37, .getfield 55, 3), (40, .invokevirtual 264, 3), (43, .aload 4, 2), (45, .getfield 198, 3), (48, .istore 5, 2), (50, .aload 4, 2), (52, .iload_n 2, 1), (53, .putfield 198, 3), (56, .aload_n 0, 1), (57, .invokevirtual 272, 3), (60, .iload 5, 2), (62, .ireturn, 1)]
def tX9_window : List (Nat × Instr × Nat) := [(0, .aload_n 0, 1), (1, .getfield 43, 3), (4, .iload_n 1, 1), (5, .invokevirtual 261, 3), (8, .ifCond .ne 5, 3), (11, .iconst (-1), 1), (12, .ireturn, 1), (13, .iload_n 2, 1), (14, .iconst 2, 1), (15, .if_icmp .lt 20, 3), (18, .iload_n 2, 1), (19, .bipush 16, 2), (21, .if_icmp .gt 14, 3), (24, .iload_n 3, 1), (25, .iconst 1, 1), (26, .if_icmp .lt 9, 3), (29, .iload_n 3, 1), (30, .bipush 6, 2), (32, .if_icmp .le 6, 3), (35, .bipush (-2), 2), (37, .ireturn, 1), (38, .aload_n 0, 1), (39, .getfield 62, 3), (42, .aload_n 0, 1), (43, .getfield 55, 3), (46, .invokevirtual 264, 3), (49, .aload_n 0, 1), (50, .iload_n 1, 1), (51, .invokevirtual 180, 3), (54, .astore 4, 2), (56, .aload 4, 2), (58, .getfield 184, 3), (61, .istore 5, 2), (63, .aload 4, 2), (65, .iload_n 2, 1), (66, .putfield 184, 3), (69, .aload 4, 2), (71, .iload_n 3, 1), (72, .putfield 187, 3), (75, .aload_n 0, 1), (76, .invokevirtual 272, 3), (79, .iload 5, 2), (81, .ireturn, 1)]
def tX9_type : List (Nat × Instr × Nat) := [(0, .aload_n 0, 1), (1, .getfield 43, 3), (4, .iload_n 1, 1), (5, .invokevirtual 261, 3), (8, .ifCond .ne 5, 3), (11, .iconst (-1), 1), (12, .ireturn, 1), (13, .iload_n 2, 1), (14, .bipush 31, 2), (16, .invokestatic 238, 3), (19, .istore_n 3, 1), (20, .iload_n 3, 1), (21, .ifCond .ne 6, 3), (24, .bipush (-2), 2), (26, .ireturn, 1), (27, .aload_n 0, 1), (28, .iload_n 1, 1), (29, .invokevirtual 180, 3), (32, .astore 4, 2), (34, .aload_n 0, 1), (35, .iload_n 1, 1), (36, .aload 4, 2), (38, .invokevirtual 220, 3), (41, .ifCond .eq 6, 3), (44, .bipush (-4), 2), (46, .ireturn, 1), (47, .aload_n 0, 1), (48, .aload 4, 2), (50, .getfield 191, 3), (53, .invokevirtual 125, 3), (56, .astore 5, 2), (58, .aload 5, 2), (60, .getfield 133, 3), (63, .iload_n 3, 1), (64, .iadd, 1), (65, .sipush 300, 3), (68, .if_icmp .le 6, 3), (71, .bipush (-3), 2), (73, .ireturn, 1), (74, .aload_n 0, 1), (75, .getfield 62, 3), (78, .aload_n 0, 1), (79, .getfield 55, 3), (82, .invokevirtual 264, 3), (85, .aload_n 0, 1), (86, .aload 4, 2), (88, .getfield 191, 3), (91, .invokevirtual 147, 3), (94, .astore 6, 2), (96, .iconst 0, 1), (97, .istore 7, 2), (99, .iload 7, 2), (101, .iload_n 3, 1), (102, .if_icmp .ge 44, 3), (105, .aload 6, 2), (107, .aload 5, 2), (109, .getfield 133, 3), (112, .iload_n 2, 1), (113, .iload 7, 2), (115, .invokestatic 281, 3), (118, .aload_n 0, 1), (119, .getfield 55, 3), (122, .getfield 116, 3), (125, .iload_n 1, 1), (126, .invokevirtual 284, 3), (129, .aload 5, 2), (131, .dup, 1), (132, .getfield 133, 3), (135, .iconst 1, 1), (136, .iadd, 1), (137, .putfield 133, 3), (140, .iinc 7 1, 3), (143, .goto (-44), 3), (146, .aload_n 0, 1), (147, .invokevirtual 272, 3), (150, .aload 5, 2), (152, .getfield 133, 3), (155, .ireturn, 1)]
def tX9_request : List (Nat × Instr × Nat) := [(0, .aload_n 0, 1), (1, .getfield 43, 3), (4, .iload_n 1, 1), (5, .invokevirtual 261, 3), (8, .ifCond .ne 5, 3), (11, .iconst (-1), 1), (12, .ireturn, 1), (13, .aload_n 0, 1), (14, .iload_n 1, 1), (15, .invokevirtual 180, 3), (18, .astore_n 2, 1), (19, .aload_n 2, 1), (20, .getfield 188, 3), (23, .iconst 1, 1), (24, .if_icmp .eq 6, 3), (27, .bipush (-4), 2), (29, .ireturn, 1), (30, .aload_n 0, 1), (31, .aload_n 2, 1), (32, .getfield 191, 3), (35, .invokevirtual 125, 3), (38, .astore_n 3, 1), (39, .aload_n 3, 1), (40, .getfield 138, 3), (43, .iload_n 1, 1), (44, .if_icmp .eq 11, 3), (47, .aload_n 3, 1), (48, .getfield 141, 3), (51, .iconst (-1), 1), (52, .if_icmp .eq 6, 3), (55, .bipush (-4), 2), (57, .ireturn, 1), (58, .aload_n 0, 1), (59, .getfield 62, 3), (62, .aload_n 0, 1), (63, .getfield 55, 3), (66, .invokevirtual 264, 3), (69, .aload_n 0, 1), (70, .getfield 55, 3), (73, .getfield 258, 3), (76, .iconst 0, 1), (77, .dup2, 1), (78, .iaload, 1), (79, .iconst 1, 1), (80, .iadd, 1), (81, .iastore, 1), (82, .aload_n 3, 1), (83, .iload_n 1, 1), (84, .putfield 141, 3), (87, .aload_n 3, 1), (88, .aload_n 0, 1), (89, .getfield 55, 3), (92, .getfield 116, 3), (95, .putfield 144, 3), (98, .aload_n 3, 1), (99, .getfield 138, 3), (102, .iconst (-1), 1), (103, .if_icmp .ne 7, 3), (106, .aload_n 3, 1), (107, .invokevirtual 288, 3), (110, .aload_n 0, 1), (111, .invokevirtual 272, 3), (114, .aload_n 3, 1), (115, .getfield 138, 3), (118, .iload_n 1, 1), (119, .if_icmp .ne 7, 3), (122, .iconst 1, 1), (123, .goto 4, 3), (126, .iconst 0, 1), (127, .ireturn, 1)]
def tX9_answer : List (Nat × Instr × Nat) := [(0, .aload_n 0, 1), (1, .getfield 43, 3), (4, .iload_n 1, 1), (5, .invokevirtual 261, 3), (8, .ifCond .ne 5, 3), (11, .iconst (-1), 1), (12, .ireturn, 1), (13, .aload_n 0, 1), (14, .iload_n 1, 1), (15, .invokevirtual 180, 3), (18, .astore_n 3, 1), (19, .aload_n 0, 1), (20, .iload_n 1, 1), (21, .aload_n 3, 1), (22, .invokevirtual 291, 3), (25, .ifCond .ne 6, 3), (28, .bipush (-4), 2), (30, .ireturn, 1), (31, .aload_n 0, 1), (32, .aload_n 3, 1), (33, .getfield 191, 3), (36, .invokevirtual 125, 3), (39, .astore 4, 2), (41, .aload 4, 2), (43, .getfield 141, 3), (46, .iconst (-1), 1), (47, .if_icmp .ne 6, 3), (50, .bipush (-4), 2), (52, .ireturn, 1), (53, .aload_n 0, 1), (54, .getfield 62, 3), (57, .aload_n 0, 1), (58, .getfield 55, 3), (61, .invokevirtual 264, 3), (64, .aload 4, 2), (66, .getfield 141, 3), (69, .istore 5, 2), (71, .iload_n 2, 1), (72, .ifCond .eq 24, 3), (75, .aload_n 0, 1), (76, .getfield 55, 3), (79, .getfield 258, 3), (82, .iconst 1, 1), (83, .dup2, 1), (84, .iaload, 1), (85, .iconst 1, 1), (86, .iadd, 1), (87, .iastore, 1), (88, .aload 4, 2), (90, .invokevirtual 288, 3), (93, .goto 22, 3), (96, .aload_n 0, 1), (97, .getfield 55, 3), (100, .getfield 258, 3), (103, .iconst 3, 1), (104, .dup2, 1), (105, .iaload, 1), (106, .iconst 1, 1), (107, .iadd, 1), (108, .iastore, 1), (109, .aload 4, 2), (111, .iconst (-1), 1), (112, .putfield 141, 3), (115, .aload_n 0, 1), (116, .invokevirtual 272, 3), (119, .iload 5, 2), (121, .ireturn, 1)]
def tX9_yield : List (Nat × Instr × Nat) := [(0, .aload_n 0, 1), (1, .getfield 43, 3), (4, .iload_n 1, 1), (5, .invokevirtual 261, 3), (8, .ifCond .ne 6, 3), (11, .bipush (-2), 2), (13, .ireturn, 1), (14, .aload_n 0, 1), (15, .iload_n 1, 1), (16, .invokevirtual 180, 3), (19, .astore_n 2, 1), (20, .aload_n 0, 1), (21, .iload_n 1, 1), (22, .aload_n 2, 1), (23, .invokevirtual 291, 3), (26, .ifCond .ne 6, 3), (29, .bipush (-4), 2), (31, .ireturn, 1), (32, .aload_n 0, 1), (33, .getfield 62, 3), (36, .aload_n 0, 1), (37, .getfield 55, 3), (40, .invokevirtual 264, 3), (43, .aload_n 0, 1), (44, .aload_n 2, 1), (45, .getfield 191, 3), (48, .invokevirtual 125, 3), (51, .astore_n 3, 1), (52, .aload_n 3, 1), (53, .invokevirtual 288, 3), (56, .aload_n 0, 1), (57, .invokevirtual 272, 3), (60, .aload_n 3, 1), (61, .getfield 138, 3), (64, .ireturn, 1)]
def tX9_pass : List (Nat × Instr × Nat) := [(0, .iload_n 1, 1), (1, .iconst 1, 1), (2, .if_icmp .lt 10, 3), (5, .iload_n 1, 1), (6, .sipush 500, 3), (9, .if_icmp .le 6, 3), (12, .bipush (-2), 2), (14, .ireturn, 1), (15, .aload_n 0, 1), (16, .getfield 55, 3), (19, .getfield 116, 3), (22, .iload_n 1, 1), (23, .iadd, 1), (24, .sipush 9999, 3), (27, .if_icmp .le 6, 3), (30, .bipush (-3), 2), (32, .ireturn, 1), (33, .aload_n 0, 1), (34, .getfield 62, 3), (37, .aload_n 0, 1), (38, .getfield 55, 3), (41, .invokevirtual 264, 3), (44, .iconst 0, 1), (45, .istore_n 2, 1), (46, .iconst 0, 1), (47, .istore_n 3, 1), (48, .iload_n 3, 1), (49, .iload_n 1, 1), (50, .if_icmp .ge 29, 3), (53, .aload_n 0, 1), (54, .getfield 55, 3), (57, .dup, 1), (58, .getfield 116, 3), (61, .iconst 1, 1), (62, .iadd, 1), (63, .putfield 116, 3), (66, .iload_n 2, 1), (67, .aload_n 0, 1), (68, .invokevirtual 295, 3), (71, .iadd, 1), (72, .istore_n 2, 1), (73, .iinc 3 1, 3), (76, .goto (-28), 3), (79, .aload_n 0, 1), (80, .invokevirtual 272, 3), (83, .iload_n 2, 1), (84, .ireturn, 1)]
def tX9_setSetting : List (Nat × Instr × Nat) := [(0, .iload_n 1, 1), (1, .ifCond .lt 26, 3), (4, .iload_n 1, 1), (5, .iconst 2, 1), (6, .if_icmp .ge 21, 3), (9, .iload_n 2, 1), (10, .getstatic 298, 3), (13, .iload_n 1, 1), (14, .iaload, 1), (15, .if_icmp .lt 12, 3), (18, .iload_n 2, 1), (19, .getstatic 301, 3), (22, .iload_n 1, 1), (23, .iaload, 1), (24, .if_icmp .le 6, 3), (27, .bipush (-2), 2), (29, .ireturn, 1), (30, .aload_n 0, 1), (31, .getfield 62, 3), (34, .aload_n 0, 1), (35, .getfield 55, 3), (38, .invokevirtual 264, 3), (41, .aload_n 0, 1), (42, .getfield 55, 3), (45, .getfield 124, 3), (48, .iload_n 1, 1), (49, .iaload, 1), (50, .istore_n 3, 1), (51, .aload_n 0, 1), (52, .getfield 55, 3), (55, .getfield 124, 3), (58, .iload_n 1, 1), (59, .iload_n 2, 1), (60, .iastore, 1), (61, .aload_n 0, 1), (62, .invokevirtual 272, 3), (65, .iload_n 3, 1), (66, .ireturn, 1)]
def tX9_write : List (Nat × Instr × Nat) := [(0, .aload_n 0, 1), (1, .iload_n 1, 1), (2, .invokevirtual 180, 3), (5, .astore_n 2, 1), (6, .aload_n 0, 1), (7, .iconst 0, 1), (8, .putfield 31, 3), (11, .aload_n 2, 1), (12, .getfield 188, 3), (15, .ifCond .ne 5, 3), (18, .iconst 0, 1), (19, .ireturn, 1), (20, .aload_n 0, 1), (21, .aload_n 0, 1), (22, .getfield 69, 3), (25, .aload_n 2, 1), (26, .getfield 191, 3), (29, .aload_n 0, 1), (30, .aload_n 2, 1), (31, .invokevirtual 194, 3), (34, .invokevirtual 155, 3), (37, .aload_n 0, 1), (38, .aload_n 2, 1), (39, .invokevirtual 204, 3), (42, .istore_n 3, 1), (43, .iconst 0, 1), (44, .istore 4, 2), (46, .iload 4, 2), (48, .aload_n 2, 1), (49, .getfield 187, 3), (52, .if_icmp .ge 53, 3), (55, .iconst 0, 1), (56, .istore 5, 2), (58, .iload 5, 2), (60, .aload_n 2, 1), (61, .getfield 184, 3), (64, .if_icmp .ge 29, 3), (67, .aload_n 0, 1), (68, .aload_n 0, 1), (69, .getfield 69, 3), (72, .iload_n 3, 1), (73, .iload 4, 2), (75, .iadd, 1), (76, .iload 5, 2), (78, .invokevirtual 177, 3), (81, .invokestatic 307, 3), (84, .invokevirtual 310, 3), (87, .iinc 5 1, 3), (90, .goto (-32), 3), (93, .aload_n 0, 1), (94, .bipush 10, 2), (96, .invokevirtual 310, 3), (99, .iinc 4 1, 3), (102, .goto (-56), 3), (105, .aload_n 0, 1), (106, .getfield 31, 3), (109, .ireturn, 1)]
def tX9_outputAt : List (Nat × Instr × Nat) := [(0, .iload_n 1, 1), (1, .ifCond .lt 20, 3), (4, .iload_n 1, 1), (5, .aload_n 0, 1), (6, .getfield 31, 3), (9, .if_icmp .ge 12, 3), (12, .iload_n 1, 1), (13, .aload_n 0, 1), (14, .getfield 27, 3), (17, .arraylength, 1), (18, .if_icmp .lt 5, 3), (21, .iconst (-1), 1), (22, .ireturn, 1), (23, .aload_n 0, 1), (24, .getfield 27, 3), (27, .iload_n 1, 1), (28, .iaload, 1), (29, .ireturn, 1)]
def tX9_deskOf : List (Nat × Instr × Nat) := [(0, .aload_n 0, 1), (1, .getfield 39, 3), (4, .iload_n 1, 1), (5, .invokevirtual 261, 3), (8, .ifCond .eq 15, 3), (11, .iload_n 1, 1), (12, .aload_n 0, 1), (13, .getfield 55, 3), (16, .getfield 313, 3), (19, .arraylength, 1), (20, .if_icmp .lt 11, 3), (23, .new 317, 3), (26, .dup, 1), (27, .invokespecial 319, 3), (30, .athrow, 1), (31, .aload_n 0, 1), (32, .getfield 55, 3), (35, .getfield 313, 3), (38, .iload_n 1, 1), (39, .aaload, 1), (40, .areturn, 1)]
def tX9_recordingOf : List (Nat × Instr × Nat) := [(0, .aload_n 0, 1), (1, .getfield 39, 3), (4, .iload_n 1, 1), (5, .invokevirtual 261, 3), (8, .ifCond .eq 12, 3), (11, .iload_n 1, 1), (12, .aload_n 0, 1), (13, .getfield 48, 3), (16, .arraylength, 1), (17, .if_icmp .lt 11, 3), (20, .new 317, 3), (23, .dup, 1), (24, .invokespecial 319, 3), (27, .athrow, 1), (28, .aload_n 0, 1), (29, .getfield 48, 3), (32, .iload_n 1, 1), (33, .aaload, 1), (34, .areturn, 1)]
def tX9_seatOf : List (Nat × Instr × Nat) := [(0, .aload_n 0, 1), (1, .getfield 43, 3), (4, .iload_n 1, 1), (5, .invokevirtual 261, 3), (8, .ifCond .eq 15, 3), (11, .iload_n 1, 1), (12, .aload_n 0, 1), (13, .getfield 55, 3), (16, .getfield 320, 3), (19, .arraylength, 1), (20, .if_icmp .lt 11, 3), (23, .new 317, 3), (26, .dup, 1), (27, .invokespecial 319, 3), (30, .athrow, 1), (31, .aload_n 0, 1), (32, .getfield 55, 3), (35, .getfield 320, 3), (38, .iload_n 1, 1), (39, .aaload, 1), (40, .areturn, 1)]
def tX9_whyNotAWatcher : List (Nat × Instr × Nat) := [(0, .aload_n 0, 1), (1, .getfield 43, 3), (4, .iload_n 1, 1), (5, .invokevirtual 261, 3), (8, .ifCond .ne 5, 3), (11, .iconst (-1), 1), (12, .ireturn, 1), (13, .aload_n 0, 1), (14, .iload_n 1, 1), (15, .invokevirtual 180, 3), (18, .getfield 188, 3), (21, .ifCond .ne 8, 3), (24, .bipush (-4), 2), (26, .goto 4, 3), (29, .iconst 0, 1), (30, .ireturn, 1)]
def tX9_usersWhoWatch : List (Nat × Instr × Nat) := [(0, .iconst 0, 1), (1, .istore_n 1, 1), (2, .iconst 0, 1), (3, .istore_n 2, 1), (4, .iload_n 2, 1), (5, .aload_n 0, 1), (6, .getfield 43, 3), (9, .getfield 109, 3), (12, .if_icmp .ge 23, 3), (15, .aload_n 0, 1), (16, .iload_n 2, 1), (17, .invokevirtual 180, 3), (20, .getfield 188, 3), (23, .ifCond .eq 6, 3), (26, .iinc 1 1, 3), (29, .iinc 2 1, 3), (32, .goto (-28), 3), (35, .iload_n 1, 1), (36, .ireturn, 1)]
def tX9_usersWhoWatchSession : List (Nat × Instr × Nat) := [(0, .iconst 0, 1), (1, .istore_n 2, 1), (2, .iconst 0, 1), (3, .istore_n 3, 1), (4, .iload_n 3, 1), (5, .aload_n 0, 1), (6, .getfield 43, 3), (9, .getfield 109, 3), (12, .if_icmp .ge 36, 3), (15, .aload_n 0, 1), (16, .iload_n 3, 1), (17, .invokevirtual 180, 3), (20, .astore 4, 2), (22, .aload 4, 2), (24, .getfield 188, 3), (27, .ifCond .eq 15, 3), (30, .aload 4, 2), (32, .getfield 191, 3), (35, .iload_n 1, 1), (36, .if_icmp .ne 6, 3), (39, .iinc 2 1, 3), (42, .iinc 3 1, 3), (45, .goto (-41), 3), (48, .iload_n 2, 1), (49, .ireturn, 1)]
def tX9_draw : List (Nat × Instr × Nat) := [(0, .iload_n 3, 1), (1, .ifCond .lt 15, 3), (4, .iload_n 3, 1), (5, .aload_n 0, 1), (6, .iload_n 2, 1), (7, .invokevirtual 125, 3), (10, .getfield 133, 3), (13, .if_icmp .le 11, 3), (16, .new 317, 3), (19, .dup, 1), (20, .invokespecial 319, 3), (23, .athrow, 1), (24, .aload_n 0, 1), (25, .iload_n 2, 1), (26, .invokevirtual 147, 3), (29, .astore 4, 2), (31, .aload_n 1, 1), (32, .aload_n 0, 1), (33, .getfield 39, 3), (36, .iload_n 2, 1), (37, .iconst 0, 1), (38, .invokevirtual 129, 3), (41, .aload_n 0, 1), (42, .getfield 39, 3), (45, .iload_n 2, 1), (46, .iconst 1, 1), (47, .invokevirtual 129, 3), (50, .invokevirtual 324, 3), (53, .iconst 0, 1), (54, .istore 5, 2), (56, .iload 5, 2), (58, .iload_n 3, 1), (59, .if_icmp .ge 17, 3), (62, .aload_n 1, 1), (63, .aload 4, 2), (65, .iload 5, 2), (67, .invokevirtual 241, 3), (70, .iinc 5 1, 3), (73, .goto (-17), 3), (76, .return_, 1)]
def tX9_positionOf : List (Nat × Instr × Nat) := [(0, .aload_n 0, 1), (1, .aload_n 1, 1), (2, .getfield 191, 3), (5, .invokevirtual 125, 3), (8, .getfield 133, 3), (11, .istore_n 2, 1), (12, .aload_n 1, 1), (13, .getfield 188, 3), (16, .iconst 1, 1), (17, .if_icmp .ne 5, 3), (20, .iload_n 2, 1), (21, .ireturn, 1), (22, .aload_n 1, 1), (23, .getfield 188, 3), (26, .iconst 2, 1), (27, .if_icmp .ne 8, 3), (30, .aload_n 1, 1), (31, .getfield 229, 3), (34, .ireturn, 1), (35, .aload_n 0, 1), (36, .aload_n 1, 1), (37, .getfield 191, 3), (40, .invokevirtual 147, 3), (43, .astore_n 3, 1), (44, .aload_n 0, 1), (45, .getfield 55, 3), (48, .getfield 116, 3), (51, .aload_n 1, 1), (52, .getfield 232, 3), (55, .isub, 1), (56, .aload_n 1, 1), (57, .getfield 201, 3), (60, .imul, 1), (61, .istore 4, 2), (63, .aload_n 1, 1), (64, .getfield 229, 3), (67, .istore 5, 2), (69, .iload 5, 2), (71, .iload_n 2, 1), (72, .if_icmp .ge 27, 3), (75, .aload_n 3, 1), (76, .aload_n 1, 1), (77, .getfield 229, 3), (80, .iload 5, 2), (82, .invokevirtual 235, 3), (85, .bipush 100, 2), (87, .imul, 1), (88, .iload 4, 2), (90, .if_icmp .gt 9, 3), (93, .iinc 5 1, 3), (96, .goto (-27), 3), (99, .iload 5, 2), (101, .ireturn, 1)]
def tX9_uppermostLine : List (Nat × Instr × Nat) := [(0, .aload_n 0, 1), (1, .getfield 69, 3), (4, .invokevirtual 207, 3), (7, .aload_n 1, 1), (8, .getfield 198, 3), (11, .isub, 1), (12, .aload_n 1, 1), (13, .getfield 187, 3), (16, .isub, 1), (17, .iconst 1, 1), (18, .iadd, 1), (19, .iconst 0, 1), (20, .invokestatic 224, 3), (23, .ireturn, 1)]
def tX9_userWithLeastWindow : List (Nat × Instr × Nat) := [(0, .aload_n 0, 1), (1, .getfield 39, 3), (4, .iload_n 1, 1), (5, .iload_n 2, 1), (6, .invokevirtual 129, 3), (9, .istore_n 3, 1), (10, .iconst (-1), 1), (11, .istore 4, 2), (13, .iconst 0, 1), (14, .istore 5, 2), (16, .iload 5, 2), (18, .aload_n 0, 1), (19, .getfield 43, 3), (22, .getfield 109, 3), (25, .if_icmp .ge 48, 3), (28, .aload_n 0, 1), (29, .iload 5, 2), (31, .invokevirtual 180, 3), (34, .astore 6, 2), (36, .aload 6, 2), (38, .iload_n 1, 1), (39, .iconst 1, 1), (40, .invokevirtual 210, 3), (43, .ifCond .eq 24, 3), (46, .aload 6, 2), (48, .iload_n 2, 1), (49, .invokevirtual 327, 3), (52, .iload_n 3, 1), (53, .if_icmp .ge 14, 3), (56, .aload 6, 2), (58, .iload_n 2, 1), (59, .invokevirtual 327, 3), (62, .istore_n 3, 1), (63, .iload 5, 2), (65, .istore 4, 2), (67, .iinc 5 1, 3), (70, .goto (-54), 3), (73, .iload 4, 2), (75, .ireturn, 1)]
def tX9_sizeThatIsRight : List (Nat × Instr × Nat) := [(0, .aload_n 0, 1), (1, .getfield 55, 3), (4, .getfield 124, 3), (7, .iconst 1, 1), (8, .iaload, 1), (9, .ifCond .ne 7, 3), (12, .iconst (-1), 1), (13, .goto 9, 3), (16, .aload_n 0, 1), (17, .iload_n 1, 1), (18, .iload_n 2, 1), (19, .invokevirtual 217, 3), (22, .istore_n 3, 1), (23, .iload_n 3, 1), (24, .iconst (-1), 1), (25, .if_icmp .ne 15, 3), (28, .aload_n 0, 1), (29, .getfield 39, 3), (32, .iload_n 1, 1), (33, .iload_n 2, 1), (34, .invokevirtual 129, 3), (37, .goto 12, 3), (40, .aload_n 0, 1), (41, .iload_n 3, 1), (42, .invokevirtual 180, 3), (45, .iload_n 2, 1), (46, .invokevirtual 327, 3), (49, .ireturn, 1)]
def tX9_recordRightSizes : List (Nat × Instr × Nat) := [(0, .iconst 0, 1), (1, .istore_n 1, 1), (2, .iload_n 1, 1), (3, .aload_n 0, 1), (4, .getfield 39, 3), (7, .getfield 109, 3), (10, .if_icmp .ge 105, 3), (13, .aload_n 0, 1), (14, .iload_n 1, 1), (15, .invokevirtual 125, 3), (18, .astore_n 2, 1), (19, .aload_n 0, 1), (20, .iload_n 1, 1), (21, .iconst 0, 1), (22, .invokevirtual 214, 3), (25, .istore_n 3, 1), (26, .aload_n 0, 1), (27, .iload_n 1, 1), (28, .iconst 1, 1), (29, .invokevirtual 214, 3), (32, .istore 4, 2), (34, .aload_n 0, 1), (35, .iload_n 1, 1), (36, .iconst 0, 1), (37, .invokevirtual 331, 3), (40, .iload_n 3, 1), (41, .if_icmp .ne 18, 3), (44, .aload_n 0, 1), (45, .iload_n 1, 1), (46, .iconst 1, 1), (47, .invokevirtual 331, 3), (50, .iload 4, 2), (52, .if_icmp .ne 7, 3), (55, .iconst 1, 1), (56, .goto 4, 3), (59, .iconst 0, 1), (60, .istore 5, 2), (62, .iload 5, 2), (64, .ifCond .ne 45, 3), (67, .aload_n 2, 1), (68, .getfield 133, 3), (71, .sipush 300, 3), (74, .if_icmp .ge 35, 3), (77, .aload_n 0, 1), (78, .iload_n 1, 1), (79, .invokevirtual 147, 3), (82, .aload_n 2, 1), (83, .getfield 133, 3), (86, .iload_n 3, 1), (87, .iload 4, 2), (89, .aload_n 0, 1), (90, .getfield 55, 3), (93, .getfield 116, 3), (96, .invokevirtual 334, 3), (99, .aload_n 2, 1), (100, .dup, 1), (101, .getfield 133, 3), (104, .iconst 1, 1), (105, .iadd, 1), (106, .putfield 133, 3), (109, .iinc 1 1, 3), (112, .goto (-110), 3), (115, .return_, 1)]
def tX9_lastSize : List (Nat × Instr × Nat) := [(0, .aload_n 0, 1), (1, .iload_n 1, 1), (2, .invokevirtual 147, 3), (5, .astore_n 3, 1), (6, .aload_n 0, 1), (7, .iload_n 1, 1), (8, .invokevirtual 125, 3), (11, .getfield 133, 3), (14, .iconst 1, 1), (15, .isub, 1), (16, .istore 4, 2), (18, .iload 4, 2), (20, .ifCond .lt 36, 3), (23, .aload_n 3, 1), (24, .iconst 0, 1), (25, .iload 4, 2), (27, .invokevirtual 151, 3), (30, .iconst 1, 1), (31, .if_icmp .ne 19, 3), (34, .aload_n 3, 1), (35, .iload_n 2, 1), (36, .ifCond .eq 7, 3), (39, .iconst 2, 1), (40, .goto 4, 3), (43, .iconst 1, 1), (44, .iload 4, 2), (46, .invokevirtual 151, 3), (49, .ireturn, 1), (50, .iinc 4 (-1), 3), (53, .goto (-35), 3), (56, .aload_n 0, 1), (57, .getfield 39, 3), (60, .iload_n 1, 1), (61, .iload_n 2, 1), (62, .invokevirtual 129, 3), (65, .ireturn, 1)]
def tX9_reasonNotToType : List (Nat × Instr × Nat) := [(0, .aload_n 2, 1), (1, .getfield 188, 3), (4, .ifCond .ne 5, 3), (7, .iconst 1, 1), (8, .ireturn, 1), (9, .aload_n 2, 1), (10, .getfield 188, 3), (13, .iconst 1, 1), (14, .if_icmp .eq 5, 3), (17, .iconst 2, 1), (18, .ireturn, 1), (19, .aload_n 0, 1), (20, .aload_n 2, 1), (21, .getfield 191, 3), (24, .invokevirtual 125, 3), (27, .astore_n 3, 1), (28, .aload_n 3, 1), (29, .getfield 138, 3), (32, .iconst (-1), 1), (33, .if_icmp .ne 5, 3), (36, .iconst 3, 1), (37, .ireturn, 1), (38, .aload_n 3, 1), (39, .getfield 138, 3), (42, .iload_n 1, 1), (43, .if_icmp .eq 5, 3), (46, .iconst 4, 1), (47, .ireturn, 1), (48, .aload_n 3, 1), (49, .getfield 133, 3), (52, .sipush 300, 3), (55, .if_icmp .lt 7, 3), (58, .iconst 5, 1), (59, .goto 4, 3), (62, .iconst 0, 1), (63, .ireturn, 1)]
def tX9_controlsItsSession : List (Nat × Instr × Nat) := [(0, .aload_n 2, 1), (1, .getfield 188, 3), (4, .iconst 1, 1), (5, .if_icmp .ne 22, 3), (8, .aload_n 0, 1), (9, .aload_n 2, 1), (10, .getfield 191, 3), (13, .invokevirtual 125, 3), (16, .getfield 138, 3), (19, .iload_n 1, 1), (20, .if_icmp .ne 7, 3), (23, .iconst 1, 1), (24, .goto 4, 3), (27, .iconst 0, 1), (28, .ireturn, 1)]
def tX9_loseControl : List (Nat × Instr × Nat) := [(0, .aload_n 2, 1), (1, .getfield 188, 3), (4, .iconst 1, 1), (5, .if_icmp .eq 4, 3), (8, .return_, 1), (9, .aload_n 0, 1), (10, .aload_n 2, 1), (11, .getfield 191, 3), (14, .invokevirtual 125, 3), (17, .astore_n 3, 1), (18, .aload_n 3, 1), (19, .getfield 141, 3), (22, .iload_n 1, 1), (23, .if_icmp .ne 8, 3), (26, .aload_n 3, 1), (27, .iconst (-1), 1), (28, .putfield 141, 3), (31, .aload_n 3, 1), (32, .getfield 138, 3), (35, .iload_n 1, 1), (36, .if_icmp .ne 7, 3), (39, .aload_n 3, 1), (40, .invokevirtual 288, 3), (43, .return_, 1)]
def tX9_grantOldRequests : List (Nat × Instr × Nat) := [(0, .iconst 0, 1), (1, .istore_n 1, 1), (2, .iconst 0, 1), (3, .istore_n 2, 1), (4, .iload_n 2, 1), (5, .aload_n 0, 1), (6, .getfield 39, 3), (9, .getfield 109, 3), (12, .if_icmp .ge 67, 3), (15, .aload_n 0, 1), (16, .iload_n 2, 1), (17, .invokevirtual 125, 3), (20, .astore_n 3, 1), (21, .aload_n 3, 1), (22, .getfield 141, 3), (25, .iconst (-1), 1), (26, .if_icmp .eq 47, 3), (29, .aload_n 0, 1), (30, .getfield 55, 3), (33, .getfield 116, 3), (36, .aload_n 3, 1), (37, .getfield 144, 3), (40, .isub, 1), (41, .aload_n 0, 1), (42, .getfield 55, 3), (45, .getfield 124, 3), (48, .iconst 0, 1), (49, .iaload, 1), (50, .if_icmp .lt 23, 3), (53, .aload_n 3, 1), (54, .invokevirtual 288, 3), (57, .aload_n 0, 1), (58, .getfield 55, 3), (61, .getfield 258, 3), (64, .iconst 2, 1), (65, .dup2, 1), (66, .iaload, 1), (67, .iconst 1, 1), (68, .iadd, 1), (69, .iastore, 1), (70, .iinc 1 1, 3), (73, .iinc 2 1, 3), (76, .goto (-72), 3), (79, .iload_n 1, 1), (80, .ireturn, 1)]
def tX9_putOut : List (Nat × Instr × Nat) := [(0, .aload_n 0, 1), (1, .getfield 31, 3), (4, .aload_n 0, 1), (5, .getfield 27, 3), (8, .arraylength, 1), (9, .if_icmp .ge 23, 3), (12, .aload_n 0, 1), (13, .getfield 27, 3), (16, .aload_n 0, 1), (17, .getfield 31, 3), (20, .iload_n 1, 1), (21, .iastore, 1), (22, .aload_n 0, 1), (23, .dup, 1), (24, .getfield 31, 3), (27, .iconst 1, 1), (28, .iadd, 1), (29, .putfield 31, 3), (32, .return_, 1)]
def tX9_characterFor : List (Nat × Instr × Nat) := [(0, .iload_n 0, 1), (1, .bipush 27, 2), (3, .if_icmp .ne 8, 3), (6, .bipush 32, 2), (8, .goto 9, 3), (11, .bipush 97, 2), (13, .iload_n 0, 1), (14, .iadd, 1), (15, .iconst 1, 1), (16, .isub, 1), (17, .ireturn, 1)]
def tX9_groupAt : List (Nat × Instr × Nat) := [(0, .iload_n 0, 1), (1, .iconst 5, 1), (2, .iconst 5, 1), (3, .iload_n 1, 1), (4, .isub, 1), (5, .imul, 1), (6, .ishr, 1), (7, .bipush 31, 2), (9, .iand, 1), (10, .ireturn, 1)]
def tX9_groupsIn : List (Nat × Instr × Nat) := [(0, .iload_n 0, 1), (1, .ifCond .le 10, 3), (4, .iload_n 0, 1), (5, .bipush 30, 2), (7, .ishr, 1), (8, .ifCond .eq 5, 3), (11, .iconst 0, 1), (12, .ireturn, 1), (13, .iconst 0, 1), (14, .istore_n 2, 1), (15, .iconst 0, 1), (16, .istore_n 3, 1), (17, .iload_n 3, 1), (18, .bipush 6, 2), (20, .if_icmp .ge 42, 3), (23, .iload_n 0, 1), (24, .iload_n 3, 1), (25, .invokestatic 281, 3), (28, .istore 4, 2), (30, .iload 4, 2), (32, .iload_n 1, 1), (33, .if_icmp .gt 13, 3), (36, .iload 4, 2), (38, .ifCond .eq 10, 3), (41, .iload_n 2, 1), (42, .iload_n 3, 1), (43, .if_icmp .ge 5, 3), (46, .iconst 0, 1), (47, .ireturn, 1), (48, .iload 4, 2), (50, .ifCond .eq 6, 3), (53, .iinc 2 1, 3), (56, .iinc 3 1, 3), (59, .goto (-42), 3), (62, .iload_n 2, 1), (63, .ireturn, 1)]
