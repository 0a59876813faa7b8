section
-- ===== PART A: goes FIRST, ahead of the names: the tables' words, and 'selects' of the private methods out of them =====
/-- a private method of a class that the tables say can be made, by its rows of tables_1 -/
def lw_okq (q : MethodName × Nat) : Prop := (q.1.cls ≠ "java/lang/invoke/MethodHandle" ∧ q.1.cls ≠ "java/lang/invoke/VarHandle") ∧ Cond.instantiable q.1.cls q.2 ∈ tables_1 ∧ Cond.privateMethod q.1 ∈ tables_1 ∧ Cond.instanceMethod q.1 ∈ tables_1
theorem lw_p0 : lw_okq (⟨"java/lang/Throwable", "fillInStackTrace", "(I)Ljava/lang/Throwable;"⟩, 6) := ⟨⟨by decide +kernel, by decide +kernel⟩, List.mem_of_getElem? (i := 201) (by decide +kernel), List.mem_of_getElem? (i := 199) (by decide +kernel), List.mem_of_getElem? (i := 200) (by decide +kernel)⟩
theorem lw_p1 : lw_okq (⟨"CheckDaemon", "append", "(I)V"⟩, 4) := ⟨⟨by decide +kernel, by decide +kernel⟩, List.mem_of_getElem? (i := 21) (by decide +kernel), List.mem_of_getElem? (i := 231) (by decide +kernel), List.mem_of_getElem? (i := 232) (by decide +kernel)⟩
theorem lw_p2 : lw_okq (⟨"CheckDaemon", "isBlank", "()Z"⟩, 4) := ⟨⟨by decide +kernel, by decide +kernel⟩, List.mem_of_getElem? (i := 21) (by decide +kernel), List.mem_of_getElem? (i := 262) (by decide +kernel), List.mem_of_getElem? (i := 263) (by decide +kernel)⟩
theorem lw_p3 : lw_okq (⟨"CheckDaemon$Parser", "readHead", "()Z"⟩, 8) := ⟨⟨by decide +kernel, by decide +kernel⟩, List.mem_of_getElem? (i := 266) (by decide +kernel), List.mem_of_getElem? (i := 339) (by decide +kernel), List.mem_of_getElem? (i := 340) (by decide +kernel)⟩
theorem lw_p4 : lw_okq (⟨"CheckDaemon$Parser", "next", "()I"⟩, 8) := ⟨⟨by decide +kernel, by decide +kernel⟩, List.mem_of_getElem? (i := 266) (by decide +kernel), List.mem_of_getElem? (i := 343) (by decide +kernel), List.mem_of_getElem? (i := 344) (by decide +kernel)⟩
theorem lw_p5 : lw_okq (⟨"CheckDaemon$Parser", "take", "(I)Z"⟩, 8) := ⟨⟨by decide +kernel, by decide +kernel⟩, List.mem_of_getElem? (i := 266) (by decide +kernel), List.mem_of_getElem? (i := 350) (by decide +kernel), List.mem_of_getElem? (i := 351) (by decide +kernel)⟩
theorem lw_p6 : lw_okq (⟨"CheckDaemon$Parser", "readTypeWord", "()Z"⟩, 8) := ⟨⟨by decide +kernel, by decide +kernel⟩, List.mem_of_getElem? (i := 266) (by decide +kernel), List.mem_of_getElem? (i := 354) (by decide +kernel), List.mem_of_getElem? (i := 355) (by decide +kernel)⟩
theorem lw_p7 : lw_okq (⟨"CheckDaemon$Parser", "readSum", "(I)I"⟩, 8) := ⟨⟨by decide +kernel, by decide +kernel⟩, List.mem_of_getElem? (i := 266) (by decide +kernel), List.mem_of_getElem? (i := 361) (by decide +kernel), List.mem_of_getElem? (i := 362) (by decide +kernel)⟩
theorem lw_p8 : lw_okq (⟨"CheckDaemon$Parser", "readOr", "(I)I"⟩, 8) := ⟨⟨by decide +kernel, by decide +kernel⟩, List.mem_of_getElem? (i := 266) (by decide +kernel), List.mem_of_getElem? (i := 365) (by decide +kernel), List.mem_of_getElem? (i := 366) (by decide +kernel)⟩
theorem lw_p9 : lw_okq (⟨"CheckDaemon$Parser", "readPart", "(I)I"⟩, 8) := ⟨⟨by decide +kernel, by decide +kernel⟩, List.mem_of_getElem? (i := 266) (by decide +kernel), List.mem_of_getElem? (i := 369) (by decide +kernel), List.mem_of_getElem? (i := 370) (by decide +kernel)⟩
theorem lw_p10 : lw_okq (⟨"CheckDaemon$Parser", "readAtom", "(I)I"⟩, 8) := ⟨⟨by decide +kernel, by decide +kernel⟩, List.mem_of_getElem? (i := 266) (by decide +kernel), List.mem_of_getElem? (i := 373) (by decide +kernel), List.mem_of_getElem? (i := 374) (by decide +kernel)⟩
theorem lw_p11 : lw_okq (⟨"CheckDaemon$Parser", "readName", "(II)I"⟩, 8) := ⟨⟨by decide +kernel, by decide +kernel⟩, List.mem_of_getElem? (i := 266) (by decide +kernel), List.mem_of_getElem? (i := 381) (by decide +kernel), List.mem_of_getElem? (i := 382) (by decide +kernel)⟩
theorem lw_p12 : lw_okq (⟨"CheckDaemon$Parser", "readEnding", "(I)I"⟩, 8) := ⟨⟨by decide +kernel, by decide +kernel⟩, List.mem_of_getElem? (i := 266) (by decide +kernel), List.mem_of_getElem? (i := 392) (by decide +kernel), List.mem_of_getElem? (i := 393) (by decide +kernel)⟩
theorem lw_p13 : lw_okq (⟨"CheckDaemon$History", "loseOldest", "()V"⟩, 3) := ⟨⟨by decide +kernel, by decide +kernel⟩, List.mem_of_getElem? (i := 119) (by decide +kernel), List.mem_of_getElem? (i := 453) (by decide +kernel), List.mem_of_getElem? (i := 454) (by decide +kernel)⟩
theorem lw_p14 : lw_okq (⟨"CheckDaemon$Workspace", "startLooking", "()V"⟩, 9) := ⟨⟨by decide +kernel, by decide +kernel⟩, List.mem_of_getElem? (i := 29) (by decide +kernel), List.mem_of_getElem? (i := 461) (by decide +kernel), List.mem_of_getElem? (i := 462) (by decide +kernel)⟩
theorem lw_p15 : lw_okq (⟨"CheckDaemon$Workspace", "leave", "(LCheckDaemon$Line;)V"⟩, 9) := ⟨⟨by decide +kernel, by decide +kernel⟩, List.mem_of_getElem? (i := 29) (by decide +kernel), List.mem_of_getElem? (i := 469) (by decide +kernel), List.mem_of_getElem? (i := 470) (by decide +kernel)⟩
def lw_privs_1 : List (MethodName × Nat) := [(⟨"java/lang/Throwable", "fillInStackTrace", "(I)Ljava/lang/Throwable;"⟩, 6), (⟨"CheckDaemon", "append", "(I)V"⟩, 4), (⟨"CheckDaemon", "isBlank", "()Z"⟩, 4), (⟨"CheckDaemon$Parser", "readHead", "()Z"⟩, 8), (⟨"CheckDaemon$Parser", "next", "()I"⟩, 8), (⟨"CheckDaemon$Parser", "take", "(I)Z"⟩, 8), (⟨"CheckDaemon$Parser", "readTypeWord", "()Z"⟩, 8), (⟨"CheckDaemon$Parser", "readSum", "(I)I"⟩, 8), (⟨"CheckDaemon$Parser", "readOr", "(I)I"⟩, 8), (⟨"CheckDaemon$Parser", "readPart", "(I)I"⟩, 8), (⟨"CheckDaemon$Parser", "readAtom", "(I)I"⟩, 8), (⟨"CheckDaemon$Parser", "readName", "(II)I"⟩, 8), (⟨"CheckDaemon$Parser", "readEnding", "(I)I"⟩, 8), (⟨"CheckDaemon$History", "loseOldest", "()V"⟩, 3), (⟨"CheckDaemon$Workspace", "startLooking", "()V"⟩, 9), (⟨"CheckDaemon$Workspace", "leave", "(LCheckDaemon$Line;)V"⟩, 9)]
theorem lw_r1 : ∀ q ∈ lw_privs_1, lw_okq q := List.forall_mem_cons.mpr ⟨lw_p0, List.forall_mem_cons.mpr ⟨lw_p1, List.forall_mem_cons.mpr ⟨lw_p2, List.forall_mem_cons.mpr ⟨lw_p3, List.forall_mem_cons.mpr ⟨lw_p4, List.forall_mem_cons.mpr ⟨lw_p5, List.forall_mem_cons.mpr ⟨lw_p6, List.forall_mem_cons.mpr ⟨lw_p7, List.forall_mem_cons.mpr ⟨lw_p8, List.forall_mem_cons.mpr ⟨lw_p9, List.forall_mem_cons.mpr ⟨lw_p10, List.forall_mem_cons.mpr ⟨lw_p11, List.forall_mem_cons.mpr ⟨lw_p12, List.forall_mem_cons.mpr ⟨lw_p13, List.forall_mem_cons.mpr ⟨lw_p14, List.forall_mem_cons.mpr ⟨lw_p15, fun _ h => absurd h List.not_mem_nil⟩⟩⟩⟩⟩⟩⟩⟩⟩⟩⟩⟩⟩⟩⟩⟩
theorem lw_p16 : lw_okq (⟨"CheckDaemon$Workspace", "touch", "(I)V"⟩, 9) := ⟨⟨by decide +kernel, by decide +kernel⟩, List.mem_of_getElem? (i := 29) (by decide +kernel), List.mem_of_getElem? (i := 484) (by decide +kernel), List.mem_of_getElem? (i := 485) (by decide +kernel)⟩
theorem lw_p17 : lw_okq (⟨"CheckDaemon$Workspace", "enter", "(LCheckDaemon$Line;)V"⟩, 9) := ⟨⟨by decide +kernel, by decide +kernel⟩, List.mem_of_getElem? (i := 29) (by decide +kernel), List.mem_of_getElem? (i := 493) (by decide +kernel), List.mem_of_getElem? (i := 494) (by decide +kernel)⟩
theorem lw_p18 : lw_okq (⟨"CheckDaemon$Workspace", "lookOn", "()I"⟩, 9) := ⟨⟨by decide +kernel, by decide +kernel⟩, List.mem_of_getElem? (i := 29) (by decide +kernel), List.mem_of_getElem? (i := 497) (by decide +kernel), List.mem_of_getElem? (i := 498) (by decide +kernel)⟩
theorem lw_p19 : lw_okq (⟨"CheckDaemon$Workspace", "restartTypes", "()V"⟩, 9) := ⟨⟨by decide +kernel, by decide +kernel⟩, List.mem_of_getElem? (i := 29) (by decide +kernel), List.mem_of_getElem? (i := 506) (by decide +kernel), List.mem_of_getElem? (i := 507) (by decide +kernel)⟩
theorem lw_p20 : lw_okq (⟨"CheckDaemon$Workspace", "workOutWaiting", "()Z"⟩, 9) := ⟨⟨by decide +kernel, by decide +kernel⟩, List.mem_of_getElem? (i := 29) (by decide +kernel), List.mem_of_getElem? (i := 522) (by decide +kernel), List.mem_of_getElem? (i := 523) (by decide +kernel)⟩
theorem lw_p21 : lw_okq (⟨"CheckDaemon$Expression", "valueOf", "(ILCheckDaemon$Symbols;)I"⟩, 7) := ⟨⟨by decide +kernel, by decide +kernel⟩, List.mem_of_getElem? (i := 278) (by decide +kernel), List.mem_of_getElem? (i := 534) (by decide +kernel), List.mem_of_getElem? (i := 535) (by decide +kernel)⟩
theorem lw_p22 : lw_okq (⟨"CheckDaemon$Expression", "valueAt", "(I)I"⟩, 7) := ⟨⟨by decide +kernel, by decide +kernel⟩, List.mem_of_getElem? (i := 278) (by decide +kernel), List.mem_of_getElem? (i := 542) (by decide +kernel), List.mem_of_getElem? (i := 543) (by decide +kernel)⟩
theorem lw_p23 : lw_okq (⟨"CheckDaemon$Workspace", "wakeReaders", "(I)V"⟩, 9) := ⟨⟨by decide +kernel, by decide +kernel⟩, List.mem_of_getElem? (i := 29) (by decide +kernel), List.mem_of_getElem? (i := 568) (by decide +kernel), List.mem_of_getElem? (i := 569) (by decide +kernel)⟩
theorem lw_p24 : lw_okq (⟨"CheckDaemon$Workspace", "findFaults", "()V"⟩, 9) := ⟨⟨by decide +kernel, by decide +kernel⟩, List.mem_of_getElem? (i := 29) (by decide +kernel), List.mem_of_getElem? (i := 572) (by decide +kernel), List.mem_of_getElem? (i := 573) (by decide +kernel)⟩
theorem lw_p25 : lw_okq (⟨"CheckDaemon$Expression", "faultOf", "(ILCheckDaemon$Symbols;)I"⟩, 7) := ⟨⟨by decide +kernel, by decide +kernel⟩, List.mem_of_getElem? (i := 278) (by decide +kernel), List.mem_of_getElem? (i := 592) (by decide +kernel), List.mem_of_getElem? (i := 593) (by decide +kernel)⟩
theorem lw_p26 : lw_okq (⟨"CheckDaemon$Line", "isMismatch", "()Z"⟩, 8) := ⟨⟨by decide +kernel, by decide +kernel⟩, List.mem_of_getElem? (i := 396) (by decide +kernel), List.mem_of_getElem? (i := 607) (by decide +kernel), List.mem_of_getElem? (i := 608) (by decide +kernel)⟩
theorem lw_p27 : lw_okq (⟨"CheckDaemon$Workspace", "readersOf", "(I)I"⟩, 9) := ⟨⟨by decide +kernel, by decide +kernel⟩, List.mem_of_getElem? (i := 29) (by decide +kernel), List.mem_of_getElem? (i := 661) (by decide +kernel), List.mem_of_getElem? (i := 662) (by decide +kernel)⟩
theorem lw_p28 : lw_okq (⟨"CheckDaemon$Workspace", "freshCircles", "()LCheckDaemon$Circles;"⟩, 9) := ⟨⟨by decide +kernel, by decide +kernel⟩, List.mem_of_getElem? (i := 29) (by decide +kernel), List.mem_of_getElem? (i := 665) (by decide +kernel), List.mem_of_getElem? (i := 666) (by decide +kernel)⟩
theorem lw_p29 : lw_okq (⟨"CheckDaemon$Circles", "listDefined", "(LCheckDaemon$Symbols;)V"⟩, 6) := ⟨⟨by decide +kernel, by decide +kernel⟩, List.mem_of_getElem? (i := 63) (by decide +kernel), List.mem_of_getElem? (i := 673) (by decide +kernel), List.mem_of_getElem? (i := 674) (by decide +kernel)⟩
theorem lw_p30 : lw_okq (⟨"CheckDaemon$Circles", "gatherReads", "([LCheckDaemon$Line;)V"⟩, 6) := ⟨⟨by decide +kernel, by decide +kernel⟩, List.mem_of_getElem? (i := 63) (by decide +kernel), List.mem_of_getElem? (i := 679) (by decide +kernel), List.mem_of_getElem? (i := 680) (by decide +kernel)⟩
theorem lw_p31 : lw_okq (⟨"CheckDaemon$Circles", "followOn", "()V"⟩, 6) := ⟨⟨by decide +kernel, by decide +kernel⟩, List.mem_of_getElem? (i := 63) (by decide +kernel), List.mem_of_getElem? (i := 692) (by decide +kernel), List.mem_of_getElem? (i := 693) (by decide +kernel)⟩
def lw_privs_2 : List (MethodName × Nat) := [(⟨"CheckDaemon$Workspace", "touch", "(I)V"⟩, 9), (⟨"CheckDaemon$Workspace", "enter", "(LCheckDaemon$Line;)V"⟩, 9), (⟨"CheckDaemon$Workspace", "lookOn", "()I"⟩, 9), (⟨"CheckDaemon$Workspace", "restartTypes", "()V"⟩, 9), (⟨"CheckDaemon$Workspace", "workOutWaiting", "()Z"⟩, 9), (⟨"CheckDaemon$Expression", "valueOf", "(ILCheckDaemon$Symbols;)I"⟩, 7), (⟨"CheckDaemon$Expression", "valueAt", "(I)I"⟩, 7), (⟨"CheckDaemon$Workspace", "wakeReaders", "(I)V"⟩, 9), (⟨"CheckDaemon$Workspace", "findFaults", "()V"⟩, 9), (⟨"CheckDaemon$Expression", "faultOf", "(ILCheckDaemon$Symbols;)I"⟩, 7), (⟨"CheckDaemon$Line", "isMismatch", "()Z"⟩, 8), (⟨"CheckDaemon$Workspace", "readersOf", "(I)I"⟩, 9), (⟨"CheckDaemon$Workspace", "freshCircles", "()LCheckDaemon$Circles;"⟩, 9), (⟨"CheckDaemon$Circles", "listDefined", "(LCheckDaemon$Symbols;)V"⟩, 6), (⟨"CheckDaemon$Circles", "gatherReads", "([LCheckDaemon$Line;)V"⟩, 6), (⟨"CheckDaemon$Circles", "followOn", "()V"⟩, 6)]
theorem lw_r2 : ∀ q ∈ lw_privs_2, lw_okq q := List.forall_mem_cons.mpr ⟨lw_p16, List.forall_mem_cons.mpr ⟨lw_p17, List.forall_mem_cons.mpr ⟨lw_p18, List.forall_mem_cons.mpr ⟨lw_p19, List.forall_mem_cons.mpr ⟨lw_p20, List.forall_mem_cons.mpr ⟨lw_p21, List.forall_mem_cons.mpr ⟨lw_p22, List.forall_mem_cons.mpr ⟨lw_p23, List.forall_mem_cons.mpr ⟨lw_p24, List.forall_mem_cons.mpr ⟨lw_p25, List.forall_mem_cons.mpr ⟨lw_p26, List.forall_mem_cons.mpr ⟨lw_p27, List.forall_mem_cons.mpr ⟨lw_p28, List.forall_mem_cons.mpr ⟨lw_p29, List.forall_mem_cons.mpr ⟨lw_p30, List.forall_mem_cons.mpr ⟨lw_p31, fun _ h => absurd h List.not_mem_nil⟩⟩⟩⟩⟩⟩⟩⟩⟩⟩⟩⟩⟩⟩⟩⟩
theorem lw_p32 : lw_okq (⟨"CheckDaemon$Circles", "group", "()V"⟩, 6) := ⟨⟨by decide +kernel, by decide +kernel⟩, List.mem_of_getElem? (i := 63) (by decide +kernel), List.mem_of_getElem? (i := 697) (by decide +kernel), List.mem_of_getElem? (i := 698) (by decide +kernel)⟩
theorem lw_p33 : lw_okq (⟨"CheckDaemon$Circles", "findLeast", "(II)I"⟩, 6) := ⟨⟨by decide +kernel, by decide +kernel⟩, List.mem_of_getElem? (i := 63) (by decide +kernel), List.mem_of_getElem? (i := 701) (by decide +kernel), List.mem_of_getElem? (i := 702) (by decide +kernel)⟩
theorem lw_p34 : lw_okq (⟨"CheckDaemon$Workspace", "faultCount", "()I"⟩, 9) := ⟨⟨by decide +kernel, by decide +kernel⟩, List.mem_of_getElem? (i := 29) (by decide +kernel), List.mem_of_getElem? (i := 775) (by decide +kernel), List.mem_of_getElem? (i := 776) (by decide +kernel)⟩
theorem lw_p35 : lw_okq (⟨"CheckDaemon$Workspace", "lineCount", "()I"⟩, 9) := ⟨⟨by decide +kernel, by decide +kernel⟩, List.mem_of_getElem? (i := 29) (by decide +kernel), List.mem_of_getElem? (i := 791) (by decide +kernel), List.mem_of_getElem? (i := 792) (by decide +kernel)⟩
theorem lw_p36 : lw_okq (⟨"CheckDaemonModel", "feed", "(II)I"⟩, 34) := ⟨⟨by decide +kernel, by decide +kernel⟩, List.mem_of_getElem? (i := 795) (by decide +kernel), List.mem_of_getElem? (i := 914) (by decide +kernel), List.mem_of_getElem? (i := 915) (by decide +kernel)⟩
theorem lw_p37 : lw_okq (⟨"CheckDaemonModel", "refused", "(I)Z"⟩, 34) := ⟨⟨by decide +kernel, by decide +kernel⟩, List.mem_of_getElem? (i := 795) (by decide +kernel), List.mem_of_getElem? (i := 918) (by decide +kernel), List.mem_of_getElem? (i := 919) (by decide +kernel)⟩
theorem lw_p38 : lw_okq (⟨"CheckDaemonModel", "remember", "(I)V"⟩, 34) := ⟨⟨by decide +kernel, by decide +kernel⟩, List.mem_of_getElem? (i := 795) (by decide +kernel), List.mem_of_getElem? (i := 933) (by decide +kernel), List.mem_of_getElem? (i := 934) (by decide +kernel)⟩
theorem lw_p39 : lw_okq (⟨"CheckDaemonModel", "isBlank", "()Z"⟩, 34) := ⟨⟨by decide +kernel, by decide +kernel⟩, List.mem_of_getElem? (i := 795) (by decide +kernel), List.mem_of_getElem? (i := 937) (by decide +kernel), List.mem_of_getElem? (i := 938) (by decide +kernel)⟩
theorem lw_p40 : lw_okq (⟨"CheckDaemonModel", "edit", "(IZ)I"⟩, 34) := ⟨⟨by decide +kernel, by decide +kernel⟩, List.mem_of_getElem? (i := 795) (by decide +kernel), List.mem_of_getElem? (i := 941) (by decide +kernel), List.mem_of_getElem? (i := 942) (by decide +kernel)⟩
theorem lw_p41 : lw_okq (⟨"CheckDaemonModel", "read", "(I)V"⟩, 34) := ⟨⟨by decide +kernel, by decide +kernel⟩, List.mem_of_getElem? (i := 795) (by decide +kernel), List.mem_of_getElem? (i := 945) (by decide +kernel), List.mem_of_getElem? (i := 946) (by decide +kernel)⟩
theorem lw_p42 : lw_okq (⟨"CheckDaemonModel", "look", "()C"⟩, 34) := ⟨⟨by decide +kernel, by decide +kernel⟩, List.mem_of_getElem? (i := 795) (by decide +kernel), List.mem_of_getElem? (i := 949) (by decide +kernel), List.mem_of_getElem? (i := 950) (by decide +kernel)⟩
theorem lw_p43 : lw_okq (⟨"CheckDaemonModel", "charAt", "(I)C"⟩, 34) := ⟨⟨by decide +kernel, by decide +kernel⟩, List.mem_of_getElem? (i := 795) (by decide +kernel), List.mem_of_getElem? (i := 953) (by decide +kernel), List.mem_of_getElem? (i := 954) (by decide +kernel)⟩
theorem lw_p44 : lw_okq (⟨"CheckDaemonModel", "readWord", "()Z"⟩, 34) := ⟨⟨by decide +kernel, by decide +kernel⟩, List.mem_of_getElem? (i := 795) (by decide +kernel), List.mem_of_getElem? (i := 960) (by decide +kernel), List.mem_of_getElem? (i := 961) (by decide +kernel)⟩
theorem lw_p45 : lw_okq (⟨"CheckDaemonModel", "wrong", "()Z"⟩, 34) := ⟨⟨by decide +kernel, by decide +kernel⟩, List.mem_of_getElem? (i := 795) (by decide +kernel), List.mem_of_getElem? (i := 967) (by decide +kernel), List.mem_of_getElem? (i := 968) (by decide +kernel)⟩
theorem lw_p46 : lw_okq (⟨"CheckDaemonModel", "readExpression", "()Z"⟩, 34) := ⟨⟨by decide +kernel, by decide +kernel⟩, List.mem_of_getElem? (i := 795) (by decide +kernel), List.mem_of_getElem? (i := 971) (by decide +kernel), List.mem_of_getElem? (i := 972) (by decide +kernel)⟩
theorem lw_p47 : lw_okq (⟨"CheckDaemonModel", "readAtom", "()I"⟩, 34) := ⟨⟨by decide +kernel, by decide +kernel⟩, List.mem_of_getElem? (i := 795) (by decide +kernel), List.mem_of_getElem? (i := 975) (by decide +kernel), List.mem_of_getElem? (i := 976) (by decide +kernel)⟩
def lw_privs_3 : List (MethodName × Nat) := [(⟨"CheckDaemon$Circles", "group", "()V"⟩, 6), (⟨"CheckDaemon$Circles", "findLeast", "(II)I"⟩, 6), (⟨"CheckDaemon$Workspace", "faultCount", "()I"⟩, 9), (⟨"CheckDaemon$Workspace", "lineCount", "()I"⟩, 9), (⟨"CheckDaemonModel", "feed", "(II)I"⟩, 34), (⟨"CheckDaemonModel", "refused", "(I)Z"⟩, 34), (⟨"CheckDaemonModel", "remember", "(I)V"⟩, 34), (⟨"CheckDaemonModel", "isBlank", "()Z"⟩, 34), (⟨"CheckDaemonModel", "edit", "(IZ)I"⟩, 34), (⟨"CheckDaemonModel", "read", "(I)V"⟩, 34), (⟨"CheckDaemonModel", "look", "()C"⟩, 34), (⟨"CheckDaemonModel", "charAt", "(I)C"⟩, 34), (⟨"CheckDaemonModel", "readWord", "()Z"⟩, 34), (⟨"CheckDaemonModel", "wrong", "()Z"⟩, 34), (⟨"CheckDaemonModel", "readExpression", "()Z"⟩, 34), (⟨"CheckDaemonModel", "readAtom", "()I"⟩, 34)]
theorem lw_r3 : ∀ q ∈ lw_privs_3, lw_okq q := List.forall_mem_cons.mpr ⟨lw_p32, List.forall_mem_cons.mpr ⟨lw_p33, List.forall_mem_cons.mpr ⟨lw_p34, List.forall_mem_cons.mpr ⟨lw_p35, List.forall_mem_cons.mpr ⟨lw_p36, List.forall_mem_cons.mpr ⟨lw_p37, List.forall_mem_cons.mpr ⟨lw_p38, List.forall_mem_cons.mpr ⟨lw_p39, List.forall_mem_cons.mpr ⟨lw_p40, List.forall_mem_cons.mpr ⟨lw_p41, List.forall_mem_cons.mpr ⟨lw_p42, List.forall_mem_cons.mpr ⟨lw_p43, List.forall_mem_cons.mpr ⟨lw_p44, List.forall_mem_cons.mpr ⟨lw_p45, List.forall_mem_cons.mpr ⟨lw_p46, List.forall_mem_cons.mpr ⟨lw_p47, fun _ h => absurd h List.not_mem_nil⟩⟩⟩⟩⟩⟩⟩⟩⟩⟩⟩⟩⟩⟩⟩⟩
theorem lw_p48 : lw_okq (⟨"CheckDaemonModel", "step", "(III)V"⟩, 34) := ⟨⟨by decide +kernel, by decide +kernel⟩, List.mem_of_getElem? (i := 795) (by decide +kernel), List.mem_of_getElem? (i := 979) (by decide +kernel), List.mem_of_getElem? (i := 980) (by decide +kernel)⟩
theorem lw_p49 : lw_okq (⟨"CheckDaemonModel", "brackets", "()I"⟩, 34) := ⟨⟨by decide +kernel, by decide +kernel⟩, List.mem_of_getElem? (i := 795) (by decide +kernel), List.mem_of_getElem? (i := 983) (by decide +kernel), List.mem_of_getElem? (i := 984) (by decide +kernel)⟩
theorem lw_p50 : lw_okq (⟨"CheckDaemonModel", "readBehind", "()Z"⟩, 34) := ⟨⟨by decide +kernel, by decide +kernel⟩, List.mem_of_getElem? (i := 795) (by decide +kernel), List.mem_of_getElem? (i := 987) (by decide +kernel), List.mem_of_getElem? (i := 988) (by decide +kernel)⟩
theorem lw_p51 : lw_okq (⟨"CheckDaemonModel", "join", "(Z)V"⟩, 34) := ⟨⟨by decide +kernel, by decide +kernel⟩, List.mem_of_getElem? (i := 795) (by decide +kernel), List.mem_of_getElem? (i := 991) (by decide +kernel), List.mem_of_getElem? (i := 992) (by decide +kernel)⟩
theorem lw_p52 : lw_okq (⟨"CheckDaemonModel", "grow", "()V"⟩, 34) := ⟨⟨by decide +kernel, by decide +kernel⟩, List.mem_of_getElem? (i := 795) (by decide +kernel), List.mem_of_getElem? (i := 995) (by decide +kernel), List.mem_of_getElem? (i := 996) (by decide +kernel)⟩
theorem lw_p53 : lw_okq (⟨"CheckDaemonModel", "isRead", "(I)Z"⟩, 34) := ⟨⟨by decide +kernel, by decide +kernel⟩, List.mem_of_getElem? (i := 795) (by decide +kernel), List.mem_of_getElem? (i := 999) (by decide +kernel), List.mem_of_getElem? (i := 1000) (by decide +kernel)⟩
theorem lw_p54 : lw_okq (⟨"CheckDaemonModel", "value", "(IZ)I"⟩, 34) := ⟨⟨by decide +kernel, by decide +kernel⟩, List.mem_of_getElem? (i := 795) (by decide +kernel), List.mem_of_getElem? (i := 1003) (by decide +kernel), List.mem_of_getElem? (i := 1004) (by decide +kernel)⟩
theorem lw_p55 : lw_okq (⟨"CheckDaemonModel", "note", "(III)V"⟩, 34) := ⟨⟨by decide +kernel, by decide +kernel⟩, List.mem_of_getElem? (i := 795) (by decide +kernel), List.mem_of_getElem? (i := 1007) (by decide +kernel), List.mem_of_getElem? (i := 1008) (by decide +kernel)⟩
theorem lw_p56 : lw_okq (⟨"CheckDaemonModel", "judgeAll", "()V"⟩, 34) := ⟨⟨by decide +kernel, by decide +kernel⟩, List.mem_of_getElem? (i := 795) (by decide +kernel), List.mem_of_getElem? (i := 1031) (by decide +kernel), List.mem_of_getElem? (i := 1032) (by decide +kernel)⟩
theorem lw_p57 : lw_okq (⟨"CheckDaemonModel", "judge", "(I)V"⟩, 34) := ⟨⟨by decide +kernel, by decide +kernel⟩, List.mem_of_getElem? (i := 795) (by decide +kernel), List.mem_of_getElem? (i := 1035) (by decide +kernel), List.mem_of_getElem? (i := 1036) (by decide +kernel)⟩
theorem lw_p58 : lw_okq (⟨"CheckDaemonModel", "readsStale", "(I)Z"⟩, 34) := ⟨⟨by decide +kernel, by decide +kernel⟩, List.mem_of_getElem? (i := 795) (by decide +kernel), List.mem_of_getElem? (i := 1039) (by decide +kernel), List.mem_of_getElem? (i := 1040) (by decide +kernel)⟩
theorem lw_p59 : lw_okq (⟨"CheckDaemonModel", "know", "()V"⟩, 34) := ⟨⟨by decide +kernel, by decide +kernel⟩, List.mem_of_getElem? (i := 795) (by decide +kernel), List.mem_of_getElem? (i := 1055) (by decide +kernel), List.mem_of_getElem? (i := 1056) (by decide +kernel)⟩
theorem lw_p60 : lw_okq (⟨"CheckDaemonModel", "leastOf", "(I)I"⟩, 34) := ⟨⟨by decide +kernel, by decide +kernel⟩, List.mem_of_getElem? (i := 795) (by decide +kernel), List.mem_of_getElem? (i := 1059) (by decide +kernel), List.mem_of_getElem? (i := 1060) (by decide +kernel)⟩
theorem lw_p61 : lw_okq (⟨"CheckDaemonModel", "areOne", "(II)Z"⟩, 34) := ⟨⟨by decide +kernel, by decide +kernel⟩, List.mem_of_getElem? (i := 795) (by decide +kernel), List.mem_of_getElem? (i := 1063) (by decide +kernel), List.mem_of_getElem? (i := 1064) (by decide +kernel)⟩
theorem lw_p62 : lw_okq (⟨"CheckDaemonModel", "reads", "(II)Z"⟩, 34) := ⟨⟨by decide +kernel, by decide +kernel⟩, List.mem_of_getElem? (i := 795) (by decide +kernel), List.mem_of_getElem? (i := 1067) (by decide +kernel), List.mem_of_getElem? (i := 1068) (by decide +kernel)⟩
theorem lw_p63 : lw_okq (⟨"CheckDaemonModel", "readCount", "(I)I"⟩, 34) := ⟨⟨by decide +kernel, by decide +kernel⟩, List.mem_of_getElem? (i := 795) (by decide +kernel), List.mem_of_getElem? (i := 1075) (by decide +kernel), List.mem_of_getElem? (i := 1076) (by decide +kernel)⟩
def lw_privs_4 : List (MethodName × Nat) := [(⟨"CheckDaemonModel", "step", "(III)V"⟩, 34), (⟨"CheckDaemonModel", "brackets", "()I"⟩, 34), (⟨"CheckDaemonModel", "readBehind", "()Z"⟩, 34), (⟨"CheckDaemonModel", "join", "(Z)V"⟩, 34), (⟨"CheckDaemonModel", "grow", "()V"⟩, 34), (⟨"CheckDaemonModel", "isRead", "(I)Z"⟩, 34), (⟨"CheckDaemonModel", "value", "(IZ)I"⟩, 34), (⟨"CheckDaemonModel", "note", "(III)V"⟩, 34), (⟨"CheckDaemonModel", "judgeAll", "()V"⟩, 34), (⟨"CheckDaemonModel", "judge", "(I)V"⟩, 34), (⟨"CheckDaemonModel", "readsStale", "(I)Z"⟩, 34), (⟨"CheckDaemonModel", "know", "()V"⟩, 34), (⟨"CheckDaemonModel", "leastOf", "(I)I"⟩, 34), (⟨"CheckDaemonModel", "areOne", "(II)Z"⟩, 34), (⟨"CheckDaemonModel", "reads", "(II)Z"⟩, 34), (⟨"CheckDaemonModel", "readCount", "(I)I"⟩, 34)]
theorem lw_r4 : ∀ q ∈ lw_privs_4, lw_okq q := List.forall_mem_cons.mpr ⟨lw_p48, List.forall_mem_cons.mpr ⟨lw_p49, List.forall_mem_cons.mpr ⟨lw_p50, List.forall_mem_cons.mpr ⟨lw_p51, List.forall_mem_cons.mpr ⟨lw_p52, List.forall_mem_cons.mpr ⟨lw_p53, List.forall_mem_cons.mpr ⟨lw_p54, List.forall_mem_cons.mpr ⟨lw_p55, List.forall_mem_cons.mpr ⟨lw_p56, List.forall_mem_cons.mpr ⟨lw_p57, List.forall_mem_cons.mpr ⟨lw_p58, List.forall_mem_cons.mpr ⟨lw_p59, List.forall_mem_cons.mpr ⟨lw_p60, List.forall_mem_cons.mpr ⟨lw_p61, List.forall_mem_cons.mpr ⟨lw_p62, List.forall_mem_cons.mpr ⟨lw_p63, fun _ h => absurd h List.not_mem_nil⟩⟩⟩⟩⟩⟩⟩⟩⟩⟩⟩⟩⟩⟩⟩⟩
theorem lw_p64 : lw_okq (⟨"CheckDaemonModel", "sizeOf", "(I)I"⟩, 34) := ⟨⟨by decide +kernel, by decide +kernel⟩, List.mem_of_getElem? (i := 795) (by decide +kernel), List.mem_of_getElem? (i := 1087) (by decide +kernel), List.mem_of_getElem? (i := 1088) (by decide +kernel)⟩
def lw_privs_5 : List (MethodName × Nat) := [(⟨"CheckDaemonModel", "sizeOf", "(I)I"⟩, 34)]
theorem lw_r5 : ∀ q ∈ lw_privs_5, lw_okq q := List.forall_mem_cons.mpr ⟨lw_p64, fun _ h => absurd h List.not_mem_nil⟩
def lw_privs : List (MethodName × Nat) := lw_privs_1 ++ (lw_privs_2 ++ (lw_privs_3 ++ (lw_privs_4 ++ (lw_privs_5))))
def lw_tbl : List Cond := k2_sels lw_privs ++ tables_1
theorem lw_privs_ok : ∀ q ∈ lw_privs, lw_okq q := by
  show ∀ q ∈ lw_privs_1 ++ (lw_privs_2 ++ (lw_privs_3 ++ (lw_privs_4 ++ (lw_privs_5)))), lw_okq q
  exact List.forall_mem_append.mpr ⟨lw_r1, List.forall_mem_append.mpr ⟨lw_r2, List.forall_mem_append.mpr ⟨lw_r3, List.forall_mem_append.mpr ⟨lw_r4, lw_r5⟩⟩⟩⟩
end
section
/-! ===== tables of the pure machine: made by a program out of the words of tables_1 ===== -/
def px_R0 : String := "CheckDaemon$Circles"
def px_T0 : u_T := fun k => match k with
  | 0 => ("CheckDaemon$Circles", "hangs", "[LCheckDaemon$SymbolSet;", true)
  | 1 => ("CheckDaemon$Circles", "least", "[I", true)
  | 2 => ("CheckDaemon$Circles", "defined", "[I", true)
  | 3 => ("CheckDaemon$Circles", "definedSize", "I", false)
  | 4 => ("CheckDaemon$Circles", "circleCount", "I", false)
  | _ => ("CheckDaemon$Circles", "selfCount", "I", false)
def px_Y0 : Nat → FieldType := fun k => match k with
  | 0 => .array (.object "CheckDaemon$SymbolSet")
  | 1 => .array (.int)
  | 2 => .array (.int)
  | 3 => .int
  | 4 => .int
  | _ => .int
def px_R1 : String := "CheckDaemon$Expression"
def px_T1 : u_T := fun k => match k with
  | 0 => ("CheckDaemon$Expression", "kinds", "[I", true)
  | 1 => ("CheckDaemon$Expression", "firsts", "[I", true)
  | 2 => ("CheckDaemon$Expression", "seconds", "[I", true)
  | 3 => ("CheckDaemon$Expression", "places", "[I", true)
  | 4 => ("CheckDaemon$Expression", "values", "[I", true)
  | 5 => ("CheckDaemon$Expression", "size", "I", false)
  | _ => ("CheckDaemon$Expression", "reads", "LCheckDaemon$SymbolSet;", true)
def px_Y1 : Nat → FieldType := fun k => match k with
  | 0 => .array (.int)
  | 1 => .array (.int)
  | 2 => .array (.int)
  | 3 => .array (.int)
  | 4 => .array (.int)
  | 5 => .int
  | _ => .object "CheckDaemon$SymbolSet"
def px_R2 : String := "CheckDaemon$Faults"
def px_T2 : u_T := fun k => match k with
  | 0 => ("CheckDaemon$Faults", "codes", "[I", true)
  | _ => ("CheckDaemon$Faults", "size", "I", false)
def px_Y2 : Nat → FieldType := fun k => match k with
  | 0 => .array (.int)
  | _ => .int
def px_R3 : String := "CheckDaemon$History"
def px_T3 : u_T := fun k => match k with
  | 0 => ("CheckDaemon$History", "places", "[I", true)
  | 1 => ("CheckDaemon$History", "lines", "[LCheckDaemon$Line;", true)
  | _ => ("CheckDaemon$History", "size", "I", false)
def px_Y3 : Nat → FieldType := fun k => match k with
  | 0 => .array (.int)
  | 1 => .array (.object "CheckDaemon$Line")
  | _ => .int
def px_R4 : String := "CheckDaemon$Line"
def px_T4 : u_T := fun k => match k with
  | 0 => ("CheckDaemon$Line", "length", "I", true)
  | 1 => ("CheckDaemon$Line", "defines", "I", true)
  | 2 => ("CheckDaemon$Line", "declares", "I", true)
  | 3 => ("CheckDaemon$Line", "equalsAt", "I", true)
  | 4 => ("CheckDaemon$Line", "wrongAt", "I", true)
  | 5 => ("CheckDaemon$Line", "expression", "LCheckDaemon$Expression;", true)
  | 6 => ("CheckDaemon$Line", "faults", "LCheckDaemon$Faults;", true)
  | _ => ("CheckDaemon$Line", "expressionType", "I", false)
def px_Y4 : Nat → FieldType := fun k => match k with
  | 0 => .int
  | 1 => .int
  | 2 => .int
  | 3 => .int
  | 4 => .int
  | 5 => .object "CheckDaemon$Expression"
  | 6 => .object "CheckDaemon$Faults"
  | _ => .int
def px_R5 : String := "CheckDaemon$Parser"
def px_T5 : u_T := fun k => match k with
  | 0 => ("CheckDaemon$Parser", "text", "[I", true)
  | 1 => ("CheckDaemon$Parser", "length", "I", true)
  | 2 => ("CheckDaemon$Parser", "module", "I", true)
  | 3 => ("CheckDaemon$Parser", "made", "LCheckDaemon$Expression;", true)
  | 4 => ("CheckDaemon$Parser", "at", "I", false)
  | 5 => ("CheckDaemon$Parser", "defines", "I", false)
  | 6 => ("CheckDaemon$Parser", "declares", "I", false)
  | _ => ("CheckDaemon$Parser", "equalsAt", "I", false)
def px_Y5 : Nat → FieldType := fun k => match k with
  | 0 => .array (.int)
  | 1 => .int
  | 2 => .int
  | 3 => .object "CheckDaemon$Expression"
  | 4 => .int
  | 5 => .int
  | 6 => .int
  | _ => .int
def px_R6 : String := "CheckDaemon$SymbolSet"
def px_T6 : u_T := fun k => match k with
  | _ => ("CheckDaemon$SymbolSet", "words", "[J", true)
def px_Y6 : Nat → FieldType := fun k => match k with
  | _ => .array (.long)
def px_R7 : String := "CheckDaemon$Symbols"
def px_T7 : u_T := fun k => match k with
  | 0 => ("CheckDaemon$Symbols", "types", "[I", true)
  | _ => ("CheckDaemon$Symbols", "definers", "[I", true)
def px_Y7 : Nat → FieldType := fun k => match k with
  | 0 => .array (.int)
  | _ => .array (.int)
def px_R8 : String := "CheckDaemon$Workspace"
def px_T8 : u_T := fun k => match k with
  | 0 => ("CheckDaemon$Workspace", "lines", "[LCheckDaemon$Line;", true)
  | 1 => ("CheckDaemon$Workspace", "symbols", "LCheckDaemon$Symbols;", true)
  | 2 => ("CheckDaemon$Workspace", "looked", "[Z", true)
  | 3 => ("CheckDaemon$Workspace", "waiting", "[Z", true)
  | 4 => ("CheckDaemon$Workspace", "touched", "LCheckDaemon$SymbolSet;", true)
  | 5 => ("CheckDaemon$Workspace", "touchedInOrder", "[I", true)
  | 6 => ("CheckDaemon$Workspace", "touchedSize", "I", false)
  | 7 => ("CheckDaemon$Workspace", "circles", "LCheckDaemon$Circles;", true)
  | _ => ("CheckDaemon$Workspace", "circlesAreOld", "Z", false)
def px_Y8 : Nat → FieldType := fun k => match k with
  | 0 => .array (.object "CheckDaemon$Line")
  | 1 => .object "CheckDaemon$Symbols"
  | 2 => .array (.boolean)
  | 3 => .array (.boolean)
  | 4 => .object "CheckDaemon$SymbolSet"
  | 5 => .array (.int)
  | 6 => .int
  | 7 => .object "CheckDaemon$Circles"
  | _ => .boolean
def px_R9 : String := "CheckDaemon"
def px_T9 : u_T := fun k => match k with
  | 0 => ("CheckDaemon", "typed", "[I", true)
  | 1 => ("CheckDaemon", "typedLength", "I", false)
  | 2 => ("CheckDaemon", "workspace", "LCheckDaemon$Workspace;", true)
  | _ => ("CheckDaemon", "history", "LCheckDaemon$History;", true)
def px_Y9 : Nat → FieldType := fun k => match k with
  | 0 => .array (.int)
  | 1 => .int
  | 2 => .object "CheckDaemon$Workspace"
  | _ => .object "CheckDaemon$History"
def px_R10 : String := "CheckDaemonModel"
def px_T10 : u_T := fun k => match k with
  | 0 => ("CheckDaemonModel", "fault", "I", false)
  | 1 => ("CheckDaemonModel", "typed", "[C", true)
  | 2 => ("CheckDaemonModel", "typedSize", "I", false)
  | 3 => ("CheckDaemonModel", "sizes", "[I", true)
  | 4 => ("CheckDaemonModel", "texts", "[C", true)
  | 5 => ("CheckDaemonModel", "wrongAt", "[I", true)
  | 6 => ("CheckDaemonModel", "defines", "[I", true)
  | 7 => ("CheckDaemonModel", "words", "[I", true)
  | 8 => ("CheckDaemonModel", "equalAt", "[I", true)
  | 9 => ("CheckDaemonModel", "stepCount", "[I", true)
  | 10 => ("CheckDaemonModel", "stepKind", "[I", true)
  | 11 => ("CheckDaemonModel", "stepWith", "[I", true)
  | 12 => ("CheckDaemonModel", "stepAt", "[I", true)
  | 13 => ("CheckDaemonModel", "typeOf", "[I", true)
  | 14 => ("CheckDaemonModel", "types", "[I", true)
  | 15 => ("CheckDaemonModel", "isDefined", "[Z", true)
  | 16 => ("CheckDaemonModel", "found", "I", false)
  | 17 => ("CheckDaemonModel", "foundLine", "[I", true)
  | 18 => ("CheckDaemonModel", "foundAt", "[I", true)
  | 19 => ("CheckDaemonModel", "foundCode", "[I", true)
  | 20 => ("CheckDaemonModel", "undos", "I", false)
  | 21 => ("CheckDaemonModel", "undoLine", "[I", true)
  | 22 => ("CheckDaemonModel", "undoSize", "[I", true)
  | 23 => ("CheckDaemonModel", "undoText", "[C", true)
  | 24 => ("CheckDaemonModel", "isKnown", "Z", false)
  | 25 => ("CheckDaemonModel", "hangs", "[Z", true)
  | 26 => ("CheckDaemonModel", "isLooked", "[Z", true)
  | 27 => ("CheckDaemonModel", "isStale", "[Z", true)
  | 28 => ("CheckDaemonModel", "at", "I", false)
  | 29 => ("CheckDaemonModel", "line", "I", false)
  | 30 => ("CheckDaemonModel", "depth", "I", false)
  | 31 => ("CheckDaemonModel", "open", "[I", true)
  | 32 => ("CheckDaemonModel", "pile", "[I", true)
  | _ => ("CheckDaemonModel", "top", "I", false)
def px_Y10 : Nat → FieldType := fun k => match k with
  | 0 => .int
  | 1 => .array (.char)
  | 2 => .int
  | 3 => .array (.int)
  | 4 => .array (.char)
  | 5 => .array (.int)
  | 6 => .array (.int)
  | 7 => .array (.int)
  | 8 => .array (.int)
  | 9 => .array (.int)
  | 10 => .array (.int)
  | 11 => .array (.int)
  | 12 => .array (.int)
  | 13 => .array (.int)
  | 14 => .array (.int)
  | 15 => .array (.boolean)
  | 16 => .int
  | 17 => .array (.int)
  | 18 => .array (.int)
  | 19 => .array (.int)
  | 20 => .int
  | 21 => .array (.int)
  | 22 => .array (.int)
  | 23 => .array (.char)
  | 24 => .boolean
  | 25 => .array (.boolean)
  | 26 => .array (.boolean)
  | 27 => .array (.boolean)
  | 28 => .int
  | 29 => .int
  | 30 => .int
  | 31 => .array (.int)
  | 32 => .array (.int)
  | _ => .int
def px_cl : List vw_C := [(px_R0, px_T0, 6), (px_R1, px_T1, 7), (px_R2, px_T2, 2), (px_R3, px_T3, 3), (px_R4, px_T4, 8), (px_R5, px_T5, 8), (px_R6, px_T6, 1), (px_R7, px_T7, 2), (px_R8, px_T8, 9), (px_R9, px_T9, 4), (px_R10, px_T10, 34)]
def px_defs : List (List Value) := [[.null, .null, .null, .int 0, .int 0, .int 0], [.null, .null, .null, .null, .null, .int 0, .null], [.null, .int 0], [.null, .null, .int 0], [.int 0, .int 0, .int 0, .int 0, .int 0, .null, .null, .int 0], [.null, .int 0, .int 0, .null, .int 0, .int 0, .int 0, .int 0], [.null], [.null, .null], [.null, .null, .null, .null, .null, .null, .int 0, .null, .int 0], [.null, .int 0, .null, .null], [.int 0, .null, .int 0, .null, .null, .null, .null, .null, .null, .null, .null, .null, .null, .null, .null, .null, .int 0, .null, .null, .null, .int 0, .null, .null, .null, .int 0, .null, .null, .null, .int 0, .int 0, .int 0, .null, .null, .int 0]]
def px_def (ci : Nat) : List Value := px_defs.getD ci []
def px_nf (ci : Nat) : Nat := (px_def ci).length
def px_fts : List (Nat → FieldType) := [px_Y0, px_Y1, px_Y2, px_Y3, px_Y4, px_Y5, px_Y6, px_Y7, px_Y8, px_Y9, px_Y10]
def px_ft (ci k : Nat) : FieldType := (px_fts.getD ci (fun _ => .int)) k
/-- array types: int, long, boolean, char, and rows of objects -/
def px_nty : Nat := 6
def px_ty (t : Nat) : FieldType := match t with
  | 0 => .int
  | 1 => .long
  | 2 => .boolean
  | 3 => .char
  | 4 => .object "CheckDaemon$Line"
  | _ => .object "CheckDaemon$SymbolSet"
def px_tr (t : Nat) : Bool := Nat.ble 4 t && Nat.blt t px_nty
def px_tcl : List Nat := [0, 0, 0, 0, 4, 6]
def px_tc (t ci : Nat) : Bool := px_tr t && Nat.beq (px_tcl.getD t 0) ci
def px_find {α : Type} : List (Nat × α) → Nat → Option α
  | [], _ => none
  | q :: r, i => bif Nat.beq q.1 i then some q.2 else px_find r i
theorem px_find_mem {α : Type} : ∀ {l : List (Nat × α)} {i : Nat} {v : α}, px_find l i = some v → (i, v) ∈ l
  | [], _, _, h => by cases h
  | q :: r, i, v, h => by
    unfold px_find at h
    cases hc : Nat.beq q.1 i with
    | true =>
      rw [hc] at h
      simp only [cond_true] at h
      cases h
      cases Nat.eq_of_beq_eq_true hc
      exact List.mem_cons_self
    | false =>
      rw [hc] at h
      exact List.mem_cons_of_mem _ (px_find_mem h)
def px_ons : List String := ["CheckDaemon$Circles", "CheckDaemon$Expression", "CheckDaemon$Faults", "CheckDaemon$History", "CheckDaemon$Line", "CheckDaemon$Parser", "CheckDaemon$SymbolSet", "CheckDaemon$Symbols", "CheckDaemon$Workspace", "CheckDaemon", "CheckDaemonModel", "CheckDaemon$Forms", "java/lang/Long", "java/lang/Math"]
def px_on (cn : Nat) : String := px_ons.getD cn "CheckDaemon"
/-- methods: owner, name, code, locals, answer -/
abbrev px_m_Circles_init : Nat := 0
abbrev px_m_Circles_find : Nat := 1
abbrev px_m_Circles_listDefined : Nat := 2
abbrev px_m_Circles_gatherReads : Nat := 3
abbrev px_m_Circles_followOn : Nat := 4
abbrev px_m_Circles_group : Nat := 5
abbrev px_m_Circles_findLeast : Nat := 6
abbrev px_m_Circles_leastOf : Nat := 7
abbrev px_m_Circles_circleCount : Nat := 8
abbrev px_m_Circles_selfCount : Nat := 9
abbrev px_m_Expression_init : Nat := 10
abbrev px_m_Expression_add : Nat := 11
abbrev px_m_Expression_workOut : Nat := 12
abbrev px_m_Expression_valueOf : Nat := 13
abbrev px_m_Expression_valueAt : Nat := 14
abbrev px_m_Expression_findFaults : Nat := 15
abbrev px_m_Expression_faultOf : Nat := 16
abbrev px_m_Faults_init : Nat := 17
abbrev px_m_Faults_clear : Nat := 18
abbrev px_m_Faults_add : Nat := 19
abbrev px_m_Faults_size : Nat := 20
abbrev px_m_Faults_placeOf : Nat := 21
abbrev px_m_Faults_codeOf : Nat := 22
abbrev px_m_History_init : Nat := 23
abbrev px_m_History_keep : Nat := 24
abbrev px_m_History_loseOldest : Nat := 25
abbrev px_m_History_forget : Nat := 26
abbrev px_m_History_size : Nat := 27
abbrev px_m_History_lastPlace : Nat := 28
abbrev px_m_History_lastLine : Nat := 29
abbrev px_m_History_removeLast : Nat := 30
abbrev px_m_Line_init0 : Nat := 31
abbrev px_m_Line_init1 : Nat := 32
abbrev px_m_Line_defined : Nat := 33
abbrev px_m_Line_reads : Nat := 34
abbrev px_m_Line_says : Nat := 35
abbrev px_m_Line_workOut : Nat := 36
abbrev px_m_Line_findFaults : Nat := 37
abbrev px_m_Line_isMismatch : Nat := 38
abbrev px_m_Line_symbolsRead : Nat := 39
abbrev px_m_Line_tellAbout : Nat := 40
abbrev px_m_Line_faults : Nat := 41
abbrev px_m_Parser_init : Nat := 42
abbrev px_m_Parser_read : Nat := 43
abbrev px_m_Parser_readHead : Nat := 44
abbrev px_m_Parser_next : Nat := 45
abbrev px_m_Parser_isName : Nat := 46
abbrev px_m_Parser_take : Nat := 47
abbrev px_m_Parser_readTypeWord : Nat := 48
abbrev px_m_Parser_readSum : Nat := 49
abbrev px_m_Parser_readOr : Nat := 50
abbrev px_m_Parser_readPart : Nat := 51
abbrev px_m_Parser_readAtom : Nat := 52
abbrev px_m_Parser_readName : Nat := 53
abbrev px_m_Parser_isEnding : Nat := 54
abbrev px_m_Parser_readEnding : Nat := 55
abbrev px_m_SymbolSet_init : Nat := 56
abbrev px_m_SymbolSet_add : Nat := 57
abbrev px_m_SymbolSet_clear : Nat := 58
abbrev px_m_SymbolSet_has : Nat := 59
abbrev px_m_SymbolSet_addAll : Nat := 60
abbrev px_m_SymbolSet_size : Nat := 61
abbrev px_m_Symbols_init : Nat := 62
abbrev px_m_Symbols_addDefiners : Nat := 63
abbrev px_m_Symbols_isSymbol : Nat := 64
abbrev px_m_Symbols_restart : Nat := 65
abbrev px_m_Symbols_grow : Nat := 66
abbrev px_m_Symbols_typeOf : Nat := 67
abbrev px_m_Symbols_definersOf : Nat := 68
abbrev px_m_Symbols_definedCount : Nat := 69
abbrev px_m_Workspace_init : Nat := 70
abbrev px_m_Workspace_lineAt : Nat := 71
abbrev px_m_Workspace_edit : Nat := 72
abbrev px_m_Workspace_startLooking : Nat := 73
abbrev px_m_Workspace_leave : Nat := 74
abbrev px_m_Workspace_touch : Nat := 75
abbrev px_m_Workspace_enter : Nat := 76
abbrev px_m_Workspace_lookOn : Nat := 77
abbrev px_m_Workspace_restartTypes : Nat := 78
abbrev px_m_Workspace_workOutWaiting : Nat := 79
abbrev px_m_Workspace_wakeReaders : Nat := 80
abbrev px_m_Workspace_findFaults : Nat := 81
abbrev px_m_Workspace_tellSymbol : Nat := 82
abbrev px_m_Workspace_readersOf : Nat := 83
abbrev px_m_Workspace_freshCircles : Nat := 84
abbrev px_m_Workspace_tellFault : Nat := 85
abbrev px_m_Workspace_tellFaultAt : Nat := 86
abbrev px_m_Workspace_howMany : Nat := 87
abbrev px_m_Workspace_faultCount : Nat := 88
abbrev px_m_Workspace_lineCount : Nat := 89
abbrev px_m_Daemon_init : Nat := 90
abbrev px_m_Daemon_erase : Nat := 91
abbrev px_m_Daemon_type : Nat := 92
abbrev px_m_Daemon_charactersIn : Nat := 93
abbrev px_m_Daemon_append : Nat := 94
abbrev px_m_Daemon_put : Nat := 95
abbrev px_m_Daemon_isPlace : Nat := 96
abbrev px_m_Daemon_isBlank : Nat := 97
abbrev px_m_Daemon_drop : Nat := 98
abbrev px_m_Daemon_undo : Nat := 99
abbrev px_m_Daemon_symbol : Nat := 100
abbrev px_m_Daemon_line : Nat := 101
abbrev px_m_Daemon_diagnostic : Nat := 102
abbrev px_m_Daemon_count : Nat := 103
abbrev px_m_Model_init : Nat := 104
abbrev px_m_Model_thrown : Nat := 105
abbrev px_m_Model_type : Nat := 106
abbrev px_m_Model_feed : Nat := 107
abbrev px_m_Model_refused : Nat := 108
abbrev px_m_Model_erase : Nat := 109
abbrev px_m_Model_put : Nat := 110
abbrev px_m_Model_isIn : Nat := 111
abbrev px_m_Model_remember : Nat := 112
abbrev px_m_Model_isBlank : Nat := 113
abbrev px_m_Model_edit : Nat := 114
abbrev px_m_Model_read : Nat := 115
abbrev px_m_Model_look : Nat := 116
abbrev px_m_Model_charAt : Nat := 117
abbrev px_m_Model_isSymbol : Nat := 118
abbrev px_m_Model_readWord : Nat := 119
abbrev px_m_Model_letterOf : Nat := 120
abbrev px_m_Model_wrong : Nat := 121
abbrev px_m_Model_readExpression : Nat := 122
abbrev px_m_Model_readAtom : Nat := 123
abbrev px_m_Model_step : Nat := 124
abbrev px_m_Model_brackets : Nat := 125
abbrev px_m_Model_readBehind : Nat := 126
abbrev px_m_Model_join : Nat := 127
abbrev px_m_Model_grow : Nat := 128
abbrev px_m_Model_isRead : Nat := 129
abbrev px_m_Model_value : Nat := 130
abbrev px_m_Model_note : Nat := 131
abbrev px_m_Model_lacksSum : Nat := 132
abbrev px_m_Model_sumOf : Nat := 133
abbrev px_m_Model_sum : Nat := 134
abbrev px_m_Model_isFirst : Nat := 135
abbrev px_m_Model_changed : Nat := 136
abbrev px_m_Model_wrapped : Nat := 137
abbrev px_m_Model_judgeAll : Nat := 138
abbrev px_m_Model_judge : Nat := 139
abbrev px_m_Model_readsStale : Nat := 140
abbrev px_m_Model_drop : Nat := 141
abbrev px_m_Model_undo : Nat := 142
abbrev px_m_Model_symbol : Nat := 143
abbrev px_m_Model_know : Nat := 144
abbrev px_m_Model_leastOf : Nat := 145
abbrev px_m_Model_areOne : Nat := 146
abbrev px_m_Model_reads : Nat := 147
abbrev px_m_Model_line : Nat := 148
abbrev px_m_Model_readCount : Nat := 149
abbrev px_m_Model_diagnostic : Nat := 150
abbrev px_m_Model_count : Nat := 151
abbrev px_m_Model_sizeOf : Nat := 152
abbrev px_m_Forms_letterOf : Nat := 153
abbrev px_m_Forms_listed : Nat := 154
abbrev px_m_Forms_inLists : Nat := 155
abbrev px_m_Forms_unlisted : Nat := 156
abbrev px_m_Forms_withoutNil : Nat := 157
abbrev px_m_Forms_narrowed : Nat := 158
abbrev px_m_Forms_sum : Nat := 159
abbrev px_m_Forms_makesFloat : Nat := 160
abbrev px_m_Forms_unlistingLoses : Nat := 161
abbrev px_m_Forms_summingLoses : Nat := 162
abbrev px_m_Long_bitCount : Nat := 163
abbrev px_m_Math_min : Nat := 164
abbrev px_m_Math_max : Nat := 165
def px_y_Circles_init : MethodName := ⟨"CheckDaemon$Circles", "<init>", "()V"⟩
def px_y_Circles_find : MethodName := ⟨"CheckDaemon$Circles", "find", "([LCheckDaemon$Line;LCheckDaemon$Symbols;)V"⟩
def px_y_Circles_listDefined : MethodName := ⟨"CheckDaemon$Circles", "listDefined", "(LCheckDaemon$Symbols;)V"⟩
def px_y_Circles_gatherReads : MethodName := ⟨"CheckDaemon$Circles", "gatherReads", "([LCheckDaemon$Line;)V"⟩
def px_y_Circles_followOn : MethodName := ⟨"CheckDaemon$Circles", "followOn", "()V"⟩
def px_y_Circles_group : MethodName := ⟨"CheckDaemon$Circles", "group", "()V"⟩
def px_y_Circles_findLeast : MethodName := ⟨"CheckDaemon$Circles", "findLeast", "(II)I"⟩
def px_y_Circles_leastOf : MethodName := ⟨"CheckDaemon$Circles", "leastOf", "(I)I"⟩
def px_y_Circles_circleCount : MethodName := ⟨"CheckDaemon$Circles", "circleCount", "()I"⟩
def px_y_Circles_selfCount : MethodName := ⟨"CheckDaemon$Circles", "selfCount", "()I"⟩
def px_y_Expression_init : MethodName := ⟨"CheckDaemon$Expression", "<init>", "(I)V"⟩
def px_y_Expression_add : MethodName := ⟨"CheckDaemon$Expression", "add", "(IIII)I"⟩
def px_y_Expression_workOut : MethodName := ⟨"CheckDaemon$Expression", "workOut", "(LCheckDaemon$Symbols;)I"⟩
def px_y_Expression_valueOf : MethodName := ⟨"CheckDaemon$Expression", "valueOf", "(ILCheckDaemon$Symbols;)I"⟩
def px_y_Expression_valueAt : MethodName := ⟨"CheckDaemon$Expression", "valueAt", "(I)I"⟩
def px_y_Expression_findFaults : MethodName := ⟨"CheckDaemon$Expression", "findFaults", "(LCheckDaemon$Symbols;LCheckDaemon$Faults;)V"⟩
def px_y_Expression_faultOf : MethodName := ⟨"CheckDaemon$Expression", "faultOf", "(ILCheckDaemon$Symbols;)I"⟩
def px_y_Faults_init : MethodName := ⟨"CheckDaemon$Faults", "<init>", "(I)V"⟩
def px_y_Faults_clear : MethodName := ⟨"CheckDaemon$Faults", "clear", "()V"⟩
def px_y_Faults_add : MethodName := ⟨"CheckDaemon$Faults", "add", "(II)V"⟩
def px_y_Faults_size : MethodName := ⟨"CheckDaemon$Faults", "size", "()I"⟩
def px_y_Faults_placeOf : MethodName := ⟨"CheckDaemon$Faults", "placeOf", "(I)I"⟩
def px_y_Faults_codeOf : MethodName := ⟨"CheckDaemon$Faults", "codeOf", "(I)I"⟩
def px_y_History_init : MethodName := ⟨"CheckDaemon$History", "<init>", "()V"⟩
def px_y_History_keep : MethodName := ⟨"CheckDaemon$History", "keep", "(ILCheckDaemon$Line;)V"⟩
def px_y_History_loseOldest : MethodName := ⟨"CheckDaemon$History", "loseOldest", "()V"⟩
def px_y_History_forget : MethodName := ⟨"CheckDaemon$History", "forget", "()V"⟩
def px_y_History_size : MethodName := ⟨"CheckDaemon$History", "size", "()I"⟩
def px_y_History_lastPlace : MethodName := ⟨"CheckDaemon$History", "lastPlace", "()I"⟩
def px_y_History_lastLine : MethodName := ⟨"CheckDaemon$History", "lastLine", "()LCheckDaemon$Line;"⟩
def px_y_History_removeLast : MethodName := ⟨"CheckDaemon$History", "removeLast", "()V"⟩
def px_y_Line_init0 : MethodName := ⟨"CheckDaemon$Line", "<init>", "(IIIILCheckDaemon$Expression;)V"⟩
def px_y_Line_init1 : MethodName := ⟨"CheckDaemon$Line", "<init>", "(II)V"⟩
def px_y_Line_defined : MethodName := ⟨"CheckDaemon$Line", "defined", "()I"⟩
def px_y_Line_reads : MethodName := ⟨"CheckDaemon$Line", "reads", "(I)Z"⟩
def px_y_Line_says : MethodName := ⟨"CheckDaemon$Line", "says", "()I"⟩
def px_y_Line_workOut : MethodName := ⟨"CheckDaemon$Line", "workOut", "(LCheckDaemon$Symbols;)V"⟩
def px_y_Line_findFaults : MethodName := ⟨"CheckDaemon$Line", "findFaults", "(LCheckDaemon$Symbols;)V"⟩
def px_y_Line_isMismatch : MethodName := ⟨"CheckDaemon$Line", "isMismatch", "()Z"⟩
def px_y_Line_symbolsRead : MethodName := ⟨"CheckDaemon$Line", "symbolsRead", "()LCheckDaemon$SymbolSet;"⟩
def px_y_Line_tellAbout : MethodName := ⟨"CheckDaemon$Line", "tellAbout", "(I)I"⟩
def px_y_Line_faults : MethodName := ⟨"CheckDaemon$Line", "faults", "()LCheckDaemon$Faults;"⟩
def px_y_Parser_init : MethodName := ⟨"CheckDaemon$Parser", "<init>", "([III)V"⟩
def px_y_Parser_read : MethodName := ⟨"CheckDaemon$Parser", "read", "()LCheckDaemon$Line;"⟩
def px_y_Parser_readHead : MethodName := ⟨"CheckDaemon$Parser", "readHead", "()Z"⟩
def px_y_Parser_next : MethodName := ⟨"CheckDaemon$Parser", "next", "()I"⟩
def px_y_Parser_isName : MethodName := ⟨"CheckDaemon$Parser", "isName", "(I)Z"⟩
def px_y_Parser_take : MethodName := ⟨"CheckDaemon$Parser", "take", "(I)Z"⟩
def px_y_Parser_readTypeWord : MethodName := ⟨"CheckDaemon$Parser", "readTypeWord", "()Z"⟩
def px_y_Parser_readSum : MethodName := ⟨"CheckDaemon$Parser", "readSum", "(I)I"⟩
def px_y_Parser_readOr : MethodName := ⟨"CheckDaemon$Parser", "readOr", "(I)I"⟩
def px_y_Parser_readPart : MethodName := ⟨"CheckDaemon$Parser", "readPart", "(I)I"⟩
def px_y_Parser_readAtom : MethodName := ⟨"CheckDaemon$Parser", "readAtom", "(I)I"⟩
def px_y_Parser_readName : MethodName := ⟨"CheckDaemon$Parser", "readName", "(II)I"⟩
def px_y_Parser_isEnding : MethodName := ⟨"CheckDaemon$Parser", "isEnding", "(I)Z"⟩
def px_y_Parser_readEnding : MethodName := ⟨"CheckDaemon$Parser", "readEnding", "(I)I"⟩
def px_y_SymbolSet_init : MethodName := ⟨"CheckDaemon$SymbolSet", "<init>", "()V"⟩
def px_y_SymbolSet_add : MethodName := ⟨"CheckDaemon$SymbolSet", "add", "(I)V"⟩
def px_y_SymbolSet_clear : MethodName := ⟨"CheckDaemon$SymbolSet", "clear", "()V"⟩
def px_y_SymbolSet_has : MethodName := ⟨"CheckDaemon$SymbolSet", "has", "(I)Z"⟩
def px_y_SymbolSet_addAll : MethodName := ⟨"CheckDaemon$SymbolSet", "addAll", "(LCheckDaemon$SymbolSet;)V"⟩
def px_y_SymbolSet_size : MethodName := ⟨"CheckDaemon$SymbolSet", "size", "()I"⟩
def px_y_Symbols_init : MethodName := ⟨"CheckDaemon$Symbols", "<init>", "()V"⟩
def px_y_Symbols_addDefiners : MethodName := ⟨"CheckDaemon$Symbols", "addDefiners", "(II)V"⟩
def px_y_Symbols_isSymbol : MethodName := ⟨"CheckDaemon$Symbols", "isSymbol", "(I)Z"⟩
def px_y_Symbols_restart : MethodName := ⟨"CheckDaemon$Symbols", "restart", "(I)V"⟩
def px_y_Symbols_grow : MethodName := ⟨"CheckDaemon$Symbols", "grow", "(II)Z"⟩
def px_y_Symbols_typeOf : MethodName := ⟨"CheckDaemon$Symbols", "typeOf", "(I)I"⟩
def px_y_Symbols_definersOf : MethodName := ⟨"CheckDaemon$Symbols", "definersOf", "(I)I"⟩
def px_y_Symbols_definedCount : MethodName := ⟨"CheckDaemon$Symbols", "definedCount", "()I"⟩
def px_y_Workspace_init : MethodName := ⟨"CheckDaemon$Workspace", "<init>", "()V"⟩
def px_y_Workspace_lineAt : MethodName := ⟨"CheckDaemon$Workspace", "lineAt", "(I)LCheckDaemon$Line;"⟩
def px_y_Workspace_edit : MethodName := ⟨"CheckDaemon$Workspace", "edit", "(ILCheckDaemon$Line;)I"⟩
def px_y_Workspace_startLooking : MethodName := ⟨"CheckDaemon$Workspace", "startLooking", "()V"⟩
def px_y_Workspace_leave : MethodName := ⟨"CheckDaemon$Workspace", "leave", "(LCheckDaemon$Line;)V"⟩
def px_y_Workspace_touch : MethodName := ⟨"CheckDaemon$Workspace", "touch", "(I)V"⟩
def px_y_Workspace_enter : MethodName := ⟨"CheckDaemon$Workspace", "enter", "(LCheckDaemon$Line;)V"⟩
def px_y_Workspace_lookOn : MethodName := ⟨"CheckDaemon$Workspace", "lookOn", "()I"⟩
def px_y_Workspace_restartTypes : MethodName := ⟨"CheckDaemon$Workspace", "restartTypes", "()V"⟩
def px_y_Workspace_workOutWaiting : MethodName := ⟨"CheckDaemon$Workspace", "workOutWaiting", "()Z"⟩
def px_y_Workspace_wakeReaders : MethodName := ⟨"CheckDaemon$Workspace", "wakeReaders", "(I)V"⟩
def px_y_Workspace_findFaults : MethodName := ⟨"CheckDaemon$Workspace", "findFaults", "()V"⟩
def px_y_Workspace_tellSymbol : MethodName := ⟨"CheckDaemon$Workspace", "tellSymbol", "(II)I"⟩
def px_y_Workspace_readersOf : MethodName := ⟨"CheckDaemon$Workspace", "readersOf", "(I)I"⟩
def px_y_Workspace_freshCircles : MethodName := ⟨"CheckDaemon$Workspace", "freshCircles", "()LCheckDaemon$Circles;"⟩
def px_y_Workspace_tellFault : MethodName := ⟨"CheckDaemon$Workspace", "tellFault", "(II)I"⟩
def px_y_Workspace_tellFaultAt : MethodName := ⟨"CheckDaemon$Workspace", "tellFaultAt", "(ILCheckDaemon$Faults;II)I"⟩
def px_y_Workspace_howMany : MethodName := ⟨"CheckDaemon$Workspace", "howMany", "(I)I"⟩
def px_y_Workspace_faultCount : MethodName := ⟨"CheckDaemon$Workspace", "faultCount", "()I"⟩
def px_y_Workspace_lineCount : MethodName := ⟨"CheckDaemon$Workspace", "lineCount", "()I"⟩
def px_y_Daemon_init : MethodName := ⟨"CheckDaemon", "<init>", "()V"⟩
def px_y_Daemon_erase : MethodName := ⟨"CheckDaemon", "erase", "()I"⟩
def px_y_Daemon_type : MethodName := ⟨"CheckDaemon", "type", "(IIIII)I"⟩
def px_y_Daemon_charactersIn : MethodName := ⟨"CheckDaemon", "charactersIn", "(I)I"⟩
def px_y_Daemon_append : MethodName := ⟨"CheckDaemon", "append", "(I)V"⟩
def px_y_Daemon_put : MethodName := ⟨"CheckDaemon", "put", "(II)I"⟩
def px_y_Daemon_isPlace : MethodName := ⟨"CheckDaemon", "isPlace", "(II)Z"⟩
def px_y_Daemon_isBlank : MethodName := ⟨"CheckDaemon", "isBlank", "()Z"⟩
def px_y_Daemon_drop : MethodName := ⟨"CheckDaemon", "drop", "(I)I"⟩
def px_y_Daemon_undo : MethodName := ⟨"CheckDaemon", "undo", "()I"⟩
def px_y_Daemon_symbol : MethodName := ⟨"CheckDaemon", "symbol", "(III)I"⟩
def px_y_Daemon_line : MethodName := ⟨"CheckDaemon", "line", "(III)I"⟩
def px_y_Daemon_diagnostic : MethodName := ⟨"CheckDaemon", "diagnostic", "(II)I"⟩
def px_y_Daemon_count : MethodName := ⟨"CheckDaemon", "count", "(I)I"⟩
def px_y_Model_init : MethodName := ⟨"CheckDaemonModel", "<init>", "()V"⟩
def px_y_Model_thrown : MethodName := ⟨"CheckDaemonModel", "thrown", "()I"⟩
def px_y_Model_type : MethodName := ⟨"CheckDaemonModel", "type", "(IIIII)I"⟩
def px_y_Model_feed : MethodName := ⟨"CheckDaemonModel", "feed", "(II)I"⟩
def px_y_Model_refused : MethodName := ⟨"CheckDaemonModel", "refused", "(I)Z"⟩
def px_y_Model_erase : MethodName := ⟨"CheckDaemonModel", "erase", "()I"⟩
def px_y_Model_put : MethodName := ⟨"CheckDaemonModel", "put", "(II)I"⟩
def px_y_Model_isIn : MethodName := ⟨"CheckDaemonModel", "isIn", "(III)Z"⟩
def px_y_Model_remember : MethodName := ⟨"CheckDaemonModel", "remember", "(I)V"⟩
def px_y_Model_isBlank : MethodName := ⟨"CheckDaemonModel", "isBlank", "()Z"⟩
def px_y_Model_edit : MethodName := ⟨"CheckDaemonModel", "edit", "(IZ)I"⟩
def px_y_Model_read : MethodName := ⟨"CheckDaemonModel", "read", "(I)V"⟩
def px_y_Model_look : MethodName := ⟨"CheckDaemonModel", "look", "()C"⟩
def px_y_Model_charAt : MethodName := ⟨"CheckDaemonModel", "charAt", "(I)C"⟩
def px_y_Model_isSymbol : MethodName := ⟨"CheckDaemonModel", "isSymbol", "(C)Z"⟩
def px_y_Model_readWord : MethodName := ⟨"CheckDaemonModel", "readWord", "()Z"⟩
def px_y_Model_letterOf : MethodName := ⟨"CheckDaemonModel", "letterOf", "(C)I"⟩
def px_y_Model_wrong : MethodName := ⟨"CheckDaemonModel", "wrong", "()Z"⟩
def px_y_Model_readExpression : MethodName := ⟨"CheckDaemonModel", "readExpression", "()Z"⟩
def px_y_Model_readAtom : MethodName := ⟨"CheckDaemonModel", "readAtom", "()I"⟩
def px_y_Model_step : MethodName := ⟨"CheckDaemonModel", "step", "(III)V"⟩
def px_y_Model_brackets : MethodName := ⟨"CheckDaemonModel", "brackets", "()I"⟩
def px_y_Model_readBehind : MethodName := ⟨"CheckDaemonModel", "readBehind", "()Z"⟩
def px_y_Model_join : MethodName := ⟨"CheckDaemonModel", "join", "(Z)V"⟩
def px_y_Model_grow : MethodName := ⟨"CheckDaemonModel", "grow", "()V"⟩
def px_y_Model_isRead : MethodName := ⟨"CheckDaemonModel", "isRead", "(I)Z"⟩
def px_y_Model_value : MethodName := ⟨"CheckDaemonModel", "value", "(IZ)I"⟩
def px_y_Model_note : MethodName := ⟨"CheckDaemonModel", "note", "(III)V"⟩
def px_y_Model_lacksSum : MethodName := ⟨"CheckDaemonModel", "lacksSum", "(II)Z"⟩
def px_y_Model_sumOf : MethodName := ⟨"CheckDaemonModel", "sumOf", "(II)I"⟩
def px_y_Model_sum : MethodName := ⟨"CheckDaemonModel", "sum", "(II)I"⟩
def px_y_Model_isFirst : MethodName := ⟨"CheckDaemonModel", "isFirst", "(I)Z"⟩
def px_y_Model_changed : MethodName := ⟨"CheckDaemonModel", "changed", "(III)I"⟩
def px_y_Model_wrapped : MethodName := ⟨"CheckDaemonModel", "wrapped", "(I)I"⟩
def px_y_Model_judgeAll : MethodName := ⟨"CheckDaemonModel", "judgeAll", "()V"⟩
def px_y_Model_judge : MethodName := ⟨"CheckDaemonModel", "judge", "(I)V"⟩
def px_y_Model_readsStale : MethodName := ⟨"CheckDaemonModel", "readsStale", "(I)Z"⟩
def px_y_Model_drop : MethodName := ⟨"CheckDaemonModel", "drop", "(I)I"⟩
def px_y_Model_undo : MethodName := ⟨"CheckDaemonModel", "undo", "()I"⟩
def px_y_Model_symbol : MethodName := ⟨"CheckDaemonModel", "symbol", "(III)I"⟩
def px_y_Model_know : MethodName := ⟨"CheckDaemonModel", "know", "()V"⟩
def px_y_Model_leastOf : MethodName := ⟨"CheckDaemonModel", "leastOf", "(I)I"⟩
def px_y_Model_areOne : MethodName := ⟨"CheckDaemonModel", "areOne", "(II)Z"⟩
def px_y_Model_reads : MethodName := ⟨"CheckDaemonModel", "reads", "(II)Z"⟩
def px_y_Model_line : MethodName := ⟨"CheckDaemonModel", "line", "(III)I"⟩
def px_y_Model_readCount : MethodName := ⟨"CheckDaemonModel", "readCount", "(I)I"⟩
def px_y_Model_diagnostic : MethodName := ⟨"CheckDaemonModel", "diagnostic", "(II)I"⟩
def px_y_Model_count : MethodName := ⟨"CheckDaemonModel", "count", "(I)I"⟩
def px_y_Model_sizeOf : MethodName := ⟨"CheckDaemonModel", "sizeOf", "(I)I"⟩
def px_y_Forms_letterOf : MethodName := ⟨"CheckDaemon$Forms", "letterOf", "(I)I"⟩
def px_y_Forms_listed : MethodName := ⟨"CheckDaemon$Forms", "listed", "(I)I"⟩
def px_y_Forms_inLists : MethodName := ⟨"CheckDaemon$Forms", "inLists", "(I)I"⟩
def px_y_Forms_unlisted : MethodName := ⟨"CheckDaemon$Forms", "unlisted", "(I)I"⟩
def px_y_Forms_withoutNil : MethodName := ⟨"CheckDaemon$Forms", "withoutNil", "(I)I"⟩
def px_y_Forms_narrowed : MethodName := ⟨"CheckDaemon$Forms", "narrowed", "(II)I"⟩
def px_y_Forms_sum : MethodName := ⟨"CheckDaemon$Forms", "sum", "(II)I"⟩
def px_y_Forms_makesFloat : MethodName := ⟨"CheckDaemon$Forms", "makesFloat", "(II)Z"⟩
def px_y_Forms_unlistingLoses : MethodName := ⟨"CheckDaemon$Forms", "unlistingLoses", "(I)Z"⟩
def px_y_Forms_summingLoses : MethodName := ⟨"CheckDaemon$Forms", "summingLoses", "(II)Z"⟩
def px_y_Long_bitCount : MethodName := ⟨"java/lang/Long", "bitCount", "(J)I"⟩
def px_y_Math_min : MethodName := ⟨"java/lang/Math", "min", "(II)I"⟩
def px_y_Math_max : MethodName := ⟨"java/lang/Math", "max", "(II)I"⟩
end
section
def px_a_Circles_init (pc : Nat) : Option Instr := (bif Nat.blt pc 39 then (bif Nat.blt pc 20 then (bif Nat.blt pc 8 then (bif Nat.blt pc 4 then (bif Nat.blt pc 1 then (bif Nat.beq pc 0 then some (.aload_n 0) else none) else (bif Nat.beq pc 1 then some (.invokespecial 3) else none)) else (bif Nat.blt pc 5 then (bif Nat.beq pc 4 then some (.aload_n 0) else none) else (bif Nat.beq pc 5 then some (.sipush 208) else none))) else (bif Nat.blt pc 14 then (bif Nat.blt pc 11 then (bif Nat.beq pc 8 then some (.anewarray 9) else none) else (bif Nat.beq pc 11 then some (.putfield 11) else none)) else (bif Nat.blt pc 15 then (bif Nat.beq pc 14 then some (.aload_n 0) else none) else (bif Nat.blt pc 18 then (bif Nat.beq pc 15 then some (.sipush 208) else none) else (bif Nat.beq pc 18 then some (.newarray .int) else none))))) else (bif Nat.blt pc 32 then (bif Nat.blt pc 24 then (bif Nat.blt pc 23 then (bif Nat.beq pc 20 then some (.putfield 17) else none) else (bif Nat.beq pc 23 then some (.aload_n 0) else none)) else (bif Nat.blt pc 27 then (bif Nat.beq pc 24 then some (.sipush 208) else none) else (bif Nat.blt pc 29 then (bif Nat.beq pc 27 then some (.newarray .int) else none) else (bif Nat.beq pc 29 then some (.putfield 21) else none)))) else (bif Nat.blt pc 34 then (bif Nat.blt pc 33 then (bif Nat.beq pc 32 then some (.aload_n 0) else none) else (bif Nat.beq pc 33 then some (.iconst 0) else none)) else (bif Nat.blt pc 37 then (bif Nat.beq pc 34 then some (.putfield 24) else none) else (bif Nat.blt pc 38 then (bif Nat.beq pc 37 then some (.aload_n 0) else none) else (bif Nat.beq pc 38 then some (.iconst 0) else none)))))) else (bif Nat.blt pc 56 then (bif Nat.blt pc 47 then (bif Nat.blt pc 43 then (bif Nat.blt pc 42 then (bif Nat.beq pc 39 then some (.putfield 28) else none) else (bif Nat.beq pc 42 then some (.aload_n 0) else none)) else (bif Nat.blt pc 44 then (bif Nat.beq pc 43 then some (.iconst 0) else none) else (bif Nat.beq pc 44 then some (.putfield 31) else none))) else (bif Nat.blt pc 49 then (bif Nat.blt pc 48 then (bif Nat.beq pc 47 then some (.iconst 0) else none) else (bif Nat.beq pc 48 then some (.istore_n 1) else none)) else (bif Nat.blt pc 50 then (bif Nat.beq pc 49 then some (.iload_n 1) else none) else (bif Nat.blt pc 53 then (bif Nat.beq pc 50 then some (.sipush 208) else none) else (bif Nat.beq pc 53 then some (.if_icmp .ge 22) else none))))) else (bif Nat.blt pc 65 then (bif Nat.blt pc 60 then (bif Nat.blt pc 57 then (bif Nat.beq pc 56 then some (.aload_n 0) else none) else (bif Nat.beq pc 57 then some (.getfield 11) else none)) else (bif Nat.blt pc 61 then (bif Nat.beq pc 60 then some (.iload_n 1) else none) else (bif Nat.blt pc 64 then (bif Nat.beq pc 61 then some (.new 9) else none) else (bif Nat.beq pc 64 then some (.dup) else none)))) else (bif Nat.blt pc 69 then (bif Nat.blt pc 68 then (bif Nat.beq pc 65 then some (.invokespecial 34) else none) else (bif Nat.beq pc 68 then some (.aastore) else none)) else (bif Nat.blt pc 72 then (bif Nat.beq pc 69 then some (.iinc 1 1) else none) else (bif Nat.blt pc 75 then (bif Nat.beq pc 72 then some (.goto (-23)) else none) else (bif Nat.beq pc 75 then some (.return_) else none)))))))
def px_a_Circles_find (pc : Nat) : Option Instr := (bif Nat.blt pc 7 then (bif Nat.blt pc 2 then (bif Nat.blt pc 1 then (bif Nat.beq pc 0 then some (.aload_n 0) else none) else (bif Nat.beq pc 1 then some (.aload_n 2) else none)) else (bif Nat.blt pc 5 then (bif Nat.beq pc 2 then some (.invokevirtual 35) else none) else (bif Nat.blt pc 6 then (bif Nat.beq pc 5 then some (.aload_n 0) else none) else (bif Nat.beq pc 6 then some (.aload_n 1) else none)))) else (bif Nat.blt pc 14 then (bif Nat.blt pc 10 then (bif Nat.beq pc 7 then some (.invokevirtual 39) else none) else (bif Nat.blt pc 11 then (bif Nat.beq pc 10 then some (.aload_n 0) else none) else (bif Nat.beq pc 11 then some (.invokevirtual 43) else none))) else (bif Nat.blt pc 15 then (bif Nat.beq pc 14 then some (.aload_n 0) else none) else (bif Nat.blt pc 18 then (bif Nat.beq pc 15 then some (.invokevirtual 46) else none) else (bif Nat.beq pc 18 then some (.return_) else none)))))
def px_a_Circles_listDefined (pc : Nat) : Option Instr := (bif Nat.blt pc 30 then (bif Nat.blt pc 15 then (bif Nat.blt pc 6 then (bif Nat.blt pc 2 then (bif Nat.blt pc 1 then (bif Nat.beq pc 0 then some (.aload_n 0) else none) else (bif Nat.beq pc 1 then some (.iconst 0) else none)) else (bif Nat.blt pc 5 then (bif Nat.beq pc 2 then some (.putfield 24) else none) else (bif Nat.beq pc 5 then some (.iconst 0) else none))) else (bif Nat.blt pc 8 then (bif Nat.blt pc 7 then (bif Nat.beq pc 6 then some (.istore_n 2) else none) else (bif Nat.beq pc 7 then some (.iload_n 2) else none)) else (bif Nat.blt pc 11 then (bif Nat.beq pc 8 then some (.sipush 208) else none) else (bif Nat.blt pc 14 then (bif Nat.beq pc 11 then some (.if_icmp .ge 53) else none) else (bif Nat.beq pc 14 then some (.aload_n 0) else none))))) else (bif Nat.blt pc 23 then (bif Nat.blt pc 19 then (bif Nat.blt pc 18 then (bif Nat.beq pc 15 then some (.getfield 11) else none) else (bif Nat.beq pc 18 then some (.iload_n 2) else none)) else (bif Nat.blt pc 20 then (bif Nat.beq pc 19 then some (.aaload) else none) else (bif Nat.beq pc 20 then some (.invokevirtual 49) else none))) else (bif Nat.blt pc 27 then (bif Nat.blt pc 24 then (bif Nat.beq pc 23 then some (.aload_n 0) else none) else (bif Nat.beq pc 24 then some (.getfield 17) else none)) else (bif Nat.blt pc 28 then (bif Nat.beq pc 27 then some (.iload_n 2) else none) else (bif Nat.blt pc 29 then (bif Nat.beq pc 28 then some (.iconst (-1)) else none) else (bif Nat.beq pc 29 then some (.iastore) else none)))))) else (bif Nat.blt pc 47 then (bif Nat.blt pc 38 then (bif Nat.blt pc 32 then (bif Nat.blt pc 31 then (bif Nat.beq pc 30 then some (.aload_n 1) else none) else (bif Nat.beq pc 31 then some (.iload_n 2) else none)) else (bif Nat.blt pc 35 then (bif Nat.beq pc 32 then some (.invokevirtual 52) else none) else (bif Nat.beq pc 35 then some (.ifCond .le 23) else none))) else (bif Nat.blt pc 42 then (bif Nat.blt pc 39 then (bif Nat.beq pc 38 then some (.aload_n 0) else none) else (bif Nat.beq pc 39 then some (.getfield 21) else none)) else (bif Nat.blt pc 43 then (bif Nat.beq pc 42 then some (.aload_n 0) else none) else (bif Nat.blt pc 46 then (bif Nat.beq pc 43 then some (.getfield 24) else none) else (bif Nat.beq pc 46 then some (.iload_n 2) else none))))) else (bif Nat.blt pc 54 then (bif Nat.blt pc 49 then (bif Nat.blt pc 48 then (bif Nat.beq pc 47 then some (.iastore) else none) else (bif Nat.beq pc 48 then some (.aload_n 0) else none)) else (bif Nat.blt pc 50 then (bif Nat.beq pc 49 then some (.dup) else none) else (bif Nat.blt pc 53 then (bif Nat.beq pc 50 then some (.getfield 24) else none) else (bif Nat.beq pc 53 then some (.iconst 1) else none)))) else (bif Nat.blt pc 58 then (bif Nat.blt pc 55 then (bif Nat.beq pc 54 then some (.iadd) else none) else (bif Nat.beq pc 55 then some (.putfield 24) else none)) else (bif Nat.blt pc 61 then (bif Nat.beq pc 58 then some (.iinc 2 1) else none) else (bif Nat.blt pc 64 then (bif Nat.beq pc 61 then some (.goto (-54)) else none) else (bif Nat.beq pc 64 then some (.return_) else none)))))))
def px_a_Circles_gatherReads (pc : Nat) : Option Instr := (bif Nat.blt pc 26 then (bif Nat.blt pc 10 then (bif Nat.blt pc 4 then (bif Nat.blt pc 2 then (bif Nat.blt pc 1 then (bif Nat.beq pc 0 then some (.iconst 0) else none) else (bif Nat.beq pc 1 then some (.istore_n 2) else none)) else (bif Nat.blt pc 3 then (bif Nat.beq pc 2 then some (.iload_n 2) else none) else (bif Nat.beq pc 3 then some (.aload_n 1) else none))) else (bif Nat.blt pc 8 then (bif Nat.blt pc 5 then (bif Nat.beq pc 4 then some (.arraylength) else none) else (bif Nat.beq pc 5 then some (.if_icmp .ge 58) else none)) else (bif Nat.blt pc 9 then (bif Nat.beq pc 8 then some (.aload_n 1) else none) else (bif Nat.beq pc 9 then some (.iload_n 2) else none)))) else (bif Nat.blt pc 16 then (bif Nat.blt pc 12 then (bif Nat.blt pc 11 then (bif Nat.beq pc 10 then some (.aaload) else none) else (bif Nat.beq pc 11 then some (.astore_n 3) else none)) else (bif Nat.blt pc 13 then (bif Nat.beq pc 12 then some (.aload_n 3) else none) else (bif Nat.beq pc 13 then some (.ifnonnull 7) else none))) else (bif Nat.blt pc 20 then (bif Nat.blt pc 17 then (bif Nat.beq pc 16 then some (.iconst (-1)) else none) else (bif Nat.beq pc 17 then some (.goto 7) else none)) else (bif Nat.blt pc 21 then (bif Nat.beq pc 20 then some (.aload_n 3) else none) else (bif Nat.blt pc 24 then (bif Nat.beq pc 21 then some (.invokevirtual 58) else none) else (bif Nat.beq pc 24 then some (.istore 4) else none)))))) else (bif Nat.blt pc 44 then (bif Nat.blt pc 35 then (bif Nat.blt pc 30 then (bif Nat.blt pc 27 then (bif Nat.beq pc 26 then some (.aload_n 3) else none) else (bif Nat.beq pc 27 then some (.ifnull 30) else none)) else (bif Nat.blt pc 32 then (bif Nat.beq pc 30 then some (.iload 4) else none) else (bif Nat.beq pc 32 then some (.ifCond .lt 25) else none))) else (bif Nat.blt pc 40 then (bif Nat.blt pc 37 then (bif Nat.beq pc 35 then some (.iload 4) else none) else (bif Nat.beq pc 37 then some (.sipush 208) else none)) else (bif Nat.blt pc 43 then (bif Nat.beq pc 40 then some (.if_icmp .ge 17) else none) else (bif Nat.beq pc 43 then some (.aload_n 0) else none)))) else (bif Nat.blt pc 51 then (bif Nat.blt pc 49 then (bif Nat.blt pc 47 then (bif Nat.beq pc 44 then some (.getfield 11) else none) else (bif Nat.beq pc 47 then some (.iload 4) else none)) else (bif Nat.blt pc 50 then (bif Nat.beq pc 49 then some (.aaload) else none) else (bif Nat.beq pc 50 then some (.aload_n 3) else none))) else (bif Nat.blt pc 57 then (bif Nat.blt pc 54 then (bif Nat.beq pc 51 then some (.invokevirtual 63) else none) else (bif Nat.beq pc 54 then some (.invokevirtual 67) else none)) else (bif Nat.blt pc 60 then (bif Nat.beq pc 57 then some (.iinc 2 1) else none) else (bif Nat.blt pc 63 then (bif Nat.beq pc 60 then some (.goto (-58)) else none) else (bif Nat.beq pc 63 then some (.return_) else none)))))))
def px_a_Circles_followOn (pc : Nat) : Option Instr := (bif Nat.blt pc 33 then (bif Nat.blt pc 16 then (bif Nat.blt pc 7 then (bif Nat.blt pc 2 then (bif Nat.blt pc 1 then (bif Nat.beq pc 0 then some (.iconst 0) else none) else (bif Nat.beq pc 1 then some (.istore_n 1) else none)) else (bif Nat.blt pc 3 then (bif Nat.beq pc 2 then some (.iload_n 1) else none) else (bif Nat.blt pc 4 then (bif Nat.beq pc 3 then some (.aload_n 0) else none) else (bif Nat.beq pc 4 then some (.getfield 24) else none)))) else (bif Nat.blt pc 11 then (bif Nat.blt pc 10 then (bif Nat.beq pc 7 then some (.if_icmp .ge 70) else none) else (bif Nat.beq pc 10 then some (.aload_n 0) else none)) else (bif Nat.blt pc 14 then (bif Nat.beq pc 11 then some (.getfield 21) else none) else (bif Nat.blt pc 15 then (bif Nat.beq pc 14 then some (.iload_n 1) else none) else (bif Nat.beq pc 15 then some (.iaload) else none))))) else (bif Nat.blt pc 21 then (bif Nat.blt pc 18 then (bif Nat.blt pc 17 then (bif Nat.beq pc 16 then some (.istore_n 2) else none) else (bif Nat.beq pc 17 then some (.iconst 0) else none)) else (bif Nat.blt pc 19 then (bif Nat.beq pc 18 then some (.istore_n 3) else none) else (bif Nat.blt pc 20 then (bif Nat.beq pc 19 then some (.iload_n 3) else none) else (bif Nat.beq pc 20 then some (.aload_n 0) else none)))) else (bif Nat.blt pc 28 then (bif Nat.blt pc 24 then (bif Nat.beq pc 21 then some (.getfield 24) else none) else (bif Nat.blt pc 27 then (bif Nat.beq pc 24 then some (.if_icmp .ge 47) else none) else (bif Nat.beq pc 27 then some (.aload_n 0) else none))) else (bif Nat.blt pc 31 then (bif Nat.beq pc 28 then some (.getfield 21) else none) else (bif Nat.blt pc 32 then (bif Nat.beq pc 31 then some (.iload_n 3) else none) else (bif Nat.beq pc 32 then some (.iaload) else none)))))) else (bif Nat.blt pc 55 then (bif Nat.blt pc 42 then (bif Nat.blt pc 36 then (bif Nat.blt pc 35 then (bif Nat.beq pc 33 then some (.istore 4) else none) else (bif Nat.beq pc 35 then some (.aload_n 0) else none)) else (bif Nat.blt pc 39 then (bif Nat.beq pc 36 then some (.getfield 11) else none) else (bif Nat.blt pc 41 then (bif Nat.beq pc 39 then some (.iload 4) else none) else (bif Nat.beq pc 41 then some (.aaload) else none)))) else (bif Nat.blt pc 49 then (bif Nat.blt pc 43 then (bif Nat.beq pc 42 then some (.iload_n 2) else none) else (bif Nat.blt pc 46 then (bif Nat.beq pc 43 then some (.invokevirtual 71) else none) else (bif Nat.beq pc 46 then some (.ifCond .eq 19) else none))) else (bif Nat.blt pc 50 then (bif Nat.beq pc 49 then some (.aload_n 0) else none) else (bif Nat.blt pc 53 then (bif Nat.beq pc 50 then some (.getfield 11) else none) else (bif Nat.beq pc 53 then some (.iload 4) else none))))) else (bif Nat.blt pc 62 then (bif Nat.blt pc 57 then (bif Nat.blt pc 56 then (bif Nat.beq pc 55 then some (.aaload) else none) else (bif Nat.beq pc 56 then some (.aload_n 0) else none)) else (bif Nat.blt pc 60 then (bif Nat.beq pc 57 then some (.getfield 11) else none) else (bif Nat.blt pc 61 then (bif Nat.beq pc 60 then some (.iload_n 2) else none) else (bif Nat.beq pc 61 then some (.aaload) else none)))) else (bif Nat.blt pc 71 then (bif Nat.blt pc 65 then (bif Nat.beq pc 62 then some (.invokevirtual 67) else none) else (bif Nat.blt pc 68 then (bif Nat.beq pc 65 then some (.iinc 3 1) else none) else (bif Nat.beq pc 68 then some (.goto (-49)) else none))) else (bif Nat.blt pc 74 then (bif Nat.beq pc 71 then some (.iinc 1 1) else none) else (bif Nat.blt pc 77 then (bif Nat.beq pc 74 then some (.goto (-72)) else none) else (bif Nat.beq pc 77 then some (.return_) else none)))))))
def px_a_Circles_group (pc : Nat) : Option Instr := (bif Nat.blt pc 34 then (bif Nat.blt pc 17 then (bif Nat.blt pc 7 then (bif Nat.blt pc 2 then (bif Nat.blt pc 1 then (bif Nat.beq pc 0 then some (.aload_n 0) else none) else (bif Nat.beq pc 1 then some (.iconst 0) else none)) else (bif Nat.blt pc 5 then (bif Nat.beq pc 2 then some (.putfield 28) else none) else (bif Nat.blt pc 6 then (bif Nat.beq pc 5 then some (.aload_n 0) else none) else (bif Nat.beq pc 6 then some (.iconst 0) else none)))) else (bif Nat.blt pc 12 then (bif Nat.blt pc 10 then (bif Nat.beq pc 7 then some (.putfield 31) else none) else (bif Nat.blt pc 11 then (bif Nat.beq pc 10 then some (.iconst 0) else none) else (bif Nat.beq pc 11 then some (.istore_n 1) else none))) else (bif Nat.blt pc 13 then (bif Nat.beq pc 12 then some (.iload_n 1) else none) else (bif Nat.blt pc 14 then (bif Nat.beq pc 13 then some (.aload_n 0) else none) else (bif Nat.beq pc 14 then some (.getfield 24) else none))))) else (bif Nat.blt pc 26 then (bif Nat.blt pc 21 then (bif Nat.blt pc 20 then (bif Nat.beq pc 17 then some (.if_icmp .ge 59) else none) else (bif Nat.beq pc 20 then some (.aload_n 0) else none)) else (bif Nat.blt pc 24 then (bif Nat.beq pc 21 then some (.getfield 21) else none) else (bif Nat.blt pc 25 then (bif Nat.beq pc 24 then some (.iload_n 1) else none) else (bif Nat.beq pc 25 then some (.iaload) else none)))) else (bif Nat.blt pc 31 then (bif Nat.blt pc 27 then (bif Nat.beq pc 26 then some (.istore_n 2) else none) else (bif Nat.blt pc 28 then (bif Nat.beq pc 27 then some (.aload_n 0) else none) else (bif Nat.beq pc 28 then some (.getfield 11) else none))) else (bif Nat.blt pc 32 then (bif Nat.beq pc 31 then some (.iload_n 2) else none) else (bif Nat.blt pc 33 then (bif Nat.beq pc 32 then some (.aaload) else none) else (bif Nat.beq pc 33 then some (.iload_n 2) else none)))))) else (bif Nat.blt pc 53 then (bif Nat.blt pc 45 then (bif Nat.blt pc 40 then (bif Nat.blt pc 37 then (bif Nat.beq pc 34 then some (.invokevirtual 71) else none) else (bif Nat.beq pc 37 then some (.ifCond .eq 13) else none)) else (bif Nat.blt pc 41 then (bif Nat.beq pc 40 then some (.aload_n 0) else none) else (bif Nat.blt pc 42 then (bif Nat.beq pc 41 then some (.dup) else none) else (bif Nat.beq pc 42 then some (.getfield 31) else none)))) else (bif Nat.blt pc 50 then (bif Nat.blt pc 46 then (bif Nat.beq pc 45 then some (.iconst 1) else none) else (bif Nat.blt pc 47 then (bif Nat.beq pc 46 then some (.iadd) else none) else (bif Nat.beq pc 47 then some (.putfield 31) else none))) else (bif Nat.blt pc 51 then (bif Nat.beq pc 50 then some (.aload_n 0) else none) else (bif Nat.blt pc 52 then (bif Nat.beq pc 51 then some (.iload_n 1) else none) else (bif Nat.beq pc 52 then some (.iload_n 2) else none))))) else (bif Nat.blt pc 65 then (bif Nat.blt pc 60 then (bif Nat.blt pc 56 then (bif Nat.beq pc 53 then some (.invokevirtual 75) else none) else (bif Nat.blt pc 57 then (bif Nat.beq pc 56 then some (.iconst 1) else none) else (bif Nat.beq pc 57 then some (.if_icmp .ne 13) else none))) else (bif Nat.blt pc 61 then (bif Nat.beq pc 60 then some (.aload_n 0) else none) else (bif Nat.blt pc 62 then (bif Nat.beq pc 61 then some (.dup) else none) else (bif Nat.beq pc 62 then some (.getfield 28) else none)))) else (bif Nat.blt pc 70 then (bif Nat.blt pc 66 then (bif Nat.beq pc 65 then some (.iconst 1) else none) else (bif Nat.blt pc 67 then (bif Nat.beq pc 66 then some (.iadd) else none) else (bif Nat.beq pc 67 then some (.putfield 28) else none))) else (bif Nat.blt pc 73 then (bif Nat.beq pc 70 then some (.iinc 1 1) else none) else (bif Nat.blt pc 76 then (bif Nat.beq pc 73 then some (.goto (-61)) else none) else (bif Nat.beq pc 76 then some (.return_) else none)))))))
def px_a_Circles_findLeast (pc : Nat) : Option Instr := (bif Nat.blt pc 33 then (bif Nat.blt pc 14 then (bif Nat.blt pc 7 then (bif Nat.blt pc 2 then (bif Nat.blt pc 1 then (bif Nat.beq pc 0 then some (.iconst 0) else none) else (bif Nat.beq pc 1 then some (.istore_n 3) else none)) else (bif Nat.blt pc 3 then (bif Nat.beq pc 2 then some (.aload_n 0) else none) else (bif Nat.blt pc 6 then (bif Nat.beq pc 3 then some (.getfield 17) else none) else (bif Nat.beq pc 6 then some (.iload_n 2) else none)))) else (bif Nat.blt pc 9 then (bif Nat.blt pc 8 then (bif Nat.beq pc 7 then some (.iload_n 2) else none) else (bif Nat.beq pc 8 then some (.iastore) else none)) else (bif Nat.blt pc 10 then (bif Nat.beq pc 9 then some (.iconst 0) else none) else (bif Nat.blt pc 12 then (bif Nat.beq pc 10 then some (.istore 4) else none) else (bif Nat.beq pc 12 then some (.iload 4) else none))))) else (bif Nat.blt pc 24 then (bif Nat.blt pc 18 then (bif Nat.blt pc 15 then (bif Nat.beq pc 14 then some (.iload_n 1) else none) else (bif Nat.beq pc 15 then some (.if_icmp .ge 61) else none)) else (bif Nat.blt pc 19 then (bif Nat.beq pc 18 then some (.aload_n 0) else none) else (bif Nat.blt pc 22 then (bif Nat.beq pc 19 then some (.getfield 21) else none) else (bif Nat.beq pc 22 then some (.iload 4) else none)))) else (bif Nat.blt pc 28 then (bif Nat.blt pc 25 then (bif Nat.beq pc 24 then some (.iaload) else none) else (bif Nat.blt pc 27 then (bif Nat.beq pc 25 then some (.istore 5) else none) else (bif Nat.beq pc 27 then some (.aload_n 0) else none))) else (bif Nat.blt pc 31 then (bif Nat.beq pc 28 then some (.getfield 11) else none) else (bif Nat.blt pc 32 then (bif Nat.beq pc 31 then some (.iload_n 2) else none) else (bif Nat.beq pc 32 then some (.aaload) else none)))))) else (bif Nat.blt pc 56 then (bif Nat.blt pc 45 then (bif Nat.blt pc 38 then (bif Nat.blt pc 35 then (bif Nat.beq pc 33 then some (.iload 5) else none) else (bif Nat.beq pc 35 then some (.invokevirtual 71) else none)) else (bif Nat.blt pc 41 then (bif Nat.beq pc 38 then some (.ifCond .eq 32) else none) else (bif Nat.blt pc 42 then (bif Nat.beq pc 41 then some (.aload_n 0) else none) else (bif Nat.beq pc 42 then some (.getfield 11) else none)))) else (bif Nat.blt pc 49 then (bif Nat.blt pc 47 then (bif Nat.beq pc 45 then some (.iload 5) else none) else (bif Nat.blt pc 48 then (bif Nat.beq pc 47 then some (.aaload) else none) else (bif Nat.beq pc 48 then some (.iload_n 2) else none))) else (bif Nat.blt pc 52 then (bif Nat.beq pc 49 then some (.invokevirtual 71) else none) else (bif Nat.blt pc 55 then (bif Nat.beq pc 52 then some (.ifCond .eq 18) else none) else (bif Nat.beq pc 55 then some (.iload_n 3) else none))))) else (bif Nat.blt pc 66 then (bif Nat.blt pc 60 then (bif Nat.blt pc 59 then (bif Nat.beq pc 56 then some (.ifCond .ne 11) else none) else (bif Nat.beq pc 59 then some (.aload_n 0) else none)) else (bif Nat.blt pc 63 then (bif Nat.beq pc 60 then some (.getfield 17) else none) else (bif Nat.blt pc 64 then (bif Nat.beq pc 63 then some (.iload_n 2) else none) else (bif Nat.beq pc 64 then some (.iload 5) else none)))) else (bif Nat.blt pc 73 then (bif Nat.blt pc 67 then (bif Nat.beq pc 66 then some (.iastore) else none) else (bif Nat.blt pc 70 then (bif Nat.beq pc 67 then some (.iinc 3 1) else none) else (bif Nat.beq pc 70 then some (.iinc 4 1) else none))) else (bif Nat.blt pc 76 then (bif Nat.beq pc 73 then some (.goto (-61)) else none) else (bif Nat.blt pc 77 then (bif Nat.beq pc 76 then some (.iload_n 3) else none) else (bif Nat.beq pc 77 then some (.ireturn) else none)))))))
def px_a_Circles_leastOf (pc : Nat) : Option Instr := (bif Nat.blt pc 12 then (bif Nat.blt pc 5 then (bif Nat.blt pc 1 then (bif Nat.beq pc 0 then some (.iload_n 1) else none) else (bif Nat.blt pc 4 then (bif Nat.beq pc 1 then some (.ifCond .lt 19) else none) else (bif Nat.beq pc 4 then some (.iload_n 1) else none))) else (bif Nat.blt pc 8 then (bif Nat.beq pc 5 then some (.sipush 208) else none) else (bif Nat.blt pc 11 then (bif Nat.beq pc 8 then some (.if_icmp .ge 12) else none) else (bif Nat.beq pc 11 then some (.aload_n 0) else none)))) else (bif Nat.blt pc 17 then (bif Nat.blt pc 15 then (bif Nat.beq pc 12 then some (.getfield 17) else none) else (bif Nat.blt pc 16 then (bif Nat.beq pc 15 then some (.iload_n 1) else none) else (bif Nat.beq pc 16 then some (.iaload) else none))) else (bif Nat.blt pc 20 then (bif Nat.beq pc 17 then some (.goto 4) else none) else (bif Nat.blt pc 21 then (bif Nat.beq pc 20 then some (.iconst (-1)) else none) else (bif Nat.beq pc 21 then some (.ireturn) else none)))))
def px_a_Circles_circleCount (pc : Nat) : Option Instr := (bif Nat.blt pc 1 then (bif Nat.beq pc 0 then some (.aload_n 0) else none) else (bif Nat.blt pc 4 then (bif Nat.beq pc 1 then some (.getfield 28) else none) else (bif Nat.beq pc 4 then some (.ireturn) else none)))
def px_a_Circles_selfCount (pc : Nat) : Option Instr := (bif Nat.blt pc 1 then (bif Nat.beq pc 0 then some (.aload_n 0) else none) else (bif Nat.blt pc 4 then (bif Nat.beq pc 1 then some (.getfield 31) else none) else (bif Nat.beq pc 4 then some (.ireturn) else none)))
def px_a_Expression_init (pc : Nat) : Option Instr := (bif Nat.blt pc 32 then (bif Nat.blt pc 17 then (bif Nat.blt pc 6 then (bif Nat.blt pc 4 then (bif Nat.blt pc 1 then (bif Nat.beq pc 0 then some (.aload_n 0) else none) else (bif Nat.beq pc 1 then some (.invokespecial 3) else none)) else (bif Nat.blt pc 5 then (bif Nat.beq pc 4 then some (.aload_n 0) else none) else (bif Nat.beq pc 5 then some (.iconst 0) else none))) else (bif Nat.blt pc 10 then (bif Nat.blt pc 9 then (bif Nat.beq pc 6 then some (.putfield 9) else none) else (bif Nat.beq pc 9 then some (.aload_n 0) else none)) else (bif Nat.blt pc 13 then (bif Nat.beq pc 10 then some (.new 15) else none) else (bif Nat.blt pc 14 then (bif Nat.beq pc 13 then some (.dup) else none) else (bif Nat.beq pc 14 then some (.invokespecial 17) else none))))) else (bif Nat.blt pc 25 then (bif Nat.blt pc 21 then (bif Nat.blt pc 20 then (bif Nat.beq pc 17 then some (.putfield 18) else none) else (bif Nat.beq pc 20 then some (.iload_n 1) else none)) else (bif Nat.blt pc 24 then (bif Nat.beq pc 21 then some (.ifCond .ge 7) else none) else (bif Nat.beq pc 24 then some (.iconst 0) else none))) else (bif Nat.blt pc 29 then (bif Nat.blt pc 28 then (bif Nat.beq pc 25 then some (.goto 4) else none) else (bif Nat.beq pc 28 then some (.iload_n 1) else none)) else (bif Nat.blt pc 30 then (bif Nat.beq pc 29 then some (.istore_n 2) else none) else (bif Nat.blt pc 31 then (bif Nat.beq pc 30 then some (.aload_n 0) else none) else (bif Nat.beq pc 31 then some (.iload_n 2) else none)))))) else (bif Nat.blt pc 48 then (bif Nat.blt pc 39 then (bif Nat.blt pc 37 then (bif Nat.blt pc 34 then (bif Nat.beq pc 32 then some (.newarray .int) else none) else (bif Nat.beq pc 34 then some (.putfield 22) else none)) else (bif Nat.blt pc 38 then (bif Nat.beq pc 37 then some (.aload_n 0) else none) else (bif Nat.beq pc 38 then some (.iload_n 2) else none))) else (bif Nat.blt pc 44 then (bif Nat.blt pc 41 then (bif Nat.beq pc 39 then some (.newarray .int) else none) else (bif Nat.beq pc 41 then some (.putfield 26) else none)) else (bif Nat.blt pc 45 then (bif Nat.beq pc 44 then some (.aload_n 0) else none) else (bif Nat.blt pc 46 then (bif Nat.beq pc 45 then some (.iload_n 2) else none) else (bif Nat.beq pc 46 then some (.newarray .int) else none))))) else (bif Nat.blt pc 58 then (bif Nat.blt pc 52 then (bif Nat.blt pc 51 then (bif Nat.beq pc 48 then some (.putfield 29) else none) else (bif Nat.beq pc 51 then some (.aload_n 0) else none)) else (bif Nat.blt pc 53 then (bif Nat.beq pc 52 then some (.iload_n 2) else none) else (bif Nat.blt pc 55 then (bif Nat.beq pc 53 then some (.newarray .int) else none) else (bif Nat.beq pc 55 then some (.putfield 32) else none)))) else (bif Nat.blt pc 60 then (bif Nat.blt pc 59 then (bif Nat.beq pc 58 then some (.aload_n 0) else none) else (bif Nat.beq pc 59 then some (.iload_n 2) else none)) else (bif Nat.blt pc 62 then (bif Nat.beq pc 60 then some (.newarray .int) else none) else (bif Nat.blt pc 65 then (bif Nat.beq pc 62 then some (.putfield 35) else none) else (bif Nat.beq pc 65 then some (.return_) else none)))))))
def px_a_Expression_add (pc : Nat) : Option Instr := (bif Nat.blt pc 35 then (bif Nat.blt pc 18 then (bif Nat.blt pc 9 then (bif Nat.blt pc 4 then (bif Nat.blt pc 1 then (bif Nat.beq pc 0 then some (.aload_n 0) else none) else (bif Nat.beq pc 1 then some (.getfield 9) else none)) else (bif Nat.blt pc 5 then (bif Nat.beq pc 4 then some (.aload_n 0) else none) else (bif Nat.blt pc 8 then (bif Nat.beq pc 5 then some (.getfield 22) else none) else (bif Nat.beq pc 8 then some (.arraylength) else none)))) else (bif Nat.blt pc 13 then (bif Nat.blt pc 12 then (bif Nat.beq pc 9 then some (.if_icmp .lt 5) else none) else (bif Nat.beq pc 12 then some (.iconst (-1)) else none)) else (bif Nat.blt pc 14 then (bif Nat.beq pc 13 then some (.ireturn) else none) else (bif Nat.blt pc 15 then (bif Nat.beq pc 14 then some (.aload_n 0) else none) else (bif Nat.beq pc 15 then some (.getfield 22) else none))))) else (bif Nat.blt pc 25 then (bif Nat.blt pc 22 then (bif Nat.blt pc 19 then (bif Nat.beq pc 18 then some (.aload_n 0) else none) else (bif Nat.beq pc 19 then some (.getfield 9) else none)) else (bif Nat.blt pc 23 then (bif Nat.beq pc 22 then some (.iload_n 1) else none) else (bif Nat.blt pc 24 then (bif Nat.beq pc 23 then some (.iastore) else none) else (bif Nat.beq pc 24 then some (.aload_n 0) else none)))) else (bif Nat.blt pc 32 then (bif Nat.blt pc 28 then (bif Nat.beq pc 25 then some (.getfield 26) else none) else (bif Nat.blt pc 29 then (bif Nat.beq pc 28 then some (.aload_n 0) else none) else (bif Nat.beq pc 29 then some (.getfield 9) else none))) else (bif Nat.blt pc 33 then (bif Nat.beq pc 32 then some (.iload_n 2) else none) else (bif Nat.blt pc 34 then (bif Nat.beq pc 33 then some (.iastore) else none) else (bif Nat.beq pc 34 then some (.aload_n 0) else none)))))) else (bif Nat.blt pc 55 then (bif Nat.blt pc 44 then (bif Nat.blt pc 39 then (bif Nat.blt pc 38 then (bif Nat.beq pc 35 then some (.getfield 29) else none) else (bif Nat.beq pc 38 then some (.aload_n 0) else none)) else (bif Nat.blt pc 42 then (bif Nat.beq pc 39 then some (.getfield 9) else none) else (bif Nat.blt pc 43 then (bif Nat.beq pc 42 then some (.iload_n 3) else none) else (bif Nat.beq pc 43 then some (.iastore) else none)))) else (bif Nat.blt pc 49 then (bif Nat.blt pc 45 then (bif Nat.beq pc 44 then some (.aload_n 0) else none) else (bif Nat.blt pc 48 then (bif Nat.beq pc 45 then some (.getfield 32) else none) else (bif Nat.beq pc 48 then some (.aload_n 0) else none))) else (bif Nat.blt pc 52 then (bif Nat.beq pc 49 then some (.getfield 9) else none) else (bif Nat.blt pc 54 then (bif Nat.beq pc 52 then some (.iload 4) else none) else (bif Nat.beq pc 54 then some (.iastore) else none))))) else (bif Nat.blt pc 62 then (bif Nat.blt pc 57 then (bif Nat.blt pc 56 then (bif Nat.beq pc 55 then some (.aload_n 0) else none) else (bif Nat.beq pc 56 then some (.dup) else none)) else (bif Nat.blt pc 60 then (bif Nat.beq pc 57 then some (.getfield 9) else none) else (bif Nat.blt pc 61 then (bif Nat.beq pc 60 then some (.iconst 1) else none) else (bif Nat.beq pc 61 then some (.iadd) else none)))) else (bif Nat.blt pc 69 then (bif Nat.blt pc 65 then (bif Nat.beq pc 62 then some (.putfield 9) else none) else (bif Nat.blt pc 66 then (bif Nat.beq pc 65 then some (.aload_n 0) else none) else (bif Nat.beq pc 66 then some (.getfield 9) else none))) else (bif Nat.blt pc 70 then (bif Nat.beq pc 69 then some (.iconst 1) else none) else (bif Nat.blt pc 71 then (bif Nat.beq pc 70 then some (.isub) else none) else (bif Nat.beq pc 71 then some (.ireturn) else none)))))))
def px_a_Expression_workOut (pc : Nat) : Option Instr := (bif Nat.blt pc 24 then (bif Nat.blt pc 11 then (bif Nat.blt pc 3 then (bif Nat.blt pc 1 then (bif Nat.beq pc 0 then some (.iconst 0) else none) else (bif Nat.blt pc 2 then (bif Nat.beq pc 1 then some (.istore_n 2) else none) else (bif Nat.beq pc 2 then some (.iload_n 2) else none))) else (bif Nat.blt pc 7 then (bif Nat.blt pc 4 then (bif Nat.beq pc 3 then some (.aload_n 0) else none) else (bif Nat.beq pc 4 then some (.getfield 9) else none)) else (bif Nat.blt pc 10 then (bif Nat.beq pc 7 then some (.if_icmp .ge 30) else none) else (bif Nat.beq pc 10 then some (.iload_n 2) else none)))) else (bif Nat.blt pc 16 then (bif Nat.blt pc 12 then (bif Nat.beq pc 11 then some (.aload_n 0) else none) else (bif Nat.blt pc 15 then (bif Nat.beq pc 12 then some (.getfield 35) else none) else (bif Nat.beq pc 15 then some (.arraylength) else none))) else (bif Nat.blt pc 20 then (bif Nat.blt pc 19 then (bif Nat.beq pc 16 then some (.if_icmp .ge 21) else none) else (bif Nat.beq pc 19 then some (.aload_n 0) else none)) else (bif Nat.blt pc 23 then (bif Nat.beq pc 20 then some (.getfield 35) else none) else (bif Nat.beq pc 23 then some (.iload_n 2) else none))))) else (bif Nat.blt pc 37 then (bif Nat.blt pc 27 then (bif Nat.blt pc 25 then (bif Nat.beq pc 24 then some (.aload_n 0) else none) else (bif Nat.blt pc 26 then (bif Nat.beq pc 25 then some (.iload_n 2) else none) else (bif Nat.beq pc 26 then some (.aload_n 1) else none))) else (bif Nat.blt pc 31 then (bif Nat.blt pc 30 then (bif Nat.beq pc 27 then some (.invokevirtual 38) else none) else (bif Nat.beq pc 30 then some (.iastore) else none)) else (bif Nat.blt pc 34 then (bif Nat.beq pc 31 then some (.iinc 2 1) else none) else (bif Nat.beq pc 34 then some (.goto (-32)) else none)))) else (bif Nat.blt pc 42 then (bif Nat.blt pc 38 then (bif Nat.beq pc 37 then some (.aload_n 0) else none) else (bif Nat.blt pc 39 then (bif Nat.beq pc 38 then some (.aload_n 0) else none) else (bif Nat.beq pc 39 then some (.getfield 9) else none))) else (bif Nat.blt pc 44 then (bif Nat.blt pc 43 then (bif Nat.beq pc 42 then some (.iconst 1) else none) else (bif Nat.beq pc 43 then some (.isub) else none)) else (bif Nat.blt pc 47 then (bif Nat.beq pc 44 then some (.invokevirtual 42) else none) else (bif Nat.beq pc 47 then some (.ireturn) else none))))))
def px_a_Expression_valueOf (pc : Nat) : Option Instr := (bif Nat.blt pc 85 then (bif Nat.blt pc 64 then (bif Nat.blt pc 11 then (bif Nat.blt pc 5 then (bif Nat.blt pc 1 then (bif Nat.beq pc 0 then some (.aload_n 0) else none) else (bif Nat.blt pc 4 then (bif Nat.beq pc 1 then some (.getfield 26) else none) else (bif Nat.beq pc 4 then some (.iload_n 1) else none))) else (bif Nat.blt pc 7 then (bif Nat.blt pc 6 then (bif Nat.beq pc 5 then some (.iaload) else none) else (bif Nat.beq pc 6 then some (.istore_n 3) else none)) else (bif Nat.blt pc 8 then (bif Nat.beq pc 7 then some (.aload_n 0) else none) else (bif Nat.beq pc 8 then some (.getfield 29) else none)))) else (bif Nat.blt pc 16 then (bif Nat.blt pc 13 then (bif Nat.blt pc 12 then (bif Nat.beq pc 11 then some (.iload_n 1) else none) else (bif Nat.beq pc 12 then some (.iaload) else none)) else (bif Nat.blt pc 15 then (bif Nat.beq pc 13 then some (.istore 4) else none) else (bif Nat.beq pc 15 then some (.aload_n 0) else none))) else (bif Nat.blt pc 20 then (bif Nat.blt pc 19 then (bif Nat.beq pc 16 then some (.getfield 22) else none) else (bif Nat.beq pc 19 then some (.iload_n 1) else none)) else (bif Nat.blt pc 21 then (bif Nat.beq pc 20 then some (.iaload) else none) else (bif Nat.beq pc 21 then some (.tableswitch 104 0 6 #[43, 47, 53, 62, 71, 80, 91]) else none))))) else (bif Nat.blt pc 73 then (bif Nat.blt pc 67 then (bif Nat.blt pc 65 then (bif Nat.beq pc 64 then some (.iconst 1) else none) else (bif Nat.blt pc 66 then (bif Nat.beq pc 65 then some (.iload_n 3) else none) else (bif Nat.beq pc 66 then some (.ishl) else none))) else (bif Nat.blt pc 69 then (bif Nat.blt pc 68 then (bif Nat.beq pc 67 then some (.ireturn) else none) else (bif Nat.beq pc 68 then some (.aload_n 2) else none)) else (bif Nat.blt pc 70 then (bif Nat.beq pc 69 then some (.iload_n 3) else none) else (bif Nat.beq pc 70 then some (.invokevirtual 46) else none)))) else (bif Nat.blt pc 79 then (bif Nat.blt pc 75 then (bif Nat.blt pc 74 then (bif Nat.beq pc 73 then some (.ireturn) else none) else (bif Nat.beq pc 74 then some (.aload_n 0) else none)) else (bif Nat.blt pc 76 then (bif Nat.beq pc 75 then some (.iload_n 3) else none) else (bif Nat.beq pc 76 then some (.invokevirtual 42) else none))) else (bif Nat.blt pc 83 then (bif Nat.blt pc 82 then (bif Nat.beq pc 79 then some (.invokestatic 51) else none) else (bif Nat.beq pc 82 then some (.ireturn) else none)) else (bif Nat.blt pc 84 then (bif Nat.beq pc 83 then some (.aload_n 0) else none) else (bif Nat.beq pc 84 then some (.iload_n 3) else none)))))) else (bif Nat.blt pc 113 then (bif Nat.blt pc 100 then (bif Nat.blt pc 92 then (bif Nat.blt pc 88 then (bif Nat.beq pc 85 then some (.invokevirtual 42) else none) else (bif Nat.blt pc 91 then (bif Nat.beq pc 88 then some (.invokestatic 56) else none) else (bif Nat.beq pc 91 then some (.ireturn) else none))) else (bif Nat.blt pc 94 then (bif Nat.blt pc 93 then (bif Nat.beq pc 92 then some (.aload_n 0) else none) else (bif Nat.beq pc 93 then some (.iload_n 3) else none)) else (bif Nat.blt pc 97 then (bif Nat.beq pc 94 then some (.invokevirtual 42) else none) else (bif Nat.beq pc 97 then some (.invokestatic 59) else none)))) else (bif Nat.blt pc 106 then (bif Nat.blt pc 102 then (bif Nat.blt pc 101 then (bif Nat.beq pc 100 then some (.ireturn) else none) else (bif Nat.beq pc 101 then some (.aload_n 0) else none)) else (bif Nat.blt pc 103 then (bif Nat.beq pc 102 then some (.iload_n 3) else none) else (bif Nat.beq pc 103 then some (.invokevirtual 42) else none))) else (bif Nat.blt pc 111 then (bif Nat.blt pc 108 then (bif Nat.beq pc 106 then some (.iload 4) else none) else (bif Nat.beq pc 108 then some (.invokestatic 62) else none)) else (bif Nat.blt pc 112 then (bif Nat.beq pc 111 then some (.ireturn) else none) else (bif Nat.beq pc 112 then some (.aload_n 0) else none))))) else (bif Nat.blt pc 125 then (bif Nat.blt pc 118 then (bif Nat.blt pc 114 then (bif Nat.beq pc 113 then some (.iload_n 3) else none) else (bif Nat.blt pc 117 then (bif Nat.beq pc 114 then some (.invokevirtual 42) else none) else (bif Nat.beq pc 117 then some (.aload_n 0) else none))) else (bif Nat.blt pc 123 then (bif Nat.blt pc 120 then (bif Nat.beq pc 118 then some (.iload 4) else none) else (bif Nat.beq pc 120 then some (.invokevirtual 42) else none)) else (bif Nat.blt pc 124 then (bif Nat.beq pc 123 then some (.ior) else none) else (bif Nat.beq pc 124 then some (.ireturn) else none)))) else (bif Nat.blt pc 131 then (bif Nat.blt pc 127 then (bif Nat.blt pc 126 then (bif Nat.beq pc 125 then some (.aload_n 0) else none) else (bif Nat.beq pc 126 then some (.iload_n 3) else none)) else (bif Nat.blt pc 130 then (bif Nat.beq pc 127 then some (.invokevirtual 42) else none) else (bif Nat.beq pc 130 then some (.aload_n 0) else none))) else (bif Nat.blt pc 136 then (bif Nat.blt pc 133 then (bif Nat.beq pc 131 then some (.iload 4) else none) else (bif Nat.beq pc 133 then some (.invokevirtual 42) else none)) else (bif Nat.blt pc 139 then (bif Nat.beq pc 136 then some (.invokestatic 66) else none) else (bif Nat.beq pc 139 then some (.ireturn) else none)))))))
def px_a_Expression_valueAt (pc : Nat) : Option Instr := (bif Nat.blt pc 13 then (bif Nat.blt pc 5 then (bif Nat.blt pc 1 then (bif Nat.beq pc 0 then some (.iload_n 1) else none) else (bif Nat.blt pc 4 then (bif Nat.beq pc 1 then some (.ifCond .lt 21) else none) else (bif Nat.beq pc 4 then some (.iload_n 1) else none))) else (bif Nat.blt pc 9 then (bif Nat.blt pc 6 then (bif Nat.beq pc 5 then some (.aload_n 0) else none) else (bif Nat.beq pc 6 then some (.getfield 35) else none)) else (bif Nat.blt pc 10 then (bif Nat.beq pc 9 then some (.arraylength) else none) else (bif Nat.beq pc 10 then some (.if_icmp .ge 12) else none)))) else (bif Nat.blt pc 18 then (bif Nat.blt pc 14 then (bif Nat.beq pc 13 then some (.aload_n 0) else none) else (bif Nat.blt pc 17 then (bif Nat.beq pc 14 then some (.getfield 35) else none) else (bif Nat.beq pc 17 then some (.iload_n 1) else none))) else (bif Nat.blt pc 22 then (bif Nat.blt pc 19 then (bif Nat.beq pc 18 then some (.iaload) else none) else (bif Nat.beq pc 19 then some (.goto 4) else none)) else (bif Nat.blt pc 23 then (bif Nat.beq pc 22 then some (.iconst 0) else none) else (bif Nat.beq pc 23 then some (.ireturn) else none)))))
def px_a_Expression_findFaults (pc : Nat) : Option Instr := (bif Nat.blt pc 22 then (bif Nat.blt pc 11 then (bif Nat.blt pc 3 then (bif Nat.blt pc 1 then (bif Nat.beq pc 0 then some (.iconst 0) else none) else (bif Nat.blt pc 2 then (bif Nat.beq pc 1 then some (.istore_n 3) else none) else (bif Nat.beq pc 2 then some (.iload_n 3) else none))) else (bif Nat.blt pc 7 then (bif Nat.blt pc 4 then (bif Nat.beq pc 3 then some (.aload_n 0) else none) else (bif Nat.beq pc 4 then some (.getfield 9) else none)) else (bif Nat.blt pc 10 then (bif Nat.beq pc 7 then some (.if_icmp .ge 44) else none) else (bif Nat.beq pc 10 then some (.iload_n 3) else none)))) else (bif Nat.blt pc 16 then (bif Nat.blt pc 12 then (bif Nat.beq pc 11 then some (.aload_n 0) else none) else (bif Nat.blt pc 15 then (bif Nat.beq pc 12 then some (.getfield 22) else none) else (bif Nat.beq pc 15 then some (.arraylength) else none))) else (bif Nat.blt pc 20 then (bif Nat.blt pc 19 then (bif Nat.beq pc 16 then some (.if_icmp .ge 35) else none) else (bif Nat.beq pc 19 then some (.aload_n 0) else none)) else (bif Nat.blt pc 21 then (bif Nat.beq pc 20 then some (.iload_n 3) else none) else (bif Nat.beq pc 21 then some (.aload_n 1) else none))))) else (bif Nat.blt pc 35 then (bif Nat.blt pc 29 then (bif Nat.blt pc 25 then (bif Nat.beq pc 22 then some (.invokevirtual 69) else none) else (bif Nat.blt pc 27 then (bif Nat.beq pc 25 then some (.istore 4) else none) else (bif Nat.beq pc 27 then some (.iload 4) else none))) else (bif Nat.blt pc 33 then (bif Nat.blt pc 30 then (bif Nat.beq pc 29 then some (.iconst (-1)) else none) else (bif Nat.beq pc 30 then some (.if_icmp .eq 15) else none)) else (bif Nat.blt pc 34 then (bif Nat.beq pc 33 then some (.aload_n 2) else none) else (bif Nat.beq pc 34 then some (.aload_n 0) else none)))) else (bif Nat.blt pc 42 then (bif Nat.blt pc 39 then (bif Nat.blt pc 38 then (bif Nat.beq pc 35 then some (.getfield 32) else none) else (bif Nat.beq pc 38 then some (.iload_n 3) else none)) else (bif Nat.blt pc 40 then (bif Nat.beq pc 39 then some (.iaload) else none) else (bif Nat.beq pc 40 then some (.iload 4) else none))) else (bif Nat.blt pc 48 then (bif Nat.blt pc 45 then (bif Nat.beq pc 42 then some (.invokevirtual 72) else none) else (bif Nat.beq pc 45 then some (.iinc 3 1) else none)) else (bif Nat.blt pc 51 then (bif Nat.beq pc 48 then some (.goto (-46)) else none) else (bif Nat.beq pc 51 then some (.return_) else none))))))
def px_a_Expression_faultOf (pc : Nat) : Option Instr := (bif Nat.blt pc 75 then (bif Nat.blt pc 53 then (bif Nat.blt pc 41 then (bif Nat.blt pc 5 then (bif Nat.blt pc 1 then (bif Nat.beq pc 0 then some (.aload_n 0) else none) else (bif Nat.blt pc 4 then (bif Nat.beq pc 1 then some (.getfield 22) else none) else (bif Nat.beq pc 4 then some (.iload_n 1) else none))) else (bif Nat.blt pc 6 then (bif Nat.beq pc 5 then some (.iaload) else none) else (bif Nat.blt pc 40 then (bif Nat.beq pc 6 then some (.lookupswitch 107 #[(1, 34), (3, 53), (7, 75)]) else none) else (bif Nat.beq pc 40 then some (.aload_n 2) else none)))) else (bif Nat.blt pc 46 then (bif Nat.blt pc 42 then (bif Nat.beq pc 41 then some (.aload_n 0) else none) else (bif Nat.blt pc 45 then (bif Nat.beq pc 42 then some (.getfield 26) else none) else (bif Nat.beq pc 45 then some (.iload_n 1) else none))) else (bif Nat.blt pc 47 then (bif Nat.beq pc 46 then some (.iaload) else none) else (bif Nat.blt pc 50 then (bif Nat.beq pc 47 then some (.invokevirtual 78) else none) else (bif Nat.beq pc 50 then some (.ifCond .ne 7) else none))))) else (bif Nat.blt pc 61 then (bif Nat.blt pc 58 then (bif Nat.blt pc 54 then (bif Nat.beq pc 53 then some (.iconst 2) else none) else (bif Nat.blt pc 57 then (bif Nat.beq pc 54 then some (.goto 4) else none) else (bif Nat.beq pc 57 then some (.iconst (-1)) else none))) else (bif Nat.blt pc 59 then (bif Nat.beq pc 58 then some (.ireturn) else none) else (bif Nat.blt pc 60 then (bif Nat.beq pc 59 then some (.aload_n 0) else none) else (bif Nat.beq pc 60 then some (.aload_n 0) else none)))) else (bif Nat.blt pc 66 then (bif Nat.blt pc 64 then (bif Nat.beq pc 61 then some (.getfield 26) else none) else (bif Nat.blt pc 65 then (bif Nat.beq pc 64 then some (.iload_n 1) else none) else (bif Nat.beq pc 65 then some (.iaload) else none))) else (bif Nat.blt pc 69 then (bif Nat.beq pc 66 then some (.invokevirtual 42) else none) else (bif Nat.blt pc 72 then (bif Nat.beq pc 69 then some (.invokestatic 81) else none) else (bif Nat.beq pc 72 then some (.ifCond .eq 7) else none)))))) else (bif Nat.blt pc 93 then (bif Nat.blt pc 83 then (bif Nat.blt pc 80 then (bif Nat.blt pc 76 then (bif Nat.beq pc 75 then some (.iconst 3) else none) else (bif Nat.blt pc 79 then (bif Nat.beq pc 76 then some (.goto 4) else none) else (bif Nat.beq pc 79 then some (.iconst (-1)) else none))) else (bif Nat.blt pc 81 then (bif Nat.beq pc 80 then some (.ireturn) else none) else (bif Nat.blt pc 82 then (bif Nat.beq pc 81 then some (.aload_n 0) else none) else (bif Nat.beq pc 82 then some (.aload_n 0) else none)))) else (bif Nat.blt pc 88 then (bif Nat.blt pc 86 then (bif Nat.beq pc 83 then some (.getfield 26) else none) else (bif Nat.blt pc 87 then (bif Nat.beq pc 86 then some (.iload_n 1) else none) else (bif Nat.beq pc 87 then some (.iaload) else none))) else (bif Nat.blt pc 91 then (bif Nat.beq pc 88 then some (.invokevirtual 42) else none) else (bif Nat.blt pc 92 then (bif Nat.beq pc 91 then some (.aload_n 0) else none) else (bif Nat.beq pc 92 then some (.aload_n 0) else none))))) else (bif Nat.blt pc 107 then (bif Nat.blt pc 98 then (bif Nat.blt pc 96 then (bif Nat.beq pc 93 then some (.getfield 29) else none) else (bif Nat.blt pc 97 then (bif Nat.beq pc 96 then some (.iload_n 1) else none) else (bif Nat.beq pc 97 then some (.iaload) else none))) else (bif Nat.blt pc 101 then (bif Nat.beq pc 98 then some (.invokevirtual 42) else none) else (bif Nat.blt pc 104 then (bif Nat.beq pc 101 then some (.invokestatic 85) else none) else (bif Nat.beq pc 104 then some (.ifCond .eq 7) else none)))) else (bif Nat.blt pc 112 then (bif Nat.blt pc 108 then (bif Nat.beq pc 107 then some (.iconst 4) else none) else (bif Nat.blt pc 111 then (bif Nat.beq pc 108 then some (.goto 4) else none) else (bif Nat.beq pc 111 then some (.iconst (-1)) else none))) else (bif Nat.blt pc 113 then (bif Nat.beq pc 112 then some (.ireturn) else none) else (bif Nat.blt pc 114 then (bif Nat.beq pc 113 then some (.iconst (-1)) else none) else (bif Nat.beq pc 114 then some (.ireturn) else none)))))))
def px_a_Faults_init (pc : Nat) : Option Instr := (bif Nat.blt pc 14 then (bif Nat.blt pc 6 then (bif Nat.blt pc 4 then (bif Nat.blt pc 1 then (bif Nat.beq pc 0 then some (.aload_n 0) else none) else (bif Nat.beq pc 1 then some (.invokespecial 3) else none)) else (bif Nat.blt pc 5 then (bif Nat.beq pc 4 then some (.aload_n 0) else none) else (bif Nat.beq pc 5 then some (.iconst 0) else none))) else (bif Nat.blt pc 10 then (bif Nat.blt pc 9 then (bif Nat.beq pc 6 then some (.putfield 9) else none) else (bif Nat.beq pc 9 then some (.aload_n 0) else none)) else (bif Nat.blt pc 11 then (bif Nat.beq pc 10 then some (.iload_n 1) else none) else (bif Nat.beq pc 11 then some (.ifCond .ge 7) else none)))) else (bif Nat.blt pc 20 then (bif Nat.blt pc 18 then (bif Nat.blt pc 15 then (bif Nat.beq pc 14 then some (.iconst 1) else none) else (bif Nat.beq pc 15 then some (.goto 6) else none)) else (bif Nat.blt pc 19 then (bif Nat.beq pc 18 then some (.iload_n 1) else none) else (bif Nat.beq pc 19 then some (.iconst 1) else none))) else (bif Nat.blt pc 23 then (bif Nat.blt pc 21 then (bif Nat.beq pc 20 then some (.iadd) else none) else (bif Nat.beq pc 21 then some (.newarray .int) else none)) else (bif Nat.blt pc 26 then (bif Nat.beq pc 23 then some (.putfield 15) else none) else (bif Nat.beq pc 26 then some (.return_) else none)))))
def px_a_Faults_clear (pc : Nat) : Option Instr := (bif Nat.blt pc 15 then (bif Nat.blt pc 4 then (bif Nat.blt pc 2 then (bif Nat.blt pc 1 then (bif Nat.beq pc 0 then some (.iconst 0) else none) else (bif Nat.beq pc 1 then some (.istore_n 1) else none)) else (bif Nat.blt pc 3 then (bif Nat.beq pc 2 then some (.iload_n 1) else none) else (bif Nat.beq pc 3 then some (.aload_n 0) else none))) else (bif Nat.blt pc 8 then (bif Nat.blt pc 7 then (bif Nat.beq pc 4 then some (.getfield 15) else none) else (bif Nat.beq pc 7 then some (.arraylength) else none)) else (bif Nat.blt pc 11 then (bif Nat.beq pc 8 then some (.if_icmp .ge 16) else none) else (bif Nat.blt pc 12 then (bif Nat.beq pc 11 then some (.aload_n 0) else none) else (bif Nat.beq pc 12 then some (.getfield 15) else none))))) else (bif Nat.blt pc 21 then (bif Nat.blt pc 17 then (bif Nat.blt pc 16 then (bif Nat.beq pc 15 then some (.iload_n 1) else none) else (bif Nat.beq pc 16 then some (.iconst 0) else none)) else (bif Nat.blt pc 18 then (bif Nat.beq pc 17 then some (.iastore) else none) else (bif Nat.beq pc 18 then some (.iinc 1 1) else none))) else (bif Nat.blt pc 25 then (bif Nat.blt pc 24 then (bif Nat.beq pc 21 then some (.goto (-19)) else none) else (bif Nat.beq pc 24 then some (.aload_n 0) else none)) else (bif Nat.blt pc 26 then (bif Nat.beq pc 25 then some (.iconst 0) else none) else (bif Nat.blt pc 29 then (bif Nat.beq pc 26 then some (.putfield 9) else none) else (bif Nat.beq pc 29 then some (.return_) else none))))))
def px_a_Faults_add (pc : Nat) : Option Instr := (bif Nat.blt pc 22 then (bif Nat.blt pc 10 then (bif Nat.blt pc 5 then (bif Nat.blt pc 1 then (bif Nat.beq pc 0 then some (.iload_n 1) else none) else (bif Nat.blt pc 4 then (bif Nat.beq pc 1 then some (.ifCond .lt 38) else none) else (bif Nat.beq pc 4 then some (.iload_n 1) else none))) else (bif Nat.blt pc 6 then (bif Nat.beq pc 5 then some (.aload_n 0) else none) else (bif Nat.blt pc 9 then (bif Nat.beq pc 6 then some (.getfield 15) else none) else (bif Nat.beq pc 9 then some (.arraylength) else none)))) else (bif Nat.blt pc 17 then (bif Nat.blt pc 13 then (bif Nat.beq pc 10 then some (.if_icmp .ge 29) else none) else (bif Nat.blt pc 14 then (bif Nat.beq pc 13 then some (.aload_n 0) else none) else (bif Nat.beq pc 14 then some (.getfield 15) else none))) else (bif Nat.blt pc 18 then (bif Nat.beq pc 17 then some (.iload_n 1) else none) else (bif Nat.blt pc 19 then (bif Nat.beq pc 18 then some (.iaload) else none) else (bif Nat.beq pc 19 then some (.ifCond .ne 20) else none))))) else (bif Nat.blt pc 30 then (bif Nat.blt pc 27 then (bif Nat.blt pc 23 then (bif Nat.beq pc 22 then some (.aload_n 0) else none) else (bif Nat.blt pc 26 then (bif Nat.beq pc 23 then some (.getfield 15) else none) else (bif Nat.beq pc 26 then some (.iload_n 1) else none))) else (bif Nat.blt pc 28 then (bif Nat.beq pc 27 then some (.iload_n 2) else none) else (bif Nat.blt pc 29 then (bif Nat.beq pc 28 then some (.iastore) else none) else (bif Nat.beq pc 29 then some (.aload_n 0) else none)))) else (bif Nat.blt pc 35 then (bif Nat.blt pc 31 then (bif Nat.beq pc 30 then some (.dup) else none) else (bif Nat.blt pc 34 then (bif Nat.beq pc 31 then some (.getfield 9) else none) else (bif Nat.beq pc 34 then some (.iconst 1) else none))) else (bif Nat.blt pc 36 then (bif Nat.beq pc 35 then some (.iadd) else none) else (bif Nat.blt pc 39 then (bif Nat.beq pc 36 then some (.putfield 9) else none) else (bif Nat.beq pc 39 then some (.return_) else none))))))
def px_a_Faults_size (pc : Nat) : Option Instr := (bif Nat.blt pc 1 then (bif Nat.beq pc 0 then some (.aload_n 0) else none) else (bif Nat.blt pc 4 then (bif Nat.beq pc 1 then some (.getfield 9) else none) else (bif Nat.beq pc 4 then some (.ireturn) else none)))
def px_a_Faults_placeOf (pc : Nat) : Option Instr := (bif Nat.blt pc 17 then (bif Nat.blt pc 5 then (bif Nat.blt pc 2 then (bif Nat.blt pc 1 then (bif Nat.beq pc 0 then some (.iload_n 1) else none) else (bif Nat.beq pc 1 then some (.istore_n 2) else none)) else (bif Nat.blt pc 3 then (bif Nat.beq pc 2 then some (.iconst 0) else none) else (bif Nat.blt pc 4 then (bif Nat.beq pc 3 then some (.istore_n 3) else none) else (bif Nat.beq pc 4 then some (.iload_n 3) else none)))) else (bif Nat.blt pc 10 then (bif Nat.blt pc 6 then (bif Nat.beq pc 5 then some (.aload_n 0) else none) else (bif Nat.blt pc 9 then (bif Nat.beq pc 6 then some (.getfield 15) else none) else (bif Nat.beq pc 9 then some (.arraylength) else none))) else (bif Nat.blt pc 13 then (bif Nat.beq pc 10 then some (.if_icmp .ge 27) else none) else (bif Nat.blt pc 14 then (bif Nat.beq pc 13 then some (.aload_n 0) else none) else (bif Nat.beq pc 14 then some (.getfield 15) else none))))) else (bif Nat.blt pc 27 then (bif Nat.blt pc 22 then (bif Nat.blt pc 18 then (bif Nat.beq pc 17 then some (.iload_n 3) else none) else (bif Nat.blt pc 19 then (bif Nat.beq pc 18 then some (.iaload) else none) else (bif Nat.beq pc 19 then some (.ifCond .eq 12) else none))) else (bif Nat.blt pc 23 then (bif Nat.beq pc 22 then some (.iload_n 2) else none) else (bif Nat.blt pc 26 then (bif Nat.beq pc 23 then some (.ifCond .ne 5) else none) else (bif Nat.beq pc 26 then some (.iload_n 3) else none)))) else (bif Nat.blt pc 34 then (bif Nat.blt pc 28 then (bif Nat.beq pc 27 then some (.ireturn) else none) else (bif Nat.blt pc 31 then (bif Nat.beq pc 28 then some (.iinc 2 (-1)) else none) else (bif Nat.beq pc 31 then some (.iinc 3 1) else none))) else (bif Nat.blt pc 37 then (bif Nat.beq pc 34 then some (.goto (-30)) else none) else (bif Nat.blt pc 38 then (bif Nat.beq pc 37 then some (.iconst (-1)) else none) else (bif Nat.beq pc 38 then some (.ireturn) else none))))))
def px_a_Faults_codeOf (pc : Nat) : Option Instr := (bif Nat.blt pc 15 then (bif Nat.blt pc 6 then (bif Nat.blt pc 2 then (bif Nat.blt pc 1 then (bif Nat.beq pc 0 then some (.aload_n 0) else none) else (bif Nat.beq pc 1 then some (.iload_n 1) else none)) else (bif Nat.blt pc 5 then (bif Nat.beq pc 2 then some (.invokevirtual 19) else none) else (bif Nat.beq pc 5 then some (.istore_n 2) else none))) else (bif Nat.blt pc 10 then (bif Nat.blt pc 7 then (bif Nat.beq pc 6 then some (.iload_n 2) else none) else (bif Nat.beq pc 7 then some (.ifCond .lt 21) else none)) else (bif Nat.blt pc 11 then (bif Nat.beq pc 10 then some (.iload_n 2) else none) else (bif Nat.blt pc 12 then (bif Nat.beq pc 11 then some (.aload_n 0) else none) else (bif Nat.beq pc 12 then some (.getfield 15) else none))))) else (bif Nat.blt pc 23 then (bif Nat.blt pc 19 then (bif Nat.blt pc 16 then (bif Nat.beq pc 15 then some (.arraylength) else none) else (bif Nat.beq pc 16 then some (.if_icmp .ge 12) else none)) else (bif Nat.blt pc 20 then (bif Nat.beq pc 19 then some (.aload_n 0) else none) else (bif Nat.beq pc 20 then some (.getfield 15) else none))) else (bif Nat.blt pc 25 then (bif Nat.blt pc 24 then (bif Nat.beq pc 23 then some (.iload_n 2) else none) else (bif Nat.beq pc 24 then some (.iaload) else none)) else (bif Nat.blt pc 28 then (bif Nat.beq pc 25 then some (.goto 4) else none) else (bif Nat.blt pc 29 then (bif Nat.beq pc 28 then some (.iconst (-1)) else none) else (bif Nat.beq pc 29 then some (.ireturn) else none))))))
def px_a_History_init (pc : Nat) : Option Instr := (bif Nat.blt pc 13 then (bif Nat.blt pc 5 then (bif Nat.blt pc 1 then (bif Nat.beq pc 0 then some (.aload_n 0) else none) else (bif Nat.blt pc 4 then (bif Nat.beq pc 1 then some (.invokespecial 3) else none) else (bif Nat.beq pc 4 then some (.aload_n 0) else none))) else (bif Nat.blt pc 9 then (bif Nat.blt pc 7 then (bif Nat.beq pc 5 then some (.bipush 16) else none) else (bif Nat.beq pc 7 then some (.newarray .int) else none)) else (bif Nat.blt pc 12 then (bif Nat.beq pc 9 then some (.putfield 9) else none) else (bif Nat.beq pc 12 then some (.aload_n 0) else none)))) else (bif Nat.blt pc 21 then (bif Nat.blt pc 15 then (bif Nat.beq pc 13 then some (.bipush 16) else none) else (bif Nat.blt pc 18 then (bif Nat.beq pc 15 then some (.anewarray 15) else none) else (bif Nat.beq pc 18 then some (.putfield 17) else none))) else (bif Nat.blt pc 23 then (bif Nat.blt pc 22 then (bif Nat.beq pc 21 then some (.aload_n 0) else none) else (bif Nat.beq pc 22 then some (.iconst 0) else none)) else (bif Nat.blt pc 26 then (bif Nat.beq pc 23 then some (.putfield 21) else none) else (bif Nat.beq pc 26 then some (.return_) else none)))))
def px_a_History_keep (pc : Nat) : Option Instr := (bif Nat.blt pc 23 then (bif Nat.blt pc 13 then (bif Nat.blt pc 6 then (bif Nat.blt pc 1 then (bif Nat.beq pc 0 then some (.aload_n 0) else none) else (bif Nat.blt pc 4 then (bif Nat.beq pc 1 then some (.getfield 21) else none) else (bif Nat.beq pc 4 then some (.bipush 16) else none))) else (bif Nat.blt pc 9 then (bif Nat.beq pc 6 then some (.if_icmp .lt 7) else none) else (bif Nat.blt pc 10 then (bif Nat.beq pc 9 then some (.aload_n 0) else none) else (bif Nat.beq pc 10 then some (.invokevirtual 25) else none)))) else (bif Nat.blt pc 18 then (bif Nat.blt pc 14 then (bif Nat.beq pc 13 then some (.aload_n 0) else none) else (bif Nat.blt pc 17 then (bif Nat.beq pc 14 then some (.getfield 9) else none) else (bif Nat.beq pc 17 then some (.aload_n 0) else none))) else (bif Nat.blt pc 21 then (bif Nat.beq pc 18 then some (.getfield 21) else none) else (bif Nat.blt pc 22 then (bif Nat.beq pc 21 then some (.iload_n 1) else none) else (bif Nat.beq pc 22 then some (.iastore) else none))))) else (bif Nat.blt pc 33 then (bif Nat.blt pc 28 then (bif Nat.blt pc 24 then (bif Nat.beq pc 23 then some (.aload_n 0) else none) else (bif Nat.blt pc 27 then (bif Nat.beq pc 24 then some (.getfield 17) else none) else (bif Nat.beq pc 27 then some (.aload_n 0) else none))) else (bif Nat.blt pc 31 then (bif Nat.beq pc 28 then some (.getfield 21) else none) else (bif Nat.blt pc 32 then (bif Nat.beq pc 31 then some (.aload_n 2) else none) else (bif Nat.beq pc 32 then some (.aastore) else none)))) else (bif Nat.blt pc 38 then (bif Nat.blt pc 34 then (bif Nat.beq pc 33 then some (.aload_n 0) else none) else (bif Nat.blt pc 35 then (bif Nat.beq pc 34 then some (.dup) else none) else (bif Nat.beq pc 35 then some (.getfield 21) else none))) else (bif Nat.blt pc 40 then (bif Nat.blt pc 39 then (bif Nat.beq pc 38 then some (.iconst 1) else none) else (bif Nat.beq pc 39 then some (.iadd) else none)) else (bif Nat.blt pc 43 then (bif Nat.beq pc 40 then some (.putfield 21) else none) else (bif Nat.beq pc 43 then some (.return_) else none))))))
def px_a_History_loseOldest (pc : Nat) : Option Instr := (bif Nat.blt pc 22 then (bif Nat.blt pc 12 then (bif Nat.blt pc 3 then (bif Nat.blt pc 1 then (bif Nat.beq pc 0 then some (.iconst 1) else none) else (bif Nat.blt pc 2 then (bif Nat.beq pc 1 then some (.istore_n 1) else none) else (bif Nat.beq pc 2 then some (.iload_n 1) else none))) else (bif Nat.blt pc 8 then (bif Nat.blt pc 5 then (bif Nat.beq pc 3 then some (.bipush 16) else none) else (bif Nat.beq pc 5 then some (.if_icmp .ge 37) else none)) else (bif Nat.blt pc 9 then (bif Nat.beq pc 8 then some (.aload_n 0) else none) else (bif Nat.beq pc 9 then some (.getfield 9) else none)))) else (bif Nat.blt pc 16 then (bif Nat.blt pc 14 then (bif Nat.blt pc 13 then (bif Nat.beq pc 12 then some (.iload_n 1) else none) else (bif Nat.beq pc 13 then some (.iconst 1) else none)) else (bif Nat.blt pc 15 then (bif Nat.beq pc 14 then some (.isub) else none) else (bif Nat.beq pc 15 then some (.aload_n 0) else none))) else (bif Nat.blt pc 20 then (bif Nat.blt pc 19 then (bif Nat.beq pc 16 then some (.getfield 9) else none) else (bif Nat.beq pc 19 then some (.iload_n 1) else none)) else (bif Nat.blt pc 21 then (bif Nat.beq pc 20 then some (.iaload) else none) else (bif Nat.beq pc 21 then some (.iastore) else none))))) else (bif Nat.blt pc 34 then (bif Nat.blt pc 28 then (bif Nat.blt pc 26 then (bif Nat.blt pc 23 then (bif Nat.beq pc 22 then some (.aload_n 0) else none) else (bif Nat.beq pc 23 then some (.getfield 17) else none)) else (bif Nat.blt pc 27 then (bif Nat.beq pc 26 then some (.iload_n 1) else none) else (bif Nat.beq pc 27 then some (.iconst 1) else none))) else (bif Nat.blt pc 30 then (bif Nat.blt pc 29 then (bif Nat.beq pc 28 then some (.isub) else none) else (bif Nat.beq pc 29 then some (.aload_n 0) else none)) else (bif Nat.blt pc 33 then (bif Nat.beq pc 30 then some (.getfield 17) else none) else (bif Nat.beq pc 33 then some (.iload_n 1) else none)))) else (bif Nat.blt pc 42 then (bif Nat.blt pc 36 then (bif Nat.blt pc 35 then (bif Nat.beq pc 34 then some (.aaload) else none) else (bif Nat.beq pc 35 then some (.aastore) else none)) else (bif Nat.blt pc 39 then (bif Nat.beq pc 36 then some (.iinc 1 1) else none) else (bif Nat.beq pc 39 then some (.goto (-37)) else none))) else (bif Nat.blt pc 45 then (bif Nat.blt pc 43 then (bif Nat.beq pc 42 then some (.aload_n 0) else none) else (bif Nat.beq pc 43 then some (.bipush 15) else none)) else (bif Nat.blt pc 48 then (bif Nat.beq pc 45 then some (.putfield 21) else none) else (bif Nat.beq pc 48 then some (.return_) else none))))))
def px_a_History_forget (pc : Nat) : Option Instr := (bif Nat.blt pc 13 then (bif Nat.blt pc 5 then (bif Nat.blt pc 2 then (bif Nat.blt pc 1 then (bif Nat.beq pc 0 then some (.iconst 0) else none) else (bif Nat.beq pc 1 then some (.istore_n 1) else none)) else (bif Nat.blt pc 3 then (bif Nat.beq pc 2 then some (.iload_n 1) else none) else (bif Nat.beq pc 3 then some (.bipush 16) else none))) else (bif Nat.blt pc 9 then (bif Nat.blt pc 8 then (bif Nat.beq pc 5 then some (.if_icmp .ge 16) else none) else (bif Nat.beq pc 8 then some (.aload_n 0) else none)) else (bif Nat.blt pc 12 then (bif Nat.beq pc 9 then some (.getfield 17) else none) else (bif Nat.beq pc 12 then some (.iload_n 1) else none)))) else (bif Nat.blt pc 21 then (bif Nat.blt pc 15 then (bif Nat.blt pc 14 then (bif Nat.beq pc 13 then some (.aconst_null) else none) else (bif Nat.beq pc 14 then some (.aastore) else none)) else (bif Nat.blt pc 18 then (bif Nat.beq pc 15 then some (.iinc 1 1) else none) else (bif Nat.beq pc 18 then some (.goto (-16)) else none))) else (bif Nat.blt pc 23 then (bif Nat.blt pc 22 then (bif Nat.beq pc 21 then some (.aload_n 0) else none) else (bif Nat.beq pc 22 then some (.iconst 0) else none)) else (bif Nat.blt pc 26 then (bif Nat.beq pc 23 then some (.putfield 21) else none) else (bif Nat.beq pc 26 then some (.return_) else none)))))
def px_a_History_size (pc : Nat) : Option Instr := (bif Nat.blt pc 1 then (bif Nat.beq pc 0 then some (.aload_n 0) else none) else (bif Nat.blt pc 4 then (bif Nat.beq pc 1 then some (.getfield 21) else none) else (bif Nat.beq pc 4 then some (.ireturn) else none)))
def px_a_History_lastPlace (pc : Nat) : Option Instr := (bif Nat.blt pc 12 then (bif Nat.blt pc 7 then (bif Nat.blt pc 1 then (bif Nat.beq pc 0 then some (.aload_n 0) else none) else (bif Nat.blt pc 4 then (bif Nat.beq pc 1 then some (.getfield 21) else none) else (bif Nat.beq pc 4 then some (.ifCond .le 17) else none))) else (bif Nat.blt pc 8 then (bif Nat.beq pc 7 then some (.aload_n 0) else none) else (bif Nat.blt pc 11 then (bif Nat.beq pc 8 then some (.getfield 9) else none) else (bif Nat.beq pc 11 then some (.aload_n 0) else none)))) else (bif Nat.blt pc 17 then (bif Nat.blt pc 15 then (bif Nat.beq pc 12 then some (.getfield 21) else none) else (bif Nat.blt pc 16 then (bif Nat.beq pc 15 then some (.iconst 1) else none) else (bif Nat.beq pc 16 then some (.isub) else none))) else (bif Nat.blt pc 21 then (bif Nat.blt pc 18 then (bif Nat.beq pc 17 then some (.iaload) else none) else (bif Nat.beq pc 18 then some (.goto 4) else none)) else (bif Nat.blt pc 22 then (bif Nat.beq pc 21 then some (.iconst (-1)) else none) else (bif Nat.beq pc 22 then some (.ireturn) else none)))))
def px_a_History_lastLine (pc : Nat) : Option Instr := (bif Nat.blt pc 12 then (bif Nat.blt pc 7 then (bif Nat.blt pc 1 then (bif Nat.beq pc 0 then some (.aload_n 0) else none) else (bif Nat.blt pc 4 then (bif Nat.beq pc 1 then some (.getfield 21) else none) else (bif Nat.beq pc 4 then some (.ifCond .le 17) else none))) else (bif Nat.blt pc 8 then (bif Nat.beq pc 7 then some (.aload_n 0) else none) else (bif Nat.blt pc 11 then (bif Nat.beq pc 8 then some (.getfield 17) else none) else (bif Nat.beq pc 11 then some (.aload_n 0) else none)))) else (bif Nat.blt pc 17 then (bif Nat.blt pc 15 then (bif Nat.beq pc 12 then some (.getfield 21) else none) else (bif Nat.blt pc 16 then (bif Nat.beq pc 15 then some (.iconst 1) else none) else (bif Nat.beq pc 16 then some (.isub) else none))) else (bif Nat.blt pc 21 then (bif Nat.blt pc 18 then (bif Nat.beq pc 17 then some (.aaload) else none) else (bif Nat.beq pc 18 then some (.goto 4) else none)) else (bif Nat.blt pc 22 then (bif Nat.beq pc 21 then some (.aconst_null) else none) else (bif Nat.beq pc 22 then some (.areturn) else none)))))
def px_a_History_removeLast (pc : Nat) : Option Instr := (bif Nat.blt pc 14 then (bif Nat.blt pc 8 then (bif Nat.blt pc 4 then (bif Nat.blt pc 1 then (bif Nat.beq pc 0 then some (.aload_n 0) else none) else (bif Nat.beq pc 1 then some (.getfield 21) else none)) else (bif Nat.blt pc 7 then (bif Nat.beq pc 4 then some (.ifCond .le 23) else none) else (bif Nat.beq pc 7 then some (.aload_n 0) else none))) else (bif Nat.blt pc 12 then (bif Nat.blt pc 9 then (bif Nat.beq pc 8 then some (.dup) else none) else (bif Nat.beq pc 9 then some (.getfield 21) else none)) else (bif Nat.blt pc 13 then (bif Nat.beq pc 12 then some (.iconst 1) else none) else (bif Nat.beq pc 13 then some (.isub) else none)))) else (bif Nat.blt pc 22 then (bif Nat.blt pc 18 then (bif Nat.blt pc 17 then (bif Nat.beq pc 14 then some (.putfield 21) else none) else (bif Nat.beq pc 17 then some (.aload_n 0) else none)) else (bif Nat.blt pc 21 then (bif Nat.beq pc 18 then some (.getfield 17) else none) else (bif Nat.beq pc 21 then some (.aload_n 0) else none))) else (bif Nat.blt pc 26 then (bif Nat.blt pc 25 then (bif Nat.beq pc 22 then some (.getfield 21) else none) else (bif Nat.beq pc 25 then some (.aconst_null) else none)) else (bif Nat.blt pc 27 then (bif Nat.beq pc 26 then some (.aastore) else none) else (bif Nat.beq pc 27 then some (.return_) else none)))))
def px_a_Line_init0 (pc : Nat) : Option Instr := (bif Nat.blt pc 25 then (bif Nat.blt pc 11 then (bif Nat.blt pc 5 then (bif Nat.blt pc 1 then (bif Nat.beq pc 0 then some (.aload_n 0) else none) else (bif Nat.blt pc 4 then (bif Nat.beq pc 1 then some (.invokespecial 3) else none) else (bif Nat.beq pc 4 then some (.aload_n 0) else none))) else (bif Nat.blt pc 9 then (bif Nat.blt pc 6 then (bif Nat.beq pc 5 then some (.iconst 0) else none) else (bif Nat.beq pc 6 then some (.putfield 9) else none)) else (bif Nat.blt pc 10 then (bif Nat.beq pc 9 then some (.aload_n 0) else none) else (bif Nat.beq pc 10 then some (.iload_n 1) else none)))) else (bif Nat.blt pc 19 then (bif Nat.blt pc 15 then (bif Nat.blt pc 14 then (bif Nat.beq pc 11 then some (.putfield 15) else none) else (bif Nat.beq pc 14 then some (.aload_n 0) else none)) else (bif Nat.blt pc 16 then (bif Nat.beq pc 15 then some (.iload_n 2) else none) else (bif Nat.beq pc 16 then some (.putfield 18) else none))) else (bif Nat.blt pc 21 then (bif Nat.blt pc 20 then (bif Nat.beq pc 19 then some (.aload_n 0) else none) else (bif Nat.beq pc 20 then some (.iload_n 3) else none)) else (bif Nat.blt pc 24 then (bif Nat.beq pc 21 then some (.putfield 21) else none) else (bif Nat.beq pc 24 then some (.aload_n 0) else none))))) else (bif Nat.blt pc 38 then (bif Nat.blt pc 31 then (bif Nat.blt pc 27 then (bif Nat.beq pc 25 then some (.iload 4) else none) else (bif Nat.blt pc 30 then (bif Nat.beq pc 27 then some (.putfield 24) else none) else (bif Nat.beq pc 30 then some (.aload_n 0) else none))) else (bif Nat.blt pc 35 then (bif Nat.blt pc 32 then (bif Nat.beq pc 31 then some (.iconst (-1)) else none) else (bif Nat.beq pc 32 then some (.putfield 27) else none)) else (bif Nat.blt pc 36 then (bif Nat.beq pc 35 then some (.aload_n 0) else none) else (bif Nat.beq pc 36 then some (.aload 5) else none)))) else (bif Nat.blt pc 46 then (bif Nat.blt pc 42 then (bif Nat.blt pc 41 then (bif Nat.beq pc 38 then some (.putfield 30) else none) else (bif Nat.beq pc 41 then some (.aload_n 0) else none)) else (bif Nat.blt pc 45 then (bif Nat.beq pc 42 then some (.new 34) else none) else (bif Nat.beq pc 45 then some (.dup) else none))) else (bif Nat.blt pc 50 then (bif Nat.blt pc 47 then (bif Nat.beq pc 46 then some (.iload_n 1) else none) else (bif Nat.beq pc 47 then some (.invokespecial 36) else none)) else (bif Nat.blt pc 53 then (bif Nat.beq pc 50 then some (.putfield 39) else none) else (bif Nat.beq pc 53 then some (.return_) else none))))))
def px_a_Line_init1 (pc : Nat) : Option Instr := (bif Nat.blt pc 26 then (bif Nat.blt pc 14 then (bif Nat.blt pc 6 then (bif Nat.blt pc 4 then (bif Nat.blt pc 1 then (bif Nat.beq pc 0 then some (.aload_n 0) else none) else (bif Nat.beq pc 1 then some (.invokespecial 3) else none)) else (bif Nat.blt pc 5 then (bif Nat.beq pc 4 then some (.aload_n 0) else none) else (bif Nat.beq pc 5 then some (.iconst 0) else none))) else (bif Nat.blt pc 10 then (bif Nat.blt pc 9 then (bif Nat.beq pc 6 then some (.putfield 9) else none) else (bif Nat.beq pc 9 then some (.aload_n 0) else none)) else (bif Nat.blt pc 11 then (bif Nat.beq pc 10 then some (.iload_n 1) else none) else (bif Nat.beq pc 11 then some (.putfield 15) else none)))) else (bif Nat.blt pc 20 then (bif Nat.blt pc 16 then (bif Nat.blt pc 15 then (bif Nat.beq pc 14 then some (.aload_n 0) else none) else (bif Nat.beq pc 15 then some (.iconst (-1)) else none)) else (bif Nat.blt pc 19 then (bif Nat.beq pc 16 then some (.putfield 18) else none) else (bif Nat.beq pc 19 then some (.aload_n 0) else none))) else (bif Nat.blt pc 24 then (bif Nat.blt pc 21 then (bif Nat.beq pc 20 then some (.iconst (-1)) else none) else (bif Nat.beq pc 21 then some (.putfield 21) else none)) else (bif Nat.blt pc 25 then (bif Nat.beq pc 24 then some (.aload_n 0) else none) else (bif Nat.beq pc 25 then some (.iconst (-1)) else none))))) else (bif Nat.blt pc 40 then (bif Nat.blt pc 34 then (bif Nat.blt pc 30 then (bif Nat.blt pc 29 then (bif Nat.beq pc 26 then some (.putfield 24) else none) else (bif Nat.beq pc 29 then some (.aload_n 0) else none)) else (bif Nat.blt pc 31 then (bif Nat.beq pc 30 then some (.iload_n 2) else none) else (bif Nat.beq pc 31 then some (.putfield 27) else none))) else (bif Nat.blt pc 38 then (bif Nat.blt pc 35 then (bif Nat.beq pc 34 then some (.aload_n 0) else none) else (bif Nat.beq pc 35 then some (.new 43) else none)) else (bif Nat.blt pc 39 then (bif Nat.beq pc 38 then some (.dup) else none) else (bif Nat.beq pc 39 then some (.iconst 0) else none)))) else (bif Nat.blt pc 50 then (bif Nat.blt pc 46 then (bif Nat.blt pc 43 then (bif Nat.beq pc 40 then some (.invokespecial 45) else none) else (bif Nat.beq pc 43 then some (.putfield 30) else none)) else (bif Nat.blt pc 47 then (bif Nat.beq pc 46 then some (.aload_n 0) else none) else (bif Nat.beq pc 47 then some (.new 34) else none))) else (bif Nat.blt pc 52 then (bif Nat.blt pc 51 then (bif Nat.beq pc 50 then some (.dup) else none) else (bif Nat.beq pc 51 then some (.iload_n 1) else none)) else (bif Nat.blt pc 55 then (bif Nat.beq pc 52 then some (.invokespecial 36) else none) else (bif Nat.blt pc 58 then (bif Nat.beq pc 55 then some (.putfield 39) else none) else (bif Nat.beq pc 58 then some (.return_) else none)))))))
def px_a_Line_defined (pc : Nat) : Option Instr := (bif Nat.blt pc 1 then (bif Nat.beq pc 0 then some (.aload_n 0) else none) else (bif Nat.blt pc 4 then (bif Nat.beq pc 1 then some (.getfield 18) else none) else (bif Nat.beq pc 4 then some (.ireturn) else none)))
def px_a_Line_reads (pc : Nat) : Option Instr := (bif Nat.blt pc 7 then (bif Nat.blt pc 1 then (bif Nat.beq pc 0 then some (.aload_n 0) else none) else (bif Nat.blt pc 4 then (bif Nat.beq pc 1 then some (.getfield 30) else none) else (bif Nat.beq pc 4 then some (.getfield 46) else none))) else (bif Nat.blt pc 8 then (bif Nat.beq pc 7 then some (.iload_n 1) else none) else (bif Nat.blt pc 11 then (bif Nat.beq pc 8 then some (.invokevirtual 50) else none) else (bif Nat.beq pc 11 then some (.ireturn) else none))))
def px_a_Line_says (pc : Nat) : Option Instr := (bif Nat.blt pc 9 then (bif Nat.blt pc 4 then (bif Nat.blt pc 1 then (bif Nat.beq pc 0 then some (.aload_n 0) else none) else (bif Nat.beq pc 1 then some (.getfield 21) else none)) else (bif Nat.blt pc 5 then (bif Nat.beq pc 4 then some (.iconst (-1)) else none) else (bif Nat.blt pc 8 then (bif Nat.beq pc 5 then some (.if_icmp .ne 10) else none) else (bif Nat.beq pc 8 then some (.aload_n 0) else none)))) else (bif Nat.blt pc 15 then (bif Nat.blt pc 12 then (bif Nat.beq pc 9 then some (.getfield 9) else none) else (bif Nat.beq pc 12 then some (.goto 7) else none)) else (bif Nat.blt pc 16 then (bif Nat.beq pc 15 then some (.aload_n 0) else none) else (bif Nat.blt pc 19 then (bif Nat.beq pc 16 then some (.getfield 21) else none) else (bif Nat.beq pc 19 then some (.ireturn) else none)))))
def px_a_Line_workOut (pc : Nat) : Option Instr := (bif Nat.blt pc 5 then (bif Nat.blt pc 1 then (bif Nat.beq pc 0 then some (.aload_n 0) else none) else (bif Nat.blt pc 2 then (bif Nat.beq pc 1 then some (.aload_n 0) else none) else (bif Nat.beq pc 2 then some (.getfield 30) else none))) else (bif Nat.blt pc 9 then (bif Nat.blt pc 6 then (bif Nat.beq pc 5 then some (.aload_n 1) else none) else (bif Nat.beq pc 6 then some (.invokevirtual 56) else none)) else (bif Nat.blt pc 12 then (bif Nat.beq pc 9 then some (.putfield 9) else none) else (bif Nat.beq pc 12 then some (.return_) else none))))
def px_a_Line_findFaults (pc : Nat) : Option Instr := (bif Nat.blt pc 29 then (bif Nat.blt pc 15 then (bif Nat.blt pc 7 then (bif Nat.blt pc 1 then (bif Nat.beq pc 0 then some (.aload_n 0) else none) else (bif Nat.blt pc 4 then (bif Nat.beq pc 1 then some (.getfield 39) else none) else (bif Nat.beq pc 4 then some (.invokevirtual 60) else none))) else (bif Nat.blt pc 11 then (bif Nat.blt pc 8 then (bif Nat.beq pc 7 then some (.aload_n 0) else none) else (bif Nat.beq pc 8 then some (.getfield 27) else none)) else (bif Nat.blt pc 12 then (bif Nat.beq pc 11 then some (.iconst (-1)) else none) else (bif Nat.beq pc 12 then some (.if_icmp .eq 16) else none)))) else (bif Nat.blt pc 23 then (bif Nat.blt pc 19 then (bif Nat.blt pc 16 then (bif Nat.beq pc 15 then some (.aload_n 0) else none) else (bif Nat.beq pc 16 then some (.getfield 39) else none)) else (bif Nat.blt pc 20 then (bif Nat.beq pc 19 then some (.aload_n 0) else none) else (bif Nat.beq pc 20 then some (.getfield 27) else none))) else (bif Nat.blt pc 27 then (bif Nat.blt pc 24 then (bif Nat.beq pc 23 then some (.iconst 1) else none) else (bif Nat.beq pc 24 then some (.invokevirtual 63) else none)) else (bif Nat.blt pc 28 then (bif Nat.beq pc 27 then some (.return_) else none) else (bif Nat.beq pc 28 then some (.aload_n 0) else none))))) else (bif Nat.blt pc 44 then (bif Nat.blt pc 34 then (bif Nat.blt pc 32 then (bif Nat.beq pc 29 then some (.getfield 30) else none) else (bif Nat.blt pc 33 then (bif Nat.beq pc 32 then some (.aload_n 1) else none) else (bif Nat.beq pc 33 then some (.aload_n 0) else none))) else (bif Nat.blt pc 40 then (bif Nat.blt pc 37 then (bif Nat.beq pc 34 then some (.getfield 39) else none) else (bif Nat.beq pc 37 then some (.invokevirtual 67) else none)) else (bif Nat.blt pc 41 then (bif Nat.beq pc 40 then some (.aload_n 0) else none) else (bif Nat.beq pc 41 then some (.invokevirtual 71) else none)))) else (bif Nat.blt pc 52 then (bif Nat.blt pc 48 then (bif Nat.blt pc 47 then (bif Nat.beq pc 44 then some (.ifCond .eq 15) else none) else (bif Nat.beq pc 47 then some (.aload_n 0) else none)) else (bif Nat.blt pc 51 then (bif Nat.beq pc 48 then some (.getfield 39) else none) else (bif Nat.beq pc 51 then some (.aload_n 0) else none))) else (bif Nat.blt pc 56 then (bif Nat.blt pc 55 then (bif Nat.beq pc 52 then some (.getfield 24) else none) else (bif Nat.beq pc 55 then some (.iconst 5) else none)) else (bif Nat.blt pc 59 then (bif Nat.beq pc 56 then some (.invokevirtual 63) else none) else (bif Nat.beq pc 59 then some (.return_) else none))))))
def px_a_Line_isMismatch (pc : Nat) : Option Instr := (bif Nat.blt pc 21 then (bif Nat.blt pc 12 then (bif Nat.blt pc 5 then (bif Nat.blt pc 1 then (bif Nat.beq pc 0 then some (.aload_n 0) else none) else (bif Nat.blt pc 4 then (bif Nat.beq pc 1 then some (.getfield 21) else none) else (bif Nat.beq pc 4 then some (.iconst (-1)) else none))) else (bif Nat.blt pc 8 then (bif Nat.beq pc 5 then some (.if_icmp .eq 13) else none) else (bif Nat.blt pc 9 then (bif Nat.beq pc 8 then some (.aload_n 0) else none) else (bif Nat.beq pc 9 then some (.getfield 21) else none)))) else (bif Nat.blt pc 18 then (bif Nat.blt pc 14 then (bif Nat.beq pc 12 then some (.bipush 16) else none) else (bif Nat.blt pc 15 then (bif Nat.beq pc 14 then some (.iand) else none) else (bif Nat.beq pc 15 then some (.ifCond .eq 5) else none))) else (bif Nat.blt pc 19 then (bif Nat.beq pc 18 then some (.iconst 0) else none) else (bif Nat.blt pc 20 then (bif Nat.beq pc 19 then some (.ireturn) else none) else (bif Nat.beq pc 20 then some (.aload_n 0) else none))))) else (bif Nat.blt pc 31 then (bif Nat.blt pc 28 then (bif Nat.blt pc 24 then (bif Nat.beq pc 21 then some (.getfield 9) else none) else (bif Nat.blt pc 25 then (bif Nat.beq pc 24 then some (.aload_n 0) else none) else (bif Nat.beq pc 25 then some (.getfield 21) else none))) else (bif Nat.blt pc 29 then (bif Nat.beq pc 28 then some (.iconst (-1)) else none) else (bif Nat.blt pc 30 then (bif Nat.beq pc 29 then some (.ixor) else none) else (bif Nat.beq pc 30 then some (.iand) else none)))) else (bif Nat.blt pc 37 then (bif Nat.blt pc 33 then (bif Nat.beq pc 31 then some (.bipush (-17)) else none) else (bif Nat.blt pc 34 then (bif Nat.beq pc 33 then some (.iand) else none) else (bif Nat.beq pc 34 then some (.ifCond .eq 7) else none))) else (bif Nat.blt pc 41 then (bif Nat.blt pc 38 then (bif Nat.beq pc 37 then some (.iconst 1) else none) else (bif Nat.beq pc 38 then some (.goto 4) else none)) else (bif Nat.blt pc 42 then (bif Nat.beq pc 41 then some (.iconst 0) else none) else (bif Nat.beq pc 42 then some (.ireturn) else none))))))
def px_a_Line_symbolsRead (pc : Nat) : Option Instr := (bif Nat.blt pc 4 then (bif Nat.blt pc 1 then (bif Nat.beq pc 0 then some (.aload_n 0) else none) else (bif Nat.beq pc 1 then some (.getfield 30) else none)) else (bif Nat.blt pc 7 then (bif Nat.beq pc 4 then some (.getfield 46) else none) else (bif Nat.beq pc 7 then some (.areturn) else none)))
def px_a_Line_tellAbout (pc : Nat) : Option Instr := (bif Nat.blt pc 60 then (bif Nat.blt pc 45 then (bif Nat.blt pc 36 then (bif Nat.blt pc 32 then (bif Nat.blt pc 1 then (bif Nat.beq pc 0 then some (.iload_n 1) else none) else (bif Nat.beq pc 1 then some (.tableswitch 75 0 3 #[31, 36, 50, 67]) else none)) else (bif Nat.blt pc 33 then (bif Nat.beq pc 32 then some (.aload_n 0) else none) else (bif Nat.beq pc 33 then some (.getfield 15) else none))) else (bif Nat.blt pc 38 then (bif Nat.blt pc 37 then (bif Nat.beq pc 36 then some (.ireturn) else none) else (bif Nat.beq pc 37 then some (.aload_n 0) else none)) else (bif Nat.blt pc 41 then (bif Nat.beq pc 38 then some (.getfield 27) else none) else (bif Nat.blt pc 42 then (bif Nat.beq pc 41 then some (.iconst (-1)) else none) else (bif Nat.beq pc 42 then some (.if_icmp .ne 7) else none))))) else (bif Nat.blt pc 51 then (bif Nat.blt pc 49 then (bif Nat.blt pc 46 then (bif Nat.beq pc 45 then some (.iconst 1) else none) else (bif Nat.beq pc 46 then some (.goto 4) else none)) else (bif Nat.blt pc 50 then (bif Nat.beq pc 49 then some (.iconst 0) else none) else (bif Nat.beq pc 50 then some (.ireturn) else none))) else (bif Nat.blt pc 55 then (bif Nat.blt pc 52 then (bif Nat.beq pc 51 then some (.aload_n 0) else none) else (bif Nat.beq pc 52 then some (.getfield 27) else none)) else (bif Nat.blt pc 56 then (bif Nat.beq pc 55 then some (.iconst (-1)) else none) else (bif Nat.blt pc 59 then (bif Nat.beq pc 56 then some (.if_icmp .ne 10) else none) else (bif Nat.beq pc 59 then some (.aload_n 0) else none)))))) else (bif Nat.blt pc 77 then (bif Nat.blt pc 68 then (bif Nat.blt pc 66 then (bif Nat.blt pc 63 then (bif Nat.beq pc 60 then some (.getfield 9) else none) else (bif Nat.beq pc 63 then some (.goto 4) else none)) else (bif Nat.blt pc 67 then (bif Nat.beq pc 66 then some (.iconst (-1)) else none) else (bif Nat.beq pc 67 then some (.ireturn) else none))) else (bif Nat.blt pc 72 then (bif Nat.blt pc 69 then (bif Nat.beq pc 68 then some (.aload_n 0) else none) else (bif Nat.beq pc 69 then some (.getfield 39) else none)) else (bif Nat.blt pc 75 then (bif Nat.beq pc 72 then some (.invokevirtual 77) else none) else (bif Nat.blt pc 76 then (bif Nat.beq pc 75 then some (.ireturn) else none) else (bif Nat.beq pc 76 then some (.aload_n 0) else none))))) else (bif Nat.blt pc 88 then (bif Nat.blt pc 81 then (bif Nat.blt pc 80 then (bif Nat.beq pc 77 then some (.getfield 27) else none) else (bif Nat.beq pc 80 then some (.iconst (-1)) else none)) else (bif Nat.blt pc 84 then (bif Nat.beq pc 81 then some (.if_icmp .ne 16) else none) else (bif Nat.blt pc 85 then (bif Nat.beq pc 84 then some (.aload_n 0) else none) else (bif Nat.beq pc 85 then some (.getfield 30) else none)))) else (bif Nat.blt pc 94 then (bif Nat.blt pc 91 then (bif Nat.beq pc 88 then some (.getfield 46) else none) else (bif Nat.beq pc 91 then some (.invokevirtual 81) else none)) else (bif Nat.blt pc 97 then (bif Nat.beq pc 94 then some (.goto 4) else none) else (bif Nat.blt pc 98 then (bif Nat.beq pc 97 then some (.iconst (-1)) else none) else (bif Nat.beq pc 98 then some (.ireturn) else none)))))))
def px_a_Line_faults (pc : Nat) : Option Instr := (bif Nat.blt pc 1 then (bif Nat.beq pc 0 then some (.aload_n 0) else none) else (bif Nat.blt pc 4 then (bif Nat.beq pc 1 then some (.getfield 39) else none) else (bif Nat.beq pc 4 then some (.areturn) else none)))
def px_a_Parser_init (pc : Nat) : Option Instr := (bif Nat.blt pc 30 then (bif Nat.blt pc 15 then (bif Nat.blt pc 6 then (bif Nat.blt pc 4 then (bif Nat.blt pc 1 then (bif Nat.beq pc 0 then some (.aload_n 0) else none) else (bif Nat.beq pc 1 then some (.invokespecial 3) else none)) else (bif Nat.blt pc 5 then (bif Nat.beq pc 4 then some (.aload_n 0) else none) else (bif Nat.beq pc 5 then some (.iconst 0) else none))) else (bif Nat.blt pc 10 then (bif Nat.blt pc 9 then (bif Nat.beq pc 6 then some (.putfield 9) else none) else (bif Nat.beq pc 9 then some (.aload_n 0) else none)) else (bif Nat.blt pc 11 then (bif Nat.beq pc 10 then some (.iconst (-1)) else none) else (bif Nat.blt pc 14 then (bif Nat.beq pc 11 then some (.putfield 15) else none) else (bif Nat.beq pc 14 then some (.aload_n 0) else none))))) else (bif Nat.blt pc 21 then (bif Nat.blt pc 19 then (bif Nat.blt pc 16 then (bif Nat.beq pc 15 then some (.iconst (-1)) else none) else (bif Nat.beq pc 16 then some (.putfield 18) else none)) else (bif Nat.blt pc 20 then (bif Nat.beq pc 19 then some (.aload_n 0) else none) else (bif Nat.beq pc 20 then some (.iconst (-1)) else none))) else (bif Nat.blt pc 25 then (bif Nat.blt pc 24 then (bif Nat.beq pc 21 then some (.putfield 21) else none) else (bif Nat.beq pc 24 then some (.aload_n 0) else none)) else (bif Nat.blt pc 26 then (bif Nat.beq pc 25 then some (.aload_n 1) else none) else (bif Nat.blt pc 29 then (bif Nat.beq pc 26 then some (.putfield 24) else none) else (bif Nat.beq pc 29 then some (.aload_n 0) else none)))))) else (bif Nat.blt pc 45 then (bif Nat.blt pc 34 then (bif Nat.blt pc 32 then (bif Nat.blt pc 31 then (bif Nat.beq pc 30 then some (.iconst 0) else none) else (bif Nat.beq pc 31 then some (.iload_n 2) else none)) else (bif Nat.blt pc 33 then (bif Nat.beq pc 32 then some (.aload_n 1) else none) else (bif Nat.beq pc 33 then some (.arraylength) else none))) else (bif Nat.blt pc 40 then (bif Nat.blt pc 37 then (bif Nat.beq pc 34 then some (.invokestatic 28) else none) else (bif Nat.beq pc 37 then some (.invokestatic 34) else none)) else (bif Nat.blt pc 43 then (bif Nat.beq pc 40 then some (.putfield 37) else none) else (bif Nat.blt pc 44 then (bif Nat.beq pc 43 then some (.aload_n 0) else none) else (bif Nat.beq pc 44 then some (.iload_n 3) else none))))) else (bif Nat.blt pc 53 then (bif Nat.blt pc 49 then (bif Nat.blt pc 48 then (bif Nat.beq pc 45 then some (.putfield 40) else none) else (bif Nat.beq pc 48 then some (.aload_n 0) else none)) else (bif Nat.blt pc 52 then (bif Nat.beq pc 49 then some (.new 43) else none) else (bif Nat.beq pc 52 then some (.dup) else none))) else (bif Nat.blt pc 57 then (bif Nat.blt pc 54 then (bif Nat.beq pc 53 then some (.aload_n 0) else none) else (bif Nat.beq pc 54 then some (.getfield 37) else none)) else (bif Nat.blt pc 60 then (bif Nat.beq pc 57 then some (.invokespecial 45) else none) else (bif Nat.blt pc 63 then (bif Nat.beq pc 60 then some (.putfield 48) else none) else (bif Nat.beq pc 63 then some (.return_) else none)))))))
def px_a_Parser_read (pc : Nat) : Option Instr := (bif Nat.blt pc 38 then (bif Nat.blt pc 20 then (bif Nat.blt pc 9 then (bif Nat.blt pc 4 then (bif Nat.blt pc 1 then (bif Nat.beq pc 0 then some (.aload_n 0) else none) else (bif Nat.beq pc 1 then some (.invokevirtual 52) else none)) else (bif Nat.blt pc 7 then (bif Nat.beq pc 4 then some (.ifCond .eq 24) else none) else (bif Nat.blt pc 8 then (bif Nat.beq pc 7 then some (.aload_n 0) else none) else (bif Nat.beq pc 8 then some (.iconst 0) else none)))) else (bif Nat.blt pc 13 then (bif Nat.blt pc 12 then (bif Nat.beq pc 9 then some (.invokevirtual 56) else none) else (bif Nat.beq pc 12 then some (.iconst (-1)) else none)) else (bif Nat.blt pc 16 then (bif Nat.beq pc 13 then some (.if_icmp .eq 15) else none) else (bif Nat.blt pc 17 then (bif Nat.beq pc 16 then some (.aload_n 0) else none) else (bif Nat.beq pc 17 then some (.invokevirtual 60) else none))))) else (bif Nat.blt pc 29 then (bif Nat.blt pc 24 then (bif Nat.blt pc 21 then (bif Nat.beq pc 20 then some (.iconst (-1)) else none) else (bif Nat.beq pc 21 then some (.if_icmp .ne 7) else none)) else (bif Nat.blt pc 25 then (bif Nat.beq pc 24 then some (.iconst 1) else none) else (bif Nat.blt pc 28 then (bif Nat.beq pc 25 then some (.goto 4) else none) else (bif Nat.beq pc 28 then some (.iconst 0) else none)))) else (bif Nat.blt pc 31 then (bif Nat.blt pc 30 then (bif Nat.beq pc 29 then some (.istore_n 1) else none) else (bif Nat.beq pc 30 then some (.iload_n 1) else none)) else (bif Nat.blt pc 34 then (bif Nat.beq pc 31 then some (.ifCond .eq 33) else none) else (bif Nat.blt pc 37 then (bif Nat.beq pc 34 then some (.new 64) else none) else (bif Nat.beq pc 37 then some (.dup) else none)))))) else (bif Nat.blt pc 58 then (bif Nat.blt pc 47 then (bif Nat.blt pc 42 then (bif Nat.blt pc 39 then (bif Nat.beq pc 38 then some (.aload_n 0) else none) else (bif Nat.beq pc 39 then some (.getfield 37) else none)) else (bif Nat.blt pc 43 then (bif Nat.beq pc 42 then some (.aload_n 0) else none) else (bif Nat.blt pc 46 then (bif Nat.beq pc 43 then some (.getfield 15) else none) else (bif Nat.beq pc 46 then some (.aload_n 0) else none)))) else (bif Nat.blt pc 51 then (bif Nat.blt pc 50 then (bif Nat.beq pc 47 then some (.getfield 18) else none) else (bif Nat.beq pc 50 then some (.aload_n 0) else none)) else (bif Nat.blt pc 54 then (bif Nat.beq pc 51 then some (.getfield 21) else none) else (bif Nat.blt pc 55 then (bif Nat.beq pc 54 then some (.aload_n 0) else none) else (bif Nat.beq pc 55 then some (.getfield 48) else none))))) else (bif Nat.blt pc 69 then (bif Nat.blt pc 64 then (bif Nat.blt pc 61 then (bif Nat.beq pc 58 then some (.invokespecial 66) else none) else (bif Nat.beq pc 61 then some (.goto 18) else none)) else (bif Nat.blt pc 67 then (bif Nat.beq pc 64 then some (.new 64) else none) else (bif Nat.blt pc 68 then (bif Nat.beq pc 67 then some (.dup) else none) else (bif Nat.beq pc 68 then some (.aload_n 0) else none)))) else (bif Nat.blt pc 73 then (bif Nat.blt pc 72 then (bif Nat.beq pc 69 then some (.getfield 37) else none) else (bif Nat.beq pc 72 then some (.aload_n 0) else none)) else (bif Nat.blt pc 76 then (bif Nat.beq pc 73 then some (.getfield 9) else none) else (bif Nat.blt pc 79 then (bif Nat.beq pc 76 then some (.invokespecial 69) else none) else (bif Nat.beq pc 79 then some (.areturn) else none)))))))
def px_a_Parser_readHead (pc : Nat) : Option Instr := (bif Nat.blt pc 35 then (bif Nat.blt pc 18 then (bif Nat.blt pc 9 then (bif Nat.blt pc 4 then (bif Nat.blt pc 1 then (bif Nat.beq pc 0 then some (.aload_n 0) else none) else (bif Nat.beq pc 1 then some (.invokevirtual 60) else none)) else (bif Nat.blt pc 5 then (bif Nat.beq pc 4 then some (.istore_n 1) else none) else (bif Nat.blt pc 6 then (bif Nat.beq pc 5 then some (.iload_n 1) else none) else (bif Nat.beq pc 6 then some (.invokestatic 72) else none)))) else (bif Nat.blt pc 13 then (bif Nat.blt pc 12 then (bif Nat.beq pc 9 then some (.ifCond .eq 47) else none) else (bif Nat.beq pc 12 then some (.aload_n 0) else none)) else (bif Nat.blt pc 14 then (bif Nat.beq pc 13 then some (.dup) else none) else (bif Nat.blt pc 17 then (bif Nat.beq pc 14 then some (.getfield 9) else none) else (bif Nat.beq pc 17 then some (.iconst 1) else none))))) else (bif Nat.blt pc 27 then (bif Nat.blt pc 22 then (bif Nat.blt pc 19 then (bif Nat.beq pc 18 then some (.iadd) else none) else (bif Nat.beq pc 19 then some (.putfield 9) else none)) else (bif Nat.blt pc 23 then (bif Nat.beq pc 22 then some (.aload_n 0) else none) else (bif Nat.blt pc 24 then (bif Nat.beq pc 23 then some (.aload_n 0) else none) else (bif Nat.beq pc 24 then some (.getfield 40) else none)))) else (bif Nat.blt pc 31 then (bif Nat.blt pc 29 then (bif Nat.beq pc 27 then some (.bipush 26) else none) else (bif Nat.blt pc 30 then (bif Nat.beq pc 29 then some (.imul) else none) else (bif Nat.beq pc 30 then some (.iload_n 1) else none))) else (bif Nat.blt pc 32 then (bif Nat.beq pc 31 then some (.iadd) else none) else (bif Nat.blt pc 34 then (bif Nat.beq pc 32 then some (.bipush 65) else none) else (bif Nat.beq pc 34 then some (.isub) else none)))))) else (bif Nat.blt pc 57 then (bif Nat.blt pc 47 then (bif Nat.blt pc 39 then (bif Nat.blt pc 38 then (bif Nat.beq pc 35 then some (.putfield 15) else none) else (bif Nat.beq pc 38 then some (.aload_n 0) else none)) else (bif Nat.blt pc 41 then (bif Nat.beq pc 39 then some (.bipush 58) else none) else (bif Nat.blt pc 44 then (bif Nat.beq pc 41 then some (.invokevirtual 76) else none) else (bif Nat.beq pc 44 then some (.ifCond .eq 12) else none)))) else (bif Nat.blt pc 54 then (bif Nat.blt pc 48 then (bif Nat.beq pc 47 then some (.aload_n 0) else none) else (bif Nat.blt pc 51 then (bif Nat.beq pc 48 then some (.invokevirtual 79) else none) else (bif Nat.beq pc 51 then some (.ifCond .ne 5) else none))) else (bif Nat.blt pc 55 then (bif Nat.beq pc 54 then some (.iconst 0) else none) else (bif Nat.blt pc 56 then (bif Nat.beq pc 55 then some (.ireturn) else none) else (bif Nat.beq pc 56 then some (.aload_n 0) else none))))) else (bif Nat.blt pc 65 then (bif Nat.blt pc 62 then (bif Nat.blt pc 59 then (bif Nat.beq pc 57 then some (.bipush 61) else none) else (bif Nat.beq pc 59 then some (.invokevirtual 76) else none)) else (bif Nat.blt pc 63 then (bif Nat.beq pc 62 then some (.istore_n 2) else none) else (bif Nat.blt pc 64 then (bif Nat.beq pc 63 then some (.aload_n 0) else none) else (bif Nat.beq pc 64 then some (.aload_n 0) else none)))) else (bif Nat.blt pc 70 then (bif Nat.blt pc 68 then (bif Nat.beq pc 65 then some (.getfield 9) else none) else (bif Nat.blt pc 69 then (bif Nat.beq pc 68 then some (.iconst 1) else none) else (bif Nat.beq pc 69 then some (.isub) else none))) else (bif Nat.blt pc 73 then (bif Nat.beq pc 70 then some (.putfield 21) else none) else (bif Nat.blt pc 74 then (bif Nat.beq pc 73 then some (.iload_n 2) else none) else (bif Nat.beq pc 74 then some (.ireturn) else none)))))))
def px_a_Parser_next (pc : Nat) : Option Instr := (bif Nat.blt pc 31 then (bif Nat.blt pc 16 then (bif Nat.blt pc 8 then (bif Nat.blt pc 4 then (bif Nat.blt pc 1 then (bif Nat.beq pc 0 then some (.aload_n 0) else none) else (bif Nat.beq pc 1 then some (.getfield 9) else none)) else (bif Nat.blt pc 5 then (bif Nat.beq pc 4 then some (.aload_n 0) else none) else (bif Nat.beq pc 5 then some (.getfield 37) else none))) else (bif Nat.blt pc 12 then (bif Nat.blt pc 11 then (bif Nat.beq pc 8 then some (.if_icmp .ge 30) else none) else (bif Nat.beq pc 11 then some (.aload_n 0) else none)) else (bif Nat.blt pc 15 then (bif Nat.beq pc 12 then some (.getfield 24) else none) else (bif Nat.beq pc 15 then some (.aload_n 0) else none)))) else (bif Nat.blt pc 25 then (bif Nat.blt pc 20 then (bif Nat.blt pc 19 then (bif Nat.beq pc 16 then some (.getfield 9) else none) else (bif Nat.beq pc 19 then some (.iaload) else none)) else (bif Nat.blt pc 22 then (bif Nat.beq pc 20 then some (.bipush 32) else none) else (bif Nat.beq pc 22 then some (.if_icmp .ne 16) else none))) else (bif Nat.blt pc 27 then (bif Nat.blt pc 26 then (bif Nat.beq pc 25 then some (.aload_n 0) else none) else (bif Nat.beq pc 26 then some (.dup) else none)) else (bif Nat.blt pc 30 then (bif Nat.beq pc 27 then some (.getfield 9) else none) else (bif Nat.beq pc 30 then some (.iconst 1) else none))))) else (bif Nat.blt pc 49 then (bif Nat.blt pc 39 then (bif Nat.blt pc 35 then (bif Nat.blt pc 32 then (bif Nat.beq pc 31 then some (.iadd) else none) else (bif Nat.beq pc 32 then some (.putfield 9) else none)) else (bif Nat.blt pc 38 then (bif Nat.beq pc 35 then some (.goto (-35)) else none) else (bif Nat.beq pc 38 then some (.aload_n 0) else none))) else (bif Nat.blt pc 43 then (bif Nat.blt pc 42 then (bif Nat.beq pc 39 then some (.getfield 9) else none) else (bif Nat.beq pc 42 then some (.aload_n 0) else none)) else (bif Nat.blt pc 46 then (bif Nat.beq pc 43 then some (.getfield 37) else none) else (bif Nat.beq pc 46 then some (.if_icmp .ge 15) else none)))) else (bif Nat.blt pc 57 then (bif Nat.blt pc 53 then (bif Nat.blt pc 50 then (bif Nat.beq pc 49 then some (.aload_n 0) else none) else (bif Nat.beq pc 50 then some (.getfield 24) else none)) else (bif Nat.blt pc 54 then (bif Nat.beq pc 53 then some (.aload_n 0) else none) else (bif Nat.beq pc 54 then some (.getfield 9) else none))) else (bif Nat.blt pc 61 then (bif Nat.blt pc 58 then (bif Nat.beq pc 57 then some (.iaload) else none) else (bif Nat.beq pc 58 then some (.goto 4) else none)) else (bif Nat.blt pc 62 then (bif Nat.beq pc 61 then some (.iconst (-1)) else none) else (bif Nat.beq pc 62 then some (.ireturn) else none))))))
def px_a_Parser_isName (pc : Nat) : Option Instr := (bif Nat.blt pc 9 then (bif Nat.blt pc 3 then (bif Nat.blt pc 1 then (bif Nat.beq pc 0 then some (.iload_n 0) else none) else (bif Nat.beq pc 1 then some (.bipush 65) else none)) else (bif Nat.blt pc 6 then (bif Nat.beq pc 3 then some (.if_icmp .lt 13) else none) else (bif Nat.blt pc 7 then (bif Nat.beq pc 6 then some (.iload_n 0) else none) else (bif Nat.beq pc 7 then some (.bipush 90) else none)))) else (bif Nat.blt pc 13 then (bif Nat.blt pc 12 then (bif Nat.beq pc 9 then some (.if_icmp .gt 7) else none) else (bif Nat.beq pc 12 then some (.iconst 1) else none)) else (bif Nat.blt pc 16 then (bif Nat.beq pc 13 then some (.goto 4) else none) else (bif Nat.blt pc 17 then (bif Nat.beq pc 16 then some (.iconst 0) else none) else (bif Nat.beq pc 17 then some (.ireturn) else none)))))
def px_a_Parser_take (pc : Nat) : Option Instr := (bif Nat.blt pc 11 then (bif Nat.blt pc 5 then (bif Nat.blt pc 1 then (bif Nat.beq pc 0 then some (.aload_n 0) else none) else (bif Nat.blt pc 4 then (bif Nat.beq pc 1 then some (.invokevirtual 60) else none) else (bif Nat.beq pc 4 then some (.iload_n 1) else none))) else (bif Nat.blt pc 9 then (bif Nat.blt pc 8 then (bif Nat.beq pc 5 then some (.if_icmp .eq 5) else none) else (bif Nat.beq pc 8 then some (.iconst 0) else none)) else (bif Nat.blt pc 10 then (bif Nat.beq pc 9 then some (.ireturn) else none) else (bif Nat.beq pc 10 then some (.aload_n 0) else none)))) else (bif Nat.blt pc 16 then (bif Nat.blt pc 12 then (bif Nat.beq pc 11 then some (.dup) else none) else (bif Nat.blt pc 15 then (bif Nat.beq pc 12 then some (.getfield 9) else none) else (bif Nat.beq pc 15 then some (.iconst 1) else none))) else (bif Nat.blt pc 20 then (bif Nat.blt pc 17 then (bif Nat.beq pc 16 then some (.iadd) else none) else (bif Nat.beq pc 17 then some (.putfield 9) else none)) else (bif Nat.blt pc 21 then (bif Nat.beq pc 20 then some (.iconst 1) else none) else (bif Nat.beq pc 21 then some (.ireturn) else none)))))
def px_a_Parser_readTypeWord (pc : Nat) : Option Instr := (bif Nat.blt pc 46 then (bif Nat.blt pc 23 then (bif Nat.blt pc 10 then (bif Nat.blt pc 5 then (bif Nat.blt pc 1 then (bif Nat.beq pc 0 then some (.aload_n 0) else none) else (bif Nat.blt pc 2 then (bif Nat.beq pc 1 then some (.iconst 0) else none) else (bif Nat.beq pc 2 then some (.putfield 18) else none))) else (bif Nat.blt pc 7 then (bif Nat.blt pc 6 then (bif Nat.beq pc 5 then some (.iconst 0) else none) else (bif Nat.beq pc 6 then some (.istore_n 1) else none)) else (bif Nat.blt pc 8 then (bif Nat.beq pc 7 then some (.iload_n 1) else none) else (bif Nat.beq pc 8 then some (.bipush 60) else none)))) else (bif Nat.blt pc 17 then (bif Nat.blt pc 13 then (bif Nat.beq pc 10 then some (.if_icmp .ge 93) else none) else (bif Nat.blt pc 14 then (bif Nat.beq pc 13 then some (.aload_n 0) else none) else (bif Nat.beq pc 14 then some (.invokevirtual 60) else none))) else (bif Nat.blt pc 21 then (bif Nat.blt pc 20 then (bif Nat.beq pc 17 then some (.invokestatic 82) else none) else (bif Nat.beq pc 20 then some (.istore_n 2) else none)) else (bif Nat.blt pc 22 then (bif Nat.beq pc 21 then some (.iload_n 2) else none) else (bif Nat.beq pc 22 then some (.iconst (-1)) else none))))) else (bif Nat.blt pc 34 then (bif Nat.blt pc 28 then (bif Nat.blt pc 26 then (bif Nat.beq pc 23 then some (.if_icmp .ne 5) else none) else (bif Nat.blt pc 27 then (bif Nat.beq pc 26 then some (.iconst 0) else none) else (bif Nat.beq pc 27 then some (.ireturn) else none))) else (bif Nat.blt pc 30 then (bif Nat.blt pc 29 then (bif Nat.beq pc 28 then some (.aload_n 0) else none) else (bif Nat.beq pc 29 then some (.dup) else none)) else (bif Nat.blt pc 33 then (bif Nat.beq pc 30 then some (.getfield 9) else none) else (bif Nat.beq pc 33 then some (.iconst 1) else none)))) else (bif Nat.blt pc 40 then (bif Nat.blt pc 38 then (bif Nat.blt pc 35 then (bif Nat.beq pc 34 then some (.iadd) else none) else (bif Nat.beq pc 35 then some (.putfield 9) else none)) else (bif Nat.blt pc 39 then (bif Nat.beq pc 38 then some (.iconst 0) else none) else (bif Nat.beq pc 39 then some (.istore_n 3) else none))) else (bif Nat.blt pc 42 then (bif Nat.blt pc 41 then (bif Nat.beq pc 40 then some (.iload_n 3) else none) else (bif Nat.beq pc 41 then some (.iconst 3) else none)) else (bif Nat.blt pc 45 then (bif Nat.beq pc 42 then some (.if_icmp .ge 32) else none) else (bif Nat.beq pc 45 then some (.aload_n 0) else none)))))) else (bif Nat.blt pc 79 then (bif Nat.blt pc 63 then (bif Nat.blt pc 54 then (bif Nat.blt pc 48 then (bif Nat.beq pc 46 then some (.bipush 91) else none) else (bif Nat.blt pc 51 then (bif Nat.beq pc 48 then some (.invokevirtual 76) else none) else (bif Nat.beq pc 51 then some (.ifCond .eq 23) else none))) else (bif Nat.blt pc 57 then (bif Nat.blt pc 55 then (bif Nat.beq pc 54 then some (.aload_n 0) else none) else (bif Nat.beq pc 55 then some (.bipush 93) else none)) else (bif Nat.blt pc 60 then (bif Nat.beq pc 57 then some (.invokevirtual 76) else none) else (bif Nat.beq pc 60 then some (.ifCond .ne 5) else none)))) else (bif Nat.blt pc 71 then (bif Nat.blt pc 65 then (bif Nat.blt pc 64 then (bif Nat.beq pc 63 then some (.iconst 0) else none) else (bif Nat.beq pc 64 then some (.ireturn) else none)) else (bif Nat.blt pc 68 then (bif Nat.beq pc 65 then some (.iinc 2 5) else none) else (bif Nat.beq pc 68 then some (.iinc 3 1) else none))) else (bif Nat.blt pc 75 then (bif Nat.blt pc 74 then (bif Nat.beq pc 71 then some (.goto (-31)) else none) else (bif Nat.beq pc 74 then some (.aload_n 0) else none)) else (bif Nat.blt pc 76 then (bif Nat.beq pc 75 then some (.dup) else none) else (bif Nat.beq pc 76 then some (.getfield 18) else none))))) else (bif Nat.blt pc 89 then (bif Nat.blt pc 82 then (bif Nat.blt pc 80 then (bif Nat.beq pc 79 then some (.iconst 1) else none) else (bif Nat.blt pc 81 then (bif Nat.beq pc 80 then some (.iload_n 2) else none) else (bif Nat.beq pc 81 then some (.ishl) else none))) else (bif Nat.blt pc 86 then (bif Nat.blt pc 83 then (bif Nat.beq pc 82 then some (.ior) else none) else (bif Nat.beq pc 83 then some (.putfield 18) else none)) else (bif Nat.blt pc 87 then (bif Nat.beq pc 86 then some (.aload_n 0) else none) else (bif Nat.beq pc 87 then some (.bipush 124) else none)))) else (bif Nat.blt pc 97 then (bif Nat.blt pc 95 then (bif Nat.blt pc 92 then (bif Nat.beq pc 89 then some (.invokevirtual 76) else none) else (bif Nat.beq pc 92 then some (.ifCond .ne 5) else none)) else (bif Nat.blt pc 96 then (bif Nat.beq pc 95 then some (.iconst 1) else none) else (bif Nat.beq pc 96 then some (.ireturn) else none))) else (bif Nat.blt pc 103 then (bif Nat.blt pc 100 then (bif Nat.beq pc 97 then some (.iinc 1 1) else none) else (bif Nat.beq pc 100 then some (.goto (-93)) else none)) else (bif Nat.blt pc 104 then (bif Nat.beq pc 103 then some (.iconst 0) else none) else (bif Nat.beq pc 104 then some (.ireturn) else none)))))))
def px_a_Parser_readSum (pc : Nat) : Option Instr := (bif Nat.blt pc 40 then (bif Nat.blt pc 16 then (bif Nat.blt pc 7 then (bif Nat.blt pc 2 then (bif Nat.blt pc 1 then (bif Nat.beq pc 0 then some (.aload_n 0) else none) else (bif Nat.beq pc 1 then some (.iload_n 1) else none)) else (bif Nat.blt pc 5 then (bif Nat.beq pc 2 then some (.invokevirtual 87) else none) else (bif Nat.blt pc 6 then (bif Nat.beq pc 5 then some (.istore_n 2) else none) else (bif Nat.beq pc 6 then some (.iconst 0) else none)))) else (bif Nat.blt pc 11 then (bif Nat.blt pc 8 then (bif Nat.beq pc 7 then some (.istore_n 3) else none) else (bif Nat.blt pc 9 then (bif Nat.beq pc 8 then some (.iload_n 3) else none) else (bif Nat.beq pc 9 then some (.bipush 60) else none))) else (bif Nat.blt pc 14 then (bif Nat.beq pc 11 then some (.if_icmp .ge 71) else none) else (bif Nat.blt pc 15 then (bif Nat.beq pc 14 then some (.iload_n 2) else none) else (bif Nat.beq pc 15 then some (.iconst (-1)) else none))))) else (bif Nat.blt pc 29 then (bif Nat.blt pc 23 then (bif Nat.blt pc 19 then (bif Nat.beq pc 16 then some (.if_icmp .eq 66) else none) else (bif Nat.blt pc 20 then (bif Nat.beq pc 19 then some (.aload_n 0) else none) else (bif Nat.beq pc 20 then some (.invokevirtual 60) else none))) else (bif Nat.blt pc 25 then (bif Nat.beq pc 23 then some (.bipush 43) else none) else (bif Nat.blt pc 28 then (bif Nat.beq pc 25 then some (.if_icmp .ne 57) else none) else (bif Nat.beq pc 28 then some (.aload_n 0) else none)))) else (bif Nat.blt pc 35 then (bif Nat.blt pc 32 then (bif Nat.beq pc 29 then some (.getfield 9) else none) else (bif Nat.blt pc 34 then (bif Nat.beq pc 32 then some (.istore 4) else none) else (bif Nat.beq pc 34 then some (.aload_n 0) else none))) else (bif Nat.blt pc 36 then (bif Nat.beq pc 35 then some (.dup) else none) else (bif Nat.blt pc 39 then (bif Nat.beq pc 36 then some (.getfield 9) else none) else (bif Nat.beq pc 39 then some (.iconst 1) else none)))))) else (bif Nat.blt pc 61 then (bif Nat.blt pc 49 then (bif Nat.blt pc 44 then (bif Nat.blt pc 41 then (bif Nat.beq pc 40 then some (.iadd) else none) else (bif Nat.beq pc 41 then some (.putfield 9) else none)) else (bif Nat.blt pc 45 then (bif Nat.beq pc 44 then some (.aload_n 0) else none) else (bif Nat.blt pc 46 then (bif Nat.beq pc 45 then some (.iload_n 1) else none) else (bif Nat.beq pc 46 then some (.invokevirtual 87) else none)))) else (bif Nat.blt pc 54 then (bif Nat.blt pc 51 then (bif Nat.beq pc 49 then some (.istore 5) else none) else (bif Nat.blt pc 53 then (bif Nat.beq pc 51 then some (.iload 5) else none) else (bif Nat.beq pc 53 then some (.iconst (-1)) else none))) else (bif Nat.blt pc 57 then (bif Nat.beq pc 54 then some (.if_icmp .ne 7) else none) else (bif Nat.blt pc 58 then (bif Nat.beq pc 57 then some (.iconst (-1)) else none) else (bif Nat.beq pc 58 then some (.goto 17) else none))))) else (bif Nat.blt pc 72 then (bif Nat.blt pc 67 then (bif Nat.blt pc 62 then (bif Nat.beq pc 61 then some (.aload_n 0) else none) else (bif Nat.blt pc 65 then (bif Nat.beq pc 62 then some (.getfield 48) else none) else (bif Nat.beq pc 65 then some (.bipush 7) else none))) else (bif Nat.blt pc 68 then (bif Nat.beq pc 67 then some (.iload_n 2) else none) else (bif Nat.blt pc 70 then (bif Nat.beq pc 68 then some (.iload 5) else none) else (bif Nat.beq pc 70 then some (.iload 4) else none)))) else (bif Nat.blt pc 79 then (bif Nat.blt pc 75 then (bif Nat.beq pc 72 then some (.invokevirtual 90) else none) else (bif Nat.blt pc 76 then (bif Nat.beq pc 75 then some (.istore_n 2) else none) else (bif Nat.beq pc 76 then some (.iinc 3 1) else none))) else (bif Nat.blt pc 82 then (bif Nat.beq pc 79 then some (.goto (-71)) else none) else (bif Nat.blt pc 83 then (bif Nat.beq pc 82 then some (.iload_n 2) else none) else (bif Nat.beq pc 83 then some (.ireturn) else none)))))))
def px_a_Parser_readOr (pc : Nat) : Option Instr := (bif Nat.blt pc 40 then (bif Nat.blt pc 16 then (bif Nat.blt pc 7 then (bif Nat.blt pc 2 then (bif Nat.blt pc 1 then (bif Nat.beq pc 0 then some (.aload_n 0) else none) else (bif Nat.beq pc 1 then some (.iload_n 1) else none)) else (bif Nat.blt pc 5 then (bif Nat.beq pc 2 then some (.invokevirtual 94) else none) else (bif Nat.blt pc 6 then (bif Nat.beq pc 5 then some (.istore_n 2) else none) else (bif Nat.beq pc 6 then some (.iconst 0) else none)))) else (bif Nat.blt pc 11 then (bif Nat.blt pc 8 then (bif Nat.beq pc 7 then some (.istore_n 3) else none) else (bif Nat.blt pc 9 then (bif Nat.beq pc 8 then some (.iload_n 3) else none) else (bif Nat.beq pc 9 then some (.bipush 60) else none))) else (bif Nat.blt pc 14 then (bif Nat.beq pc 11 then some (.if_icmp .ge 71) else none) else (bif Nat.blt pc 15 then (bif Nat.beq pc 14 then some (.iload_n 2) else none) else (bif Nat.beq pc 15 then some (.iconst (-1)) else none))))) else (bif Nat.blt pc 29 then (bif Nat.blt pc 23 then (bif Nat.blt pc 19 then (bif Nat.beq pc 16 then some (.if_icmp .eq 66) else none) else (bif Nat.blt pc 20 then (bif Nat.beq pc 19 then some (.aload_n 0) else none) else (bif Nat.beq pc 20 then some (.invokevirtual 60) else none))) else (bif Nat.blt pc 25 then (bif Nat.beq pc 23 then some (.bipush 124) else none) else (bif Nat.blt pc 28 then (bif Nat.beq pc 25 then some (.if_icmp .ne 57) else none) else (bif Nat.beq pc 28 then some (.aload_n 0) else none)))) else (bif Nat.blt pc 35 then (bif Nat.blt pc 32 then (bif Nat.beq pc 29 then some (.getfield 9) else none) else (bif Nat.blt pc 34 then (bif Nat.beq pc 32 then some (.istore 4) else none) else (bif Nat.beq pc 34 then some (.aload_n 0) else none))) else (bif Nat.blt pc 36 then (bif Nat.beq pc 35 then some (.dup) else none) else (bif Nat.blt pc 39 then (bif Nat.beq pc 36 then some (.getfield 9) else none) else (bif Nat.beq pc 39 then some (.iconst 1) else none)))))) else (bif Nat.blt pc 61 then (bif Nat.blt pc 49 then (bif Nat.blt pc 44 then (bif Nat.blt pc 41 then (bif Nat.beq pc 40 then some (.iadd) else none) else (bif Nat.beq pc 41 then some (.putfield 9) else none)) else (bif Nat.blt pc 45 then (bif Nat.beq pc 44 then some (.aload_n 0) else none) else (bif Nat.blt pc 46 then (bif Nat.beq pc 45 then some (.iload_n 1) else none) else (bif Nat.beq pc 46 then some (.invokevirtual 94) else none)))) else (bif Nat.blt pc 54 then (bif Nat.blt pc 51 then (bif Nat.beq pc 49 then some (.istore 5) else none) else (bif Nat.blt pc 53 then (bif Nat.beq pc 51 then some (.iload 5) else none) else (bif Nat.beq pc 53 then some (.iconst (-1)) else none))) else (bif Nat.blt pc 57 then (bif Nat.beq pc 54 then some (.if_icmp .ne 7) else none) else (bif Nat.blt pc 58 then (bif Nat.beq pc 57 then some (.iconst (-1)) else none) else (bif Nat.beq pc 58 then some (.goto 17) else none))))) else (bif Nat.blt pc 72 then (bif Nat.blt pc 67 then (bif Nat.blt pc 62 then (bif Nat.beq pc 61 then some (.aload_n 0) else none) else (bif Nat.blt pc 65 then (bif Nat.beq pc 62 then some (.getfield 48) else none) else (bif Nat.beq pc 65 then some (.bipush 6) else none))) else (bif Nat.blt pc 68 then (bif Nat.beq pc 67 then some (.iload_n 2) else none) else (bif Nat.blt pc 70 then (bif Nat.beq pc 68 then some (.iload 5) else none) else (bif Nat.beq pc 70 then some (.iload 4) else none)))) else (bif Nat.blt pc 79 then (bif Nat.blt pc 75 then (bif Nat.beq pc 72 then some (.invokevirtual 90) else none) else (bif Nat.blt pc 76 then (bif Nat.beq pc 75 then some (.istore_n 2) else none) else (bif Nat.beq pc 76 then some (.iinc 3 1) else none))) else (bif Nat.blt pc 82 then (bif Nat.beq pc 79 then some (.goto (-71)) else none) else (bif Nat.blt pc 83 then (bif Nat.beq pc 82 then some (.iload_n 2) else none) else (bif Nat.beq pc 83 then some (.ireturn) else none)))))))
def px_a_Parser_readPart (pc : Nat) : Option Instr := (bif Nat.blt pc 19 then (bif Nat.blt pc 8 then (bif Nat.blt pc 5 then (bif Nat.blt pc 1 then (bif Nat.beq pc 0 then some (.aload_n 0) else none) else (bif Nat.blt pc 2 then (bif Nat.beq pc 1 then some (.iload_n 1) else none) else (bif Nat.beq pc 2 then some (.invokevirtual 97) else none))) else (bif Nat.blt pc 6 then (bif Nat.beq pc 5 then some (.istore_n 2) else none) else (bif Nat.blt pc 7 then (bif Nat.beq pc 6 then some (.iconst 0) else none) else (bif Nat.beq pc 7 then some (.istore_n 3) else none)))) else (bif Nat.blt pc 14 then (bif Nat.blt pc 9 then (bif Nat.beq pc 8 then some (.iload_n 3) else none) else (bif Nat.blt pc 11 then (bif Nat.beq pc 9 then some (.bipush 60) else none) else (bif Nat.beq pc 11 then some (.if_icmp .ge 30) else none))) else (bif Nat.blt pc 15 then (bif Nat.beq pc 14 then some (.iload_n 2) else none) else (bif Nat.blt pc 16 then (bif Nat.beq pc 15 then some (.iconst (-1)) else none) else (bif Nat.beq pc 16 then some (.if_icmp .eq 25) else none))))) else (bif Nat.blt pc 31 then (bif Nat.blt pc 26 then (bif Nat.blt pc 20 then (bif Nat.beq pc 19 then some (.aload_n 0) else none) else (bif Nat.blt pc 23 then (bif Nat.beq pc 20 then some (.invokevirtual 60) else none) else (bif Nat.beq pc 23 then some (.invokestatic 100) else none))) else (bif Nat.blt pc 29 then (bif Nat.beq pc 26 then some (.ifCond .eq 15) else none) else (bif Nat.blt pc 30 then (bif Nat.beq pc 29 then some (.aload_n 0) else none) else (bif Nat.beq pc 30 then some (.iload_n 2) else none)))) else (bif Nat.blt pc 38 then (bif Nat.blt pc 34 then (bif Nat.beq pc 31 then some (.invokevirtual 103) else none) else (bif Nat.blt pc 35 then (bif Nat.beq pc 34 then some (.istore_n 2) else none) else (bif Nat.beq pc 35 then some (.iinc 3 1) else none))) else (bif Nat.blt pc 41 then (bif Nat.beq pc 38 then some (.goto (-30)) else none) else (bif Nat.blt pc 42 then (bif Nat.beq pc 41 then some (.iload_n 2) else none) else (bif Nat.beq pc 42 then some (.ireturn) else none))))))
def px_a_Parser_readAtom (pc : Nat) : Option Instr := (bif Nat.blt pc 102 then (bif Nat.blt pc 49 then (bif Nat.blt pc 24 then (bif Nat.blt pc 11 then (bif Nat.blt pc 5 then (bif Nat.blt pc 1 then (bif Nat.beq pc 0 then some (.aload_n 0) else none) else (bif Nat.blt pc 4 then (bif Nat.beq pc 1 then some (.invokevirtual 60) else none) else (bif Nat.beq pc 4 then some (.istore_n 2) else none))) else (bif Nat.blt pc 9 then (bif Nat.blt pc 6 then (bif Nat.beq pc 5 then some (.aload_n 0) else none) else (bif Nat.beq pc 6 then some (.getfield 9) else none)) else (bif Nat.blt pc 10 then (bif Nat.beq pc 9 then some (.istore_n 3) else none) else (bif Nat.beq pc 10 then some (.iload_n 2) else none)))) else (bif Nat.blt pc 18 then (bif Nat.blt pc 14 then (bif Nat.beq pc 11 then some (.invokestatic 82) else none) else (bif Nat.blt pc 16 then (bif Nat.beq pc 14 then some (.istore 4) else none) else (bif Nat.beq pc 16 then some (.iload 4) else none))) else (bif Nat.blt pc 22 then (bif Nat.blt pc 19 then (bif Nat.beq pc 18 then some (.iconst (-1)) else none) else (bif Nat.beq pc 19 then some (.if_icmp .eq 26) else none)) else (bif Nat.blt pc 23 then (bif Nat.beq pc 22 then some (.aload_n 0) else none) else (bif Nat.beq pc 23 then some (.dup) else none))))) else (bif Nat.blt pc 37 then (bif Nat.blt pc 29 then (bif Nat.blt pc 27 then (bif Nat.beq pc 24 then some (.getfield 9) else none) else (bif Nat.blt pc 28 then (bif Nat.beq pc 27 then some (.iconst 1) else none) else (bif Nat.beq pc 28 then some (.iadd) else none))) else (bif Nat.blt pc 33 then (bif Nat.blt pc 32 then (bif Nat.beq pc 29 then some (.putfield 9) else none) else (bif Nat.beq pc 32 then some (.aload_n 0) else none)) else (bif Nat.blt pc 36 then (bif Nat.beq pc 33 then some (.getfield 48) else none) else (bif Nat.beq pc 36 then some (.iconst 0) else none)))) else (bif Nat.blt pc 41 then (bif Nat.blt pc 39 then (bif Nat.beq pc 37 then some (.iload 4) else none) else (bif Nat.blt pc 40 then (bif Nat.beq pc 39 then some (.iconst 0) else none) else (bif Nat.beq pc 40 then some (.iload_n 3) else none))) else (bif Nat.blt pc 45 then (bif Nat.blt pc 44 then (bif Nat.beq pc 41 then some (.invokevirtual 90) else none) else (bif Nat.beq pc 44 then some (.ireturn) else none)) else (bif Nat.blt pc 46 then (bif Nat.beq pc 45 then some (.iload_n 2) else none) else (bif Nat.beq pc 46 then some (.invokestatic 72) else none)))))) else (bif Nat.blt pc 75 then (bif Nat.blt pc 62 then (bif Nat.blt pc 54 then (bif Nat.blt pc 52 then (bif Nat.beq pc 49 then some (.ifCond .eq 13) else none) else (bif Nat.blt pc 53 then (bif Nat.beq pc 52 then some (.aload_n 0) else none) else (bif Nat.beq pc 53 then some (.aload_n 0) else none))) else (bif Nat.blt pc 58 then (bif Nat.blt pc 57 then (bif Nat.beq pc 54 then some (.getfield 40) else none) else (bif Nat.beq pc 57 then some (.iload_n 3) else none)) else (bif Nat.blt pc 61 then (bif Nat.beq pc 58 then some (.invokevirtual 106) else none) else (bif Nat.beq pc 61 then some (.ireturn) else none)))) else (bif Nat.blt pc 68 then (bif Nat.blt pc 63 then (bif Nat.beq pc 62 then some (.iload_n 2) else none) else (bif Nat.blt pc 65 then (bif Nat.beq pc 63 then some (.bipush 48) else none) else (bif Nat.beq pc 65 then some (.if_icmp .lt 42) else none))) else (bif Nat.blt pc 71 then (bif Nat.blt pc 69 then (bif Nat.beq pc 68 then some (.iload_n 2) else none) else (bif Nat.beq pc 69 then some (.bipush 56) else none)) else (bif Nat.blt pc 74 then (bif Nat.beq pc 71 then some (.if_icmp .ge 36) else none) else (bif Nat.beq pc 74 then some (.aload_n 0) else none))))) else (bif Nat.blt pc 87 then (bif Nat.blt pc 80 then (bif Nat.blt pc 76 then (bif Nat.beq pc 75 then some (.dup) else none) else (bif Nat.blt pc 79 then (bif Nat.beq pc 76 then some (.getfield 9) else none) else (bif Nat.beq pc 79 then some (.iconst 1) else none))) else (bif Nat.blt pc 84 then (bif Nat.blt pc 81 then (bif Nat.beq pc 80 then some (.iadd) else none) else (bif Nat.beq pc 81 then some (.putfield 9) else none)) else (bif Nat.blt pc 85 then (bif Nat.beq pc 84 then some (.aload_n 0) else none) else (bif Nat.beq pc 85 then some (.bipush 46) else none)))) else (bif Nat.blt pc 95 then (bif Nat.blt pc 93 then (bif Nat.blt pc 90 then (bif Nat.beq pc 87 then some (.invokevirtual 76) else none) else (bif Nat.beq pc 90 then some (.ifCond .eq 15) else none)) else (bif Nat.blt pc 94 then (bif Nat.beq pc 93 then some (.aload_n 0) else none) else (bif Nat.beq pc 94 then some (.iload_n 2) else none))) else (bif Nat.blt pc 98 then (bif Nat.blt pc 97 then (bif Nat.beq pc 95 then some (.bipush 48) else none) else (bif Nat.beq pc 97 then some (.isub) else none)) else (bif Nat.blt pc 99 then (bif Nat.beq pc 98 then some (.iload_n 3) else none) else (bif Nat.beq pc 99 then some (.invokevirtual 106) else none))))))) else (bif Nat.blt pc 151 then (bif Nat.blt pc 128 then (bif Nat.blt pc 114 then (bif Nat.blt pc 107 then (bif Nat.blt pc 105 then (bif Nat.beq pc 102 then some (.goto 4) else none) else (bif Nat.blt pc 106 then (bif Nat.beq pc 105 then some (.iconst (-1)) else none) else (bif Nat.beq pc 106 then some (.ireturn) else none))) else (bif Nat.blt pc 110 then (bif Nat.blt pc 108 then (bif Nat.beq pc 107 then some (.iload_n 2) else none) else (bif Nat.beq pc 108 then some (.bipush 91) else none)) else (bif Nat.blt pc 113 then (bif Nat.beq pc 110 then some (.if_icmp .ne 7) else none) else (bif Nat.beq pc 113 then some (.iconst 1) else none)))) else (bif Nat.blt pc 120 then (bif Nat.blt pc 117 then (bif Nat.beq pc 114 then some (.goto 4) else none) else (bif Nat.blt pc 118 then (bif Nat.beq pc 117 then some (.iconst 0) else none) else (bif Nat.beq pc 118 then some (.istore 5) else none))) else (bif Nat.blt pc 125 then (bif Nat.blt pc 122 then (bif Nat.beq pc 120 then some (.iload 5) else none) else (bif Nat.beq pc 122 then some (.ifCond .ne 9) else none)) else (bif Nat.blt pc 126 then (bif Nat.beq pc 125 then some (.iload_n 2) else none) else (bif Nat.beq pc 126 then some (.bipush 40) else none))))) else (bif Nat.blt pc 140 then (bif Nat.blt pc 134 then (bif Nat.blt pc 131 then (bif Nat.beq pc 128 then some (.if_icmp .ne 9) else none) else (bif Nat.blt pc 132 then (bif Nat.beq pc 131 then some (.iload_n 1) else none) else (bif Nat.beq pc 132 then some (.bipush 12) else none))) else (bif Nat.blt pc 138 then (bif Nat.blt pc 137 then (bif Nat.beq pc 134 then some (.if_icmp .lt 5) else none) else (bif Nat.beq pc 137 then some (.iconst (-1)) else none)) else (bif Nat.blt pc 139 then (bif Nat.beq pc 138 then some (.ireturn) else none) else (bif Nat.beq pc 139 then some (.aload_n 0) else none)))) else (bif Nat.blt pc 145 then (bif Nat.blt pc 141 then (bif Nat.beq pc 140 then some (.dup) else none) else (bif Nat.blt pc 144 then (bif Nat.beq pc 141 then some (.getfield 9) else none) else (bif Nat.beq pc 144 then some (.iconst 1) else none))) else (bif Nat.blt pc 149 then (bif Nat.blt pc 146 then (bif Nat.beq pc 145 then some (.iadd) else none) else (bif Nat.beq pc 146 then some (.putfield 9) else none)) else (bif Nat.blt pc 150 then (bif Nat.beq pc 149 then some (.aload_n 0) else none) else (bif Nat.beq pc 150 then some (.iload_n 1) else none)))))) else (bif Nat.blt pc 180 then (bif Nat.blt pc 164 then (bif Nat.blt pc 156 then (bif Nat.blt pc 152 then (bif Nat.beq pc 151 then some (.iconst 1) else none) else (bif Nat.blt pc 153 then (bif Nat.beq pc 152 then some (.iadd) else none) else (bif Nat.beq pc 153 then some (.invokevirtual 56) else none))) else (bif Nat.blt pc 160 then (bif Nat.blt pc 158 then (bif Nat.beq pc 156 then some (.istore 6) else none) else (bif Nat.beq pc 158 then some (.iload 6) else none)) else (bif Nat.blt pc 161 then (bif Nat.beq pc 160 then some (.iconst (-1)) else none) else (bif Nat.beq pc 161 then some (.if_icmp .eq 22) else none)))) else (bif Nat.blt pc 170 then (bif Nat.blt pc 165 then (bif Nat.beq pc 164 then some (.aload_n 0) else none) else (bif Nat.blt pc 167 then (bif Nat.beq pc 165 then some (.iload 5) else none) else (bif Nat.beq pc 167 then some (.ifCond .eq 8) else none))) else (bif Nat.blt pc 175 then (bif Nat.blt pc 172 then (bif Nat.beq pc 170 then some (.bipush 93) else none) else (bif Nat.beq pc 172 then some (.goto 5) else none)) else (bif Nat.blt pc 177 then (bif Nat.beq pc 175 then some (.bipush 41) else none) else (bif Nat.beq pc 177 then some (.invokevirtual 76) else none))))) else (bif Nat.blt pc 194 then (bif Nat.blt pc 185 then (bif Nat.blt pc 183 then (bif Nat.beq pc 180 then some (.ifCond .ne 5) else none) else (bif Nat.blt pc 184 then (bif Nat.beq pc 183 then some (.iconst (-1)) else none) else (bif Nat.beq pc 184 then some (.ireturn) else none))) else (bif Nat.blt pc 190 then (bif Nat.blt pc 187 then (bif Nat.beq pc 185 then some (.iload 5) else none) else (bif Nat.beq pc 187 then some (.ifCond .eq 18) else none)) else (bif Nat.blt pc 191 then (bif Nat.beq pc 190 then some (.aload_n 0) else none) else (bif Nat.beq pc 191 then some (.getfield 48) else none)))) else (bif Nat.blt pc 199 then (bif Nat.blt pc 197 then (bif Nat.blt pc 195 then (bif Nat.beq pc 194 then some (.iconst 2) else none) else (bif Nat.beq pc 195 then some (.iload 6) else none)) else (bif Nat.blt pc 198 then (bif Nat.beq pc 197 then some (.iconst 0) else none) else (bif Nat.beq pc 198 then some (.iload_n 3) else none))) else (bif Nat.blt pc 205 then (bif Nat.blt pc 202 then (bif Nat.beq pc 199 then some (.invokevirtual 90) else none) else (bif Nat.beq pc 202 then some (.goto 5) else none)) else (bif Nat.blt pc 207 then (bif Nat.beq pc 205 then some (.iload 6) else none) else (bif Nat.beq pc 207 then some (.ireturn) else none))))))))
def px_a_Parser_readName (pc : Nat) : Option Instr := (bif Nat.blt pc 28 then (bif Nat.blt pc 14 then (bif Nat.blt pc 6 then (bif Nat.blt pc 4 then (bif Nat.blt pc 1 then (bif Nat.beq pc 0 then some (.aload_n 0) else none) else (bif Nat.beq pc 1 then some (.invokevirtual 60) else none)) else (bif Nat.blt pc 5 then (bif Nat.beq pc 4 then some (.istore_n 3) else none) else (bif Nat.beq pc 5 then some (.iload_n 3) else none))) else (bif Nat.blt pc 12 then (bif Nat.blt pc 9 then (bif Nat.beq pc 6 then some (.invokestatic 72) else none) else (bif Nat.beq pc 9 then some (.ifCond .ne 5) else none)) else (bif Nat.blt pc 13 then (bif Nat.beq pc 12 then some (.iconst (-1)) else none) else (bif Nat.beq pc 13 then some (.ireturn) else none)))) else (bif Nat.blt pc 20 then (bif Nat.blt pc 16 then (bif Nat.blt pc 15 then (bif Nat.beq pc 14 then some (.aload_n 0) else none) else (bif Nat.beq pc 15 then some (.dup) else none)) else (bif Nat.blt pc 19 then (bif Nat.beq pc 16 then some (.getfield 9) else none) else (bif Nat.beq pc 19 then some (.iconst 1) else none))) else (bif Nat.blt pc 24 then (bif Nat.blt pc 21 then (bif Nat.beq pc 20 then some (.iadd) else none) else (bif Nat.beq pc 21 then some (.putfield 9) else none)) else (bif Nat.blt pc 25 then (bif Nat.beq pc 24 then some (.iload_n 1) else none) else (bif Nat.blt pc 27 then (bif Nat.beq pc 25 then some (.bipush 26) else none) else (bif Nat.beq pc 27 then some (.imul) else none)))))) else (bif Nat.blt pc 44 then (bif Nat.blt pc 33 then (bif Nat.blt pc 30 then (bif Nat.blt pc 29 then (bif Nat.beq pc 28 then some (.iload_n 3) else none) else (bif Nat.beq pc 29 then some (.iadd) else none)) else (bif Nat.blt pc 32 then (bif Nat.beq pc 30 then some (.bipush 65) else none) else (bif Nat.beq pc 32 then some (.isub) else none))) else (bif Nat.blt pc 36 then (bif Nat.blt pc 35 then (bif Nat.beq pc 33 then some (.istore 4) else none) else (bif Nat.beq pc 35 then some (.aload_n 0) else none)) else (bif Nat.blt pc 39 then (bif Nat.beq pc 36 then some (.getfield 48) else none) else (bif Nat.blt pc 42 then (bif Nat.beq pc 39 then some (.getfield 109) else none) else (bif Nat.beq pc 42 then some (.iload 4) else none))))) else (bif Nat.blt pc 52 then (bif Nat.blt pc 48 then (bif Nat.blt pc 47 then (bif Nat.beq pc 44 then some (.invokevirtual 113) else none) else (bif Nat.beq pc 47 then some (.aload_n 0) else none)) else (bif Nat.blt pc 51 then (bif Nat.beq pc 48 then some (.getfield 48) else none) else (bif Nat.beq pc 51 then some (.iconst 1) else none))) else (bif Nat.blt pc 55 then (bif Nat.blt pc 54 then (bif Nat.beq pc 52 then some (.iload 4) else none) else (bif Nat.beq pc 54 then some (.iconst 0) else none)) else (bif Nat.blt pc 56 then (bif Nat.beq pc 55 then some (.iload_n 2) else none) else (bif Nat.blt pc 59 then (bif Nat.beq pc 56 then some (.invokevirtual 90) else none) else (bif Nat.beq pc 59 then some (.ireturn) else none)))))))
def px_a_Parser_isEnding (pc : Nat) : Option Instr := (bif Nat.blt pc 12 then (bif Nat.blt pc 6 then (bif Nat.blt pc 1 then (bif Nat.beq pc 0 then some (.iload_n 0) else none) else (bif Nat.blt pc 3 then (bif Nat.beq pc 1 then some (.bipush 33) else none) else (bif Nat.beq pc 3 then some (.if_icmp .eq 15) else none))) else (bif Nat.blt pc 7 then (bif Nat.beq pc 6 then some (.iload_n 0) else none) else (bif Nat.blt pc 9 then (bif Nat.beq pc 7 then some (.bipush 91) else none) else (bif Nat.beq pc 9 then some (.if_icmp .eq 9) else none)))) else (bif Nat.blt pc 18 then (bif Nat.blt pc 13 then (bif Nat.beq pc 12 then some (.iload_n 0) else none) else (bif Nat.blt pc 15 then (bif Nat.beq pc 13 then some (.bipush 38) else none) else (bif Nat.beq pc 15 then some (.if_icmp .ne 7) else none))) else (bif Nat.blt pc 22 then (bif Nat.blt pc 19 then (bif Nat.beq pc 18 then some (.iconst 1) else none) else (bif Nat.beq pc 19 then some (.goto 4) else none)) else (bif Nat.blt pc 23 then (bif Nat.beq pc 22 then some (.iconst 0) else none) else (bif Nat.beq pc 23 then some (.ireturn) else none)))))
def px_a_Parser_readEnding (pc : Nat) : Option Instr := (bif Nat.blt pc 58 then (bif Nat.blt pc 27 then (bif Nat.blt pc 12 then (bif Nat.blt pc 6 then (bif Nat.blt pc 4 then (bif Nat.blt pc 1 then (bif Nat.beq pc 0 then some (.aload_n 0) else none) else (bif Nat.beq pc 1 then some (.getfield 9) else none)) else (bif Nat.blt pc 5 then (bif Nat.beq pc 4 then some (.istore_n 2) else none) else (bif Nat.beq pc 5 then some (.aload_n 0) else none))) else (bif Nat.blt pc 10 then (bif Nat.blt pc 9 then (bif Nat.beq pc 6 then some (.invokevirtual 60) else none) else (bif Nat.beq pc 9 then some (.istore_n 3) else none)) else (bif Nat.blt pc 11 then (bif Nat.beq pc 10 then some (.aload_n 0) else none) else (bif Nat.beq pc 11 then some (.dup) else none)))) else (bif Nat.blt pc 20 then (bif Nat.blt pc 16 then (bif Nat.blt pc 15 then (bif Nat.beq pc 12 then some (.getfield 9) else none) else (bif Nat.beq pc 15 then some (.iconst 1) else none)) else (bif Nat.blt pc 17 then (bif Nat.beq pc 16 then some (.iadd) else none) else (bif Nat.beq pc 17 then some (.putfield 9) else none))) else (bif Nat.blt pc 23 then (bif Nat.blt pc 21 then (bif Nat.beq pc 20 then some (.iload_n 3) else none) else (bif Nat.beq pc 21 then some (.bipush 33) else none)) else (bif Nat.blt pc 26 then (bif Nat.beq pc 23 then some (.if_icmp .ne 15) else none) else (bif Nat.beq pc 26 then some (.aload_n 0) else none))))) else (bif Nat.blt pc 39 then (bif Nat.blt pc 33 then (bif Nat.blt pc 31 then (bif Nat.blt pc 30 then (bif Nat.beq pc 27 then some (.getfield 48) else none) else (bif Nat.beq pc 30 then some (.iconst 4) else none)) else (bif Nat.blt pc 32 then (bif Nat.beq pc 31 then some (.iload_n 1) else none) else (bif Nat.beq pc 32 then some (.iconst 0) else none))) else (bif Nat.blt pc 37 then (bif Nat.blt pc 34 then (bif Nat.beq pc 33 then some (.iload_n 2) else none) else (bif Nat.beq pc 34 then some (.invokevirtual 90) else none)) else (bif Nat.blt pc 38 then (bif Nat.beq pc 37 then some (.ireturn) else none) else (bif Nat.beq pc 38 then some (.iload_n 3) else none)))) else (bif Nat.blt pc 47 then (bif Nat.blt pc 44 then (bif Nat.blt pc 41 then (bif Nat.beq pc 39 then some (.bipush 91) else none) else (bif Nat.beq pc 41 then some (.if_icmp .ne 28) else none)) else (bif Nat.blt pc 45 then (bif Nat.beq pc 44 then some (.aload_n 0) else none) else (bif Nat.beq pc 45 then some (.bipush 93) else none))) else (bif Nat.blt pc 53 then (bif Nat.blt pc 50 then (bif Nat.beq pc 47 then some (.invokevirtual 76) else none) else (bif Nat.beq pc 50 then some (.ifCond .eq 17) else none)) else (bif Nat.blt pc 54 then (bif Nat.beq pc 53 then some (.aload_n 0) else none) else (bif Nat.blt pc 57 then (bif Nat.beq pc 54 then some (.getfield 48) else none) else (bif Nat.beq pc 57 then some (.iconst 3) else none))))))) else (bif Nat.blt pc 90 then (bif Nat.blt pc 70 then (bif Nat.blt pc 64 then (bif Nat.blt pc 60 then (bif Nat.blt pc 59 then (bif Nat.beq pc 58 then some (.iload_n 1) else none) else (bif Nat.beq pc 59 then some (.iconst 0) else none)) else (bif Nat.blt pc 61 then (bif Nat.beq pc 60 then some (.iload_n 2) else none) else (bif Nat.beq pc 61 then some (.invokevirtual 90) else none))) else (bif Nat.blt pc 68 then (bif Nat.blt pc 67 then (bif Nat.beq pc 64 then some (.goto 4) else none) else (bif Nat.beq pc 67 then some (.iconst (-1)) else none)) else (bif Nat.blt pc 69 then (bif Nat.beq pc 68 then some (.ireturn) else none) else (bif Nat.beq pc 69 then some (.aload_n 0) else none)))) else (bif Nat.blt pc 80 then (bif Nat.blt pc 76 then (bif Nat.blt pc 73 then (bif Nat.beq pc 70 then some (.invokevirtual 60) else none) else (bif Nat.beq pc 73 then some (.invokestatic 82) else none)) else (bif Nat.blt pc 78 then (bif Nat.beq pc 76 then some (.istore 4) else none) else (bif Nat.beq pc 78 then some (.iload 4) else none))) else (bif Nat.blt pc 84 then (bif Nat.blt pc 81 then (bif Nat.beq pc 80 then some (.iconst (-1)) else none) else (bif Nat.beq pc 81 then some (.if_icmp .eq 12) else none)) else (bif Nat.blt pc 85 then (bif Nat.beq pc 84 then some (.aload_n 0) else none) else (bif Nat.blt pc 88 then (bif Nat.beq pc 85 then some (.invokevirtual 60) else none) else (bif Nat.beq pc 88 then some (.bipush 63) else none)))))) else (bif Nat.blt pc 102 then (bif Nat.blt pc 96 then (bif Nat.blt pc 94 then (bif Nat.blt pc 93 then (bif Nat.beq pc 90 then some (.if_icmp .ne 5) else none) else (bif Nat.beq pc 93 then some (.iconst (-1)) else none)) else (bif Nat.blt pc 95 then (bif Nat.beq pc 94 then some (.ireturn) else none) else (bif Nat.beq pc 95 then some (.aload_n 0) else none))) else (bif Nat.blt pc 100 then (bif Nat.blt pc 97 then (bif Nat.beq pc 96 then some (.dup) else none) else (bif Nat.beq pc 97 then some (.getfield 9) else none)) else (bif Nat.blt pc 101 then (bif Nat.beq pc 100 then some (.iconst 1) else none) else (bif Nat.beq pc 101 then some (.iadd) else none)))) else (bif Nat.blt pc 110 then (bif Nat.blt pc 106 then (bif Nat.blt pc 105 then (bif Nat.beq pc 102 then some (.putfield 9) else none) else (bif Nat.beq pc 105 then some (.aload_n 0) else none)) else (bif Nat.blt pc 109 then (bif Nat.beq pc 106 then some (.getfield 48) else none) else (bif Nat.beq pc 109 then some (.iconst 5) else none))) else (bif Nat.blt pc 113 then (bif Nat.blt pc 111 then (bif Nat.beq pc 110 then some (.iload_n 1) else none) else (bif Nat.beq pc 111 then some (.iload 4) else none)) else (bif Nat.blt pc 114 then (bif Nat.beq pc 113 then some (.iload_n 2) else none) else (bif Nat.blt pc 117 then (bif Nat.beq pc 114 then some (.invokevirtual 90) else none) else (bif Nat.beq pc 117 then some (.ireturn) else none))))))))
def px_a_SymbolSet_init (pc : Nat) : Option Instr := (bif Nat.blt pc 5 then (bif Nat.blt pc 1 then (bif Nat.beq pc 0 then some (.aload_n 0) else none) else (bif Nat.blt pc 4 then (bif Nat.beq pc 1 then some (.invokespecial 3) else none) else (bif Nat.beq pc 4 then some (.aload_n 0) else none))) else (bif Nat.blt pc 8 then (bif Nat.blt pc 6 then (bif Nat.beq pc 5 then some (.iconst 4) else none) else (bif Nat.beq pc 6 then some (.newarray .long) else none)) else (bif Nat.blt pc 11 then (bif Nat.beq pc 8 then some (.putfield 11) else none) else (bif Nat.beq pc 11 then some (.return_) else none))))
def px_a_SymbolSet_add (pc : Nat) : Option Instr := (bif Nat.blt pc 19 then (bif Nat.blt pc 11 then (bif Nat.blt pc 4 then (bif Nat.blt pc 1 then (bif Nat.beq pc 0 then some (.iload_n 1) else none) else (bif Nat.beq pc 1 then some (.ifCond .lt 28) else none)) else (bif Nat.blt pc 5 then (bif Nat.beq pc 4 then some (.iload_n 1) else none) else (bif Nat.blt pc 8 then (bif Nat.beq pc 5 then some (.sipush 208) else none) else (bif Nat.beq pc 8 then some (.if_icmp .ge 21) else none)))) else (bif Nat.blt pc 15 then (bif Nat.blt pc 12 then (bif Nat.beq pc 11 then some (.aload_n 0) else none) else (bif Nat.beq pc 12 then some (.getfield 11) else none)) else (bif Nat.blt pc 16 then (bif Nat.beq pc 15 then some (.iload_n 1) else none) else (bif Nat.blt pc 18 then (bif Nat.beq pc 16 then some (.bipush 6) else none) else (bif Nat.beq pc 18 then some (.ishr) else none))))) else (bif Nat.blt pc 25 then (bif Nat.blt pc 21 then (bif Nat.blt pc 20 then (bif Nat.beq pc 19 then some (.dup2) else none) else (bif Nat.beq pc 20 then some (.laload) else none)) else (bif Nat.blt pc 22 then (bif Nat.beq pc 21 then some (.lconst 1) else none) else (bif Nat.blt pc 23 then (bif Nat.beq pc 22 then some (.iload_n 1) else none) else (bif Nat.beq pc 23 then some (.bipush 63) else none)))) else (bif Nat.blt pc 27 then (bif Nat.blt pc 26 then (bif Nat.beq pc 25 then some (.iand) else none) else (bif Nat.beq pc 26 then some (.lshl) else none)) else (bif Nat.blt pc 28 then (bif Nat.beq pc 27 then some (.lor) else none) else (bif Nat.blt pc 29 then (bif Nat.beq pc 28 then some (.lastore) else none) else (bif Nat.beq pc 29 then some (.return_) else none))))))
def px_a_SymbolSet_clear (pc : Nat) : Option Instr := (bif Nat.blt pc 8 then (bif Nat.blt pc 3 then (bif Nat.blt pc 1 then (bif Nat.beq pc 0 then some (.iconst 0) else none) else (bif Nat.blt pc 2 then (bif Nat.beq pc 1 then some (.istore_n 1) else none) else (bif Nat.beq pc 2 then some (.iload_n 1) else none))) else (bif Nat.blt pc 4 then (bif Nat.beq pc 3 then some (.iconst 4) else none) else (bif Nat.blt pc 7 then (bif Nat.beq pc 4 then some (.if_icmp .ge 16) else none) else (bif Nat.beq pc 7 then some (.aload_n 0) else none)))) else (bif Nat.blt pc 13 then (bif Nat.blt pc 11 then (bif Nat.beq pc 8 then some (.getfield 11) else none) else (bif Nat.blt pc 12 then (bif Nat.beq pc 11 then some (.iload_n 1) else none) else (bif Nat.beq pc 12 then some (.lconst 0) else none))) else (bif Nat.blt pc 17 then (bif Nat.blt pc 14 then (bif Nat.beq pc 13 then some (.lastore) else none) else (bif Nat.beq pc 14 then some (.iinc 1 1) else none)) else (bif Nat.blt pc 20 then (bif Nat.beq pc 17 then some (.goto (-15)) else none) else (bif Nat.beq pc 20 then some (.return_) else none)))))
def px_a_SymbolSet_has (pc : Nat) : Option Instr := (bif Nat.blt pc 21 then (bif Nat.blt pc 12 then (bif Nat.blt pc 5 then (bif Nat.blt pc 1 then (bif Nat.beq pc 0 then some (.iload_n 1) else none) else (bif Nat.blt pc 4 then (bif Nat.beq pc 1 then some (.ifCond .lt 35) else none) else (bif Nat.beq pc 4 then some (.iload_n 1) else none))) else (bif Nat.blt pc 8 then (bif Nat.beq pc 5 then some (.sipush 208) else none) else (bif Nat.blt pc 11 then (bif Nat.beq pc 8 then some (.if_icmp .ge 28) else none) else (bif Nat.beq pc 11 then some (.aload_n 0) else none)))) else (bif Nat.blt pc 18 then (bif Nat.blt pc 15 then (bif Nat.beq pc 12 then some (.getfield 11) else none) else (bif Nat.blt pc 16 then (bif Nat.beq pc 15 then some (.iload_n 1) else none) else (bif Nat.beq pc 16 then some (.bipush 6) else none))) else (bif Nat.blt pc 19 then (bif Nat.beq pc 18 then some (.ishr) else none) else (bif Nat.blt pc 20 then (bif Nat.beq pc 19 then some (.laload) else none) else (bif Nat.beq pc 20 then some (.iload_n 1) else none))))) else (bif Nat.blt pc 28 then (bif Nat.blt pc 25 then (bif Nat.blt pc 23 then (bif Nat.beq pc 21 then some (.bipush 63) else none) else (bif Nat.blt pc 24 then (bif Nat.beq pc 23 then some (.iand) else none) else (bif Nat.beq pc 24 then some (.lushr) else none))) else (bif Nat.blt pc 26 then (bif Nat.beq pc 25 then some (.lconst 1) else none) else (bif Nat.blt pc 27 then (bif Nat.beq pc 26 then some (.land) else none) else (bif Nat.beq pc 27 then some (.lconst 0) else none)))) else (bif Nat.blt pc 33 then (bif Nat.blt pc 29 then (bif Nat.beq pc 28 then some (.lcmp) else none) else (bif Nat.blt pc 32 then (bif Nat.beq pc 29 then some (.ifCond .eq 7) else none) else (bif Nat.beq pc 32 then some (.iconst 1) else none))) else (bif Nat.blt pc 36 then (bif Nat.beq pc 33 then some (.goto 4) else none) else (bif Nat.blt pc 37 then (bif Nat.beq pc 36 then some (.iconst 0) else none) else (bif Nat.beq pc 37 then some (.ireturn) else none))))))
def px_a_SymbolSet_addAll (pc : Nat) : Option Instr := (bif Nat.blt pc 13 then (bif Nat.blt pc 4 then (bif Nat.blt pc 2 then (bif Nat.blt pc 1 then (bif Nat.beq pc 0 then some (.iconst 0) else none) else (bif Nat.beq pc 1 then some (.istore_n 2) else none)) else (bif Nat.blt pc 3 then (bif Nat.beq pc 2 then some (.iload_n 2) else none) else (bif Nat.beq pc 3 then some (.iconst 4) else none))) else (bif Nat.blt pc 8 then (bif Nat.blt pc 7 then (bif Nat.beq pc 4 then some (.if_icmp .ge 24) else none) else (bif Nat.beq pc 7 then some (.aload_n 0) else none)) else (bif Nat.blt pc 11 then (bif Nat.beq pc 8 then some (.getfield 11) else none) else (bif Nat.blt pc 12 then (bif Nat.beq pc 11 then some (.iload_n 2) else none) else (bif Nat.beq pc 12 then some (.dup2) else none))))) else (bif Nat.blt pc 20 then (bif Nat.blt pc 15 then (bif Nat.blt pc 14 then (bif Nat.beq pc 13 then some (.laload) else none) else (bif Nat.beq pc 14 then some (.aload_n 1) else none)) else (bif Nat.blt pc 18 then (bif Nat.beq pc 15 then some (.getfield 11) else none) else (bif Nat.blt pc 19 then (bif Nat.beq pc 18 then some (.iload_n 2) else none) else (bif Nat.beq pc 19 then some (.laload) else none)))) else (bif Nat.blt pc 22 then (bif Nat.blt pc 21 then (bif Nat.beq pc 20 then some (.lor) else none) else (bif Nat.beq pc 21 then some (.lastore) else none)) else (bif Nat.blt pc 25 then (bif Nat.beq pc 22 then some (.iinc 2 1) else none) else (bif Nat.blt pc 28 then (bif Nat.beq pc 25 then some (.goto (-23)) else none) else (bif Nat.beq pc 28 then some (.return_) else none))))))
def px_a_SymbolSet_size (pc : Nat) : Option Instr := (bif Nat.blt pc 11 then (bif Nat.blt pc 4 then (bif Nat.blt pc 2 then (bif Nat.blt pc 1 then (bif Nat.beq pc 0 then some (.iconst 0) else none) else (bif Nat.beq pc 1 then some (.istore_n 1) else none)) else (bif Nat.blt pc 3 then (bif Nat.beq pc 2 then some (.iconst 0) else none) else (bif Nat.beq pc 3 then some (.istore_n 2) else none))) else (bif Nat.blt pc 6 then (bif Nat.blt pc 5 then (bif Nat.beq pc 4 then some (.iload_n 2) else none) else (bif Nat.beq pc 5 then some (.iconst 4) else none)) else (bif Nat.blt pc 9 then (bif Nat.beq pc 6 then some (.if_icmp .ge 21) else none) else (bif Nat.blt pc 10 then (bif Nat.beq pc 9 then some (.iload_n 1) else none) else (bif Nat.beq pc 10 then some (.aload_n 0) else none))))) else (bif Nat.blt pc 20 then (bif Nat.blt pc 15 then (bif Nat.blt pc 14 then (bif Nat.beq pc 11 then some (.getfield 11) else none) else (bif Nat.beq pc 14 then some (.iload_n 2) else none)) else (bif Nat.blt pc 16 then (bif Nat.beq pc 15 then some (.laload) else none) else (bif Nat.blt pc 19 then (bif Nat.beq pc 16 then some (.invokestatic 15) else none) else (bif Nat.beq pc 19 then some (.iadd) else none)))) else (bif Nat.blt pc 24 then (bif Nat.blt pc 21 then (bif Nat.beq pc 20 then some (.istore_n 1) else none) else (bif Nat.beq pc 21 then some (.iinc 2 1) else none)) else (bif Nat.blt pc 27 then (bif Nat.beq pc 24 then some (.goto (-20)) else none) else (bif Nat.blt pc 28 then (bif Nat.beq pc 27 then some (.iload_n 1) else none) else (bif Nat.beq pc 28 then some (.ireturn) else none))))))
def px_a_Symbols_init (pc : Nat) : Option Instr := (bif Nat.blt pc 23 then (bif Nat.blt pc 10 then (bif Nat.blt pc 4 then (bif Nat.blt pc 1 then (bif Nat.beq pc 0 then some (.aload_n 0) else none) else (bif Nat.beq pc 1 then some (.invokespecial 3) else none)) else (bif Nat.blt pc 5 then (bif Nat.beq pc 4 then some (.aload_n 0) else none) else (bif Nat.blt pc 8 then (bif Nat.beq pc 5 then some (.sipush 208) else none) else (bif Nat.beq pc 8 then some (.newarray .int) else none)))) else (bif Nat.blt pc 17 then (bif Nat.blt pc 13 then (bif Nat.beq pc 10 then some (.putfield 9) else none) else (bif Nat.blt pc 14 then (bif Nat.beq pc 13 then some (.aload_n 0) else none) else (bif Nat.beq pc 14 then some (.sipush 208) else none))) else (bif Nat.blt pc 19 then (bif Nat.beq pc 17 then some (.newarray .int) else none) else (bif Nat.blt pc 22 then (bif Nat.beq pc 19 then some (.putfield 15) else none) else (bif Nat.beq pc 22 then some (.iconst 0) else none))))) else (bif Nat.blt pc 35 then (bif Nat.blt pc 28 then (bif Nat.blt pc 24 then (bif Nat.beq pc 23 then some (.istore_n 1) else none) else (bif Nat.blt pc 25 then (bif Nat.beq pc 24 then some (.iload_n 1) else none) else (bif Nat.beq pc 25 then some (.sipush 208) else none))) else (bif Nat.blt pc 31 then (bif Nat.beq pc 28 then some (.if_icmp .ge 17) else none) else (bif Nat.blt pc 32 then (bif Nat.beq pc 31 then some (.aload_n 0) else none) else (bif Nat.beq pc 32 then some (.getfield 9) else none)))) else (bif Nat.blt pc 39 then (bif Nat.blt pc 36 then (bif Nat.beq pc 35 then some (.iload_n 1) else none) else (bif Nat.blt pc 38 then (bif Nat.beq pc 36 then some (.bipush 16) else none) else (bif Nat.beq pc 38 then some (.iastore) else none))) else (bif Nat.blt pc 42 then (bif Nat.beq pc 39 then some (.iinc 1 1) else none) else (bif Nat.blt pc 45 then (bif Nat.beq pc 42 then some (.goto (-18)) else none) else (bif Nat.beq pc 45 then some (.return_) else none))))))
def px_a_Symbols_addDefiners (pc : Nat) : Option Instr := (bif Nat.blt pc 12 then (bif Nat.blt pc 7 then (bif Nat.blt pc 1 then (bif Nat.beq pc 0 then some (.iload_n 1) else none) else (bif Nat.blt pc 4 then (bif Nat.beq pc 1 then some (.invokestatic 20) else none) else (bif Nat.beq pc 4 then some (.ifCond .eq 13) else none))) else (bif Nat.blt pc 8 then (bif Nat.beq pc 7 then some (.aload_n 0) else none) else (bif Nat.blt pc 11 then (bif Nat.beq pc 8 then some (.getfield 15) else none) else (bif Nat.beq pc 11 then some (.iload_n 1) else none)))) else (bif Nat.blt pc 15 then (bif Nat.blt pc 13 then (bif Nat.beq pc 12 then some (.dup2) else none) else (bif Nat.blt pc 14 then (bif Nat.beq pc 13 then some (.iaload) else none) else (bif Nat.beq pc 14 then some (.iload_n 2) else none))) else (bif Nat.blt pc 16 then (bif Nat.beq pc 15 then some (.iadd) else none) else (bif Nat.blt pc 17 then (bif Nat.beq pc 16 then some (.iastore) else none) else (bif Nat.beq pc 17 then some (.return_) else none)))))
def px_a_Symbols_isSymbol (pc : Nat) : Option Instr := (bif Nat.blt pc 8 then (bif Nat.blt pc 4 then (bif Nat.blt pc 1 then (bif Nat.beq pc 0 then some (.iload_n 0) else none) else (bif Nat.beq pc 1 then some (.ifCond .lt 14) else none)) else (bif Nat.blt pc 5 then (bif Nat.beq pc 4 then some (.iload_n 0) else none) else (bif Nat.beq pc 5 then some (.sipush 208) else none))) else (bif Nat.blt pc 12 then (bif Nat.blt pc 11 then (bif Nat.beq pc 8 then some (.if_icmp .ge 7) else none) else (bif Nat.beq pc 11 then some (.iconst 1) else none)) else (bif Nat.blt pc 15 then (bif Nat.beq pc 12 then some (.goto 4) else none) else (bif Nat.blt pc 16 then (bif Nat.beq pc 15 then some (.iconst 0) else none) else (bif Nat.beq pc 16 then some (.ireturn) else none)))))
def px_a_Symbols_restart (pc : Nat) : Option Instr := (bif Nat.blt pc 16 then (bif Nat.blt pc 8 then (bif Nat.blt pc 4 then (bif Nat.blt pc 1 then (bif Nat.beq pc 0 then some (.iload_n 1) else none) else (bif Nat.beq pc 1 then some (.invokestatic 20) else none)) else (bif Nat.blt pc 7 then (bif Nat.beq pc 4 then some (.ifCond .eq 24) else none) else (bif Nat.beq pc 7 then some (.aload_n 0) else none))) else (bif Nat.blt pc 12 then (bif Nat.blt pc 11 then (bif Nat.beq pc 8 then some (.getfield 9) else none) else (bif Nat.beq pc 11 then some (.iload_n 1) else none)) else (bif Nat.blt pc 13 then (bif Nat.beq pc 12 then some (.aload_n 0) else none) else (bif Nat.beq pc 13 then some (.getfield 15) else none)))) else (bif Nat.blt pc 23 then (bif Nat.blt pc 18 then (bif Nat.blt pc 17 then (bif Nat.beq pc 16 then some (.iload_n 1) else none) else (bif Nat.beq pc 17 then some (.iaload) else none)) else (bif Nat.blt pc 21 then (bif Nat.beq pc 18 then some (.ifCond .ne 8) else none) else (bif Nat.beq pc 21 then some (.bipush 16) else none))) else (bif Nat.blt pc 27 then (bif Nat.blt pc 26 then (bif Nat.beq pc 23 then some (.goto 4) else none) else (bif Nat.beq pc 26 then some (.iconst 0) else none)) else (bif Nat.blt pc 28 then (bif Nat.beq pc 27 then some (.iastore) else none) else (bif Nat.beq pc 28 then some (.return_) else none)))))
def px_a_Symbols_grow (pc : Nat) : Option Instr := (bif Nat.blt pc 20 then (bif Nat.blt pc 12 then (bif Nat.blt pc 7 then (bif Nat.blt pc 1 then (bif Nat.beq pc 0 then some (.iload_n 1) else none) else (bif Nat.blt pc 4 then (bif Nat.beq pc 1 then some (.invokestatic 20) else none) else (bif Nat.beq pc 4 then some (.ifCond .eq 16) else none))) else (bif Nat.blt pc 8 then (bif Nat.beq pc 7 then some (.iload_n 2) else none) else (bif Nat.blt pc 9 then (bif Nat.beq pc 8 then some (.aload_n 0) else none) else (bif Nat.beq pc 9 then some (.getfield 9) else none)))) else (bif Nat.blt pc 15 then (bif Nat.blt pc 13 then (bif Nat.beq pc 12 then some (.iload_n 1) else none) else (bif Nat.blt pc 14 then (bif Nat.beq pc 13 then some (.iaload) else none) else (bif Nat.beq pc 14 then some (.iconst (-1)) else none))) else (bif Nat.blt pc 16 then (bif Nat.beq pc 15 then some (.ixor) else none) else (bif Nat.blt pc 17 then (bif Nat.beq pc 16 then some (.iand) else none) else (bif Nat.beq pc 17 then some (.ifCond .ne 5) else none))))) else (bif Nat.blt pc 28 then (bif Nat.blt pc 23 then (bif Nat.blt pc 21 then (bif Nat.beq pc 20 then some (.iconst 0) else none) else (bif Nat.blt pc 22 then (bif Nat.beq pc 21 then some (.ireturn) else none) else (bif Nat.beq pc 22 then some (.aload_n 0) else none))) else (bif Nat.blt pc 26 then (bif Nat.beq pc 23 then some (.getfield 9) else none) else (bif Nat.blt pc 27 then (bif Nat.beq pc 26 then some (.iload_n 1) else none) else (bif Nat.beq pc 27 then some (.dup2) else none)))) else (bif Nat.blt pc 31 then (bif Nat.blt pc 29 then (bif Nat.beq pc 28 then some (.iaload) else none) else (bif Nat.blt pc 30 then (bif Nat.beq pc 29 then some (.iload_n 2) else none) else (bif Nat.beq pc 30 then some (.ior) else none))) else (bif Nat.blt pc 32 then (bif Nat.beq pc 31 then some (.iastore) else none) else (bif Nat.blt pc 33 then (bif Nat.beq pc 32 then some (.iconst 1) else none) else (bif Nat.beq pc 33 then some (.ireturn) else none))))))
def px_a_Symbols_typeOf (pc : Nat) : Option Instr := (bif Nat.blt pc 11 then (bif Nat.blt pc 4 then (bif Nat.blt pc 1 then (bif Nat.beq pc 0 then some (.iload_n 1) else none) else (bif Nat.beq pc 1 then some (.invokestatic 20) else none)) else (bif Nat.blt pc 7 then (bif Nat.beq pc 4 then some (.ifCond .eq 12) else none) else (bif Nat.blt pc 8 then (bif Nat.beq pc 7 then some (.aload_n 0) else none) else (bif Nat.beq pc 8 then some (.getfield 9) else none)))) else (bif Nat.blt pc 13 then (bif Nat.blt pc 12 then (bif Nat.beq pc 11 then some (.iload_n 1) else none) else (bif Nat.beq pc 12 then some (.iaload) else none)) else (bif Nat.blt pc 16 then (bif Nat.beq pc 13 then some (.goto 5) else none) else (bif Nat.blt pc 18 then (bif Nat.beq pc 16 then some (.bipush 16) else none) else (bif Nat.beq pc 18 then some (.ireturn) else none)))))
def px_a_Symbols_definersOf (pc : Nat) : Option Instr := (bif Nat.blt pc 11 then (bif Nat.blt pc 4 then (bif Nat.blt pc 1 then (bif Nat.beq pc 0 then some (.iload_n 1) else none) else (bif Nat.beq pc 1 then some (.invokestatic 20) else none)) else (bif Nat.blt pc 7 then (bif Nat.beq pc 4 then some (.ifCond .eq 12) else none) else (bif Nat.blt pc 8 then (bif Nat.beq pc 7 then some (.aload_n 0) else none) else (bif Nat.beq pc 8 then some (.getfield 15) else none)))) else (bif Nat.blt pc 13 then (bif Nat.blt pc 12 then (bif Nat.beq pc 11 then some (.iload_n 1) else none) else (bif Nat.beq pc 12 then some (.iaload) else none)) else (bif Nat.blt pc 16 then (bif Nat.beq pc 13 then some (.goto 4) else none) else (bif Nat.blt pc 17 then (bif Nat.beq pc 16 then some (.iconst 0) else none) else (bif Nat.beq pc 17 then some (.ireturn) else none)))))
def px_a_Symbols_definedCount (pc : Nat) : Option Instr := (bif Nat.blt pc 12 then (bif Nat.blt pc 4 then (bif Nat.blt pc 2 then (bif Nat.blt pc 1 then (bif Nat.beq pc 0 then some (.iconst 0) else none) else (bif Nat.beq pc 1 then some (.istore_n 1) else none)) else (bif Nat.blt pc 3 then (bif Nat.beq pc 2 then some (.iconst 0) else none) else (bif Nat.beq pc 3 then some (.istore_n 2) else none))) else (bif Nat.blt pc 8 then (bif Nat.blt pc 5 then (bif Nat.beq pc 4 then some (.iload_n 2) else none) else (bif Nat.beq pc 5 then some (.sipush 208) else none)) else (bif Nat.blt pc 11 then (bif Nat.beq pc 8 then some (.if_icmp .ge 21) else none) else (bif Nat.beq pc 11 then some (.aload_n 0) else none)))) else (bif Nat.blt pc 20 then (bif Nat.blt pc 16 then (bif Nat.blt pc 15 then (bif Nat.beq pc 12 then some (.getfield 15) else none) else (bif Nat.beq pc 15 then some (.iload_n 2) else none)) else (bif Nat.blt pc 17 then (bif Nat.beq pc 16 then some (.iaload) else none) else (bif Nat.beq pc 17 then some (.ifCond .le 6) else none))) else (bif Nat.blt pc 26 then (bif Nat.blt pc 23 then (bif Nat.beq pc 20 then some (.iinc 1 1) else none) else (bif Nat.beq pc 23 then some (.iinc 2 1) else none)) else (bif Nat.blt pc 29 then (bif Nat.beq pc 26 then some (.goto (-22)) else none) else (bif Nat.blt pc 30 then (bif Nat.beq pc 29 then some (.iload_n 1) else none) else (bif Nat.beq pc 30 then some (.ireturn) else none))))))
def px_a_Workspace_init (pc : Nat) : Option Instr := (bif Nat.blt pc 41 then (bif Nat.blt pc 21 then (bif Nat.blt pc 10 then (bif Nat.blt pc 4 then (bif Nat.blt pc 1 then (bif Nat.beq pc 0 then some (.aload_n 0) else none) else (bif Nat.beq pc 1 then some (.invokespecial 5) else none)) else (bif Nat.blt pc 5 then (bif Nat.beq pc 4 then some (.aload_n 0) else none) else (bif Nat.blt pc 7 then (bif Nat.beq pc 5 then some (.bipush 96) else none) else (bif Nat.beq pc 7 then some (.anewarray 11) else none)))) else (bif Nat.blt pc 14 then (bif Nat.blt pc 13 then (bif Nat.beq pc 10 then some (.putfield 13) else none) else (bif Nat.beq pc 13 then some (.aload_n 0) else none)) else (bif Nat.blt pc 17 then (bif Nat.beq pc 14 then some (.new 19) else none) else (bif Nat.blt pc 18 then (bif Nat.beq pc 17 then some (.dup) else none) else (bif Nat.beq pc 18 then some (.invokespecial 21) else none))))) else (bif Nat.blt pc 32 then (bif Nat.blt pc 25 then (bif Nat.blt pc 24 then (bif Nat.beq pc 21 then some (.putfield 22) else none) else (bif Nat.beq pc 24 then some (.aload_n 0) else none)) else (bif Nat.blt pc 27 then (bif Nat.beq pc 25 then some (.bipush 96) else none) else (bif Nat.blt pc 29 then (bif Nat.beq pc 27 then some (.newarray .boolean) else none) else (bif Nat.beq pc 29 then some (.putfield 26) else none)))) else (bif Nat.blt pc 35 then (bif Nat.blt pc 33 then (bif Nat.beq pc 32 then some (.aload_n 0) else none) else (bif Nat.beq pc 33 then some (.bipush 96) else none)) else (bif Nat.blt pc 37 then (bif Nat.beq pc 35 then some (.newarray .boolean) else none) else (bif Nat.blt pc 40 then (bif Nat.beq pc 37 then some (.putfield 30) else none) else (bif Nat.beq pc 40 then some (.aload_n 0) else none)))))) else (bif Nat.blt pc 62 then (bif Nat.blt pc 52 then (bif Nat.blt pc 45 then (bif Nat.blt pc 44 then (bif Nat.beq pc 41 then some (.new 33) else none) else (bif Nat.beq pc 44 then some (.dup) else none)) else (bif Nat.blt pc 48 then (bif Nat.beq pc 45 then some (.invokespecial 35) else none) else (bif Nat.blt pc 51 then (bif Nat.beq pc 48 then some (.putfield 36) else none) else (bif Nat.beq pc 51 then some (.aload_n 0) else none)))) else (bif Nat.blt pc 57 then (bif Nat.blt pc 55 then (bif Nat.beq pc 52 then some (.sipush 208) else none) else (bif Nat.beq pc 55 then some (.newarray .int) else none)) else (bif Nat.blt pc 60 then (bif Nat.beq pc 57 then some (.putfield 40) else none) else (bif Nat.blt pc 61 then (bif Nat.beq pc 60 then some (.aload_n 0) else none) else (bif Nat.beq pc 61 then some (.iconst 0) else none))))) else (bif Nat.blt pc 73 then (bif Nat.blt pc 66 then (bif Nat.blt pc 65 then (bif Nat.beq pc 62 then some (.putfield 44) else none) else (bif Nat.beq pc 65 then some (.aload_n 0) else none)) else (bif Nat.blt pc 69 then (bif Nat.beq pc 66 then some (.new 48) else none) else (bif Nat.blt pc 70 then (bif Nat.beq pc 69 then some (.dup) else none) else (bif Nat.beq pc 70 then some (.invokespecial 50) else none)))) else (bif Nat.blt pc 77 then (bif Nat.blt pc 76 then (bif Nat.beq pc 73 then some (.putfield 51) else none) else (bif Nat.beq pc 76 then some (.aload_n 0) else none)) else (bif Nat.blt pc 78 then (bif Nat.beq pc 77 then some (.iconst 0) else none) else (bif Nat.blt pc 81 then (bif Nat.beq pc 78 then some (.putfield 55) else none) else (bif Nat.beq pc 81 then some (.return_) else none)))))))
def px_a_Workspace_lineAt (pc : Nat) : Option Instr := (bif Nat.blt pc 11 then (bif Nat.blt pc 5 then (bif Nat.blt pc 1 then (bif Nat.beq pc 0 then some (.iload_n 1) else none) else (bif Nat.blt pc 4 then (bif Nat.beq pc 1 then some (.ifCond .lt 18) else none) else (bif Nat.beq pc 4 then some (.iload_n 1) else none))) else (bif Nat.blt pc 7 then (bif Nat.beq pc 5 then some (.bipush 96) else none) else (bif Nat.blt pc 10 then (bif Nat.beq pc 7 then some (.if_icmp .ge 12) else none) else (bif Nat.beq pc 10 then some (.aload_n 0) else none)))) else (bif Nat.blt pc 16 then (bif Nat.blt pc 14 then (bif Nat.beq pc 11 then some (.getfield 13) else none) else (bif Nat.blt pc 15 then (bif Nat.beq pc 14 then some (.iload_n 1) else none) else (bif Nat.beq pc 15 then some (.aaload) else none))) else (bif Nat.blt pc 19 then (bif Nat.beq pc 16 then some (.goto 4) else none) else (bif Nat.blt pc 20 then (bif Nat.beq pc 19 then some (.aconst_null) else none) else (bif Nat.beq pc 20 then some (.areturn) else none)))))
def px_a_Workspace_edit (pc : Nat) : Option Instr := (bif Nat.blt pc 45 then (bif Nat.blt pc 23 then (bif Nat.blt pc 12 then (bif Nat.blt pc 5 then (bif Nat.blt pc 1 then (bif Nat.beq pc 0 then some (.iload_n 1) else none) else (bif Nat.blt pc 4 then (bif Nat.beq pc 1 then some (.ifCond .lt 9) else none) else (bif Nat.beq pc 4 then some (.iload_n 1) else none))) else (bif Nat.blt pc 10 then (bif Nat.blt pc 7 then (bif Nat.beq pc 5 then some (.bipush 96) else none) else (bif Nat.beq pc 7 then some (.if_icmp .lt 5) else none)) else (bif Nat.blt pc 11 then (bif Nat.beq pc 10 then some (.iconst 0) else none) else (bif Nat.beq pc 11 then some (.ireturn) else none)))) else (bif Nat.blt pc 17 then (bif Nat.blt pc 13 then (bif Nat.beq pc 12 then some (.aload_n 0) else none) else (bif Nat.blt pc 16 then (bif Nat.beq pc 13 then some (.invokevirtual 59) else none) else (bif Nat.beq pc 16 then some (.aload_n 0) else none))) else (bif Nat.blt pc 21 then (bif Nat.blt pc 18 then (bif Nat.beq pc 17 then some (.aload_n 0) else none) else (bif Nat.beq pc 18 then some (.getfield 13) else none)) else (bif Nat.blt pc 22 then (bif Nat.beq pc 21 then some (.iload_n 1) else none) else (bif Nat.beq pc 22 then some (.aaload) else none))))) else (bif Nat.blt pc 34 then (bif Nat.blt pc 30 then (bif Nat.blt pc 26 then (bif Nat.beq pc 23 then some (.invokevirtual 62) else none) else (bif Nat.blt pc 27 then (bif Nat.beq pc 26 then some (.aload_n 0) else none) else (bif Nat.beq pc 27 then some (.getfield 13) else none))) else (bif Nat.blt pc 32 then (bif Nat.blt pc 31 then (bif Nat.beq pc 30 then some (.iload_n 1) else none) else (bif Nat.beq pc 31 then some (.aload_n 2) else none)) else (bif Nat.blt pc 33 then (bif Nat.beq pc 32 then some (.aastore) else none) else (bif Nat.beq pc 33 then some (.aload_n 0) else none)))) else (bif Nat.blt pc 39 then (bif Nat.blt pc 35 then (bif Nat.beq pc 34 then some (.aload_n 2) else none) else (bif Nat.blt pc 38 then (bif Nat.beq pc 35 then some (.invokevirtual 66) else none) else (bif Nat.beq pc 38 then some (.aload_n 0) else none))) else (bif Nat.blt pc 43 then (bif Nat.blt pc 42 then (bif Nat.beq pc 39 then some (.getfield 26) else none) else (bif Nat.beq pc 42 then some (.iload_n 1) else none)) else (bif Nat.blt pc 44 then (bif Nat.beq pc 43 then some (.iconst 1) else none) else (bif Nat.beq pc 44 then some (.bastore) else none)))))) else (bif Nat.blt pc 69 then (bif Nat.blt pc 56 then (bif Nat.blt pc 50 then (bif Nat.blt pc 46 then (bif Nat.beq pc 45 then some (.iconst 1) else none) else (bif Nat.blt pc 47 then (bif Nat.beq pc 46 then some (.aload_n 0) else none) else (bif Nat.beq pc 47 then some (.invokevirtual 69) else none))) else (bif Nat.blt pc 52 then (bif Nat.blt pc 51 then (bif Nat.beq pc 50 then some (.iadd) else none) else (bif Nat.beq pc 51 then some (.istore_n 3) else none)) else (bif Nat.blt pc 53 then (bif Nat.beq pc 52 then some (.aload_n 0) else none) else (bif Nat.beq pc 53 then some (.invokevirtual 73) else none)))) else (bif Nat.blt pc 60 then (bif Nat.blt pc 57 then (bif Nat.beq pc 56 then some (.iconst 1) else none) else (bif Nat.blt pc 59 then (bif Nat.beq pc 57 then some (.istore 4) else none) else (bif Nat.beq pc 59 then some (.iconst 0) else none))) else (bif Nat.blt pc 64 then (bif Nat.blt pc 62 then (bif Nat.beq pc 60 then some (.istore 5) else none) else (bif Nat.beq pc 62 then some (.iload 4) else none)) else (bif Nat.blt pc 67 then (bif Nat.beq pc 64 then some (.ifCond .eq 23) else none) else (bif Nat.beq pc 67 then some (.iload 5) else none))))) else (bif Nat.blt pc 87 then (bif Nat.blt pc 76 then (bif Nat.blt pc 72 then (bif Nat.beq pc 69 then some (.sipush 4162) else none) else (bif Nat.blt pc 75 then (bif Nat.beq pc 72 then some (.if_icmp .ge 15) else none) else (bif Nat.beq pc 75 then some (.aload_n 0) else none))) else (bif Nat.blt pc 81 then (bif Nat.blt pc 79 then (bif Nat.beq pc 76 then some (.invokevirtual 76) else none) else (bif Nat.beq pc 79 then some (.istore 4) else none)) else (bif Nat.blt pc 84 then (bif Nat.beq pc 81 then some (.iinc 5 1) else none) else (bif Nat.beq pc 84 then some (.goto (-22)) else none)))) else (bif Nat.blt pc 92 then (bif Nat.blt pc 88 then (bif Nat.beq pc 87 then some (.aload_n 0) else none) else (bif Nat.blt pc 91 then (bif Nat.beq pc 88 then some (.invokevirtual 80) else none) else (bif Nat.beq pc 91 then some (.aload_n 0) else none))) else (bif Nat.blt pc 96 then (bif Nat.blt pc 93 then (bif Nat.beq pc 92 then some (.iconst 1) else none) else (bif Nat.beq pc 93 then some (.putfield 55) else none)) else (bif Nat.blt pc 97 then (bif Nat.beq pc 96 then some (.iload_n 3) else none) else (bif Nat.beq pc 97 then some (.ireturn) else none)))))))
def px_a_Workspace_startLooking (pc : Nat) : Option Instr := (bif Nat.blt pc 14 then (bif Nat.blt pc 5 then (bif Nat.blt pc 2 then (bif Nat.blt pc 1 then (bif Nat.beq pc 0 then some (.iconst 0) else none) else (bif Nat.beq pc 1 then some (.istore_n 1) else none)) else (bif Nat.blt pc 3 then (bif Nat.beq pc 2 then some (.iload_n 1) else none) else (bif Nat.beq pc 3 then some (.bipush 96) else none))) else (bif Nat.blt pc 9 then (bif Nat.blt pc 8 then (bif Nat.beq pc 5 then some (.if_icmp .ge 16) else none) else (bif Nat.beq pc 8 then some (.aload_n 0) else none)) else (bif Nat.blt pc 12 then (bif Nat.beq pc 9 then some (.getfield 26) else none) else (bif Nat.blt pc 13 then (bif Nat.beq pc 12 then some (.iload_n 1) else none) else (bif Nat.beq pc 13 then some (.iconst 0) else none))))) else (bif Nat.blt pc 25 then (bif Nat.blt pc 18 then (bif Nat.blt pc 15 then (bif Nat.beq pc 14 then some (.bastore) else none) else (bif Nat.beq pc 15 then some (.iinc 1 1) else none)) else (bif Nat.blt pc 21 then (bif Nat.beq pc 18 then some (.goto (-16)) else none) else (bif Nat.blt pc 22 then (bif Nat.beq pc 21 then some (.aload_n 0) else none) else (bif Nat.beq pc 22 then some (.getfield 36) else none)))) else (bif Nat.blt pc 29 then (bif Nat.blt pc 28 then (bif Nat.beq pc 25 then some (.invokevirtual 83) else none) else (bif Nat.beq pc 28 then some (.aload_n 0) else none)) else (bif Nat.blt pc 30 then (bif Nat.beq pc 29 then some (.iconst 0) else none) else (bif Nat.blt pc 33 then (bif Nat.beq pc 30 then some (.putfield 44) else none) else (bif Nat.beq pc 33 then some (.return_) else none))))))
def px_a_Workspace_leave (pc : Nat) : Option Instr := (bif Nat.blt pc 12 then (bif Nat.blt pc 5 then (bif Nat.blt pc 1 then (bif Nat.beq pc 0 then some (.aload_n 1) else none) else (bif Nat.blt pc 4 then (bif Nat.beq pc 1 then some (.ifnull 23) else none) else (bif Nat.beq pc 4 then some (.aload_n 0) else none))) else (bif Nat.blt pc 8 then (bif Nat.beq pc 5 then some (.getfield 22) else none) else (bif Nat.blt pc 9 then (bif Nat.beq pc 8 then some (.aload_n 1) else none) else (bif Nat.beq pc 9 then some (.invokevirtual 86) else none)))) else (bif Nat.blt pc 17 then (bif Nat.blt pc 13 then (bif Nat.beq pc 12 then some (.iconst (-1)) else none) else (bif Nat.blt pc 16 then (bif Nat.beq pc 13 then some (.invokevirtual 89) else none) else (bif Nat.beq pc 16 then some (.aload_n 0) else none))) else (bif Nat.blt pc 21 then (bif Nat.blt pc 18 then (bif Nat.beq pc 17 then some (.aload_n 1) else none) else (bif Nat.beq pc 18 then some (.invokevirtual 86) else none)) else (bif Nat.blt pc 24 then (bif Nat.beq pc 21 then some (.invokevirtual 93) else none) else (bif Nat.beq pc 24 then some (.return_) else none)))))
def px_a_Workspace_touch (pc : Nat) : Option Instr := (bif Nat.blt pc 30 then (bif Nat.blt pc 13 then (bif Nat.blt pc 5 then (bif Nat.blt pc 1 then (bif Nat.beq pc 0 then some (.iload_n 1) else none) else (bif Nat.blt pc 2 then (bif Nat.beq pc 1 then some (.iconst (-1)) else none) else (bif Nat.beq pc 2 then some (.if_icmp .eq 52) else none))) else (bif Nat.blt pc 9 then (bif Nat.blt pc 6 then (bif Nat.beq pc 5 then some (.aload_n 0) else none) else (bif Nat.beq pc 6 then some (.getfield 36) else none)) else (bif Nat.blt pc 10 then (bif Nat.beq pc 9 then some (.iload_n 1) else none) else (bif Nat.beq pc 10 then some (.invokevirtual 97) else none)))) else (bif Nat.blt pc 20 then (bif Nat.blt pc 16 then (bif Nat.beq pc 13 then some (.ifCond .ne 41) else none) else (bif Nat.blt pc 17 then (bif Nat.beq pc 16 then some (.aload_n 0) else none) else (bif Nat.beq pc 17 then some (.getfield 44) else none))) else (bif Nat.blt pc 26 then (bif Nat.blt pc 23 then (bif Nat.beq pc 20 then some (.sipush 208) else none) else (bif Nat.beq pc 23 then some (.if_icmp .ge 31) else none)) else (bif Nat.blt pc 27 then (bif Nat.beq pc 26 then some (.aload_n 0) else none) else (bif Nat.beq pc 27 then some (.getfield 36) else none))))) else (bif Nat.blt pc 43 then (bif Nat.blt pc 35 then (bif Nat.blt pc 31 then (bif Nat.beq pc 30 then some (.iload_n 1) else none) else (bif Nat.blt pc 34 then (bif Nat.beq pc 31 then some (.invokevirtual 101) else none) else (bif Nat.beq pc 34 then some (.aload_n 0) else none))) else (bif Nat.blt pc 39 then (bif Nat.blt pc 38 then (bif Nat.beq pc 35 then some (.getfield 40) else none) else (bif Nat.beq pc 38 then some (.aload_n 0) else none)) else (bif Nat.blt pc 42 then (bif Nat.beq pc 39 then some (.getfield 44) else none) else (bif Nat.beq pc 42 then some (.iload_n 1) else none)))) else (bif Nat.blt pc 49 then (bif Nat.blt pc 45 then (bif Nat.blt pc 44 then (bif Nat.beq pc 43 then some (.iastore) else none) else (bif Nat.beq pc 44 then some (.aload_n 0) else none)) else (bif Nat.blt pc 46 then (bif Nat.beq pc 45 then some (.dup) else none) else (bif Nat.beq pc 46 then some (.getfield 44) else none))) else (bif Nat.blt pc 51 then (bif Nat.blt pc 50 then (bif Nat.beq pc 49 then some (.iconst 1) else none) else (bif Nat.beq pc 50 then some (.iadd) else none)) else (bif Nat.blt pc 54 then (bif Nat.beq pc 51 then some (.putfield 44) else none) else (bif Nat.beq pc 54 then some (.return_) else none))))))
def px_a_Workspace_enter (pc : Nat) : Option Instr := (bif Nat.blt pc 12 then (bif Nat.blt pc 5 then (bif Nat.blt pc 1 then (bif Nat.beq pc 0 then some (.aload_n 1) else none) else (bif Nat.blt pc 4 then (bif Nat.beq pc 1 then some (.ifnull 23) else none) else (bif Nat.beq pc 4 then some (.aload_n 0) else none))) else (bif Nat.blt pc 8 then (bif Nat.beq pc 5 then some (.getfield 22) else none) else (bif Nat.blt pc 9 then (bif Nat.beq pc 8 then some (.aload_n 1) else none) else (bif Nat.beq pc 9 then some (.invokevirtual 86) else none)))) else (bif Nat.blt pc 17 then (bif Nat.blt pc 13 then (bif Nat.beq pc 12 then some (.iconst 1) else none) else (bif Nat.blt pc 16 then (bif Nat.beq pc 13 then some (.invokevirtual 89) else none) else (bif Nat.beq pc 16 then some (.aload_n 0) else none))) else (bif Nat.blt pc 21 then (bif Nat.blt pc 18 then (bif Nat.beq pc 17 then some (.aload_n 1) else none) else (bif Nat.beq pc 18 then some (.invokevirtual 86) else none)) else (bif Nat.blt pc 24 then (bif Nat.beq pc 21 then some (.invokevirtual 93) else none) else (bif Nat.beq pc 24 then some (.return_) else none)))))
def px_a_Workspace_lookOn (pc : Nat) : Option Instr := (bif Nat.blt pc 44 then (bif Nat.blt pc 20 then (bif Nat.blt pc 6 then (bif Nat.blt pc 3 then (bif Nat.blt pc 1 then (bif Nat.beq pc 0 then some (.iconst 0) else none) else (bif Nat.blt pc 2 then (bif Nat.beq pc 1 then some (.istore_n 1) else none) else (bif Nat.beq pc 2 then some (.iconst 0) else none))) else (bif Nat.blt pc 4 then (bif Nat.beq pc 3 then some (.istore_n 2) else none) else (bif Nat.blt pc 5 then (bif Nat.beq pc 4 then some (.iload_n 2) else none) else (bif Nat.beq pc 5 then some (.aload_n 0) else none)))) else (bif Nat.blt pc 13 then (bif Nat.blt pc 9 then (bif Nat.beq pc 6 then some (.getfield 44) else none) else (bif Nat.blt pc 12 then (bif Nat.beq pc 9 then some (.if_icmp .ge 85) else none) else (bif Nat.beq pc 12 then some (.iload_n 2) else none))) else (bif Nat.blt pc 16 then (bif Nat.beq pc 13 then some (.sipush 208) else none) else (bif Nat.blt pc 19 then (bif Nat.beq pc 16 then some (.if_icmp .ge 78) else none) else (bif Nat.beq pc 19 then some (.iconst 0) else none))))) else (bif Nat.blt pc 31 then (bif Nat.blt pc 24 then (bif Nat.blt pc 21 then (bif Nat.beq pc 20 then some (.istore_n 3) else none) else (bif Nat.blt pc 22 then (bif Nat.beq pc 21 then some (.iload_n 3) else none) else (bif Nat.beq pc 22 then some (.bipush 96) else none))) else (bif Nat.blt pc 27 then (bif Nat.beq pc 24 then some (.if_icmp .ge 64) else none) else (bif Nat.blt pc 28 then (bif Nat.beq pc 27 then some (.aload_n 0) else none) else (bif Nat.beq pc 28 then some (.getfield 13) else none)))) else (bif Nat.blt pc 35 then (bif Nat.blt pc 32 then (bif Nat.beq pc 31 then some (.iload_n 3) else none) else (bif Nat.blt pc 33 then (bif Nat.beq pc 32 then some (.aaload) else none) else (bif Nat.beq pc 33 then some (.astore 4) else none))) else (bif Nat.blt pc 40 then (bif Nat.blt pc 37 then (bif Nat.beq pc 35 then some (.aload 4) else none) else (bif Nat.beq pc 37 then some (.ifnull 45) else none)) else (bif Nat.blt pc 41 then (bif Nat.beq pc 40 then some (.aload_n 0) else none) else (bif Nat.beq pc 41 then some (.getfield 26) else none)))))) else (bif Nat.blt pc 68 then (bif Nat.blt pc 55 then (bif Nat.blt pc 49 then (bif Nat.blt pc 45 then (bif Nat.beq pc 44 then some (.iload_n 3) else none) else (bif Nat.blt pc 46 then (bif Nat.beq pc 45 then some (.baload) else none) else (bif Nat.beq pc 46 then some (.ifCond .ne 36) else none))) else (bif Nat.blt pc 51 then (bif Nat.beq pc 49 then some (.aload 4) else none) else (bif Nat.blt pc 52 then (bif Nat.beq pc 51 then some (.aload_n 0) else none) else (bif Nat.beq pc 52 then some (.getfield 40) else none)))) else (bif Nat.blt pc 60 then (bif Nat.blt pc 56 then (bif Nat.beq pc 55 then some (.iload_n 2) else none) else (bif Nat.blt pc 57 then (bif Nat.beq pc 56 then some (.iaload) else none) else (bif Nat.beq pc 57 then some (.invokevirtual 104) else none))) else (bif Nat.blt pc 64 then (bif Nat.blt pc 63 then (bif Nat.beq pc 60 then some (.ifCond .eq 22) else none) else (bif Nat.beq pc 63 then some (.aload_n 0) else none)) else (bif Nat.blt pc 67 then (bif Nat.beq pc 64 then some (.getfield 26) else none) else (bif Nat.beq pc 67 then some (.iload_n 3) else none))))) else (bif Nat.blt pc 79 then (bif Nat.blt pc 73 then (bif Nat.blt pc 69 then (bif Nat.beq pc 68 then some (.iconst 1) else none) else (bif Nat.blt pc 70 then (bif Nat.beq pc 69 then some (.bastore) else none) else (bif Nat.beq pc 70 then some (.iinc 1 1) else none))) else (bif Nat.blt pc 74 then (bif Nat.beq pc 73 then some (.aload_n 0) else none) else (bif Nat.blt pc 76 then (bif Nat.beq pc 74 then some (.aload 4) else none) else (bif Nat.beq pc 76 then some (.invokevirtual 86) else none)))) else (bif Nat.blt pc 88 then (bif Nat.blt pc 82 then (bif Nat.beq pc 79 then some (.invokevirtual 93) else none) else (bif Nat.blt pc 85 then (bif Nat.beq pc 82 then some (.iinc 3 1) else none) else (bif Nat.beq pc 85 then some (.goto (-64)) else none))) else (bif Nat.blt pc 94 then (bif Nat.blt pc 91 then (bif Nat.beq pc 88 then some (.iinc 2 1) else none) else (bif Nat.beq pc 91 then some (.goto (-87)) else none)) else (bif Nat.blt pc 95 then (bif Nat.beq pc 94 then some (.iload_n 1) else none) else (bif Nat.beq pc 95 then some (.ireturn) else none)))))))
def px_a_Workspace_restartTypes (pc : Nat) : Option Instr := (bif Nat.blt pc 55 then (bif Nat.blt pc 27 then (bif Nat.blt pc 11 then (bif Nat.blt pc 3 then (bif Nat.blt pc 1 then (bif Nat.beq pc 0 then some (.iconst 0) else none) else (bif Nat.blt pc 2 then (bif Nat.beq pc 1 then some (.istore_n 1) else none) else (bif Nat.beq pc 2 then some (.iload_n 1) else none))) else (bif Nat.blt pc 7 then (bif Nat.blt pc 4 then (bif Nat.beq pc 3 then some (.aload_n 0) else none) else (bif Nat.beq pc 4 then some (.getfield 44) else none)) else (bif Nat.blt pc 10 then (bif Nat.beq pc 7 then some (.if_icmp .ge 29) else none) else (bif Nat.beq pc 10 then some (.iload_n 1) else none)))) else (bif Nat.blt pc 21 then (bif Nat.blt pc 17 then (bif Nat.blt pc 14 then (bif Nat.beq pc 11 then some (.sipush 208) else none) else (bif Nat.beq pc 14 then some (.if_icmp .ge 22) else none)) else (bif Nat.blt pc 18 then (bif Nat.beq pc 17 then some (.aload_n 0) else none) else (bif Nat.beq pc 18 then some (.getfield 22) else none))) else (bif Nat.blt pc 25 then (bif Nat.blt pc 22 then (bif Nat.beq pc 21 then some (.aload_n 0) else none) else (bif Nat.beq pc 22 then some (.getfield 40) else none)) else (bif Nat.blt pc 26 then (bif Nat.beq pc 25 then some (.iload_n 1) else none) else (bif Nat.beq pc 26 then some (.iaload) else none))))) else (bif Nat.blt pc 41 then (bif Nat.blt pc 36 then (bif Nat.blt pc 30 then (bif Nat.beq pc 27 then some (.invokevirtual 107) else none) else (bif Nat.blt pc 33 then (bif Nat.beq pc 30 then some (.iinc 1 1) else none) else (bif Nat.beq pc 33 then some (.goto (-31)) else none))) else (bif Nat.blt pc 38 then (bif Nat.blt pc 37 then (bif Nat.beq pc 36 then some (.iconst 0) else none) else (bif Nat.beq pc 37 then some (.istore_n 1) else none)) else (bif Nat.blt pc 39 then (bif Nat.beq pc 38 then some (.iload_n 1) else none) else (bif Nat.beq pc 39 then some (.bipush 96) else none)))) else (bif Nat.blt pc 49 then (bif Nat.blt pc 45 then (bif Nat.blt pc 44 then (bif Nat.beq pc 41 then some (.if_icmp .ge 71) else none) else (bif Nat.beq pc 44 then some (.aload_n 0) else none)) else (bif Nat.blt pc 48 then (bif Nat.beq pc 45 then some (.getfield 13) else none) else (bif Nat.beq pc 48 then some (.iload_n 1) else none))) else (bif Nat.blt pc 51 then (bif Nat.blt pc 50 then (bif Nat.beq pc 49 then some (.aaload) else none) else (bif Nat.beq pc 50 then some (.astore_n 2) else none)) else (bif Nat.blt pc 52 then (bif Nat.beq pc 51 then some (.aload_n 0) else none) else (bif Nat.beq pc 52 then some (.getfield 30) else none)))))) else (bif Nat.blt pc 80 then (bif Nat.blt pc 64 then (bif Nat.blt pc 60 then (bif Nat.blt pc 56 then (bif Nat.beq pc 55 then some (.iload_n 1) else none) else (bif Nat.blt pc 57 then (bif Nat.beq pc 56 then some (.aload_n 0) else none) else (bif Nat.beq pc 57 then some (.getfield 26) else none))) else (bif Nat.blt pc 62 then (bif Nat.blt pc 61 then (bif Nat.beq pc 60 then some (.iload_n 1) else none) else (bif Nat.beq pc 61 then some (.baload) else none)) else (bif Nat.blt pc 63 then (bif Nat.beq pc 62 then some (.bastore) else none) else (bif Nat.beq pc 63 then some (.aload_n 2) else none)))) else (bif Nat.blt pc 72 then (bif Nat.blt pc 68 then (bif Nat.blt pc 67 then (bif Nat.beq pc 64 then some (.ifnull 42) else none) else (bif Nat.beq pc 67 then some (.aload_n 0) else none)) else (bif Nat.blt pc 71 then (bif Nat.beq pc 68 then some (.getfield 26) else none) else (bif Nat.beq pc 71 then some (.iload_n 1) else none))) else (bif Nat.blt pc 76 then (bif Nat.blt pc 73 then (bif Nat.beq pc 72 then some (.baload) else none) else (bif Nat.beq pc 73 then some (.ifCond .ne 33) else none)) else (bif Nat.blt pc 77 then (bif Nat.beq pc 76 then some (.aload_n 0) else none) else (bif Nat.beq pc 77 then some (.getfield 36) else none))))) else (bif Nat.blt pc 95 then (bif Nat.blt pc 87 then (bif Nat.blt pc 81 then (bif Nat.beq pc 80 then some (.aload_n 2) else none) else (bif Nat.blt pc 84 then (bif Nat.beq pc 81 then some (.invokevirtual 86) else none) else (bif Nat.beq pc 84 then some (.invokevirtual 97) else none))) else (bif Nat.blt pc 91 then (bif Nat.blt pc 90 then (bif Nat.beq pc 87 then some (.ifCond .eq 19) else none) else (bif Nat.beq pc 90 then some (.aload_n 0) else none)) else (bif Nat.blt pc 94 then (bif Nat.beq pc 91 then some (.getfield 22) else none) else (bif Nat.beq pc 94 then some (.aload_n 2) else none)))) else (bif Nat.blt pc 105 then (bif Nat.blt pc 99 then (bif Nat.blt pc 98 then (bif Nat.beq pc 95 then some (.invokevirtual 86) else none) else (bif Nat.beq pc 98 then some (.aload_n 2) else none)) else (bif Nat.blt pc 102 then (bif Nat.beq pc 99 then some (.invokevirtual 110) else none) else (bif Nat.beq pc 102 then some (.invokevirtual 113) else none))) else (bif Nat.blt pc 109 then (bif Nat.blt pc 106 then (bif Nat.beq pc 105 then some (.pop) else none) else (bif Nat.beq pc 106 then some (.iinc 1 1) else none)) else (bif Nat.blt pc 112 then (bif Nat.beq pc 109 then some (.goto (-71)) else none) else (bif Nat.beq pc 112 then some (.return_) else none)))))))
def px_a_Workspace_workOutWaiting (pc : Nat) : Option Instr := (bif Nat.blt pc 36 then (bif Nat.blt pc 16 then (bif Nat.blt pc 5 then (bif Nat.blt pc 2 then (bif Nat.blt pc 1 then (bif Nat.beq pc 0 then some (.iconst 0) else none) else (bif Nat.beq pc 1 then some (.istore_n 1) else none)) else (bif Nat.blt pc 3 then (bif Nat.beq pc 2 then some (.iconst 0) else none) else (bif Nat.blt pc 4 then (bif Nat.beq pc 3 then some (.istore_n 2) else none) else (bif Nat.beq pc 4 then some (.iload_n 2) else none)))) else (bif Nat.blt pc 11 then (bif Nat.blt pc 7 then (bif Nat.beq pc 5 then some (.bipush 96) else none) else (bif Nat.blt pc 10 then (bif Nat.beq pc 7 then some (.if_icmp .ge 72) else none) else (bif Nat.beq pc 10 then some (.aload_n 0) else none))) else (bif Nat.blt pc 14 then (bif Nat.beq pc 11 then some (.getfield 13) else none) else (bif Nat.blt pc 15 then (bif Nat.beq pc 14 then some (.iload_n 2) else none) else (bif Nat.beq pc 15 then some (.aaload) else none))))) else (bif Nat.blt pc 26 then (bif Nat.blt pc 21 then (bif Nat.blt pc 17 then (bif Nat.beq pc 16 then some (.astore_n 3) else none) else (bif Nat.blt pc 18 then (bif Nat.beq pc 17 then some (.aload_n 3) else none) else (bif Nat.beq pc 18 then some (.ifnull 55) else none))) else (bif Nat.blt pc 22 then (bif Nat.beq pc 21 then some (.aload_n 0) else none) else (bif Nat.blt pc 25 then (bif Nat.beq pc 22 then some (.getfield 30) else none) else (bif Nat.beq pc 25 then some (.iload_n 2) else none)))) else (bif Nat.blt pc 31 then (bif Nat.blt pc 27 then (bif Nat.beq pc 26 then some (.baload) else none) else (bif Nat.blt pc 30 then (bif Nat.beq pc 27 then some (.ifCond .eq 46) else none) else (bif Nat.beq pc 30 then some (.aload_n 0) else none))) else (bif Nat.blt pc 34 then (bif Nat.beq pc 31 then some (.getfield 30) else none) else (bif Nat.blt pc 35 then (bif Nat.beq pc 34 then some (.iload_n 2) else none) else (bif Nat.beq pc 35 then some (.iconst 0) else none)))))) else (bif Nat.blt pc 57 then (bif Nat.blt pc 45 then (bif Nat.blt pc 38 then (bif Nat.blt pc 37 then (bif Nat.beq pc 36 then some (.bastore) else none) else (bif Nat.beq pc 37 then some (.aload_n 3) else none)) else (bif Nat.blt pc 39 then (bif Nat.beq pc 38 then some (.aload_n 0) else none) else (bif Nat.blt pc 42 then (bif Nat.beq pc 39 then some (.getfield 22) else none) else (bif Nat.beq pc 42 then some (.invokevirtual 117) else none)))) else (bif Nat.blt pc 50 then (bif Nat.blt pc 46 then (bif Nat.beq pc 45 then some (.aload_n 0) else none) else (bif Nat.blt pc 49 then (bif Nat.beq pc 46 then some (.getfield 22) else none) else (bif Nat.beq pc 49 then some (.aload_n 3) else none))) else (bif Nat.blt pc 53 then (bif Nat.beq pc 50 then some (.invokevirtual 86) else none) else (bif Nat.blt pc 54 then (bif Nat.beq pc 53 then some (.aload_n 3) else none) else (bif Nat.beq pc 54 then some (.invokevirtual 110) else none))))) else (bif Nat.blt pc 71 then (bif Nat.blt pc 64 then (bif Nat.blt pc 60 then (bif Nat.beq pc 57 then some (.invokevirtual 113) else none) else (bif Nat.blt pc 63 then (bif Nat.beq pc 60 then some (.ifCond .eq 13) else none) else (bif Nat.beq pc 63 then some (.aload_n 0) else none))) else (bif Nat.blt pc 65 then (bif Nat.beq pc 64 then some (.aload_n 3) else none) else (bif Nat.blt pc 68 then (bif Nat.beq pc 65 then some (.invokevirtual 86) else none) else (bif Nat.beq pc 68 then some (.invokevirtual 121) else none)))) else (bif Nat.blt pc 76 then (bif Nat.blt pc 72 then (bif Nat.beq pc 71 then some (.iconst 1) else none) else (bif Nat.blt pc 73 then (bif Nat.beq pc 72 then some (.istore_n 1) else none) else (bif Nat.beq pc 73 then some (.iinc 2 1) else none))) else (bif Nat.blt pc 79 then (bif Nat.beq pc 76 then some (.goto (-72)) else none) else (bif Nat.blt pc 80 then (bif Nat.beq pc 79 then some (.iload_n 1) else none) else (bif Nat.beq pc 80 then some (.ireturn) else none)))))))
def px_a_Workspace_wakeReaders (pc : Nat) : Option Instr := (bif Nat.blt pc 19 then (bif Nat.blt pc 9 then (bif Nat.blt pc 3 then (bif Nat.blt pc 1 then (bif Nat.beq pc 0 then some (.iconst 0) else none) else (bif Nat.blt pc 2 then (bif Nat.beq pc 1 then some (.istore_n 2) else none) else (bif Nat.beq pc 2 then some (.iload_n 2) else none))) else (bif Nat.blt pc 5 then (bif Nat.beq pc 3 then some (.bipush 96) else none) else (bif Nat.blt pc 8 then (bif Nat.beq pc 5 then some (.if_icmp .ge 35) else none) else (bif Nat.beq pc 8 then some (.aload_n 0) else none)))) else (bif Nat.blt pc 14 then (bif Nat.blt pc 12 then (bif Nat.beq pc 9 then some (.getfield 13) else none) else (bif Nat.blt pc 13 then (bif Nat.beq pc 12 then some (.iload_n 2) else none) else (bif Nat.beq pc 13 then some (.aaload) else none))) else (bif Nat.blt pc 15 then (bif Nat.beq pc 14 then some (.astore_n 3) else none) else (bif Nat.blt pc 16 then (bif Nat.beq pc 15 then some (.aload_n 3) else none) else (bif Nat.beq pc 16 then some (.ifnull 18) else none))))) else (bif Nat.blt pc 31 then (bif Nat.blt pc 24 then (bif Nat.blt pc 20 then (bif Nat.beq pc 19 then some (.aload_n 3) else none) else (bif Nat.blt pc 21 then (bif Nat.beq pc 20 then some (.iload_n 1) else none) else (bif Nat.beq pc 21 then some (.invokevirtual 104) else none))) else (bif Nat.blt pc 27 then (bif Nat.beq pc 24 then some (.ifCond .eq 10) else none) else (bif Nat.blt pc 28 then (bif Nat.beq pc 27 then some (.aload_n 0) else none) else (bif Nat.beq pc 28 then some (.getfield 30) else none)))) else (bif Nat.blt pc 34 then (bif Nat.blt pc 32 then (bif Nat.beq pc 31 then some (.iload_n 2) else none) else (bif Nat.blt pc 33 then (bif Nat.beq pc 32 then some (.iconst 1) else none) else (bif Nat.beq pc 33 then some (.bastore) else none))) else (bif Nat.blt pc 37 then (bif Nat.beq pc 34 then some (.iinc 2 1) else none) else (bif Nat.blt pc 40 then (bif Nat.beq pc 37 then some (.goto (-35)) else none) else (bif Nat.beq pc 40 then some (.return_) else none))))))
def px_a_Workspace_findFaults (pc : Nat) : Option Instr := (bif Nat.blt pc 19 then (bif Nat.blt pc 9 then (bif Nat.blt pc 3 then (bif Nat.blt pc 1 then (bif Nat.beq pc 0 then some (.iconst 0) else none) else (bif Nat.blt pc 2 then (bif Nat.beq pc 1 then some (.istore_n 1) else none) else (bif Nat.beq pc 2 then some (.iload_n 1) else none))) else (bif Nat.blt pc 5 then (bif Nat.beq pc 3 then some (.bipush 96) else none) else (bif Nat.blt pc 8 then (bif Nat.beq pc 5 then some (.if_icmp .ge 37) else none) else (bif Nat.beq pc 8 then some (.aload_n 0) else none)))) else (bif Nat.blt pc 14 then (bif Nat.blt pc 12 then (bif Nat.beq pc 9 then some (.getfield 13) else none) else (bif Nat.blt pc 13 then (bif Nat.beq pc 12 then some (.iload_n 1) else none) else (bif Nat.beq pc 13 then some (.aaload) else none))) else (bif Nat.blt pc 15 then (bif Nat.beq pc 14 then some (.astore_n 2) else none) else (bif Nat.blt pc 16 then (bif Nat.beq pc 15 then some (.aload_n 2) else none) else (bif Nat.beq pc 16 then some (.ifnull 20) else none))))) else (bif Nat.blt pc 29 then (bif Nat.blt pc 24 then (bif Nat.blt pc 20 then (bif Nat.beq pc 19 then some (.aload_n 0) else none) else (bif Nat.blt pc 23 then (bif Nat.beq pc 20 then some (.getfield 26) else none) else (bif Nat.beq pc 23 then some (.iload_n 1) else none))) else (bif Nat.blt pc 25 then (bif Nat.beq pc 24 then some (.baload) else none) else (bif Nat.blt pc 28 then (bif Nat.beq pc 25 then some (.ifCond .eq 11) else none) else (bif Nat.beq pc 28 then some (.aload_n 2) else none)))) else (bif Nat.blt pc 36 then (bif Nat.blt pc 30 then (bif Nat.beq pc 29 then some (.aload_n 0) else none) else (bif Nat.blt pc 33 then (bif Nat.beq pc 30 then some (.getfield 22) else none) else (bif Nat.beq pc 33 then some (.invokevirtual 124) else none))) else (bif Nat.blt pc 39 then (bif Nat.beq pc 36 then some (.iinc 1 1) else none) else (bif Nat.blt pc 42 then (bif Nat.beq pc 39 then some (.goto (-37)) else none) else (bif Nat.beq pc 42 then some (.return_) else none))))))
def px_a_Workspace_tellSymbol (pc : Nat) : Option Instr := (bif Nat.blt pc 52 then (bif Nat.blt pc 36 then (bif Nat.blt pc 5 then (bif Nat.blt pc 1 then (bif Nat.beq pc 0 then some (.aload_n 0) else none) else (bif Nat.blt pc 4 then (bif Nat.beq pc 1 then some (.getfield 22) else none) else (bif Nat.beq pc 4 then some (.iload_n 1) else none))) else (bif Nat.blt pc 9 then (bif Nat.blt pc 8 then (bif Nat.beq pc 5 then some (.invokevirtual 126) else none) else (bif Nat.beq pc 8 then some (.istore_n 3) else none)) else (bif Nat.blt pc 10 then (bif Nat.beq pc 9 then some (.iload_n 2) else none) else (bif Nat.beq pc 10 then some (.tableswitch 51 0 2 #[26, 43, 45]) else none)))) else (bif Nat.blt pc 44 then (bif Nat.blt pc 40 then (bif Nat.blt pc 37 then (bif Nat.beq pc 36 then some (.iload_n 3) else none) else (bif Nat.beq pc 37 then some (.ifCond .ne 7) else none)) else (bif Nat.blt pc 41 then (bif Nat.beq pc 40 then some (.iconst (-1)) else none) else (bif Nat.beq pc 41 then some (.goto 11) else none))) else (bif Nat.blt pc 48 then (bif Nat.blt pc 45 then (bif Nat.beq pc 44 then some (.aload_n 0) else none) else (bif Nat.beq pc 45 then some (.getfield 22) else none)) else (bif Nat.blt pc 49 then (bif Nat.beq pc 48 then some (.iload_n 1) else none) else (bif Nat.beq pc 49 then some (.invokevirtual 130) else none))))) else (bif Nat.blt pc 62 then (bif Nat.blt pc 56 then (bif Nat.blt pc 54 then (bif Nat.blt pc 53 then (bif Nat.beq pc 52 then some (.ireturn) else none) else (bif Nat.beq pc 53 then some (.iload_n 3) else none)) else (bif Nat.blt pc 55 then (bif Nat.beq pc 54 then some (.ireturn) else none) else (bif Nat.beq pc 55 then some (.aload_n 0) else none))) else (bif Nat.blt pc 60 then (bif Nat.blt pc 57 then (bif Nat.beq pc 56 then some (.iload_n 1) else none) else (bif Nat.beq pc 57 then some (.invokevirtual 133) else none)) else (bif Nat.blt pc 61 then (bif Nat.beq pc 60 then some (.ireturn) else none) else (bif Nat.beq pc 61 then some (.iload_n 3) else none)))) else (bif Nat.blt pc 70 then (bif Nat.blt pc 66 then (bif Nat.blt pc 65 then (bif Nat.beq pc 62 then some (.ifCond .ne 7) else none) else (bif Nat.beq pc 65 then some (.iconst (-1)) else none)) else (bif Nat.blt pc 69 then (bif Nat.beq pc 66 then some (.goto 11) else none) else (bif Nat.beq pc 69 then some (.aload_n 0) else none))) else (bif Nat.blt pc 74 then (bif Nat.blt pc 73 then (bif Nat.beq pc 70 then some (.invokevirtual 136) else none) else (bif Nat.beq pc 73 then some (.iload_n 1) else none)) else (bif Nat.blt pc 77 then (bif Nat.beq pc 74 then some (.invokevirtual 140) else none) else (bif Nat.beq pc 77 then some (.ireturn) else none))))))
def px_a_Workspace_readersOf (pc : Nat) : Option Instr := (bif Nat.blt pc 16 then (bif Nat.blt pc 5 then (bif Nat.blt pc 2 then (bif Nat.blt pc 1 then (bif Nat.beq pc 0 then some (.iconst 0) else none) else (bif Nat.beq pc 1 then some (.istore_n 2) else none)) else (bif Nat.blt pc 3 then (bif Nat.beq pc 2 then some (.iconst 0) else none) else (bif Nat.blt pc 4 then (bif Nat.beq pc 3 then some (.istore_n 3) else none) else (bif Nat.beq pc 4 then some (.iload_n 3) else none)))) else (bif Nat.blt pc 11 then (bif Nat.blt pc 7 then (bif Nat.beq pc 5 then some (.bipush 96) else none) else (bif Nat.blt pc 10 then (bif Nat.beq pc 7 then some (.if_icmp .ge 34) else none) else (bif Nat.beq pc 10 then some (.aload_n 0) else none))) else (bif Nat.blt pc 14 then (bif Nat.beq pc 11 then some (.getfield 13) else none) else (bif Nat.blt pc 15 then (bif Nat.beq pc 14 then some (.iload_n 3) else none) else (bif Nat.beq pc 15 then some (.aaload) else none))))) else (bif Nat.blt pc 29 then (bif Nat.blt pc 23 then (bif Nat.blt pc 18 then (bif Nat.beq pc 16 then some (.astore 4) else none) else (bif Nat.blt pc 20 then (bif Nat.beq pc 18 then some (.aload 4) else none) else (bif Nat.beq pc 20 then some (.ifnull 15) else none))) else (bif Nat.blt pc 25 then (bif Nat.beq pc 23 then some (.aload 4) else none) else (bif Nat.blt pc 26 then (bif Nat.beq pc 25 then some (.iload_n 1) else none) else (bif Nat.beq pc 26 then some (.invokevirtual 104) else none)))) else (bif Nat.blt pc 38 then (bif Nat.blt pc 32 then (bif Nat.beq pc 29 then some (.ifCond .eq 6) else none) else (bif Nat.blt pc 35 then (bif Nat.beq pc 32 then some (.iinc 2 1) else none) else (bif Nat.beq pc 35 then some (.iinc 3 1) else none))) else (bif Nat.blt pc 41 then (bif Nat.beq pc 38 then some (.goto (-34)) else none) else (bif Nat.blt pc 42 then (bif Nat.beq pc 41 then some (.iload_n 2) else none) else (bif Nat.beq pc 42 then some (.ireturn) else none))))))
def px_a_Workspace_freshCircles (pc : Nat) : Option Instr := (bif Nat.blt pc 16 then (bif Nat.blt pc 8 then (bif Nat.blt pc 4 then (bif Nat.blt pc 1 then (bif Nat.beq pc 0 then some (.aload_n 0) else none) else (bif Nat.beq pc 1 then some (.getfield 55) else none)) else (bif Nat.blt pc 7 then (bif Nat.beq pc 4 then some (.ifCond .eq 23) else none) else (bif Nat.beq pc 7 then some (.aload_n 0) else none))) else (bif Nat.blt pc 12 then (bif Nat.blt pc 11 then (bif Nat.beq pc 8 then some (.getfield 51) else none) else (bif Nat.beq pc 11 then some (.aload_n 0) else none)) else (bif Nat.blt pc 15 then (bif Nat.beq pc 12 then some (.getfield 13) else none) else (bif Nat.beq pc 15 then some (.aload_n 0) else none)))) else (bif Nat.blt pc 24 then (bif Nat.blt pc 22 then (bif Nat.blt pc 19 then (bif Nat.beq pc 16 then some (.getfield 22) else none) else (bif Nat.beq pc 19 then some (.invokevirtual 143) else none)) else (bif Nat.blt pc 23 then (bif Nat.beq pc 22 then some (.aload_n 0) else none) else (bif Nat.beq pc 23 then some (.iconst 0) else none))) else (bif Nat.blt pc 28 then (bif Nat.blt pc 27 then (bif Nat.beq pc 24 then some (.putfield 55) else none) else (bif Nat.beq pc 27 then some (.aload_n 0) else none)) else (bif Nat.blt pc 31 then (bif Nat.beq pc 28 then some (.getfield 51) else none) else (bif Nat.beq pc 31 then some (.areturn) else none)))))
def px_a_Workspace_tellFault (pc : Nat) : Option Instr := (bif Nat.blt pc 34 then (bif Nat.blt pc 16 then (bif Nat.blt pc 5 then (bif Nat.blt pc 2 then (bif Nat.blt pc 1 then (bif Nat.beq pc 0 then some (.iload_n 1) else none) else (bif Nat.beq pc 1 then some (.istore_n 3) else none)) else (bif Nat.blt pc 3 then (bif Nat.beq pc 2 then some (.iconst 0) else none) else (bif Nat.beq pc 3 then some (.istore 4) else none))) else (bif Nat.blt pc 9 then (bif Nat.blt pc 7 then (bif Nat.beq pc 5 then some (.iload 4) else none) else (bif Nat.beq pc 7 then some (.bipush 96) else none)) else (bif Nat.blt pc 12 then (bif Nat.beq pc 9 then some (.if_icmp .ge 57) else none) else (bif Nat.blt pc 13 then (bif Nat.beq pc 12 then some (.aload_n 0) else none) else (bif Nat.beq pc 13 then some (.getfield 13) else none))))) else (bif Nat.blt pc 23 then (bif Nat.blt pc 19 then (bif Nat.blt pc 18 then (bif Nat.beq pc 16 then some (.iload 4) else none) else (bif Nat.beq pc 18 then some (.aaload) else none)) else (bif Nat.blt pc 21 then (bif Nat.beq pc 19 then some (.astore 5) else none) else (bif Nat.beq pc 21 then some (.aload 5) else none))) else (bif Nat.blt pc 28 then (bif Nat.blt pc 26 then (bif Nat.beq pc 23 then some (.ifnull 37) else none) else (bif Nat.beq pc 26 then some (.aload 5) else none)) else (bif Nat.blt pc 31 then (bif Nat.beq pc 28 then some (.invokevirtual 147) else none) else (bif Nat.blt pc 33 then (bif Nat.beq pc 31 then some (.astore 6) else none) else (bif Nat.beq pc 33 then some (.iload_n 3) else none)))))) else (bif Nat.blt pc 52 then (bif Nat.blt pc 44 then (bif Nat.blt pc 39 then (bif Nat.blt pc 36 then (bif Nat.beq pc 34 then some (.aload 6) else none) else (bif Nat.beq pc 36 then some (.invokevirtual 151) else none)) else (bif Nat.blt pc 42 then (bif Nat.beq pc 39 then some (.if_icmp .ge 13) else none) else (bif Nat.beq pc 42 then some (.iload 4) else none))) else (bif Nat.blt pc 47 then (bif Nat.blt pc 46 then (bif Nat.beq pc 44 then some (.aload 6) else none) else (bif Nat.beq pc 46 then some (.iload_n 3) else none)) else (bif Nat.blt pc 48 then (bif Nat.beq pc 47 then some (.iload_n 2) else none) else (bif Nat.blt pc 51 then (bif Nat.beq pc 48 then some (.invokestatic 156) else none) else (bif Nat.beq pc 51 then some (.ireturn) else none))))) else (bif Nat.blt pc 59 then (bif Nat.blt pc 55 then (bif Nat.blt pc 53 then (bif Nat.beq pc 52 then some (.iload_n 3) else none) else (bif Nat.beq pc 53 then some (.aload 6) else none)) else (bif Nat.blt pc 58 then (bif Nat.beq pc 55 then some (.invokevirtual 151) else none) else (bif Nat.beq pc 58 then some (.isub) else none))) else (bif Nat.blt pc 63 then (bif Nat.blt pc 60 then (bif Nat.beq pc 59 then some (.istore_n 3) else none) else (bif Nat.beq pc 60 then some (.iinc 4 1) else none)) else (bif Nat.blt pc 66 then (bif Nat.beq pc 63 then some (.goto (-58)) else none) else (bif Nat.blt pc 67 then (bif Nat.beq pc 66 then some (.iconst (-1)) else none) else (bif Nat.beq pc 67 then some (.ireturn) else none)))))))
def px_a_Workspace_tellFaultAt (pc : Nat) : Option Instr := (bif Nat.blt pc 37 then (bif Nat.blt pc 31 then (bif Nat.blt pc 28 then (bif Nat.blt pc 1 then (bif Nat.beq pc 0 then some (.iload_n 3) else none) else (bif Nat.beq pc 1 then some (.tableswitch 43 0 2 #[27, 32, 37]) else none)) else (bif Nat.blt pc 29 then (bif Nat.beq pc 28 then some (.iload_n 0) else none) else (bif Nat.beq pc 29 then some (.bipush 12) else none))) else (bif Nat.blt pc 33 then (bif Nat.blt pc 32 then (bif Nat.beq pc 31 then some (.idiv) else none) else (bif Nat.beq pc 32 then some (.ireturn) else none)) else (bif Nat.blt pc 34 then (bif Nat.beq pc 33 then some (.iload_n 0) else none) else (bif Nat.blt pc 36 then (bif Nat.beq pc 34 then some (.bipush 12) else none) else (bif Nat.beq pc 36 then some (.irem) else none))))) else (bif Nat.blt pc 43 then (bif Nat.blt pc 39 then (bif Nat.blt pc 38 then (bif Nat.beq pc 37 then some (.ireturn) else none) else (bif Nat.beq pc 38 then some (.aload_n 1) else none)) else (bif Nat.blt pc 40 then (bif Nat.beq pc 39 then some (.iload_n 2) else none) else (bif Nat.beq pc 40 then some (.invokevirtual 160) else none))) else (bif Nat.blt pc 45 then (bif Nat.blt pc 44 then (bif Nat.beq pc 43 then some (.ireturn) else none) else (bif Nat.beq pc 44 then some (.aload_n 1) else none)) else (bif Nat.blt pc 46 then (bif Nat.beq pc 45 then some (.iload_n 2) else none) else (bif Nat.blt pc 49 then (bif Nat.beq pc 46 then some (.invokevirtual 163) else none) else (bif Nat.beq pc 49 then some (.ireturn) else none))))))
def px_a_Workspace_howMany (pc : Nat) : Option Instr := (bif Nat.blt pc 46 then (bif Nat.blt pc 37 then (bif Nat.blt pc 32 then (bif Nat.blt pc 1 then (bif Nat.beq pc 0 then some (.iload_n 1) else none) else (bif Nat.beq pc 1 then some (.tableswitch 60 0 3 #[31, 36, 44, 52]) else none)) else (bif Nat.blt pc 33 then (bif Nat.beq pc 32 then some (.aload_n 0) else none) else (bif Nat.blt pc 36 then (bif Nat.beq pc 33 then some (.invokevirtual 166) else none) else (bif Nat.beq pc 36 then some (.ireturn) else none)))) else (bif Nat.blt pc 41 then (bif Nat.blt pc 38 then (bif Nat.beq pc 37 then some (.aload_n 0) else none) else (bif Nat.beq pc 38 then some (.getfield 22) else none)) else (bif Nat.blt pc 44 then (bif Nat.beq pc 41 then some (.invokevirtual 169) else none) else (bif Nat.blt pc 45 then (bif Nat.beq pc 44 then some (.ireturn) else none) else (bif Nat.beq pc 45 then some (.aload_n 0) else none))))) else (bif Nat.blt pc 57 then (bif Nat.blt pc 52 then (bif Nat.blt pc 49 then (bif Nat.beq pc 46 then some (.invokevirtual 136) else none) else (bif Nat.beq pc 49 then some (.invokevirtual 172) else none)) else (bif Nat.blt pc 53 then (bif Nat.beq pc 52 then some (.ireturn) else none) else (bif Nat.blt pc 54 then (bif Nat.beq pc 53 then some (.aload_n 0) else none) else (bif Nat.beq pc 54 then some (.invokevirtual 136) else none)))) else (bif Nat.blt pc 61 then (bif Nat.blt pc 60 then (bif Nat.beq pc 57 then some (.invokevirtual 175) else none) else (bif Nat.beq pc 60 then some (.ireturn) else none)) else (bif Nat.blt pc 62 then (bif Nat.beq pc 61 then some (.aload_n 0) else none) else (bif Nat.blt pc 65 then (bif Nat.beq pc 62 then some (.invokevirtual 178) else none) else (bif Nat.beq pc 65 then some (.ireturn) else none))))))
def px_a_Workspace_faultCount (pc : Nat) : Option Instr := (bif Nat.blt pc 17 then (bif Nat.blt pc 7 then (bif Nat.blt pc 3 then (bif Nat.blt pc 1 then (bif Nat.beq pc 0 then some (.iconst 0) else none) else (bif Nat.blt pc 2 then (bif Nat.beq pc 1 then some (.istore_n 1) else none) else (bif Nat.beq pc 2 then some (.iconst 0) else none))) else (bif Nat.blt pc 4 then (bif Nat.beq pc 3 then some (.istore_n 2) else none) else (bif Nat.blt pc 5 then (bif Nat.beq pc 4 then some (.iload_n 2) else none) else (bif Nat.beq pc 5 then some (.bipush 96) else none)))) else (bif Nat.blt pc 14 then (bif Nat.blt pc 10 then (bif Nat.beq pc 7 then some (.if_icmp .ge 30) else none) else (bif Nat.blt pc 11 then (bif Nat.beq pc 10 then some (.aload_n 0) else none) else (bif Nat.beq pc 11 then some (.getfield 13) else none))) else (bif Nat.blt pc 15 then (bif Nat.beq pc 14 then some (.iload_n 2) else none) else (bif Nat.blt pc 16 then (bif Nat.beq pc 15 then some (.aaload) else none) else (bif Nat.beq pc 16 then some (.astore_n 3) else none))))) else (bif Nat.blt pc 29 then (bif Nat.blt pc 22 then (bif Nat.blt pc 18 then (bif Nat.beq pc 17 then some (.aload_n 3) else none) else (bif Nat.blt pc 21 then (bif Nat.beq pc 18 then some (.ifnull 13) else none) else (bif Nat.beq pc 21 then some (.iload_n 1) else none))) else (bif Nat.blt pc 23 then (bif Nat.beq pc 22 then some (.aload_n 3) else none) else (bif Nat.blt pc 26 then (bif Nat.beq pc 23 then some (.invokevirtual 147) else none) else (bif Nat.beq pc 26 then some (.invokevirtual 151) else none)))) else (bif Nat.blt pc 34 then (bif Nat.blt pc 30 then (bif Nat.beq pc 29 then some (.iadd) else none) else (bif Nat.blt pc 31 then (bif Nat.beq pc 30 then some (.istore_n 1) else none) else (bif Nat.beq pc 31 then some (.iinc 2 1) else none))) else (bif Nat.blt pc 37 then (bif Nat.beq pc 34 then some (.goto (-30)) else none) else (bif Nat.blt pc 38 then (bif Nat.beq pc 37 then some (.iload_n 1) else none) else (bif Nat.beq pc 38 then some (.ireturn) else none))))))
def px_a_Workspace_lineCount (pc : Nat) : Option Instr := (bif Nat.blt pc 11 then (bif Nat.blt pc 4 then (bif Nat.blt pc 2 then (bif Nat.blt pc 1 then (bif Nat.beq pc 0 then some (.iconst 0) else none) else (bif Nat.beq pc 1 then some (.istore_n 1) else none)) else (bif Nat.blt pc 3 then (bif Nat.beq pc 2 then some (.iconst 0) else none) else (bif Nat.beq pc 3 then some (.istore_n 2) else none))) else (bif Nat.blt pc 7 then (bif Nat.blt pc 5 then (bif Nat.beq pc 4 then some (.iload_n 2) else none) else (bif Nat.beq pc 5 then some (.bipush 96) else none)) else (bif Nat.blt pc 10 then (bif Nat.beq pc 7 then some (.if_icmp .ge 21) else none) else (bif Nat.beq pc 10 then some (.aload_n 0) else none)))) else (bif Nat.blt pc 19 then (bif Nat.blt pc 15 then (bif Nat.blt pc 14 then (bif Nat.beq pc 11 then some (.getfield 13) else none) else (bif Nat.beq pc 14 then some (.iload_n 2) else none)) else (bif Nat.blt pc 16 then (bif Nat.beq pc 15 then some (.aaload) else none) else (bif Nat.beq pc 16 then some (.ifnull 6) else none))) else (bif Nat.blt pc 25 then (bif Nat.blt pc 22 then (bif Nat.beq pc 19 then some (.iinc 1 1) else none) else (bif Nat.beq pc 22 then some (.iinc 2 1) else none)) else (bif Nat.blt pc 28 then (bif Nat.beq pc 25 then some (.goto (-21)) else none) else (bif Nat.blt pc 29 then (bif Nat.beq pc 28 then some (.iload_n 1) else none) else (bif Nat.beq pc 29 then some (.ireturn) else none))))))
def px_a_Daemon_init (pc : Nat) : Option Instr := (bif Nat.blt pc 18 then (bif Nat.blt pc 9 then (bif Nat.blt pc 4 then (bif Nat.blt pc 1 then (bif Nat.beq pc 0 then some (.aload_n 0) else none) else (bif Nat.beq pc 1 then some (.invokespecial 3) else none)) else (bif Nat.blt pc 5 then (bif Nat.beq pc 4 then some (.aload_n 0) else none) else (bif Nat.blt pc 7 then (bif Nat.beq pc 5 then some (.bipush 60) else none) else (bif Nat.beq pc 7 then some (.newarray .int) else none)))) else (bif Nat.blt pc 13 then (bif Nat.blt pc 12 then (bif Nat.beq pc 9 then some (.putfield 9) else none) else (bif Nat.beq pc 12 then some (.aload_n 0) else none)) else (bif Nat.blt pc 14 then (bif Nat.beq pc 13 then some (.iconst 0) else none) else (bif Nat.blt pc 17 then (bif Nat.beq pc 14 then some (.putfield 13) else none) else (bif Nat.beq pc 17 then some (.aload_n 0) else none))))) else (bif Nat.blt pc 29 then (bif Nat.blt pc 22 then (bif Nat.blt pc 21 then (bif Nat.beq pc 18 then some (.new 17) else none) else (bif Nat.beq pc 21 then some (.dup) else none)) else (bif Nat.blt pc 25 then (bif Nat.beq pc 22 then some (.invokespecial 19) else none) else (bif Nat.blt pc 28 then (bif Nat.beq pc 25 then some (.putfield 20) else none) else (bif Nat.beq pc 28 then some (.aload_n 0) else none)))) else (bif Nat.blt pc 33 then (bif Nat.blt pc 32 then (bif Nat.beq pc 29 then some (.new 24) else none) else (bif Nat.beq pc 32 then some (.dup) else none)) else (bif Nat.blt pc 36 then (bif Nat.beq pc 33 then some (.invokespecial 26) else none) else (bif Nat.blt pc 39 then (bif Nat.beq pc 36 then some (.putfield 27) else none) else (bif Nat.beq pc 39 then some (.return_) else none))))))
def px_a_Daemon_erase (pc : Nat) : Option Instr := (bif Nat.blt pc 6 then (bif Nat.blt pc 4 then (bif Nat.blt pc 1 then (bif Nat.beq pc 0 then some (.aload_n 0) else none) else (bif Nat.beq pc 1 then some (.getfield 13) else none)) else (bif Nat.blt pc 5 then (bif Nat.beq pc 4 then some (.istore_n 1) else none) else (bif Nat.beq pc 5 then some (.aload_n 0) else none))) else (bif Nat.blt pc 10 then (bif Nat.blt pc 7 then (bif Nat.beq pc 6 then some (.iconst 0) else none) else (bif Nat.beq pc 7 then some (.putfield 13) else none)) else (bif Nat.blt pc 11 then (bif Nat.beq pc 10 then some (.iload_n 1) else none) else (bif Nat.beq pc 11 then some (.ireturn) else none))))
def px_a_Daemon_type (pc : Nat) : Option Instr := (bif Nat.blt pc 43 then (bif Nat.blt pc 20 then (bif Nat.blt pc 9 then (bif Nat.blt pc 4 then (bif Nat.blt pc 1 then (bif Nat.beq pc 0 then some (.iload_n 1) else none) else (bif Nat.beq pc 1 then some (.invokestatic 31) else none)) else (bif Nat.blt pc 5 then (bif Nat.beq pc 4 then some (.iload_n 2) else none) else (bif Nat.blt pc 8 then (bif Nat.beq pc 5 then some (.invokestatic 31) else none) else (bif Nat.beq pc 8 then some (.iadd) else none)))) else (bif Nat.blt pc 14 then (bif Nat.blt pc 10 then (bif Nat.beq pc 9 then some (.iload_n 3) else none) else (bif Nat.blt pc 13 then (bif Nat.beq pc 10 then some (.invokestatic 31) else none) else (bif Nat.beq pc 13 then some (.iadd) else none))) else (bif Nat.blt pc 16 then (bif Nat.beq pc 14 then some (.iload 4) else none) else (bif Nat.blt pc 19 then (bif Nat.beq pc 16 then some (.invokestatic 31) else none) else (bif Nat.beq pc 19 then some (.iadd) else none))))) else (bif Nat.blt pc 29 then (bif Nat.blt pc 25 then (bif Nat.blt pc 22 then (bif Nat.beq pc 20 then some (.iload 5) else none) else (bif Nat.beq pc 22 then some (.invokestatic 31) else none)) else (bif Nat.blt pc 26 then (bif Nat.beq pc 25 then some (.iadd) else none) else (bif Nat.blt pc 28 then (bif Nat.beq pc 26 then some (.istore 6) else none) else (bif Nat.beq pc 28 then some (.aload_n 0) else none)))) else (bif Nat.blt pc 35 then (bif Nat.blt pc 32 then (bif Nat.beq pc 29 then some (.getfield 13) else none) else (bif Nat.blt pc 34 then (bif Nat.beq pc 32 then some (.iload 6) else none) else (bif Nat.beq pc 34 then some (.iadd) else none))) else (bif Nat.blt pc 37 then (bif Nat.beq pc 35 then some (.bipush 60) else none) else (bif Nat.blt pc 40 then (bif Nat.beq pc 37 then some (.if_icmp .le 13) else none) else (bif Nat.beq pc 40 then some (.new 35) else none)))))) else (bif Nat.blt pc 61 then (bif Nat.blt pc 51 then (bif Nat.blt pc 46 then (bif Nat.blt pc 44 then (bif Nat.beq pc 43 then some (.dup) else none) else (bif Nat.beq pc 44 then some (.ldc 37) else none)) else (bif Nat.blt pc 49 then (bif Nat.beq pc 46 then some (.invokespecial 39) else none) else (bif Nat.blt pc 50 then (bif Nat.beq pc 49 then some (.athrow) else none) else (bif Nat.beq pc 50 then some (.aload_n 0) else none)))) else (bif Nat.blt pc 56 then (bif Nat.blt pc 52 then (bif Nat.beq pc 51 then some (.iload_n 1) else none) else (bif Nat.blt pc 55 then (bif Nat.beq pc 52 then some (.invokevirtual 42) else none) else (bif Nat.beq pc 55 then some (.aload_n 0) else none))) else (bif Nat.blt pc 57 then (bif Nat.beq pc 56 then some (.iload_n 2) else none) else (bif Nat.blt pc 60 then (bif Nat.beq pc 57 then some (.invokevirtual 42) else none) else (bif Nat.beq pc 60 then some (.aload_n 0) else none))))) else (bif Nat.blt pc 71 then (bif Nat.blt pc 65 then (bif Nat.blt pc 62 then (bif Nat.beq pc 61 then some (.iload_n 3) else none) else (bif Nat.beq pc 62 then some (.invokevirtual 42) else none)) else (bif Nat.blt pc 66 then (bif Nat.beq pc 65 then some (.aload_n 0) else none) else (bif Nat.blt pc 68 then (bif Nat.beq pc 66 then some (.iload 4) else none) else (bif Nat.beq pc 68 then some (.invokevirtual 42) else none)))) else (bif Nat.blt pc 77 then (bif Nat.blt pc 72 then (bif Nat.beq pc 71 then some (.aload_n 0) else none) else (bif Nat.blt pc 74 then (bif Nat.beq pc 72 then some (.iload 5) else none) else (bif Nat.beq pc 74 then some (.invokevirtual 42) else none))) else (bif Nat.blt pc 78 then (bif Nat.beq pc 77 then some (.aload_n 0) else none) else (bif Nat.blt pc 81 then (bif Nat.beq pc 78 then some (.getfield 13) else none) else (bif Nat.beq pc 81 then some (.ireturn) else none)))))))
def px_a_Daemon_charactersIn (pc : Nat) : Option Instr := (bif Nat.blt pc 11 then (bif Nat.blt pc 5 then (bif Nat.blt pc 2 then (bif Nat.blt pc 1 then (bif Nat.beq pc 0 then some (.iconst 0) else none) else (bif Nat.beq pc 1 then some (.istore_n 1) else none)) else (bif Nat.blt pc 4 then (bif Nat.beq pc 2 then some (.bipush 24) else none) else (bif Nat.beq pc 4 then some (.istore_n 2) else none))) else (bif Nat.blt pc 9 then (bif Nat.blt pc 6 then (bif Nat.beq pc 5 then some (.iload_n 2) else none) else (bif Nat.beq pc 6 then some (.ifCond .lt 22) else none)) else (bif Nat.blt pc 10 then (bif Nat.beq pc 9 then some (.iload_n 0) else none) else (bif Nat.beq pc 10 then some (.iload_n 2) else none)))) else (bif Nat.blt pc 19 then (bif Nat.blt pc 15 then (bif Nat.blt pc 12 then (bif Nat.beq pc 11 then some (.iushr) else none) else (bif Nat.beq pc 12 then some (.sipush 255) else none)) else (bif Nat.blt pc 16 then (bif Nat.beq pc 15 then some (.iand) else none) else (bif Nat.beq pc 16 then some (.ifCond .eq 6) else none))) else (bif Nat.blt pc 25 then (bif Nat.blt pc 22 then (bif Nat.beq pc 19 then some (.iinc 1 1) else none) else (bif Nat.beq pc 22 then some (.iinc 2 (-8)) else none)) else (bif Nat.blt pc 28 then (bif Nat.beq pc 25 then some (.goto (-20)) else none) else (bif Nat.blt pc 29 then (bif Nat.beq pc 28 then some (.iload_n 1) else none) else (bif Nat.beq pc 29 then some (.ireturn) else none))))))
def px_a_Daemon_append (pc : Nat) : Option Instr := (bif Nat.blt pc 27 then (bif Nat.blt pc 13 then (bif Nat.blt pc 7 then (bif Nat.blt pc 3 then (bif Nat.blt pc 2 then (bif Nat.beq pc 0 then some (.bipush 24) else none) else (bif Nat.beq pc 2 then some (.istore_n 2) else none)) else (bif Nat.blt pc 4 then (bif Nat.beq pc 3 then some (.iload_n 2) else none) else (bif Nat.beq pc 4 then some (.ifCond .lt 53) else none))) else (bif Nat.blt pc 9 then (bif Nat.blt pc 8 then (bif Nat.beq pc 7 then some (.iload_n 1) else none) else (bif Nat.beq pc 8 then some (.iload_n 2) else none)) else (bif Nat.blt pc 10 then (bif Nat.beq pc 9 then some (.iushr) else none) else (bif Nat.beq pc 10 then some (.sipush 255) else none)))) else (bif Nat.blt pc 19 then (bif Nat.blt pc 15 then (bif Nat.blt pc 14 then (bif Nat.beq pc 13 then some (.iand) else none) else (bif Nat.beq pc 14 then some (.istore_n 3) else none)) else (bif Nat.blt pc 16 then (bif Nat.beq pc 15 then some (.iload_n 3) else none) else (bif Nat.beq pc 16 then some (.ifCond .eq 35) else none))) else (bif Nat.blt pc 23 then (bif Nat.blt pc 20 then (bif Nat.beq pc 19 then some (.aload_n 0) else none) else (bif Nat.beq pc 20 then some (.getfield 13) else none)) else (bif Nat.blt pc 24 then (bif Nat.beq pc 23 then some (.aload_n 0) else none) else (bif Nat.beq pc 24 then some (.getfield 9) else none))))) else (bif Nat.blt pc 41 then (bif Nat.blt pc 35 then (bif Nat.blt pc 31 then (bif Nat.blt pc 28 then (bif Nat.beq pc 27 then some (.arraylength) else none) else (bif Nat.beq pc 28 then some (.if_icmp .ge 23) else none)) else (bif Nat.blt pc 32 then (bif Nat.beq pc 31 then some (.aload_n 0) else none) else (bif Nat.beq pc 32 then some (.getfield 9) else none))) else (bif Nat.blt pc 39 then (bif Nat.blt pc 36 then (bif Nat.beq pc 35 then some (.aload_n 0) else none) else (bif Nat.beq pc 36 then some (.getfield 13) else none)) else (bif Nat.blt pc 40 then (bif Nat.beq pc 39 then some (.iload_n 3) else none) else (bif Nat.beq pc 40 then some (.iastore) else none)))) else (bif Nat.blt pc 47 then (bif Nat.blt pc 43 then (bif Nat.blt pc 42 then (bif Nat.beq pc 41 then some (.aload_n 0) else none) else (bif Nat.beq pc 42 then some (.dup) else none)) else (bif Nat.blt pc 46 then (bif Nat.beq pc 43 then some (.getfield 13) else none) else (bif Nat.beq pc 46 then some (.iconst 1) else none))) else (bif Nat.blt pc 51 then (bif Nat.blt pc 48 then (bif Nat.beq pc 47 then some (.iadd) else none) else (bif Nat.beq pc 48 then some (.putfield 13) else none)) else (bif Nat.blt pc 54 then (bif Nat.beq pc 51 then some (.iinc 2 (-8)) else none) else (bif Nat.blt pc 57 then (bif Nat.beq pc 54 then some (.goto (-51)) else none) else (bif Nat.beq pc 57 then some (.return_) else none)))))))
def px_a_Daemon_put (pc : Nat) : Option Instr := (bif Nat.blt pc 41 then (bif Nat.blt pc 21 then (bif Nat.blt pc 11 then (bif Nat.blt pc 2 then (bif Nat.blt pc 1 then (bif Nat.beq pc 0 then some (.iload_n 1) else none) else (bif Nat.beq pc 1 then some (.iload_n 2) else none)) else (bif Nat.blt pc 5 then (bif Nat.beq pc 2 then some (.invokestatic 46) else none) else (bif Nat.blt pc 8 then (bif Nat.beq pc 5 then some (.ifCond .ne 13) else none) else (bif Nat.beq pc 8 then some (.new 50) else none)))) else (bif Nat.blt pc 17 then (bif Nat.blt pc 12 then (bif Nat.beq pc 11 then some (.dup) else none) else (bif Nat.blt pc 14 then (bif Nat.beq pc 12 then some (.ldc 52) else none) else (bif Nat.beq pc 14 then some (.invokespecial 54) else none))) else (bif Nat.blt pc 18 then (bif Nat.beq pc 17 then some (.athrow) else none) else (bif Nat.blt pc 19 then (bif Nat.beq pc 18 then some (.iload_n 1) else none) else (bif Nat.beq pc 19 then some (.bipush 12) else none))))) else (bif Nat.blt pc 29 then (bif Nat.blt pc 24 then (bif Nat.blt pc 22 then (bif Nat.beq pc 21 then some (.imul) else none) else (bif Nat.blt pc 23 then (bif Nat.beq pc 22 then some (.iload_n 2) else none) else (bif Nat.beq pc 23 then some (.iadd) else none))) else (bif Nat.blt pc 25 then (bif Nat.beq pc 24 then some (.istore_n 3) else none) else (bif Nat.blt pc 26 then (bif Nat.beq pc 25 then some (.aload_n 0) else none) else (bif Nat.beq pc 26 then some (.invokevirtual 55) else none)))) else (bif Nat.blt pc 36 then (bif Nat.blt pc 32 then (bif Nat.beq pc 29 then some (.ifCond .eq 7) else none) else (bif Nat.blt pc 33 then (bif Nat.beq pc 32 then some (.aconst_null) else none) else (bif Nat.beq pc 33 then some (.goto 22) else none))) else (bif Nat.blt pc 39 then (bif Nat.beq pc 36 then some (.new 59) else none) else (bif Nat.blt pc 40 then (bif Nat.beq pc 39 then some (.dup) else none) else (bif Nat.beq pc 40 then some (.aload_n 0) else none)))))) else (bif Nat.blt pc 66 then (bif Nat.blt pc 55 then (bif Nat.blt pc 48 then (bif Nat.blt pc 44 then (bif Nat.beq pc 41 then some (.getfield 9) else none) else (bif Nat.blt pc 45 then (bif Nat.beq pc 44 then some (.aload_n 0) else none) else (bif Nat.beq pc 45 then some (.getfield 13) else none))) else (bif Nat.blt pc 49 then (bif Nat.beq pc 48 then some (.iload_n 1) else none) else (bif Nat.blt pc 52 then (bif Nat.beq pc 49 then some (.invokespecial 61) else none) else (bif Nat.beq pc 52 then some (.invokevirtual 64) else none)))) else (bif Nat.blt pc 61 then (bif Nat.blt pc 57 then (bif Nat.beq pc 55 then some (.astore 4) else none) else (bif Nat.blt pc 58 then (bif Nat.beq pc 57 then some (.aload_n 0) else none) else (bif Nat.beq pc 58 then some (.getfield 27) else none))) else (bif Nat.blt pc 62 then (bif Nat.beq pc 61 then some (.iload_n 3) else none) else (bif Nat.blt pc 63 then (bif Nat.beq pc 62 then some (.aload_n 0) else none) else (bif Nat.beq pc 63 then some (.getfield 20) else none))))) else (bif Nat.blt pc 78 then (bif Nat.blt pc 73 then (bif Nat.blt pc 67 then (bif Nat.beq pc 66 then some (.iload_n 3) else none) else (bif Nat.blt pc 70 then (bif Nat.beq pc 67 then some (.invokevirtual 68) else none) else (bif Nat.beq pc 70 then some (.invokevirtual 72) else none))) else (bif Nat.blt pc 74 then (bif Nat.beq pc 73 then some (.aload_n 0) else none) else (bif Nat.blt pc 75 then (bif Nat.beq pc 74 then some (.iconst 0) else none) else (bif Nat.beq pc 75 then some (.putfield 13) else none)))) else (bif Nat.blt pc 83 then (bif Nat.blt pc 79 then (bif Nat.beq pc 78 then some (.aload_n 0) else none) else (bif Nat.blt pc 82 then (bif Nat.beq pc 79 then some (.getfield 20) else none) else (bif Nat.beq pc 82 then some (.iload_n 3) else none))) else (bif Nat.blt pc 85 then (bif Nat.beq pc 83 then some (.aload 4) else none) else (bif Nat.blt pc 88 then (bif Nat.beq pc 85 then some (.invokevirtual 76) else none) else (bif Nat.beq pc 88 then some (.ireturn) else none)))))))
def px_a_Daemon_isPlace (pc : Nat) : Option Instr := (bif Nat.blt pc 14 then (bif Nat.blt pc 5 then (bif Nat.blt pc 1 then (bif Nat.beq pc 0 then some (.iload_n 0) else none) else (bif Nat.blt pc 4 then (bif Nat.beq pc 1 then some (.ifCond .lt 23) else none) else (bif Nat.beq pc 4 then some (.iload_n 0) else none))) else (bif Nat.blt pc 10 then (bif Nat.blt pc 7 then (bif Nat.beq pc 5 then some (.bipush 8) else none) else (bif Nat.beq pc 7 then some (.if_icmp .ge 17) else none)) else (bif Nat.blt pc 11 then (bif Nat.beq pc 10 then some (.iload_n 1) else none) else (bif Nat.beq pc 11 then some (.ifCond .lt 13) else none)))) else (bif Nat.blt pc 20 then (bif Nat.blt pc 15 then (bif Nat.beq pc 14 then some (.iload_n 1) else none) else (bif Nat.blt pc 17 then (bif Nat.beq pc 15 then some (.bipush 12) else none) else (bif Nat.beq pc 17 then some (.if_icmp .ge 7) else none))) else (bif Nat.blt pc 24 then (bif Nat.blt pc 21 then (bif Nat.beq pc 20 then some (.iconst 1) else none) else (bif Nat.beq pc 21 then some (.goto 4) else none)) else (bif Nat.blt pc 25 then (bif Nat.beq pc 24 then some (.iconst 0) else none) else (bif Nat.beq pc 25 then some (.ireturn) else none)))))
def px_a_Daemon_isBlank (pc : Nat) : Option Instr := (bif Nat.blt pc 19 then (bif Nat.blt pc 7 then (bif Nat.blt pc 2 then (bif Nat.blt pc 1 then (bif Nat.beq pc 0 then some (.iconst 0) else none) else (bif Nat.beq pc 1 then some (.istore_n 1) else none)) else (bif Nat.blt pc 3 then (bif Nat.beq pc 2 then some (.iload_n 1) else none) else (bif Nat.blt pc 4 then (bif Nat.beq pc 3 then some (.aload_n 0) else none) else (bif Nat.beq pc 4 then some (.getfield 13) else none)))) else (bif Nat.blt pc 12 then (bif Nat.blt pc 10 then (bif Nat.beq pc 7 then some (.if_icmp .ge 31) else none) else (bif Nat.blt pc 11 then (bif Nat.beq pc 10 then some (.iload_n 1) else none) else (bif Nat.beq pc 11 then some (.aload_n 0) else none))) else (bif Nat.blt pc 15 then (bif Nat.beq pc 12 then some (.getfield 9) else none) else (bif Nat.blt pc 16 then (bif Nat.beq pc 15 then some (.arraylength) else none) else (bif Nat.beq pc 16 then some (.if_icmp .ge 22) else none))))) else (bif Nat.blt pc 30 then (bif Nat.blt pc 24 then (bif Nat.blt pc 20 then (bif Nat.beq pc 19 then some (.aload_n 0) else none) else (bif Nat.blt pc 23 then (bif Nat.beq pc 20 then some (.getfield 9) else none) else (bif Nat.beq pc 23 then some (.iload_n 1) else none))) else (bif Nat.blt pc 25 then (bif Nat.beq pc 24 then some (.iaload) else none) else (bif Nat.blt pc 27 then (bif Nat.beq pc 25 then some (.bipush 32) else none) else (bif Nat.beq pc 27 then some (.if_icmp .eq 5) else none)))) else (bif Nat.blt pc 35 then (bif Nat.blt pc 31 then (bif Nat.beq pc 30 then some (.iconst 0) else none) else (bif Nat.blt pc 32 then (bif Nat.beq pc 31 then some (.ireturn) else none) else (bif Nat.beq pc 32 then some (.iinc 1 1) else none))) else (bif Nat.blt pc 38 then (bif Nat.beq pc 35 then some (.goto (-33)) else none) else (bif Nat.blt pc 39 then (bif Nat.beq pc 38 then some (.iconst 1) else none) else (bif Nat.beq pc 39 then some (.ireturn) else none))))))
def px_a_Daemon_drop (pc : Nat) : Option Instr := (bif Nat.blt pc 38 then (bif Nat.blt pc 20 then (bif Nat.blt pc 10 then (bif Nat.blt pc 4 then (bif Nat.blt pc 1 then (bif Nat.beq pc 0 then some (.iload_n 1) else none) else (bif Nat.beq pc 1 then some (.ifCond .lt 9) else none)) else (bif Nat.blt pc 5 then (bif Nat.beq pc 4 then some (.iload_n 1) else none) else (bif Nat.blt pc 7 then (bif Nat.beq pc 5 then some (.bipush 8) else none) else (bif Nat.beq pc 7 then some (.if_icmp .lt 13) else none)))) else (bif Nat.blt pc 14 then (bif Nat.blt pc 13 then (bif Nat.beq pc 10 then some (.new 50) else none) else (bif Nat.beq pc 13 then some (.dup) else none)) else (bif Nat.blt pc 16 then (bif Nat.beq pc 14 then some (.ldc 80) else none) else (bif Nat.blt pc 19 then (bif Nat.beq pc 16 then some (.invokespecial 54) else none) else (bif Nat.beq pc 19 then some (.athrow) else none))))) else (bif Nat.blt pc 29 then (bif Nat.blt pc 24 then (bif Nat.blt pc 21 then (bif Nat.beq pc 20 then some (.aload_n 0) else none) else (bif Nat.beq pc 21 then some (.getfield 27) else none)) else (bif Nat.blt pc 27 then (bif Nat.beq pc 24 then some (.invokevirtual 82) else none) else (bif Nat.blt pc 28 then (bif Nat.beq pc 27 then some (.iconst 0) else none) else (bif Nat.beq pc 28 then some (.istore_n 2) else none)))) else (bif Nat.blt pc 32 then (bif Nat.blt pc 30 then (bif Nat.beq pc 29 then some (.iconst 0) else none) else (bif Nat.blt pc 31 then (bif Nat.beq pc 30 then some (.istore_n 3) else none) else (bif Nat.beq pc 31 then some (.iload_n 3) else none))) else (bif Nat.blt pc 34 then (bif Nat.beq pc 32 then some (.bipush 12) else none) else (bif Nat.blt pc 37 then (bif Nat.beq pc 34 then some (.if_icmp .ge 43) else none) else (bif Nat.beq pc 37 then some (.iload_n 1) else none)))))) else (bif Nat.blt pc 57 then (bif Nat.blt pc 45 then (bif Nat.blt pc 41 then (bif Nat.blt pc 40 then (bif Nat.beq pc 38 then some (.bipush 12) else none) else (bif Nat.beq pc 40 then some (.imul) else none)) else (bif Nat.blt pc 42 then (bif Nat.beq pc 41 then some (.iload_n 3) else none) else (bif Nat.blt pc 43 then (bif Nat.beq pc 42 then some (.iadd) else none) else (bif Nat.beq pc 43 then some (.istore 4) else none)))) else (bif Nat.blt pc 49 then (bif Nat.blt pc 46 then (bif Nat.beq pc 45 then some (.aload_n 0) else none) else (bif Nat.beq pc 46 then some (.getfield 20) else none)) else (bif Nat.blt pc 51 then (bif Nat.beq pc 49 then some (.iload 4) else none) else (bif Nat.blt pc 54 then (bif Nat.beq pc 51 then some (.invokevirtual 68) else none) else (bif Nat.beq pc 54 then some (.ifnull 17) else none))))) else (bif Nat.blt pc 67 then (bif Nat.blt pc 61 then (bif Nat.blt pc 58 then (bif Nat.beq pc 57 then some (.aload_n 0) else none) else (bif Nat.beq pc 58 then some (.getfield 20) else none)) else (bif Nat.blt pc 63 then (bif Nat.beq pc 61 then some (.iload 4) else none) else (bif Nat.blt pc 64 then (bif Nat.beq pc 63 then some (.aconst_null) else none) else (bif Nat.beq pc 64 then some (.invokevirtual 76) else none)))) else (bif Nat.blt pc 74 then (bif Nat.blt pc 68 then (bif Nat.beq pc 67 then some (.pop) else none) else (bif Nat.blt pc 71 then (bif Nat.beq pc 68 then some (.iinc 2 1) else none) else (bif Nat.beq pc 71 then some (.iinc 3 1) else none))) else (bif Nat.blt pc 77 then (bif Nat.beq pc 74 then some (.goto (-43)) else none) else (bif Nat.blt pc 78 then (bif Nat.beq pc 77 then some (.iload_n 2) else none) else (bif Nat.beq pc 78 then some (.ireturn) else none)))))))
def px_a_Daemon_undo (pc : Nat) : Option Instr := (bif Nat.blt pc 28 then (bif Nat.blt pc 14 then (bif Nat.blt pc 7 then (bif Nat.blt pc 1 then (bif Nat.beq pc 0 then some (.aload_n 0) else none) else (bif Nat.blt pc 4 then (bif Nat.beq pc 1 then some (.getfield 27) else none) else (bif Nat.beq pc 4 then some (.invokevirtual 85) else none))) else (bif Nat.blt pc 10 then (bif Nat.beq pc 7 then some (.ifCond .ne 13) else none) else (bif Nat.blt pc 13 then (bif Nat.beq pc 10 then some (.new 35) else none) else (bif Nat.beq pc 13 then some (.dup) else none)))) else (bif Nat.blt pc 20 then (bif Nat.blt pc 16 then (bif Nat.beq pc 14 then some (.ldc 89) else none) else (bif Nat.blt pc 19 then (bif Nat.beq pc 16 then some (.invokespecial 39) else none) else (bif Nat.beq pc 19 then some (.athrow) else none))) else (bif Nat.blt pc 24 then (bif Nat.blt pc 21 then (bif Nat.beq pc 20 then some (.aload_n 0) else none) else (bif Nat.beq pc 21 then some (.getfield 27) else none)) else (bif Nat.blt pc 27 then (bif Nat.beq pc 24 then some (.invokevirtual 91) else none) else (bif Nat.beq pc 27 then some (.istore_n 1) else none))))) else (bif Nat.blt pc 40 then (bif Nat.blt pc 35 then (bif Nat.blt pc 29 then (bif Nat.beq pc 28 then some (.aload_n 0) else none) else (bif Nat.blt pc 32 then (bif Nat.beq pc 29 then some (.getfield 27) else none) else (bif Nat.beq pc 32 then some (.invokevirtual 94) else none))) else (bif Nat.blt pc 36 then (bif Nat.beq pc 35 then some (.astore_n 2) else none) else (bif Nat.blt pc 37 then (bif Nat.beq pc 36 then some (.aload_n 0) else none) else (bif Nat.beq pc 37 then some (.getfield 27) else none)))) else (bif Nat.blt pc 47 then (bif Nat.blt pc 43 then (bif Nat.beq pc 40 then some (.invokevirtual 97) else none) else (bif Nat.blt pc 44 then (bif Nat.beq pc 43 then some (.aload_n 0) else none) else (bif Nat.beq pc 44 then some (.getfield 20) else none))) else (bif Nat.blt pc 49 then (bif Nat.blt pc 48 then (bif Nat.beq pc 47 then some (.iload_n 1) else none) else (bif Nat.beq pc 48 then some (.aload_n 2) else none)) else (bif Nat.blt pc 52 then (bif Nat.beq pc 49 then some (.invokevirtual 76) else none) else (bif Nat.beq pc 52 then some (.ireturn) else none))))))
def px_a_Daemon_symbol (pc : Nat) : Option Instr := (bif Nat.blt pc 29 then (bif Nat.blt pc 14 then (bif Nat.blt pc 5 then (bif Nat.blt pc 1 then (bif Nat.beq pc 0 then some (.iload_n 1) else none) else (bif Nat.blt pc 4 then (bif Nat.beq pc 1 then some (.ifCond .lt 28) else none) else (bif Nat.beq pc 4 then some (.iload_n 1) else none))) else (bif Nat.blt pc 10 then (bif Nat.blt pc 7 then (bif Nat.beq pc 5 then some (.bipush 8) else none) else (bif Nat.beq pc 7 then some (.if_icmp .ge 22) else none)) else (bif Nat.blt pc 11 then (bif Nat.beq pc 10 then some (.iload_n 2) else none) else (bif Nat.beq pc 11 then some (.ifCond .lt 18) else none)))) else (bif Nat.blt pc 21 then (bif Nat.blt pc 17 then (bif Nat.blt pc 15 then (bif Nat.beq pc 14 then some (.iload_n 2) else none) else (bif Nat.beq pc 15 then some (.bipush 26) else none)) else (bif Nat.blt pc 20 then (bif Nat.beq pc 17 then some (.if_icmp .ge 12) else none) else (bif Nat.beq pc 20 then some (.iload_n 3) else none))) else (bif Nat.blt pc 25 then (bif Nat.blt pc 24 then (bif Nat.beq pc 21 then some (.ifCond .lt 8) else none) else (bif Nat.beq pc 24 then some (.iload_n 3) else none)) else (bif Nat.blt pc 26 then (bif Nat.beq pc 25 then some (.iconst 3) else none) else (bif Nat.beq pc 26 then some (.if_icmp .le 13) else none))))) else (bif Nat.blt pc 43 then (bif Nat.blt pc 35 then (bif Nat.blt pc 32 then (bif Nat.beq pc 29 then some (.new 50) else none) else (bif Nat.blt pc 33 then (bif Nat.beq pc 32 then some (.dup) else none) else (bif Nat.beq pc 33 then some (.ldc 100) else none))) else (bif Nat.blt pc 39 then (bif Nat.blt pc 38 then (bif Nat.beq pc 35 then some (.invokespecial 54) else none) else (bif Nat.beq pc 38 then some (.athrow) else none)) else (bif Nat.blt pc 40 then (bif Nat.beq pc 39 then some (.aload_n 0) else none) else (bif Nat.beq pc 40 then some (.getfield 20) else none)))) else (bif Nat.blt pc 48 then (bif Nat.blt pc 46 then (bif Nat.blt pc 44 then (bif Nat.beq pc 43 then some (.iload_n 1) else none) else (bif Nat.beq pc 44 then some (.bipush 26) else none)) else (bif Nat.blt pc 47 then (bif Nat.beq pc 46 then some (.imul) else none) else (bif Nat.beq pc 47 then some (.iload_n 2) else none))) else (bif Nat.blt pc 50 then (bif Nat.blt pc 49 then (bif Nat.beq pc 48 then some (.iadd) else none) else (bif Nat.beq pc 49 then some (.iload_n 3) else none)) else (bif Nat.blt pc 53 then (bif Nat.beq pc 50 then some (.invokevirtual 102) else none) else (bif Nat.beq pc 53 then some (.ireturn) else none))))))
def px_a_Daemon_line (pc : Nat) : Option Instr := (bif Nat.blt pc 28 then (bif Nat.blt pc 13 then (bif Nat.blt pc 5 then (bif Nat.blt pc 1 then (bif Nat.beq pc 0 then some (.iload_n 1) else none) else (bif Nat.blt pc 2 then (bif Nat.beq pc 1 then some (.iload_n 2) else none) else (bif Nat.beq pc 2 then some (.invokestatic 46) else none))) else (bif Nat.blt pc 9 then (bif Nat.blt pc 8 then (bif Nat.beq pc 5 then some (.ifCond .eq 12) else none) else (bif Nat.beq pc 8 then some (.iload_n 3) else none)) else (bif Nat.blt pc 12 then (bif Nat.beq pc 9 then some (.ifCond .lt 8) else none) else (bif Nat.beq pc 12 then some (.iload_n 3) else none)))) else (bif Nat.blt pc 21 then (bif Nat.blt pc 17 then (bif Nat.blt pc 14 then (bif Nat.beq pc 13 then some (.iconst 4) else none) else (bif Nat.beq pc 14 then some (.if_icmp .le 13) else none)) else (bif Nat.blt pc 20 then (bif Nat.beq pc 17 then some (.new 50) else none) else (bif Nat.beq pc 20 then some (.dup) else none))) else (bif Nat.blt pc 26 then (bif Nat.blt pc 23 then (bif Nat.beq pc 21 then some (.ldc 106) else none) else (bif Nat.beq pc 23 then some (.invokespecial 54) else none)) else (bif Nat.blt pc 27 then (bif Nat.beq pc 26 then some (.athrow) else none) else (bif Nat.beq pc 27 then some (.aload_n 0) else none))))) else (bif Nat.blt pc 42 then (bif Nat.blt pc 35 then (bif Nat.blt pc 32 then (bif Nat.blt pc 31 then (bif Nat.beq pc 28 then some (.getfield 20) else none) else (bif Nat.beq pc 31 then some (.iload_n 1) else none)) else (bif Nat.blt pc 34 then (bif Nat.beq pc 32 then some (.bipush 12) else none) else (bif Nat.beq pc 34 then some (.imul) else none))) else (bif Nat.blt pc 37 then (bif Nat.blt pc 36 then (bif Nat.beq pc 35 then some (.iload_n 2) else none) else (bif Nat.beq pc 36 then some (.iadd) else none)) else (bif Nat.blt pc 40 then (bif Nat.beq pc 37 then some (.invokevirtual 68) else none) else (bif Nat.beq pc 40 then some (.astore 4) else none)))) else (bif Nat.blt pc 51 then (bif Nat.blt pc 47 then (bif Nat.blt pc 44 then (bif Nat.beq pc 42 then some (.aload 4) else none) else (bif Nat.beq pc 44 then some (.ifnonnull 7) else none)) else (bif Nat.blt pc 48 then (bif Nat.beq pc 47 then some (.iconst (-1)) else none) else (bif Nat.beq pc 48 then some (.goto 9) else none))) else (bif Nat.blt pc 54 then (bif Nat.blt pc 53 then (bif Nat.beq pc 51 then some (.aload 4) else none) else (bif Nat.beq pc 53 then some (.iload_n 3) else none)) else (bif Nat.blt pc 57 then (bif Nat.beq pc 54 then some (.invokevirtual 108) else none) else (bif Nat.beq pc 57 then some (.ireturn) else none))))))
def px_a_Daemon_diagnostic (pc : Nat) : Option Instr := (bif Nat.blt pc 19 then (bif Nat.blt pc 9 then (bif Nat.blt pc 4 then (bif Nat.blt pc 1 then (bif Nat.beq pc 0 then some (.iload_n 2) else none) else (bif Nat.beq pc 1 then some (.ifCond .lt 8) else none)) else (bif Nat.blt pc 5 then (bif Nat.beq pc 4 then some (.iload_n 2) else none) else (bif Nat.blt pc 6 then (bif Nat.beq pc 5 then some (.iconst 3) else none) else (bif Nat.beq pc 6 then some (.if_icmp .le 13) else none)))) else (bif Nat.blt pc 13 then (bif Nat.blt pc 12 then (bif Nat.beq pc 9 then some (.new 50) else none) else (bif Nat.beq pc 12 then some (.dup) else none)) else (bif Nat.blt pc 15 then (bif Nat.beq pc 13 then some (.ldc 113) else none) else (bif Nat.blt pc 18 then (bif Nat.beq pc 15 then some (.invokespecial 54) else none) else (bif Nat.beq pc 18 then some (.athrow) else none))))) else (bif Nat.blt pc 28 then (bif Nat.blt pc 23 then (bif Nat.blt pc 20 then (bif Nat.beq pc 19 then some (.iload_n 1) else none) else (bif Nat.beq pc 20 then some (.ifCond .ge 7) else none)) else (bif Nat.blt pc 24 then (bif Nat.beq pc 23 then some (.iconst (-1)) else none) else (bif Nat.blt pc 27 then (bif Nat.beq pc 24 then some (.goto 12) else none) else (bif Nat.beq pc 27 then some (.aload_n 0) else none)))) else (bif Nat.blt pc 32 then (bif Nat.blt pc 31 then (bif Nat.beq pc 28 then some (.getfield 20) else none) else (bif Nat.beq pc 31 then some (.iload_n 1) else none)) else (bif Nat.blt pc 33 then (bif Nat.beq pc 32 then some (.iload_n 2) else none) else (bif Nat.blt pc 36 then (bif Nat.beq pc 33 then some (.invokevirtual 115) else none) else (bif Nat.beq pc 36 then some (.ireturn) else none))))))
def px_a_Daemon_count (pc : Nat) : Option Instr := (bif Nat.blt pc 20 then (bif Nat.blt pc 9 then (bif Nat.blt pc 4 then (bif Nat.blt pc 1 then (bif Nat.beq pc 0 then some (.iload_n 1) else none) else (bif Nat.beq pc 1 then some (.ifCond .lt 8) else none)) else (bif Nat.blt pc 5 then (bif Nat.beq pc 4 then some (.iload_n 1) else none) else (bif Nat.blt pc 6 then (bif Nat.beq pc 5 then some (.iconst 5) else none) else (bif Nat.beq pc 6 then some (.if_icmp .le 13) else none)))) else (bif Nat.blt pc 15 then (bif Nat.blt pc 12 then (bif Nat.beq pc 9 then some (.new 50) else none) else (bif Nat.blt pc 13 then (bif Nat.beq pc 12 then some (.dup) else none) else (bif Nat.beq pc 13 then some (.ldc 113) else none))) else (bif Nat.blt pc 18 then (bif Nat.beq pc 15 then some (.invokespecial 54) else none) else (bif Nat.blt pc 19 then (bif Nat.beq pc 18 then some (.athrow) else none) else (bif Nat.beq pc 19 then some (.iload_n 1) else none))))) else (bif Nat.blt pc 31 then (bif Nat.blt pc 24 then (bif Nat.blt pc 21 then (bif Nat.beq pc 20 then some (.iconst 5) else none) else (bif Nat.beq pc 21 then some (.if_icmp .ne 13) else none)) else (bif Nat.blt pc 25 then (bif Nat.beq pc 24 then some (.aload_n 0) else none) else (bif Nat.blt pc 28 then (bif Nat.beq pc 25 then some (.getfield 27) else none) else (bif Nat.beq pc 28 then some (.invokevirtual 85) else none)))) else (bif Nat.blt pc 38 then (bif Nat.blt pc 34 then (bif Nat.beq pc 31 then some (.goto 11) else none) else (bif Nat.blt pc 35 then (bif Nat.beq pc 34 then some (.aload_n 0) else none) else (bif Nat.beq pc 35 then some (.getfield 20) else none))) else (bif Nat.blt pc 39 then (bif Nat.beq pc 38 then some (.iload_n 1) else none) else (bif Nat.blt pc 42 then (bif Nat.beq pc 39 then some (.invokevirtual 118) else none) else (bif Nat.beq pc 42 then some (.ireturn) else none))))))
def px_a_Model_init (pc : Nat) : Option Instr := (bif Nat.blt pc 131 then (bif Nat.blt pc 62 then (bif Nat.blt pc 30 then (bif Nat.blt pc 13 then (bif Nat.blt pc 5 then (bif Nat.blt pc 1 then (bif Nat.beq pc 0 then some (.aload_n 0) else none) else (bif Nat.blt pc 4 then (bif Nat.beq pc 1 then some (.invokespecial 1) else none) else (bif Nat.beq pc 4 then some (.aload_n 0) else none))) else (bif Nat.blt pc 9 then (bif Nat.blt pc 7 then (bif Nat.beq pc 5 then some (.bipush 60) else none) else (bif Nat.beq pc 7 then some (.newarray .char) else none)) else (bif Nat.blt pc 12 then (bif Nat.beq pc 9 then some (.putfield 7) else none) else (bif Nat.beq pc 12 then some (.aload_n 0) else none)))) else (bif Nat.blt pc 21 then (bif Nat.blt pc 17 then (bif Nat.blt pc 15 then (bif Nat.beq pc 13 then some (.bipush 96) else none) else (bif Nat.beq pc 15 then some (.newarray .int) else none)) else (bif Nat.blt pc 20 then (bif Nat.beq pc 17 then some (.putfield 13) else none) else (bif Nat.beq pc 20 then some (.aload_n 0) else none))) else (bif Nat.blt pc 26 then (bif Nat.blt pc 24 then (bif Nat.beq pc 21 then some (.sipush 5760) else none) else (bif Nat.beq pc 24 then some (.newarray .char) else none)) else (bif Nat.blt pc 29 then (bif Nat.beq pc 26 then some (.putfield 17) else none) else (bif Nat.beq pc 29 then some (.aload_n 0) else none))))) else (bif Nat.blt pc 46 then (bif Nat.blt pc 38 then (bif Nat.blt pc 34 then (bif Nat.blt pc 32 then (bif Nat.beq pc 30 then some (.bipush 96) else none) else (bif Nat.beq pc 32 then some (.newarray .int) else none)) else (bif Nat.blt pc 37 then (bif Nat.beq pc 34 then some (.putfield 20) else none) else (bif Nat.beq pc 37 then some (.aload_n 0) else none))) else (bif Nat.blt pc 42 then (bif Nat.blt pc 40 then (bif Nat.beq pc 38 then some (.bipush 96) else none) else (bif Nat.beq pc 40 then some (.newarray .int) else none)) else (bif Nat.blt pc 45 then (bif Nat.beq pc 42 then some (.putfield 23) else none) else (bif Nat.beq pc 45 then some (.aload_n 0) else none)))) else (bif Nat.blt pc 54 then (bif Nat.blt pc 50 then (bif Nat.blt pc 48 then (bif Nat.beq pc 46 then some (.bipush 96) else none) else (bif Nat.beq pc 48 then some (.newarray .int) else none)) else (bif Nat.blt pc 53 then (bif Nat.beq pc 50 then some (.putfield 26) else none) else (bif Nat.beq pc 53 then some (.aload_n 0) else none))) else (bif Nat.blt pc 58 then (bif Nat.blt pc 56 then (bif Nat.beq pc 54 then some (.bipush 96) else none) else (bif Nat.beq pc 56 then some (.newarray .int) else none)) else (bif Nat.blt pc 61 then (bif Nat.beq pc 58 then some (.putfield 29) else none) else (bif Nat.beq pc 61 then some (.aload_n 0) else none)))))) else (bif Nat.blt pc 96 then (bif Nat.blt pc 78 then (bif Nat.blt pc 69 then (bif Nat.blt pc 64 then (bif Nat.beq pc 62 then some (.bipush 96) else none) else (bif Nat.blt pc 66 then (bif Nat.beq pc 64 then some (.newarray .int) else none) else (bif Nat.beq pc 66 then some (.putfield 32) else none))) else (bif Nat.blt pc 73 then (bif Nat.blt pc 70 then (bif Nat.beq pc 69 then some (.aload_n 0) else none) else (bif Nat.beq pc 70 then some (.sipush 6144) else none)) else (bif Nat.blt pc 75 then (bif Nat.beq pc 73 then some (.newarray .int) else none) else (bif Nat.beq pc 75 then some (.putfield 35) else none)))) else (bif Nat.blt pc 87 then (bif Nat.blt pc 82 then (bif Nat.blt pc 79 then (bif Nat.beq pc 78 then some (.aload_n 0) else none) else (bif Nat.beq pc 79 then some (.sipush 6144) else none)) else (bif Nat.blt pc 84 then (bif Nat.beq pc 82 then some (.newarray .int) else none) else (bif Nat.beq pc 84 then some (.putfield 38) else none))) else (bif Nat.blt pc 91 then (bif Nat.blt pc 88 then (bif Nat.beq pc 87 then some (.aload_n 0) else none) else (bif Nat.beq pc 88 then some (.sipush 6144) else none)) else (bif Nat.blt pc 93 then (bif Nat.beq pc 91 then some (.newarray .int) else none) else (bif Nat.beq pc 93 then some (.putfield 41) else none))))) else (bif Nat.blt pc 113 then (bif Nat.blt pc 104 then (bif Nat.blt pc 99 then (bif Nat.blt pc 97 then (bif Nat.beq pc 96 then some (.aload_n 0) else none) else (bif Nat.beq pc 97 then some (.bipush 96) else none)) else (bif Nat.blt pc 101 then (bif Nat.beq pc 99 then some (.newarray .int) else none) else (bif Nat.beq pc 101 then some (.putfield 44) else none))) else (bif Nat.blt pc 108 then (bif Nat.blt pc 105 then (bif Nat.beq pc 104 then some (.aload_n 0) else none) else (bif Nat.beq pc 105 then some (.sipush 208) else none)) else (bif Nat.blt pc 110 then (bif Nat.beq pc 108 then some (.newarray .int) else none) else (bif Nat.beq pc 110 then some (.putfield 47) else none)))) else (bif Nat.blt pc 122 then (bif Nat.blt pc 117 then (bif Nat.blt pc 114 then (bif Nat.beq pc 113 then some (.aload_n 0) else none) else (bif Nat.beq pc 114 then some (.sipush 208) else none)) else (bif Nat.blt pc 119 then (bif Nat.beq pc 117 then some (.newarray .boolean) else none) else (bif Nat.beq pc 119 then some (.putfield 50) else none))) else (bif Nat.blt pc 126 then (bif Nat.blt pc 123 then (bif Nat.beq pc 122 then some (.aload_n 0) else none) else (bif Nat.beq pc 123 then some (.sipush 6000) else none)) else (bif Nat.blt pc 128 then (bif Nat.beq pc 126 then some (.newarray .int) else none) else (bif Nat.beq pc 128 then some (.putfield 54) else none))))))) else (bif Nat.blt pc 196 then (bif Nat.blt pc 162 then (bif Nat.blt pc 146 then (bif Nat.blt pc 137 then (bif Nat.blt pc 132 then (bif Nat.beq pc 131 then some (.aload_n 0) else none) else (bif Nat.blt pc 135 then (bif Nat.beq pc 132 then some (.sipush 6000) else none) else (bif Nat.beq pc 135 then some (.newarray .int) else none))) else (bif Nat.blt pc 141 then (bif Nat.blt pc 140 then (bif Nat.beq pc 137 then some (.putfield 57) else none) else (bif Nat.beq pc 140 then some (.aload_n 0) else none)) else (bif Nat.blt pc 144 then (bif Nat.beq pc 141 then some (.sipush 6000) else none) else (bif Nat.beq pc 144 then some (.newarray .int) else none)))) else (bif Nat.blt pc 154 then (bif Nat.blt pc 150 then (bif Nat.blt pc 149 then (bif Nat.beq pc 146 then some (.putfield 60) else none) else (bif Nat.beq pc 149 then some (.aload_n 0) else none)) else (bif Nat.blt pc 152 then (bif Nat.beq pc 150 then some (.bipush 16) else none) else (bif Nat.beq pc 152 then some (.newarray .int) else none))) else (bif Nat.blt pc 158 then (bif Nat.blt pc 157 then (bif Nat.beq pc 154 then some (.putfield 63) else none) else (bif Nat.beq pc 157 then some (.aload_n 0) else none)) else (bif Nat.blt pc 160 then (bif Nat.beq pc 158 then some (.bipush 16) else none) else (bif Nat.beq pc 160 then some (.newarray .int) else none))))) else (bif Nat.blt pc 179 then (bif Nat.blt pc 171 then (bif Nat.blt pc 166 then (bif Nat.blt pc 165 then (bif Nat.beq pc 162 then some (.putfield 66) else none) else (bif Nat.beq pc 165 then some (.aload_n 0) else none)) else (bif Nat.blt pc 169 then (bif Nat.beq pc 166 then some (.sipush 960) else none) else (bif Nat.beq pc 169 then some (.newarray .char) else none))) else (bif Nat.blt pc 175 then (bif Nat.blt pc 174 then (bif Nat.beq pc 171 then some (.putfield 69) else none) else (bif Nat.beq pc 174 then some (.aload_n 0) else none)) else (bif Nat.blt pc 177 then (bif Nat.beq pc 175 then some (.ldc 72) else none) else (bif Nat.beq pc 177 then some (.newarray .boolean) else none)))) else (bif Nat.blt pc 187 then (bif Nat.blt pc 183 then (bif Nat.blt pc 182 then (bif Nat.beq pc 179 then some (.putfield 73) else none) else (bif Nat.beq pc 182 then some (.aload_n 0) else none)) else (bif Nat.blt pc 185 then (bif Nat.beq pc 183 then some (.bipush 96) else none) else (bif Nat.beq pc 185 then some (.newarray .boolean) else none))) else (bif Nat.blt pc 191 then (bif Nat.blt pc 190 then (bif Nat.beq pc 187 then some (.putfield 76) else none) else (bif Nat.beq pc 190 then some (.aload_n 0) else none)) else (bif Nat.blt pc 194 then (bif Nat.beq pc 191 then some (.sipush 208) else none) else (bif Nat.beq pc 194 then some (.newarray .boolean) else none)))))) else (bif Nat.blt pc 227 then (bif Nat.blt pc 212 then (bif Nat.blt pc 204 then (bif Nat.blt pc 200 then (bif Nat.blt pc 199 then (bif Nat.beq pc 196 then some (.putfield 79) else none) else (bif Nat.beq pc 199 then some (.aload_n 0) else none)) else (bif Nat.blt pc 202 then (bif Nat.beq pc 200 then some (.bipush 64) else none) else (bif Nat.beq pc 202 then some (.newarray .int) else none))) else (bif Nat.blt pc 208 then (bif Nat.blt pc 207 then (bif Nat.beq pc 204 then some (.putfield 82) else none) else (bif Nat.beq pc 207 then some (.aload_n 0) else none)) else (bif Nat.blt pc 210 then (bif Nat.beq pc 208 then some (.bipush 64) else none) else (bif Nat.beq pc 210 then some (.newarray .int) else none)))) else (bif Nat.blt pc 218 then (bif Nat.blt pc 216 then (bif Nat.blt pc 215 then (bif Nat.beq pc 212 then some (.putfield 85) else none) else (bif Nat.beq pc 215 then some (.iconst 0) else none)) else (bif Nat.blt pc 217 then (bif Nat.beq pc 216 then some (.istore_n 1) else none) else (bif Nat.beq pc 217 then some (.iload_n 1) else none))) else (bif Nat.blt pc 223 then (bif Nat.blt pc 220 then (bif Nat.beq pc 218 then some (.bipush 96) else none) else (bif Nat.beq pc 220 then some (.if_icmp .ge 30) else none)) else (bif Nat.blt pc 224 then (bif Nat.beq pc 223 then some (.aload_n 0) else none) else (bif Nat.beq pc 224 then some (.getfield 20) else none))))) else (bif Nat.blt pc 237 then (bif Nat.blt pc 231 then (bif Nat.blt pc 229 then (bif Nat.blt pc 228 then (bif Nat.beq pc 227 then some (.iload_n 1) else none) else (bif Nat.beq pc 228 then some (.iconst (-1)) else none)) else (bif Nat.blt pc 230 then (bif Nat.beq pc 229 then some (.iastore) else none) else (bif Nat.beq pc 230 then some (.aload_n 0) else none))) else (bif Nat.blt pc 235 then (bif Nat.blt pc 234 then (bif Nat.beq pc 231 then some (.getfield 23) else none) else (bif Nat.beq pc 234 then some (.iload_n 1) else none)) else (bif Nat.blt pc 236 then (bif Nat.beq pc 235 then some (.iconst (-1)) else none) else (bif Nat.beq pc 236 then some (.iastore) else none)))) else (bif Nat.blt pc 243 then (bif Nat.blt pc 241 then (bif Nat.blt pc 238 then (bif Nat.beq pc 237 then some (.aload_n 0) else none) else (bif Nat.beq pc 238 then some (.getfield 26) else none)) else (bif Nat.blt pc 242 then (bif Nat.beq pc 241 then some (.iload_n 1) else none) else (bif Nat.beq pc 242 then some (.iconst (-1)) else none))) else (bif Nat.blt pc 247 then (bif Nat.blt pc 244 then (bif Nat.beq pc 243 then some (.iastore) else none) else (bif Nat.beq pc 244 then some (.iinc 1 1) else none)) else (bif Nat.blt pc 250 then (bif Nat.beq pc 247 then some (.goto (-30)) else none) else (bif Nat.beq pc 250 then some (.return_) else none))))))))
def px_a_Model_thrown (pc : Nat) : Option Instr := (bif Nat.blt pc 1 then (bif Nat.beq pc 0 then some (.aload_n 0) else none) else (bif Nat.blt pc 4 then (bif Nat.beq pc 1 then some (.getfield 88) else none) else (bif Nat.beq pc 4 then some (.ireturn) else none)))
def px_a_Model_type (pc : Nat) : Option Instr := (bif Nat.blt pc 39 then (bif Nat.blt pc 18 then (bif Nat.blt pc 9 then (bif Nat.blt pc 2 then (bif Nat.blt pc 1 then (bif Nat.beq pc 0 then some (.aload_n 0) else none) else (bif Nat.beq pc 1 then some (.iload_n 1) else none)) else (bif Nat.blt pc 3 then (bif Nat.beq pc 2 then some (.aload_n 0) else none) else (bif Nat.blt pc 6 then (bif Nat.beq pc 3 then some (.getfield 92) else none) else (bif Nat.beq pc 6 then some (.invokevirtual 95) else none)))) else (bif Nat.blt pc 12 then (bif Nat.blt pc 11 then (bif Nat.beq pc 9 then some (.istore 6) else none) else (bif Nat.beq pc 11 then some (.aload_n 0) else none)) else (bif Nat.blt pc 13 then (bif Nat.beq pc 12 then some (.iload_n 2) else none) else (bif Nat.blt pc 15 then (bif Nat.beq pc 13 then some (.iload 6) else none) else (bif Nat.beq pc 15 then some (.invokevirtual 95) else none))))) else (bif Nat.blt pc 27 then (bif Nat.blt pc 21 then (bif Nat.blt pc 20 then (bif Nat.beq pc 18 then some (.istore 6) else none) else (bif Nat.beq pc 20 then some (.aload_n 0) else none)) else (bif Nat.blt pc 22 then (bif Nat.beq pc 21 then some (.iload_n 3) else none) else (bif Nat.blt pc 24 then (bif Nat.beq pc 22 then some (.iload 6) else none) else (bif Nat.beq pc 24 then some (.invokevirtual 95) else none)))) else (bif Nat.blt pc 32 then (bif Nat.blt pc 29 then (bif Nat.beq pc 27 then some (.istore 6) else none) else (bif Nat.blt pc 30 then (bif Nat.beq pc 29 then some (.aload_n 0) else none) else (bif Nat.beq pc 30 then some (.iload 4) else none))) else (bif Nat.blt pc 34 then (bif Nat.beq pc 32 then some (.iload 6) else none) else (bif Nat.blt pc 37 then (bif Nat.beq pc 34 then some (.invokevirtual 95) else none) else (bif Nat.beq pc 37 then some (.istore 6) else none)))))) else (bif Nat.blt pc 58 then (bif Nat.blt pc 49 then (bif Nat.blt pc 42 then (bif Nat.blt pc 40 then (bif Nat.beq pc 39 then some (.aload_n 0) else none) else (bif Nat.beq pc 40 then some (.iload 5) else none)) else (bif Nat.blt pc 44 then (bif Nat.beq pc 42 then some (.iload 6) else none) else (bif Nat.blt pc 47 then (bif Nat.beq pc 44 then some (.invokevirtual 95) else none) else (bif Nat.beq pc 47 then some (.istore 6) else none)))) else (bif Nat.blt pc 52 then (bif Nat.blt pc 50 then (bif Nat.beq pc 49 then some (.aload_n 0) else none) else (bif Nat.beq pc 50 then some (.iload 6) else none)) else (bif Nat.blt pc 54 then (bif Nat.beq pc 52 then some (.bipush 60) else none) else (bif Nat.blt pc 57 then (bif Nat.beq pc 54 then some (.if_icmp .le 7) else none) else (bif Nat.beq pc 57 then some (.iconst 1) else none))))) else (bif Nat.blt pc 69 then (bif Nat.blt pc 62 then (bif Nat.blt pc 61 then (bif Nat.beq pc 58 then some (.goto 4) else none) else (bif Nat.beq pc 61 then some (.iconst 0) else none)) else (bif Nat.blt pc 65 then (bif Nat.beq pc 62 then some (.invokevirtual 99) else none) else (bif Nat.blt pc 68 then (bif Nat.beq pc 65 then some (.ifCond .eq 5) else none) else (bif Nat.beq pc 68 then some (.iconst 0) else none)))) else (bif Nat.blt pc 73 then (bif Nat.blt pc 70 then (bif Nat.beq pc 69 then some (.ireturn) else none) else (bif Nat.blt pc 71 then (bif Nat.beq pc 70 then some (.aload_n 0) else none) else (bif Nat.beq pc 71 then some (.iload 6) else none))) else (bif Nat.blt pc 76 then (bif Nat.beq pc 73 then some (.putfield 92) else none) else (bif Nat.blt pc 78 then (bif Nat.beq pc 76 then some (.iload 6) else none) else (bif Nat.beq pc 78 then some (.ireturn) else none)))))))
def px_a_Model_feed (pc : Nat) : Option Instr := (bif Nat.blt pc 26 then (bif Nat.blt pc 12 then (bif Nat.blt pc 4 then (bif Nat.blt pc 1 then (bif Nat.beq pc 0 then some (.iload_n 2) else none) else (bif Nat.blt pc 2 then (bif Nat.beq pc 1 then some (.istore_n 3) else none) else (bif Nat.beq pc 2 then some (.bipush 24) else none))) else (bif Nat.blt pc 8 then (bif Nat.blt pc 6 then (bif Nat.beq pc 4 then some (.istore 4) else none) else (bif Nat.beq pc 6 then some (.iload 4) else none)) else (bif Nat.blt pc 11 then (bif Nat.beq pc 8 then some (.ifCond .lt 42) else none) else (bif Nat.beq pc 11 then some (.iload_n 1) else none)))) else (bif Nat.blt pc 18 then (bif Nat.blt pc 14 then (bif Nat.beq pc 12 then some (.iload 4) else none) else (bif Nat.blt pc 15 then (bif Nat.beq pc 14 then some (.ishr) else none) else (bif Nat.beq pc 15 then some (.sipush 255) else none))) else (bif Nat.blt pc 21 then (bif Nat.blt pc 19 then (bif Nat.beq pc 18 then some (.iand) else none) else (bif Nat.beq pc 19 then some (.istore 5) else none)) else (bif Nat.blt pc 23 then (bif Nat.beq pc 21 then some (.iload 5) else none) else (bif Nat.beq pc 23 then some (.ifCond .eq 21) else none))))) else (bif Nat.blt pc 39 then (bif Nat.blt pc 32 then (bif Nat.blt pc 27 then (bif Nat.beq pc 26 then some (.iload_n 3) else none) else (bif Nat.blt pc 29 then (bif Nat.beq pc 27 then some (.bipush 60) else none) else (bif Nat.beq pc 29 then some (.if_icmp .ge 12) else none))) else (bif Nat.blt pc 36 then (bif Nat.blt pc 33 then (bif Nat.beq pc 32 then some (.aload_n 0) else none) else (bif Nat.beq pc 33 then some (.getfield 7) else none)) else (bif Nat.blt pc 37 then (bif Nat.beq pc 36 then some (.iload_n 3) else none) else (bif Nat.beq pc 37 then some (.iload 5) else none)))) else (bif Nat.blt pc 44 then (bif Nat.blt pc 40 then (bif Nat.beq pc 39 then some (.i2c) else none) else (bif Nat.blt pc 41 then (bif Nat.beq pc 40 then some (.castore) else none) else (bif Nat.beq pc 41 then some (.iinc 3 1) else none))) else (bif Nat.blt pc 50 then (bif Nat.blt pc 47 then (bif Nat.beq pc 44 then some (.iinc 4 (-8)) else none) else (bif Nat.beq pc 47 then some (.goto (-41)) else none)) else (bif Nat.blt pc 51 then (bif Nat.beq pc 50 then some (.iload_n 3) else none) else (bif Nat.beq pc 51 then some (.ireturn) else none))))))
def px_a_Model_refused (pc : Nat) : Option Instr := (bif Nat.blt pc 6 then (bif Nat.blt pc 2 then (bif Nat.blt pc 1 then (bif Nat.beq pc 0 then some (.aload_n 0) else none) else (bif Nat.beq pc 1 then some (.iload_n 1) else none)) else (bif Nat.blt pc 5 then (bif Nat.beq pc 2 then some (.putfield 88) else none) else (bif Nat.beq pc 5 then some (.iload_n 1) else none))) else (bif Nat.blt pc 10 then (bif Nat.blt pc 9 then (bif Nat.beq pc 6 then some (.ifCond .le 7) else none) else (bif Nat.beq pc 9 then some (.iconst 1) else none)) else (bif Nat.blt pc 13 then (bif Nat.beq pc 10 then some (.goto 4) else none) else (bif Nat.blt pc 14 then (bif Nat.beq pc 13 then some (.iconst 0) else none) else (bif Nat.beq pc 14 then some (.ireturn) else none)))))
def px_a_Model_erase (pc : Nat) : Option Instr := (bif Nat.blt pc 9 then (bif Nat.blt pc 2 then (bif Nat.blt pc 1 then (bif Nat.beq pc 0 then some (.aload_n 0) else none) else (bif Nat.beq pc 1 then some (.iconst 0) else none)) else (bif Nat.blt pc 5 then (bif Nat.beq pc 2 then some (.putfield 88) else none) else (bif Nat.blt pc 6 then (bif Nat.beq pc 5 then some (.aload_n 0) else none) else (bif Nat.beq pc 6 then some (.getfield 92) else none)))) else (bif Nat.blt pc 12 then (bif Nat.blt pc 10 then (bif Nat.beq pc 9 then some (.istore_n 1) else none) else (bif Nat.blt pc 11 then (bif Nat.beq pc 10 then some (.aload_n 0) else none) else (bif Nat.beq pc 11 then some (.iconst 0) else none))) else (bif Nat.blt pc 15 then (bif Nat.beq pc 12 then some (.putfield 92) else none) else (bif Nat.blt pc 16 then (bif Nat.beq pc 15 then some (.iload_n 1) else none) else (bif Nat.beq pc 16 then some (.ireturn) else none)))))
def px_a_Model_put (pc : Nat) : Option Instr := (bif Nat.blt pc 40 then (bif Nat.blt pc 21 then (bif Nat.blt pc 8 then (bif Nat.blt pc 2 then (bif Nat.blt pc 1 then (bif Nat.beq pc 0 then some (.aload_n 0) else none) else (bif Nat.beq pc 1 then some (.iload_n 1) else none)) else (bif Nat.blt pc 3 then (bif Nat.beq pc 2 then some (.iconst 0) else none) else (bif Nat.blt pc 5 then (bif Nat.beq pc 3 then some (.bipush 7) else none) else (bif Nat.beq pc 5 then some (.invokestatic 218) else none)))) else (bif Nat.blt pc 13 then (bif Nat.blt pc 11 then (bif Nat.beq pc 8 then some (.ifCond .eq 17) else none) else (bif Nat.blt pc 12 then (bif Nat.beq pc 11 then some (.iload_n 2) else none) else (bif Nat.beq pc 12 then some (.iconst 0) else none))) else (bif Nat.blt pc 15 then (bif Nat.beq pc 13 then some (.bipush 11) else none) else (bif Nat.blt pc 18 then (bif Nat.beq pc 15 then some (.invokestatic 218) else none) else (bif Nat.beq pc 18 then some (.ifCond .eq 7) else none))))) else (bif Nat.blt pc 33 then (bif Nat.blt pc 26 then (bif Nat.blt pc 22 then (bif Nat.beq pc 21 then some (.iconst 0) else none) else (bif Nat.blt pc 25 then (bif Nat.beq pc 22 then some (.goto 4) else none) else (bif Nat.beq pc 25 then some (.iconst 1) else none))) else (bif Nat.blt pc 29 then (bif Nat.beq pc 26 then some (.invokevirtual 99) else none) else (bif Nat.blt pc 32 then (bif Nat.beq pc 29 then some (.ifCond .eq 5) else none) else (bif Nat.beq pc 32 then some (.iconst 0) else none)))) else (bif Nat.blt pc 37 then (bif Nat.blt pc 34 then (bif Nat.beq pc 33 then some (.ireturn) else none) else (bif Nat.blt pc 36 then (bif Nat.beq pc 34 then some (.bipush 12) else none) else (bif Nat.beq pc 36 then some (.iload_n 1) else none))) else (bif Nat.blt pc 38 then (bif Nat.beq pc 37 then some (.imul) else none) else (bif Nat.blt pc 39 then (bif Nat.beq pc 38 then some (.iload_n 2) else none) else (bif Nat.beq pc 39 then some (.iadd) else none)))))) else (bif Nat.blt pc 59 then (bif Nat.blt pc 47 then (bif Nat.blt pc 42 then (bif Nat.blt pc 41 then (bif Nat.beq pc 40 then some (.istore_n 3) else none) else (bif Nat.beq pc 41 then some (.aload_n 0) else none)) else (bif Nat.blt pc 43 then (bif Nat.beq pc 42 then some (.iload_n 3) else none) else (bif Nat.blt pc 46 then (bif Nat.beq pc 43 then some (.invokevirtual 222) else none) else (bif Nat.beq pc 46 then some (.aload_n 0) else none)))) else (bif Nat.blt pc 54 then (bif Nat.blt pc 48 then (bif Nat.beq pc 47 then some (.aload_n 0) else none) else (bif Nat.blt pc 51 then (bif Nat.beq pc 48 then some (.invokevirtual 225) else none) else (bif Nat.beq pc 51 then some (.ifCond .eq 7) else none))) else (bif Nat.blt pc 55 then (bif Nat.beq pc 54 then some (.iconst 0) else none) else (bif Nat.blt pc 58 then (bif Nat.beq pc 55 then some (.goto 7) else none) else (bif Nat.beq pc 58 then some (.aload_n 0) else none))))) else (bif Nat.blt pc 71 then (bif Nat.blt pc 66 then (bif Nat.blt pc 62 then (bif Nat.beq pc 59 then some (.getfield 92) else none) else (bif Nat.blt pc 65 then (bif Nat.beq pc 62 then some (.putfield 92) else none) else (bif Nat.beq pc 65 then some (.aload_n 0) else none))) else (bif Nat.blt pc 67 then (bif Nat.beq pc 66 then some (.iload_n 3) else none) else (bif Nat.blt pc 68 then (bif Nat.beq pc 67 then some (.iconst 0) else none) else (bif Nat.beq pc 68 then some (.invokevirtual 228) else none)))) else (bif Nat.blt pc 75 then (bif Nat.blt pc 73 then (bif Nat.beq pc 71 then some (.istore 4) else none) else (bif Nat.blt pc 74 then (bif Nat.beq pc 73 then some (.aload_n 0) else none) else (bif Nat.beq pc 74 then some (.iconst 0) else none))) else (bif Nat.blt pc 78 then (bif Nat.beq pc 75 then some (.putfield 92) else none) else (bif Nat.blt pc 80 then (bif Nat.beq pc 78 then some (.iload 4) else none) else (bif Nat.beq pc 80 then some (.ireturn) else none)))))))
def px_a_Model_isIn (pc : Nat) : Option Instr := (bif Nat.blt pc 7 then (bif Nat.blt pc 2 then (bif Nat.blt pc 1 then (bif Nat.beq pc 0 then some (.iload_n 0) else none) else (bif Nat.beq pc 1 then some (.iload_n 1) else none)) else (bif Nat.blt pc 5 then (bif Nat.beq pc 2 then some (.if_icmp .lt 12) else none) else (bif Nat.blt pc 6 then (bif Nat.beq pc 5 then some (.iload_n 0) else none) else (bif Nat.beq pc 6 then some (.iload_n 2) else none)))) else (bif Nat.blt pc 11 then (bif Nat.blt pc 10 then (bif Nat.beq pc 7 then some (.if_icmp .gt 7) else none) else (bif Nat.beq pc 10 then some (.iconst 1) else none)) else (bif Nat.blt pc 14 then (bif Nat.beq pc 11 then some (.goto 4) else none) else (bif Nat.blt pc 15 then (bif Nat.beq pc 14 then some (.iconst 0) else none) else (bif Nat.beq pc 15 then some (.ireturn) else none)))))
def px_a_Model_remember (pc : Nat) : Option Instr := (bif Nat.blt pc 84 then (bif Nat.blt pc 41 then (bif Nat.blt pc 22 then (bif Nat.blt pc 11 then (bif Nat.blt pc 6 then (bif Nat.blt pc 1 then (bif Nat.beq pc 0 then some (.aload_n 0) else none) else (bif Nat.blt pc 4 then (bif Nat.beq pc 1 then some (.getfield 199) else none) else (bif Nat.beq pc 4 then some (.bipush 16) else none))) else (bif Nat.blt pc 9 then (bif Nat.beq pc 6 then some (.if_icmp .ne 81) else none) else (bif Nat.blt pc 10 then (bif Nat.beq pc 9 then some (.iconst 0) else none) else (bif Nat.beq pc 10 then some (.istore_n 2) else none)))) else (bif Nat.blt pc 17 then (bif Nat.blt pc 12 then (bif Nat.beq pc 11 then some (.iload_n 2) else none) else (bif Nat.blt pc 14 then (bif Nat.beq pc 12 then some (.bipush 15) else none) else (bif Nat.beq pc 14 then some (.if_icmp .ge 37) else none))) else (bif Nat.blt pc 18 then (bif Nat.beq pc 17 then some (.aload_n 0) else none) else (bif Nat.blt pc 21 then (bif Nat.beq pc 18 then some (.getfield 63) else none) else (bif Nat.beq pc 21 then some (.iload_n 2) else none))))) else (bif Nat.blt pc 30 then (bif Nat.blt pc 27 then (bif Nat.blt pc 23 then (bif Nat.beq pc 22 then some (.aload_n 0) else none) else (bif Nat.blt pc 26 then (bif Nat.beq pc 23 then some (.getfield 63) else none) else (bif Nat.beq pc 26 then some (.iload_n 2) else none))) else (bif Nat.blt pc 28 then (bif Nat.beq pc 27 then some (.iconst 1) else none) else (bif Nat.blt pc 29 then (bif Nat.beq pc 28 then some (.iadd) else none) else (bif Nat.beq pc 29 then some (.iaload) else none)))) else (bif Nat.blt pc 35 then (bif Nat.blt pc 31 then (bif Nat.beq pc 30 then some (.iastore) else none) else (bif Nat.blt pc 32 then (bif Nat.beq pc 31 then some (.aload_n 0) else none) else (bif Nat.beq pc 32 then some (.getfield 66) else none))) else (bif Nat.blt pc 37 then (bif Nat.blt pc 36 then (bif Nat.beq pc 35 then some (.iload_n 2) else none) else (bif Nat.beq pc 36 then some (.aload_n 0) else none)) else (bif Nat.blt pc 40 then (bif Nat.beq pc 37 then some (.getfield 66) else none) else (bif Nat.beq pc 40 then some (.iload_n 2) else none)))))) else (bif Nat.blt pc 61 then (bif Nat.blt pc 51 then (bif Nat.blt pc 44 then (bif Nat.blt pc 42 then (bif Nat.beq pc 41 then some (.iconst 1) else none) else (bif Nat.blt pc 43 then (bif Nat.beq pc 42 then some (.iadd) else none) else (bif Nat.beq pc 43 then some (.iaload) else none))) else (bif Nat.blt pc 45 then (bif Nat.beq pc 44 then some (.iastore) else none) else (bif Nat.blt pc 48 then (bif Nat.beq pc 45 then some (.iinc 2 1) else none) else (bif Nat.beq pc 48 then some (.goto (-37)) else none)))) else (bif Nat.blt pc 54 then (bif Nat.blt pc 52 then (bif Nat.beq pc 51 then some (.iconst 0) else none) else (bif Nat.blt pc 53 then (bif Nat.beq pc 52 then some (.istore_n 2) else none) else (bif Nat.beq pc 53 then some (.iload_n 2) else none))) else (bif Nat.blt pc 57 then (bif Nat.beq pc 54 then some (.sipush 900) else none) else (bif Nat.blt pc 60 then (bif Nat.beq pc 57 then some (.if_icmp .ge 24) else none) else (bif Nat.beq pc 60 then some (.aload_n 0) else none))))) else (bif Nat.blt pc 72 then (bif Nat.blt pc 66 then (bif Nat.blt pc 64 then (bif Nat.beq pc 61 then some (.getfield 69) else none) else (bif Nat.blt pc 65 then (bif Nat.beq pc 64 then some (.iload_n 2) else none) else (bif Nat.beq pc 65 then some (.aload_n 0) else none))) else (bif Nat.blt pc 69 then (bif Nat.beq pc 66 then some (.getfield 69) else none) else (bif Nat.blt pc 70 then (bif Nat.beq pc 69 then some (.iload_n 2) else none) else (bif Nat.beq pc 70 then some (.bipush 60) else none)))) else (bif Nat.blt pc 75 then (bif Nat.blt pc 73 then (bif Nat.beq pc 72 then some (.iadd) else none) else (bif Nat.blt pc 74 then (bif Nat.beq pc 73 then some (.caload) else none) else (bif Nat.beq pc 74 then some (.castore) else none))) else (bif Nat.blt pc 81 then (bif Nat.blt pc 78 then (bif Nat.beq pc 75 then some (.iinc 2 1) else none) else (bif Nat.beq pc 78 then some (.goto (-25)) else none)) else (bif Nat.blt pc 82 then (bif Nat.beq pc 81 then some (.aload_n 0) else none) else (bif Nat.beq pc 82 then some (.bipush 15) else none))))))) else (bif Nat.blt pc 125 then (bif Nat.blt pc 106 then (bif Nat.blt pc 96 then (bif Nat.blt pc 91 then (bif Nat.blt pc 87 then (bif Nat.beq pc 84 then some (.putfield 199) else none) else (bif Nat.blt pc 88 then (bif Nat.beq pc 87 then some (.aload_n 0) else none) else (bif Nat.beq pc 88 then some (.getfield 63) else none))) else (bif Nat.blt pc 92 then (bif Nat.beq pc 91 then some (.aload_n 0) else none) else (bif Nat.blt pc 95 then (bif Nat.beq pc 92 then some (.getfield 199) else none) else (bif Nat.beq pc 95 then some (.iload_n 1) else none)))) else (bif Nat.blt pc 101 then (bif Nat.blt pc 97 then (bif Nat.beq pc 96 then some (.iastore) else none) else (bif Nat.blt pc 98 then (bif Nat.beq pc 97 then some (.aload_n 0) else none) else (bif Nat.beq pc 98 then some (.getfield 66) else none))) else (bif Nat.blt pc 102 then (bif Nat.beq pc 101 then some (.aload_n 0) else none) else (bif Nat.blt pc 105 then (bif Nat.beq pc 102 then some (.getfield 199) else none) else (bif Nat.beq pc 105 then some (.aload_n 0) else none))))) else (bif Nat.blt pc 114 then (bif Nat.blt pc 111 then (bif Nat.blt pc 109 then (bif Nat.beq pc 106 then some (.getfield 13) else none) else (bif Nat.blt pc 110 then (bif Nat.beq pc 109 then some (.iload_n 1) else none) else (bif Nat.beq pc 110 then some (.iaload) else none))) else (bif Nat.blt pc 112 then (bif Nat.beq pc 111 then some (.iastore) else none) else (bif Nat.blt pc 113 then (bif Nat.beq pc 112 then some (.iconst 0) else none) else (bif Nat.beq pc 113 then some (.istore_n 2) else none)))) else (bif Nat.blt pc 119 then (bif Nat.blt pc 115 then (bif Nat.beq pc 114 then some (.iload_n 2) else none) else (bif Nat.blt pc 116 then (bif Nat.beq pc 115 then some (.aload_n 0) else none) else (bif Nat.beq pc 116 then some (.getfield 13) else none))) else (bif Nat.blt pc 121 then (bif Nat.blt pc 120 then (bif Nat.beq pc 119 then some (.iload_n 1) else none) else (bif Nat.beq pc 120 then some (.iaload) else none)) else (bif Nat.blt pc 124 then (bif Nat.beq pc 121 then some (.if_icmp .ge 34) else none) else (bif Nat.beq pc 124 then some (.aload_n 0) else none)))))) else (bif Nat.blt pc 145 then (bif Nat.blt pc 136 then (bif Nat.blt pc 131 then (bif Nat.blt pc 128 then (bif Nat.beq pc 125 then some (.getfield 69) else none) else (bif Nat.blt pc 130 then (bif Nat.beq pc 128 then some (.bipush 60) else none) else (bif Nat.beq pc 130 then some (.aload_n 0) else none))) else (bif Nat.blt pc 134 then (bif Nat.beq pc 131 then some (.getfield 199) else none) else (bif Nat.blt pc 135 then (bif Nat.beq pc 134 then some (.imul) else none) else (bif Nat.beq pc 135 then some (.iload_n 2) else none)))) else (bif Nat.blt pc 141 then (bif Nat.blt pc 137 then (bif Nat.beq pc 136 then some (.iadd) else none) else (bif Nat.blt pc 138 then (bif Nat.beq pc 137 then some (.aload_n 0) else none) else (bif Nat.beq pc 138 then some (.getfield 17) else none))) else (bif Nat.blt pc 143 then (bif Nat.beq pc 141 then some (.bipush 60) else none) else (bif Nat.blt pc 144 then (bif Nat.beq pc 143 then some (.iload_n 1) else none) else (bif Nat.beq pc 144 then some (.imul) else none))))) else (bif Nat.blt pc 155 then (bif Nat.blt pc 148 then (bif Nat.blt pc 146 then (bif Nat.beq pc 145 then some (.iload_n 2) else none) else (bif Nat.blt pc 147 then (bif Nat.beq pc 146 then some (.iadd) else none) else (bif Nat.beq pc 147 then some (.caload) else none))) else (bif Nat.blt pc 149 then (bif Nat.beq pc 148 then some (.castore) else none) else (bif Nat.blt pc 152 then (bif Nat.beq pc 149 then some (.iinc 2 1) else none) else (bif Nat.beq pc 152 then some (.goto (-38)) else none)))) else (bif Nat.blt pc 160 then (bif Nat.blt pc 156 then (bif Nat.beq pc 155 then some (.aload_n 0) else none) else (bif Nat.blt pc 157 then (bif Nat.beq pc 156 then some (.dup) else none) else (bif Nat.beq pc 157 then some (.getfield 199) else none))) else (bif Nat.blt pc 162 then (bif Nat.blt pc 161 then (bif Nat.beq pc 160 then some (.iconst 1) else none) else (bif Nat.beq pc 161 then some (.iadd) else none)) else (bif Nat.blt pc 165 then (bif Nat.beq pc 162 then some (.putfield 199) else none) else (bif Nat.beq pc 165 then some (.return_) else none))))))))
def px_a_Model_isBlank (pc : Nat) : Option Instr := (bif Nat.blt pc 20 then (bif Nat.blt pc 6 then (bif Nat.blt pc 3 then (bif Nat.blt pc 1 then (bif Nat.beq pc 0 then some (.iconst 1) else none) else (bif Nat.blt pc 2 then (bif Nat.beq pc 1 then some (.istore_n 1) else none) else (bif Nat.beq pc 2 then some (.iconst 0) else none))) else (bif Nat.blt pc 4 then (bif Nat.beq pc 3 then some (.istore_n 2) else none) else (bif Nat.blt pc 5 then (bif Nat.beq pc 4 then some (.iload_n 2) else none) else (bif Nat.beq pc 5 then some (.aload_n 0) else none)))) else (bif Nat.blt pc 13 then (bif Nat.blt pc 9 then (bif Nat.beq pc 6 then some (.getfield 92) else none) else (bif Nat.blt pc 12 then (bif Nat.beq pc 9 then some (.if_icmp .ge 30) else none) else (bif Nat.beq pc 12 then some (.iload_n 1) else none))) else (bif Nat.blt pc 16 then (bif Nat.beq pc 13 then some (.ifCond .eq 18) else none) else (bif Nat.blt pc 17 then (bif Nat.beq pc 16 then some (.aload_n 0) else none) else (bif Nat.beq pc 17 then some (.getfield 7) else none))))) else (bif Nat.blt pc 31 then (bif Nat.blt pc 24 then (bif Nat.blt pc 21 then (bif Nat.beq pc 20 then some (.iload_n 2) else none) else (bif Nat.blt pc 22 then (bif Nat.beq pc 21 then some (.caload) else none) else (bif Nat.beq pc 22 then some (.bipush 32) else none))) else (bif Nat.blt pc 27 then (bif Nat.beq pc 24 then some (.if_icmp .ne 7) else none) else (bif Nat.blt pc 28 then (bif Nat.beq pc 27 then some (.iconst 1) else none) else (bif Nat.beq pc 28 then some (.goto 4) else none)))) else (bif Nat.blt pc 36 then (bif Nat.blt pc 32 then (bif Nat.beq pc 31 then some (.iconst 0) else none) else (bif Nat.blt pc 33 then (bif Nat.beq pc 32 then some (.istore_n 1) else none) else (bif Nat.beq pc 33 then some (.iinc 2 1) else none))) else (bif Nat.blt pc 39 then (bif Nat.beq pc 36 then some (.goto (-32)) else none) else (bif Nat.blt pc 40 then (bif Nat.beq pc 39 then some (.iload_n 1) else none) else (bif Nat.beq pc 40 then some (.ireturn) else none))))))
def px_a_Model_edit (pc : Nat) : Option Instr := (bif Nat.blt pc 150 then (bif Nat.blt pc 75 then (bif Nat.blt pc 37 then (bif Nat.blt pc 16 then (bif Nat.blt pc 9 then (bif Nat.blt pc 2 then (bif Nat.blt pc 1 then (bif Nat.beq pc 0 then some (.iconst 0) else none) else (bif Nat.beq pc 1 then some (.istore_n 3) else none)) else (bif Nat.blt pc 3 then (bif Nat.beq pc 2 then some (.iload_n 3) else none) else (bif Nat.blt pc 6 then (bif Nat.beq pc 3 then some (.sipush 208) else none) else (bif Nat.beq pc 6 then some (.if_icmp .ge 30) else none)))) else (bif Nat.blt pc 13 then (bif Nat.blt pc 10 then (bif Nat.beq pc 9 then some (.aload_n 0) else none) else (bif Nat.beq pc 10 then some (.getfield 79) else none)) else (bif Nat.blt pc 14 then (bif Nat.beq pc 13 then some (.iload_n 3) else none) else (bif Nat.blt pc 15 then (bif Nat.beq pc 14 then some (.iload_n 3) else none) else (bif Nat.beq pc 15 then some (.aload_n 0) else none))))) else (bif Nat.blt pc 25 then (bif Nat.blt pc 20 then (bif Nat.blt pc 19 then (bif Nat.beq pc 16 then some (.getfield 23) else none) else (bif Nat.beq pc 19 then some (.iload_n 1) else none)) else (bif Nat.blt pc 21 then (bif Nat.beq pc 20 then some (.iaload) else none) else (bif Nat.blt pc 24 then (bif Nat.beq pc 21 then some (.if_icmp .ne 7) else none) else (bif Nat.beq pc 24 then some (.iconst 1) else none)))) else (bif Nat.blt pc 30 then (bif Nat.blt pc 28 then (bif Nat.beq pc 25 then some (.goto 4) else none) else (bif Nat.blt pc 29 then (bif Nat.beq pc 28 then some (.iconst 0) else none) else (bif Nat.beq pc 29 then some (.bastore) else none))) else (bif Nat.blt pc 33 then (bif Nat.beq pc 30 then some (.iinc 3 1) else none) else (bif Nat.blt pc 36 then (bif Nat.beq pc 33 then some (.goto (-31)) else none) else (bif Nat.beq pc 36 then some (.aload_n 0) else none)))))) else (bif Nat.blt pc 58 then (bif Nat.blt pc 46 then (bif Nat.blt pc 41 then (bif Nat.blt pc 40 then (bif Nat.beq pc 37 then some (.getfield 13) else none) else (bif Nat.beq pc 40 then some (.iload_n 1) else none)) else (bif Nat.blt pc 42 then (bif Nat.beq pc 41 then some (.iload_n 2) else none) else (bif Nat.blt pc 45 then (bif Nat.beq pc 42 then some (.ifCond .eq 15) else none) else (bif Nat.beq pc 45 then some (.aload_n 0) else none)))) else (bif Nat.blt pc 53 then (bif Nat.blt pc 49 then (bif Nat.beq pc 46 then some (.getfield 66) else none) else (bif Nat.blt pc 50 then (bif Nat.beq pc 49 then some (.aload_n 0) else none) else (bif Nat.beq pc 50 then some (.getfield 199) else none))) else (bif Nat.blt pc 54 then (bif Nat.beq pc 53 then some (.iaload) else none) else (bif Nat.blt pc 57 then (bif Nat.beq pc 54 then some (.goto 7) else none) else (bif Nat.beq pc 57 then some (.aload_n 0) else none))))) else (bif Nat.blt pc 65 then (bif Nat.blt pc 62 then (bif Nat.blt pc 61 then (bif Nat.beq pc 58 then some (.getfield 92) else none) else (bif Nat.beq pc 61 then some (.iastore) else none)) else (bif Nat.blt pc 63 then (bif Nat.beq pc 62 then some (.iconst 0) else none) else (bif Nat.blt pc 64 then (bif Nat.beq pc 63 then some (.istore_n 3) else none) else (bif Nat.beq pc 64 then some (.iload_n 3) else none)))) else (bif Nat.blt pc 70 then (bif Nat.blt pc 66 then (bif Nat.beq pc 65 then some (.aload_n 0) else none) else (bif Nat.blt pc 69 then (bif Nat.beq pc 66 then some (.getfield 13) else none) else (bif Nat.beq pc 69 then some (.iload_n 1) else none))) else (bif Nat.blt pc 71 then (bif Nat.beq pc 70 then some (.iaload) else none) else (bif Nat.blt pc 74 then (bif Nat.beq pc 71 then some (.if_icmp .ge 47) else none) else (bif Nat.beq pc 74 then some (.aload_n 0) else none))))))) else (bif Nat.blt pc 111 then (bif Nat.blt pc 94 then (bif Nat.blt pc 83 then (bif Nat.blt pc 80 then (bif Nat.blt pc 78 then (bif Nat.beq pc 75 then some (.getfield 17) else none) else (bif Nat.beq pc 78 then some (.bipush 60) else none)) else (bif Nat.blt pc 81 then (bif Nat.beq pc 80 then some (.iload_n 1) else none) else (bif Nat.blt pc 82 then (bif Nat.beq pc 81 then some (.imul) else none) else (bif Nat.beq pc 82 then some (.iload_n 3) else none)))) else (bif Nat.blt pc 88 then (bif Nat.blt pc 84 then (bif Nat.beq pc 83 then some (.iadd) else none) else (bif Nat.blt pc 85 then (bif Nat.beq pc 84 then some (.iload_n 2) else none) else (bif Nat.beq pc 85 then some (.ifCond .eq 20) else none))) else (bif Nat.blt pc 89 then (bif Nat.beq pc 88 then some (.aload_n 0) else none) else (bif Nat.blt pc 92 then (bif Nat.beq pc 89 then some (.getfield 69) else none) else (bif Nat.beq pc 92 then some (.bipush 60) else none))))) else (bif Nat.blt pc 101 then (bif Nat.blt pc 98 then (bif Nat.blt pc 95 then (bif Nat.beq pc 94 then some (.aload_n 0) else none) else (bif Nat.beq pc 95 then some (.getfield 199) else none)) else (bif Nat.blt pc 99 then (bif Nat.beq pc 98 then some (.imul) else none) else (bif Nat.blt pc 100 then (bif Nat.beq pc 99 then some (.iload_n 3) else none) else (bif Nat.beq pc 100 then some (.iadd) else none)))) else (bif Nat.blt pc 106 then (bif Nat.blt pc 102 then (bif Nat.beq pc 101 then some (.caload) else none) else (bif Nat.blt pc 105 then (bif Nat.beq pc 102 then some (.goto 9) else none) else (bif Nat.beq pc 105 then some (.aload_n 0) else none))) else (bif Nat.blt pc 109 then (bif Nat.beq pc 106 then some (.getfield 7) else none) else (bif Nat.blt pc 110 then (bif Nat.beq pc 109 then some (.iload_n 3) else none) else (bif Nat.beq pc 110 then some (.caload) else none)))))) else (bif Nat.blt pc 132 then (bif Nat.blt pc 120 then (bif Nat.blt pc 115 then (bif Nat.blt pc 112 then (bif Nat.beq pc 111 then some (.castore) else none) else (bif Nat.beq pc 112 then some (.iinc 3 1) else none)) else (bif Nat.blt pc 118 then (bif Nat.beq pc 115 then some (.goto (-51)) else none) else (bif Nat.blt pc 119 then (bif Nat.beq pc 118 then some (.aload_n 0) else none) else (bif Nat.beq pc 119 then some (.iload_n 1) else none)))) else (bif Nat.blt pc 125 then (bif Nat.blt pc 123 then (bif Nat.beq pc 120 then some (.invokevirtual 202) else none) else (bif Nat.blt pc 124 then (bif Nat.beq pc 123 then some (.aload_n 0) else none) else (bif Nat.beq pc 124 then some (.iconst 0) else none))) else (bif Nat.blt pc 128 then (bif Nat.beq pc 125 then some (.putfield 205) else none) else (bif Nat.blt pc 129 then (bif Nat.beq pc 128 then some (.aload_n 0) else none) else (bif Nat.beq pc 129 then some (.invokevirtual 209) else none))))) else (bif Nat.blt pc 139 then (bif Nat.blt pc 136 then (bif Nat.blt pc 133 then (bif Nat.beq pc 132 then some (.aload_n 0) else none) else (bif Nat.beq pc 133 then some (.invokevirtual 212) else none)) else (bif Nat.blt pc 137 then (bif Nat.beq pc 136 then some (.iconst 0) else none) else (bif Nat.blt pc 138 then (bif Nat.beq pc 137 then some (.istore_n 3) else none) else (bif Nat.beq pc 138 then some (.iload_n 3) else none)))) else (bif Nat.blt pc 145 then (bif Nat.blt pc 141 then (bif Nat.beq pc 139 then some (.bipush 96) else none) else (bif Nat.blt pc 144 then (bif Nat.beq pc 141 then some (.if_icmp .ge 25) else none) else (bif Nat.beq pc 144 then some (.aload_n 0) else none))) else (bif Nat.blt pc 148 then (bif Nat.beq pc 145 then some (.getfield 76) else none) else (bif Nat.blt pc 149 then (bif Nat.beq pc 148 then some (.iload_n 3) else none) else (bif Nat.beq pc 149 then some (.iload_n 3) else none)))))))) else (bif Nat.blt pc 230 then (bif Nat.blt pc 190 then (bif Nat.blt pc 169 then (bif Nat.blt pc 159 then (bif Nat.blt pc 154 then (bif Nat.blt pc 151 then (bif Nat.beq pc 150 then some (.iload_n 1) else none) else (bif Nat.beq pc 151 then some (.if_icmp .ne 7) else none)) else (bif Nat.blt pc 155 then (bif Nat.beq pc 154 then some (.iconst 1) else none) else (bif Nat.blt pc 158 then (bif Nat.beq pc 155 then some (.goto 4) else none) else (bif Nat.beq pc 158 then some (.iconst 0) else none)))) else (bif Nat.blt pc 166 then (bif Nat.blt pc 160 then (bif Nat.beq pc 159 then some (.bastore) else none) else (bif Nat.blt pc 163 then (bif Nat.beq pc 160 then some (.iinc 3 1) else none) else (bif Nat.beq pc 163 then some (.goto (-25)) else none))) else (bif Nat.blt pc 167 then (bif Nat.beq pc 166 then some (.iconst 1) else none) else (bif Nat.blt pc 168 then (bif Nat.beq pc 167 then some (.istore_n 3) else none) else (bif Nat.beq pc 168 then some (.iload_n 3) else none))))) else (bif Nat.blt pc 177 then (bif Nat.blt pc 173 then (bif Nat.blt pc 172 then (bif Nat.beq pc 169 then some (.ifCond .eq 103) else none) else (bif Nat.beq pc 172 then some (.iconst 0) else none)) else (bif Nat.blt pc 174 then (bif Nat.beq pc 173 then some (.istore_n 3) else none) else (bif Nat.blt pc 175 then (bif Nat.beq pc 174 then some (.iconst 0) else none) else (bif Nat.beq pc 175 then some (.istore 4) else none)))) else (bif Nat.blt pc 184 then (bif Nat.blt pc 179 then (bif Nat.beq pc 177 then some (.iload 4) else none) else (bif Nat.blt pc 181 then (bif Nat.beq pc 179 then some (.bipush 96) else none) else (bif Nat.beq pc 181 then some (.if_icmp .ge 88) else none))) else (bif Nat.blt pc 185 then (bif Nat.beq pc 184 then some (.aload_n 0) else none) else (bif Nat.blt pc 188 then (bif Nat.beq pc 185 then some (.getfield 76) else none) else (bif Nat.beq pc 188 then some (.iload 4) else none)))))) else (bif Nat.blt pc 211 then (bif Nat.blt pc 200 then (bif Nat.blt pc 194 then (bif Nat.blt pc 191 then (bif Nat.beq pc 190 then some (.baload) else none) else (bif Nat.beq pc 191 then some (.ifCond .ne 22) else none)) else (bif Nat.blt pc 195 then (bif Nat.beq pc 194 then some (.aload_n 0) else none) else (bif Nat.blt pc 197 then (bif Nat.beq pc 195 then some (.iload 4) else none) else (bif Nat.beq pc 197 then some (.invokevirtual 215) else none)))) else (bif Nat.blt pc 207 then (bif Nat.blt pc 203 then (bif Nat.beq pc 200 then some (.ifCond .eq 13) else none) else (bif Nat.blt pc 204 then (bif Nat.beq pc 203 then some (.aload_n 0) else none) else (bif Nat.beq pc 204 then some (.getfield 76) else none))) else (bif Nat.blt pc 209 then (bif Nat.beq pc 207 then some (.iload 4) else none) else (bif Nat.blt pc 210 then (bif Nat.beq pc 209 then some (.iconst 1) else none) else (bif Nat.beq pc 210 then some (.bastore) else none))))) else (bif Nat.blt pc 219 then (bif Nat.blt pc 213 then (bif Nat.blt pc 212 then (bif Nat.beq pc 211 then some (.iconst 1) else none) else (bif Nat.beq pc 212 then some (.istore_n 3) else none)) else (bif Nat.blt pc 214 then (bif Nat.beq pc 213 then some (.aload_n 0) else none) else (bif Nat.blt pc 217 then (bif Nat.beq pc 214 then some (.getfield 76) else none) else (bif Nat.beq pc 217 then some (.iload 4) else none)))) else (bif Nat.blt pc 224 then (bif Nat.blt pc 220 then (bif Nat.beq pc 219 then some (.baload) else none) else (bif Nat.blt pc 223 then (bif Nat.beq pc 220 then some (.ifCond .eq 43) else none) else (bif Nat.beq pc 223 then some (.aload_n 0) else none))) else (bif Nat.blt pc 227 then (bif Nat.beq pc 224 then some (.getfield 23) else none) else (bif Nat.blt pc 229 then (bif Nat.beq pc 227 then some (.iload 4) else none) else (bif Nat.beq pc 229 then some (.iaload) else none))))))) else (bif Nat.blt pc 272 then (bif Nat.blt pc 252 then (bif Nat.blt pc 241 then (bif Nat.blt pc 234 then (bif Nat.blt pc 233 then (bif Nat.beq pc 230 then some (.ifCond .lt 33) else none) else (bif Nat.beq pc 233 then some (.aload_n 0) else none)) else (bif Nat.blt pc 237 then (bif Nat.beq pc 234 then some (.getfield 79) else none) else (bif Nat.blt pc 238 then (bif Nat.beq pc 237 then some (.aload_n 0) else none) else (bif Nat.beq pc 238 then some (.getfield 23) else none)))) else (bif Nat.blt pc 245 then (bif Nat.blt pc 243 then (bif Nat.beq pc 241 then some (.iload 4) else none) else (bif Nat.blt pc 244 then (bif Nat.beq pc 243 then some (.iaload) else none) else (bif Nat.beq pc 244 then some (.baload) else none))) else (bif Nat.blt pc 248 then (bif Nat.beq pc 245 then some (.ifCond .ne 18) else none) else (bif Nat.blt pc 249 then (bif Nat.beq pc 248 then some (.aload_n 0) else none) else (bif Nat.beq pc 249 then some (.getfield 79) else none))))) else (bif Nat.blt pc 260 then (bif Nat.blt pc 256 then (bif Nat.blt pc 253 then (bif Nat.beq pc 252 then some (.aload_n 0) else none) else (bif Nat.beq pc 253 then some (.getfield 23) else none)) else (bif Nat.blt pc 258 then (bif Nat.beq pc 256 then some (.iload 4) else none) else (bif Nat.blt pc 259 then (bif Nat.beq pc 258 then some (.iaload) else none) else (bif Nat.beq pc 259 then some (.iconst 1) else none)))) else (bif Nat.blt pc 263 then (bif Nat.blt pc 261 then (bif Nat.beq pc 260 then some (.bastore) else none) else (bif Nat.blt pc 262 then (bif Nat.beq pc 261 then some (.iconst 1) else none) else (bif Nat.beq pc 262 then some (.istore_n 3) else none))) else (bif Nat.blt pc 266 then (bif Nat.beq pc 263 then some (.iinc 4 1) else none) else (bif Nat.blt pc 269 then (bif Nat.beq pc 266 then some (.goto (-89)) else none) else (bif Nat.beq pc 269 then some (.goto (-101)) else none)))))) else (bif Nat.blt pc 292 then (bif Nat.blt pc 280 then (bif Nat.blt pc 275 then (bif Nat.blt pc 273 then (bif Nat.beq pc 272 then some (.iconst 0) else none) else (bif Nat.beq pc 273 then some (.istore 4) else none)) else (bif Nat.blt pc 276 then (bif Nat.beq pc 275 then some (.iconst 0) else none) else (bif Nat.blt pc 278 then (bif Nat.beq pc 276 then some (.istore 5) else none) else (bif Nat.beq pc 278 then some (.iload 5) else none)))) else (bif Nat.blt pc 286 then (bif Nat.blt pc 282 then (bif Nat.beq pc 280 then some (.bipush 96) else none) else (bif Nat.blt pc 285 then (bif Nat.beq pc 282 then some (.if_icmp .ge 30) else none) else (bif Nat.beq pc 285 then some (.aload_n 0) else none))) else (bif Nat.blt pc 289 then (bif Nat.beq pc 286 then some (.getfield 76) else none) else (bif Nat.blt pc 291 then (bif Nat.beq pc 289 then some (.iload 5) else none) else (bif Nat.beq pc 291 then some (.baload) else none))))) else (bif Nat.blt pc 302 then (bif Nat.blt pc 297 then (bif Nat.blt pc 295 then (bif Nat.beq pc 292 then some (.ifCond .eq 10) else none) else (bif Nat.beq pc 295 then some (.iload 4) else none)) else (bif Nat.blt pc 298 then (bif Nat.beq pc 297 then some (.iconst 1) else none) else (bif Nat.blt pc 299 then (bif Nat.beq pc 298 then some (.iadd) else none) else (bif Nat.beq pc 299 then some (.goto 5) else none)))) else (bif Nat.blt pc 309 then (bif Nat.blt pc 304 then (bif Nat.beq pc 302 then some (.iload 4) else none) else (bif Nat.blt pc 306 then (bif Nat.beq pc 304 then some (.istore 4) else none) else (bif Nat.beq pc 306 then some (.iinc 5 1) else none))) else (bif Nat.blt pc 312 then (bif Nat.beq pc 309 then some (.goto (-31)) else none) else (bif Nat.blt pc 314 then (bif Nat.beq pc 312 then some (.iload 4) else none) else (bif Nat.beq pc 314 then some (.ireturn) else none)))))))))
def px_a_Model_read (pc : Nat) : Option Instr := (bif Nat.blt pc 76 then (bif Nat.blt pc 36 then (bif Nat.blt pc 18 then (bif Nat.blt pc 10 then (bif Nat.blt pc 5 then (bif Nat.blt pc 1 then (bif Nat.beq pc 0 then some (.aload_n 0) else none) else (bif Nat.blt pc 2 then (bif Nat.beq pc 1 then some (.iload_n 1) else none) else (bif Nat.beq pc 2 then some (.putfield 103) else none))) else (bif Nat.blt pc 6 then (bif Nat.beq pc 5 then some (.aload_n 0) else none) else (bif Nat.blt pc 7 then (bif Nat.beq pc 6 then some (.iconst 0) else none) else (bif Nat.beq pc 7 then some (.putfield 106) else none)))) else (bif Nat.blt pc 15 then (bif Nat.blt pc 11 then (bif Nat.beq pc 10 then some (.aload_n 0) else none) else (bif Nat.blt pc 14 then (bif Nat.beq pc 11 then some (.getfield 20) else none) else (bif Nat.beq pc 14 then some (.iload_n 1) else none))) else (bif Nat.blt pc 16 then (bif Nat.beq pc 15 then some (.iconst (-1)) else none) else (bif Nat.blt pc 17 then (bif Nat.beq pc 16 then some (.iastore) else none) else (bif Nat.beq pc 17 then some (.aload_n 0) else none))))) else (bif Nat.blt pc 28 then (bif Nat.blt pc 23 then (bif Nat.blt pc 21 then (bif Nat.beq pc 18 then some (.getfield 23) else none) else (bif Nat.blt pc 22 then (bif Nat.beq pc 21 then some (.iload_n 1) else none) else (bif Nat.beq pc 22 then some (.iconst (-1)) else none))) else (bif Nat.blt pc 24 then (bif Nat.beq pc 23 then some (.iastore) else none) else (bif Nat.blt pc 25 then (bif Nat.beq pc 24 then some (.aload_n 0) else none) else (bif Nat.beq pc 25 then some (.getfield 26) else none)))) else (bif Nat.blt pc 31 then (bif Nat.blt pc 29 then (bif Nat.beq pc 28 then some (.iload_n 1) else none) else (bif Nat.blt pc 30 then (bif Nat.beq pc 29 then some (.iconst (-1)) else none) else (bif Nat.beq pc 30 then some (.iastore) else none))) else (bif Nat.blt pc 32 then (bif Nat.beq pc 31 then some (.aload_n 0) else none) else (bif Nat.blt pc 35 then (bif Nat.beq pc 32 then some (.getfield 32) else none) else (bif Nat.beq pc 35 then some (.iload_n 1) else none)))))) else (bif Nat.blt pc 54 then (bif Nat.blt pc 44 then (bif Nat.blt pc 39 then (bif Nat.blt pc 37 then (bif Nat.beq pc 36 then some (.iconst 0) else none) else (bif Nat.blt pc 38 then (bif Nat.beq pc 37 then some (.iastore) else none) else (bif Nat.beq pc 38 then some (.aload_n 0) else none))) else (bif Nat.blt pc 42 then (bif Nat.beq pc 39 then some (.getfield 13) else none) else (bif Nat.blt pc 43 then (bif Nat.beq pc 42 then some (.iload_n 1) else none) else (bif Nat.beq pc 43 then some (.iaload) else none)))) else (bif Nat.blt pc 49 then (bif Nat.blt pc 47 then (bif Nat.beq pc 44 then some (.ifCond .ne 4) else none) else (bif Nat.blt pc 48 then (bif Nat.beq pc 47 then some (.return_) else none) else (bif Nat.beq pc 48 then some (.iconst (-1)) else none))) else (bif Nat.blt pc 50 then (bif Nat.beq pc 49 then some (.istore_n 2) else none) else (bif Nat.blt pc 51 then (bif Nat.beq pc 50 then some (.aload_n 0) else none) else (bif Nat.beq pc 51 then some (.invokevirtual 113) else none))))) else (bif Nat.blt pc 66 then (bif Nat.blt pc 62 then (bif Nat.blt pc 57 then (bif Nat.beq pc 54 then some (.invokestatic 132) else none) else (bif Nat.blt pc 60 then (bif Nat.beq pc 57 then some (.ifCond .eq 56) else none) else (bif Nat.beq pc 60 then some (.bipush 26) else none))) else (bif Nat.blt pc 63 then (bif Nat.beq pc 62 then some (.iload_n 1) else none) else (bif Nat.blt pc 65 then (bif Nat.beq pc 63 then some (.bipush 12) else none) else (bif Nat.beq pc 65 then some (.idiv) else none)))) else (bif Nat.blt pc 71 then (bif Nat.blt pc 67 then (bif Nat.beq pc 66 then some (.imul) else none) else (bif Nat.blt pc 68 then (bif Nat.beq pc 67 then some (.aload_n 0) else none) else (bif Nat.beq pc 68 then some (.invokevirtual 113) else none))) else (bif Nat.blt pc 74 then (bif Nat.blt pc 72 then (bif Nat.beq pc 71 then some (.iadd) else none) else (bif Nat.beq pc 72 then some (.bipush 65) else none)) else (bif Nat.blt pc 75 then (bif Nat.beq pc 74 then some (.isub) else none) else (bif Nat.beq pc 75 then some (.istore_n 2) else none))))))) else (bif Nat.blt pc 122 then (bif Nat.blt pc 97 then (bif Nat.blt pc 86 then (bif Nat.blt pc 81 then (bif Nat.blt pc 77 then (bif Nat.beq pc 76 then some (.aload_n 0) else none) else (bif Nat.blt pc 78 then (bif Nat.beq pc 77 then some (.dup) else none) else (bif Nat.beq pc 78 then some (.getfield 106) else none))) else (bif Nat.blt pc 82 then (bif Nat.beq pc 81 then some (.iconst 1) else none) else (bif Nat.blt pc 83 then (bif Nat.beq pc 82 then some (.iadd) else none) else (bif Nat.beq pc 83 then some (.putfield 106) else none)))) else (bif Nat.blt pc 92 then (bif Nat.blt pc 87 then (bif Nat.beq pc 86 then some (.aload_n 0) else none) else (bif Nat.blt pc 90 then (bif Nat.beq pc 87 then some (.invokevirtual 113) else none) else (bif Nat.beq pc 90 then some (.bipush 58) else none))) else (bif Nat.blt pc 95 then (bif Nat.beq pc 92 then some (.if_icmp .ne 21) else none) else (bif Nat.blt pc 96 then (bif Nat.beq pc 95 then some (.aload_n 0) else none) else (bif Nat.beq pc 96 then some (.dup) else none))))) else (bif Nat.blt pc 109 then (bif Nat.blt pc 102 then (bif Nat.blt pc 100 then (bif Nat.beq pc 97 then some (.getfield 106) else none) else (bif Nat.blt pc 101 then (bif Nat.beq pc 100 then some (.iconst 1) else none) else (bif Nat.beq pc 101 then some (.iadd) else none))) else (bif Nat.blt pc 105 then (bif Nat.beq pc 102 then some (.putfield 106) else none) else (bif Nat.blt pc 106 then (bif Nat.beq pc 105 then some (.aload_n 0) else none) else (bif Nat.beq pc 106 then some (.invokevirtual 150) else none)))) else (bif Nat.blt pc 114 then (bif Nat.blt pc 112 then (bif Nat.beq pc 109 then some (.ifCond .ne 4) else none) else (bif Nat.blt pc 113 then (bif Nat.beq pc 112 then some (.return_) else none) else (bif Nat.beq pc 113 then some (.aload_n 0) else none))) else (bif Nat.blt pc 117 then (bif Nat.beq pc 114 then some (.invokevirtual 113) else none) else (bif Nat.blt pc 119 then (bif Nat.beq pc 117 then some (.bipush 61) else none) else (bif Nat.beq pc 119 then some (.if_icmp .eq 9) else none)))))) else (bif Nat.blt pc 140 then (bif Nat.blt pc 132 then (bif Nat.blt pc 127 then (bif Nat.blt pc 123 then (bif Nat.beq pc 122 then some (.aload_n 0) else none) else (bif Nat.blt pc 126 then (bif Nat.beq pc 123 then some (.invokevirtual 121) else none) else (bif Nat.beq pc 126 then some (.pop) else none))) else (bif Nat.blt pc 128 then (bif Nat.beq pc 127 then some (.return_) else none) else (bif Nat.blt pc 129 then (bif Nat.beq pc 128 then some (.aload_n 0) else none) else (bif Nat.beq pc 129 then some (.getfield 29) else none)))) else (bif Nat.blt pc 137 then (bif Nat.blt pc 133 then (bif Nat.beq pc 132 then some (.iload_n 1) else none) else (bif Nat.blt pc 134 then (bif Nat.beq pc 133 then some (.aload_n 0) else none) else (bif Nat.beq pc 134 then some (.getfield 106) else none))) else (bif Nat.blt pc 138 then (bif Nat.beq pc 137 then some (.iastore) else none) else (bif Nat.blt pc 139 then (bif Nat.beq pc 138 then some (.aload_n 0) else none) else (bif Nat.beq pc 139 then some (.dup) else none))))) else (bif Nat.blt pc 152 then (bif Nat.blt pc 145 then (bif Nat.blt pc 143 then (bif Nat.beq pc 140 then some (.getfield 106) else none) else (bif Nat.blt pc 144 then (bif Nat.beq pc 143 then some (.iconst 1) else none) else (bif Nat.beq pc 144 then some (.iadd) else none))) else (bif Nat.blt pc 148 then (bif Nat.beq pc 145 then some (.putfield 106) else none) else (bif Nat.blt pc 149 then (bif Nat.beq pc 148 then some (.aload_n 0) else none) else (bif Nat.beq pc 149 then some (.invokevirtual 153) else none)))) else (bif Nat.blt pc 159 then (bif Nat.blt pc 155 then (bif Nat.beq pc 152 then some (.ifCond .eq 10) else none) else (bif Nat.blt pc 156 then (bif Nat.beq pc 155 then some (.aload_n 0) else none) else (bif Nat.beq pc 156 then some (.getfield 23) else none))) else (bif Nat.blt pc 161 then (bif Nat.blt pc 160 then (bif Nat.beq pc 159 then some (.iload_n 1) else none) else (bif Nat.beq pc 160 then some (.iload_n 2) else none)) else (bif Nat.blt pc 162 then (bif Nat.beq pc 161 then some (.iastore) else none) else (bif Nat.beq pc 162 then some (.return_) else none))))))))
def px_a_Model_look (pc : Nat) : Option Instr := (bif Nat.blt pc 26 then (bif Nat.blt pc 12 then (bif Nat.blt pc 5 then (bif Nat.blt pc 1 then (bif Nat.beq pc 0 then some (.aload_n 0) else none) else (bif Nat.blt pc 4 then (bif Nat.beq pc 1 then some (.getfield 106) else none) else (bif Nat.beq pc 4 then some (.aload_n 0) else none))) else (bif Nat.blt pc 8 then (bif Nat.beq pc 5 then some (.getfield 13) else none) else (bif Nat.blt pc 9 then (bif Nat.beq pc 8 then some (.aload_n 0) else none) else (bif Nat.beq pc 9 then some (.getfield 103) else none)))) else (bif Nat.blt pc 17 then (bif Nat.blt pc 13 then (bif Nat.beq pc 12 then some (.iaload) else none) else (bif Nat.blt pc 16 then (bif Nat.beq pc 13 then some (.if_icmp .ge 29) else none) else (bif Nat.beq pc 16 then some (.aload_n 0) else none))) else (bif Nat.blt pc 21 then (bif Nat.blt pc 18 then (bif Nat.beq pc 17 then some (.aload_n 0) else none) else (bif Nat.beq pc 18 then some (.getfield 106) else none)) else (bif Nat.blt pc 24 then (bif Nat.beq pc 21 then some (.invokevirtual 109) else none) else (bif Nat.beq pc 24 then some (.bipush 32) else none))))) else (bif Nat.blt pc 36 then (bif Nat.blt pc 31 then (bif Nat.blt pc 29 then (bif Nat.beq pc 26 then some (.if_icmp .ne 16) else none) else (bif Nat.blt pc 30 then (bif Nat.beq pc 29 then some (.aload_n 0) else none) else (bif Nat.beq pc 30 then some (.dup) else none))) else (bif Nat.blt pc 34 then (bif Nat.beq pc 31 then some (.getfield 106) else none) else (bif Nat.blt pc 35 then (bif Nat.beq pc 34 then some (.iconst 1) else none) else (bif Nat.beq pc 35 then some (.iadd) else none)))) else (bif Nat.blt pc 43 then (bif Nat.blt pc 39 then (bif Nat.beq pc 36 then some (.putfield 106) else none) else (bif Nat.blt pc 42 then (bif Nat.beq pc 39 then some (.goto (-39)) else none) else (bif Nat.beq pc 42 then some (.aload_n 0) else none))) else (bif Nat.blt pc 47 then (bif Nat.blt pc 44 then (bif Nat.beq pc 43 then some (.aload_n 0) else none) else (bif Nat.beq pc 44 then some (.getfield 106) else none)) else (bif Nat.blt pc 50 then (bif Nat.beq pc 47 then some (.invokevirtual 109) else none) else (bif Nat.beq pc 50 then some (.ireturn) else none))))))
def px_a_Model_charAt (pc : Nat) : Option Instr := (bif Nat.blt pc 17 then (bif Nat.blt pc 6 then (bif Nat.blt pc 2 then (bif Nat.blt pc 1 then (bif Nat.beq pc 0 then some (.iload_n 1) else none) else (bif Nat.beq pc 1 then some (.aload_n 0) else none)) else (bif Nat.blt pc 5 then (bif Nat.beq pc 2 then some (.getfield 13) else none) else (bif Nat.beq pc 5 then some (.aload_n 0) else none))) else (bif Nat.blt pc 10 then (bif Nat.blt pc 9 then (bif Nat.beq pc 6 then some (.getfield 103) else none) else (bif Nat.beq pc 9 then some (.iaload) else none)) else (bif Nat.blt pc 13 then (bif Nat.beq pc 10 then some (.if_icmp .ge 20) else none) else (bif Nat.blt pc 14 then (bif Nat.beq pc 13 then some (.aload_n 0) else none) else (bif Nat.beq pc 14 then some (.getfield 17) else none))))) else (bif Nat.blt pc 25 then (bif Nat.blt pc 20 then (bif Nat.blt pc 19 then (bif Nat.beq pc 17 then some (.bipush 60) else none) else (bif Nat.beq pc 19 then some (.aload_n 0) else none)) else (bif Nat.blt pc 23 then (bif Nat.beq pc 20 then some (.getfield 103) else none) else (bif Nat.blt pc 24 then (bif Nat.beq pc 23 then some (.imul) else none) else (bif Nat.beq pc 24 then some (.iload_n 1) else none)))) else (bif Nat.blt pc 27 then (bif Nat.blt pc 26 then (bif Nat.beq pc 25 then some (.iadd) else none) else (bif Nat.beq pc 26 then some (.caload) else none)) else (bif Nat.blt pc 30 then (bif Nat.beq pc 27 then some (.goto 4) else none) else (bif Nat.blt pc 31 then (bif Nat.beq pc 30 then some (.iconst 0) else none) else (bif Nat.beq pc 31 then some (.ireturn) else none))))))
def px_a_Model_isSymbol (pc : Nat) : Option Instr := (bif Nat.blt pc 9 then (bif Nat.blt pc 3 then (bif Nat.blt pc 1 then (bif Nat.beq pc 0 then some (.iload_n 0) else none) else (bif Nat.beq pc 1 then some (.bipush 65) else none)) else (bif Nat.blt pc 6 then (bif Nat.beq pc 3 then some (.if_icmp .lt 13) else none) else (bif Nat.blt pc 7 then (bif Nat.beq pc 6 then some (.iload_n 0) else none) else (bif Nat.beq pc 7 then some (.bipush 90) else none)))) else (bif Nat.blt pc 13 then (bif Nat.blt pc 12 then (bif Nat.beq pc 9 then some (.if_icmp .gt 7) else none) else (bif Nat.beq pc 12 then some (.iconst 1) else none)) else (bif Nat.blt pc 16 then (bif Nat.beq pc 13 then some (.goto 4) else none) else (bif Nat.blt pc 17 then (bif Nat.beq pc 16 then some (.iconst 0) else none) else (bif Nat.beq pc 17 then some (.ireturn) else none)))))
def px_a_Model_readWord (pc : Nat) : Option Instr := (bif Nat.blt pc 82 then (bif Nat.blt pc 38 then (bif Nat.blt pc 17 then (bif Nat.blt pc 5 then (bif Nat.blt pc 2 then (bif Nat.blt pc 1 then (bif Nat.beq pc 0 then some (.iconst 0) else none) else (bif Nat.beq pc 1 then some (.istore_n 1) else none)) else (bif Nat.blt pc 3 then (bif Nat.beq pc 2 then some (.iconst 1) else none) else (bif Nat.blt pc 4 then (bif Nat.beq pc 3 then some (.istore_n 2) else none) else (bif Nat.beq pc 4 then some (.iload_n 2) else none)))) else (bif Nat.blt pc 12 then (bif Nat.blt pc 8 then (bif Nat.beq pc 5 then some (.ifCond .eq 143) else none) else (bif Nat.blt pc 9 then (bif Nat.beq pc 8 then some (.aload_n 0) else none) else (bif Nat.beq pc 9 then some (.invokevirtual 113) else none))) else (bif Nat.blt pc 15 then (bif Nat.beq pc 12 then some (.invokestatic 117) else none) else (bif Nat.blt pc 16 then (bif Nat.beq pc 15 then some (.istore_n 3) else none) else (bif Nat.beq pc 16 then some (.iload_n 3) else none))))) else (bif Nat.blt pc 27 then (bif Nat.blt pc 24 then (bif Nat.blt pc 20 then (bif Nat.beq pc 17 then some (.ifCond .ge 8) else none) else (bif Nat.blt pc 21 then (bif Nat.beq pc 20 then some (.aload_n 0) else none) else (bif Nat.beq pc 21 then some (.invokevirtual 121) else none))) else (bif Nat.blt pc 25 then (bif Nat.beq pc 24 then some (.ireturn) else none) else (bif Nat.blt pc 26 then (bif Nat.beq pc 25 then some (.aload_n 0) else none) else (bif Nat.beq pc 26 then some (.dup) else none)))) else (bif Nat.blt pc 32 then (bif Nat.blt pc 30 then (bif Nat.beq pc 27 then some (.getfield 106) else none) else (bif Nat.blt pc 31 then (bif Nat.beq pc 30 then some (.iconst 1) else none) else (bif Nat.beq pc 31 then some (.iadd) else none))) else (bif Nat.blt pc 35 then (bif Nat.beq pc 32 then some (.putfield 106) else none) else (bif Nat.blt pc 36 then (bif Nat.beq pc 35 then some (.iconst 0) else none) else (bif Nat.beq pc 36 then some (.istore 4) else none)))))) else (bif Nat.blt pc 59 then (bif Nat.blt pc 49 then (bif Nat.blt pc 42 then (bif Nat.blt pc 39 then (bif Nat.beq pc 38 then some (.aload_n 0) else none) else (bif Nat.beq pc 39 then some (.invokevirtual 113) else none)) else (bif Nat.blt pc 44 then (bif Nat.beq pc 42 then some (.bipush 91) else none) else (bif Nat.blt pc 47 then (bif Nat.beq pc 44 then some (.if_icmp .ne 54) else none) else (bif Nat.beq pc 47 then some (.iload 4) else none)))) else (bif Nat.blt pc 54 then (bif Nat.blt pc 50 then (bif Nat.beq pc 49 then some (.iconst 3) else none) else (bif Nat.blt pc 53 then (bif Nat.beq pc 50 then some (.if_icmp .ne 8) else none) else (bif Nat.beq pc 53 then some (.aload_n 0) else none))) else (bif Nat.blt pc 57 then (bif Nat.beq pc 54 then some (.invokevirtual 121) else none) else (bif Nat.blt pc 58 then (bif Nat.beq pc 57 then some (.ireturn) else none) else (bif Nat.beq pc 58 then some (.aload_n 0) else none))))) else (bif Nat.blt pc 69 then (bif Nat.blt pc 64 then (bif Nat.blt pc 60 then (bif Nat.beq pc 59 then some (.dup) else none) else (bif Nat.blt pc 63 then (bif Nat.beq pc 60 then some (.getfield 106) else none) else (bif Nat.beq pc 63 then some (.iconst 1) else none))) else (bif Nat.blt pc 65 then (bif Nat.beq pc 64 then some (.iadd) else none) else (bif Nat.blt pc 68 then (bif Nat.beq pc 65 then some (.putfield 106) else none) else (bif Nat.beq pc 68 then some (.aload_n 0) else none)))) else (bif Nat.blt pc 77 then (bif Nat.blt pc 72 then (bif Nat.beq pc 69 then some (.invokevirtual 113) else none) else (bif Nat.blt pc 74 then (bif Nat.beq pc 72 then some (.bipush 93) else none) else (bif Nat.beq pc 74 then some (.if_icmp .eq 8) else none))) else (bif Nat.blt pc 78 then (bif Nat.beq pc 77 then some (.aload_n 0) else none) else (bif Nat.blt pc 81 then (bif Nat.beq pc 78 then some (.invokevirtual 121) else none) else (bif Nat.beq pc 81 then some (.ireturn) else none))))))) else (bif Nat.blt pc 119 then (bif Nat.blt pc 101 then (bif Nat.blt pc 89 then (bif Nat.blt pc 84 then (bif Nat.blt pc 83 then (bif Nat.beq pc 82 then some (.aload_n 0) else none) else (bif Nat.beq pc 83 then some (.dup) else none)) else (bif Nat.blt pc 87 then (bif Nat.beq pc 84 then some (.getfield 106) else none) else (bif Nat.blt pc 88 then (bif Nat.beq pc 87 then some (.iconst 1) else none) else (bif Nat.beq pc 88 then some (.iadd) else none)))) else (bif Nat.blt pc 98 then (bif Nat.blt pc 92 then (bif Nat.beq pc 89 then some (.putfield 106) else none) else (bif Nat.blt pc 95 then (bif Nat.beq pc 92 then some (.iinc 4 1) else none) else (bif Nat.beq pc 95 then some (.goto (-57)) else none))) else (bif Nat.blt pc 99 then (bif Nat.beq pc 98 then some (.iload_n 1) else none) else (bif Nat.blt pc 100 then (bif Nat.beq pc 99 then some (.iconst 1) else none) else (bif Nat.beq pc 100 then some (.iload_n 3) else none))))) else (bif Nat.blt pc 108 then (bif Nat.blt pc 105 then (bif Nat.blt pc 102 then (bif Nat.beq pc 101 then some (.iconst 5) else none) else (bif Nat.blt pc 104 then (bif Nat.beq pc 102 then some (.iload 4) else none) else (bif Nat.beq pc 104 then some (.imul) else none))) else (bif Nat.blt pc 106 then (bif Nat.beq pc 105 then some (.iadd) else none) else (bif Nat.blt pc 107 then (bif Nat.beq pc 106 then some (.ishl) else none) else (bif Nat.beq pc 107 then some (.ior) else none)))) else (bif Nat.blt pc 113 then (bif Nat.blt pc 109 then (bif Nat.beq pc 108 then some (.istore_n 1) else none) else (bif Nat.blt pc 110 then (bif Nat.beq pc 109 then some (.aload_n 0) else none) else (bif Nat.beq pc 110 then some (.invokevirtual 113) else none))) else (bif Nat.blt pc 115 then (bif Nat.beq pc 113 then some (.bipush 124) else none) else (bif Nat.blt pc 118 then (bif Nat.beq pc 115 then some (.if_icmp .ne 7) else none) else (bif Nat.beq pc 118 then some (.iconst 1) else none)))))) else (bif Nat.blt pc 138 then (bif Nat.blt pc 126 then (bif Nat.blt pc 123 then (bif Nat.blt pc 122 then (bif Nat.beq pc 119 then some (.goto 4) else none) else (bif Nat.beq pc 122 then some (.iconst 0) else none)) else (bif Nat.blt pc 124 then (bif Nat.beq pc 123 then some (.istore_n 2) else none) else (bif Nat.blt pc 125 then (bif Nat.beq pc 124 then some (.aload_n 0) else none) else (bif Nat.beq pc 125 then some (.iload_n 2) else none)))) else (bif Nat.blt pc 133 then (bif Nat.blt pc 129 then (bif Nat.beq pc 126 then some (.ifCond .eq 12) else none) else (bif Nat.blt pc 130 then (bif Nat.beq pc 129 then some (.aload_n 0) else none) else (bif Nat.beq pc 130 then some (.getfield 106) else none))) else (bif Nat.blt pc 134 then (bif Nat.beq pc 133 then some (.iconst 1) else none) else (bif Nat.blt pc 135 then (bif Nat.beq pc 134 then some (.iadd) else none) else (bif Nat.beq pc 135 then some (.goto 7) else none))))) else (bif Nat.blt pc 152 then (bif Nat.blt pc 145 then (bif Nat.blt pc 139 then (bif Nat.beq pc 138 then some (.aload_n 0) else none) else (bif Nat.blt pc 142 then (bif Nat.beq pc 139 then some (.getfield 106) else none) else (bif Nat.beq pc 142 then some (.putfield 106) else none))) else (bif Nat.blt pc 148 then (bif Nat.beq pc 145 then some (.goto (-141)) else none) else (bif Nat.blt pc 149 then (bif Nat.beq pc 148 then some (.aload_n 0) else none) else (bif Nat.beq pc 149 then some (.getfield 26) else none)))) else (bif Nat.blt pc 157 then (bif Nat.blt pc 153 then (bif Nat.beq pc 152 then some (.aload_n 0) else none) else (bif Nat.blt pc 156 then (bif Nat.beq pc 153 then some (.getfield 103) else none) else (bif Nat.beq pc 156 then some (.iload_n 1) else none))) else (bif Nat.blt pc 158 then (bif Nat.beq pc 157 then some (.iastore) else none) else (bif Nat.blt pc 159 then (bif Nat.beq pc 158 then some (.iconst 1) else none) else (bif Nat.beq pc 159 then some (.ireturn) else none))))))))
def px_a_Model_letterOf (pc : Nat) : Option Instr := (bif Nat.blt pc 26 then (bif Nat.blt pc 11 then (bif Nat.blt pc 6 then (bif Nat.blt pc 1 then (bif Nat.beq pc 0 then some (.iload_n 0) else none) else (bif Nat.blt pc 3 then (bif Nat.beq pc 1 then some (.bipush 105) else none) else (bif Nat.beq pc 3 then some (.if_icmp .ne 7) else none))) else (bif Nat.blt pc 7 then (bif Nat.beq pc 6 then some (.iconst 0) else none) else (bif Nat.blt pc 10 then (bif Nat.beq pc 7 then some (.goto 44) else none) else (bif Nat.beq pc 10 then some (.iload_n 0) else none)))) else (bif Nat.blt pc 17 then (bif Nat.blt pc 13 then (bif Nat.beq pc 11 then some (.bipush 102) else none) else (bif Nat.blt pc 16 then (bif Nat.beq pc 13 then some (.if_icmp .ne 7) else none) else (bif Nat.beq pc 16 then some (.iconst 1) else none))) else (bif Nat.blt pc 21 then (bif Nat.blt pc 20 then (bif Nat.beq pc 17 then some (.goto 34) else none) else (bif Nat.beq pc 20 then some (.iload_n 0) else none)) else (bif Nat.blt pc 23 then (bif Nat.beq pc 21 then some (.bipush 115) else none) else (bif Nat.beq pc 23 then some (.if_icmp .ne 7) else none))))) else (bif Nat.blt pc 40 then (bif Nat.blt pc 31 then (bif Nat.blt pc 27 then (bif Nat.beq pc 26 then some (.iconst 2) else none) else (bif Nat.blt pc 30 then (bif Nat.beq pc 27 then some (.goto 24) else none) else (bif Nat.beq pc 30 then some (.iload_n 0) else none))) else (bif Nat.blt pc 36 then (bif Nat.blt pc 33 then (bif Nat.beq pc 31 then some (.bipush 110) else none) else (bif Nat.beq pc 33 then some (.if_icmp .ne 7) else none)) else (bif Nat.blt pc 37 then (bif Nat.beq pc 36 then some (.iconst 3) else none) else (bif Nat.beq pc 37 then some (.goto 14) else none)))) else (bif Nat.blt pc 46 then (bif Nat.blt pc 41 then (bif Nat.beq pc 40 then some (.iload_n 0) else none) else (bif Nat.blt pc 43 then (bif Nat.beq pc 41 then some (.bipush 63) else none) else (bif Nat.beq pc 43 then some (.if_icmp .ne 7) else none))) else (bif Nat.blt pc 50 then (bif Nat.blt pc 47 then (bif Nat.beq pc 46 then some (.iconst 4) else none) else (bif Nat.beq pc 47 then some (.goto 4) else none)) else (bif Nat.blt pc 51 then (bif Nat.beq pc 50 then some (.iconst (-1)) else none) else (bif Nat.beq pc 51 then some (.ireturn) else none))))))
def px_a_Model_wrong (pc : Nat) : Option Instr := (bif Nat.blt pc 8 then (bif Nat.blt pc 4 then (bif Nat.blt pc 1 then (bif Nat.beq pc 0 then some (.aload_n 0) else none) else (bif Nat.beq pc 1 then some (.getfield 20) else none)) else (bif Nat.blt pc 5 then (bif Nat.beq pc 4 then some (.aload_n 0) else none) else (bif Nat.beq pc 5 then some (.getfield 103) else none))) else (bif Nat.blt pc 12 then (bif Nat.blt pc 9 then (bif Nat.beq pc 8 then some (.aload_n 0) else none) else (bif Nat.beq pc 9 then some (.getfield 106) else none)) else (bif Nat.blt pc 13 then (bif Nat.beq pc 12 then some (.iastore) else none) else (bif Nat.blt pc 14 then (bif Nat.beq pc 13 then some (.iconst 0) else none) else (bif Nat.beq pc 14 then some (.ireturn) else none)))))
def px_a_Model_readExpression (pc : Nat) : Option Instr := (bif Nat.blt pc 134 then (bif Nat.blt pc 65 then (bif Nat.blt pc 30 then (bif Nat.blt pc 15 then (bif Nat.blt pc 6 then (bif Nat.blt pc 2 then (bif Nat.blt pc 1 then (bif Nat.beq pc 0 then some (.aload_n 0) else none) else (bif Nat.beq pc 1 then some (.iconst 0) else none)) else (bif Nat.blt pc 5 then (bif Nat.beq pc 2 then some (.putfield 125) else none) else (bif Nat.beq pc 5 then some (.iconst 1) else none))) else (bif Nat.blt pc 8 then (bif Nat.blt pc 7 then (bif Nat.beq pc 6 then some (.istore_n 1) else none) else (bif Nat.beq pc 7 then some (.iload_n 1) else none)) else (bif Nat.blt pc 11 then (bif Nat.beq pc 8 then some (.ifCond .eq 27) else none) else (bif Nat.blt pc 12 then (bif Nat.beq pc 11 then some (.aload_n 0) else none) else (bif Nat.beq pc 12 then some (.invokevirtual 140) else none))))) else (bif Nat.blt pc 21 then (bif Nat.blt pc 17 then (bif Nat.blt pc 16 then (bif Nat.beq pc 15 then some (.istore_n 2) else none) else (bif Nat.beq pc 16 then some (.iload_n 2) else none)) else (bif Nat.blt pc 20 then (bif Nat.beq pc 17 then some (.ifCond .ge 8) else none) else (bif Nat.beq pc 20 then some (.aload_n 0) else none))) else (bif Nat.blt pc 25 then (bif Nat.blt pc 24 then (bif Nat.beq pc 21 then some (.invokevirtual 121) else none) else (bif Nat.beq pc 24 then some (.ireturn) else none)) else (bif Nat.blt pc 26 then (bif Nat.beq pc 25 then some (.iload_n 2) else none) else (bif Nat.blt pc 29 then (bif Nat.beq pc 26 then some (.ifCond .ne 7) else none) else (bif Nat.beq pc 29 then some (.iconst 1) else none)))))) else (bif Nat.blt pc 47 then (bif Nat.blt pc 36 then (bif Nat.blt pc 34 then (bif Nat.blt pc 33 then (bif Nat.beq pc 30 then some (.goto 4) else none) else (bif Nat.beq pc 33 then some (.iconst 0) else none)) else (bif Nat.blt pc 35 then (bif Nat.beq pc 34 then some (.istore_n 1) else none) else (bif Nat.beq pc 35 then some (.iload_n 1) else none))) else (bif Nat.blt pc 40 then (bif Nat.blt pc 39 then (bif Nat.beq pc 36 then some (.ifCond .ne (-29)) else none) else (bif Nat.beq pc 39 then some (.aload_n 0) else none)) else (bif Nat.blt pc 43 then (bif Nat.beq pc 40 then some (.invokevirtual 143) else none) else (bif Nat.blt pc 46 then (bif Nat.beq pc 43 then some (.ifCond .ne 8) else none) else (bif Nat.beq pc 46 then some (.aload_n 0) else none))))) else (bif Nat.blt pc 56 then (bif Nat.blt pc 51 then (bif Nat.blt pc 50 then (bif Nat.beq pc 47 then some (.invokevirtual 121) else none) else (bif Nat.beq pc 50 then some (.ireturn) else none)) else (bif Nat.blt pc 52 then (bif Nat.beq pc 51 then some (.aload_n 0) else none) else (bif Nat.blt pc 55 then (bif Nat.beq pc 52 then some (.invokevirtual 113) else none) else (bif Nat.beq pc 55 then some (.istore_n 2) else none)))) else (bif Nat.blt pc 59 then (bif Nat.blt pc 57 then (bif Nat.beq pc 56 then some (.iload_n 2) else none) else (bif Nat.beq pc 57 then some (.bipush 124) else none)) else (bif Nat.blt pc 62 then (bif Nat.beq pc 59 then some (.if_icmp .eq 9) else none) else (bif Nat.blt pc 63 then (bif Nat.beq pc 62 then some (.iload_n 2) else none) else (bif Nat.beq pc 63 then some (.bipush 43) else none))))))) else (bif Nat.blt pc 99 then (bif Nat.blt pc 83 then (bif Nat.blt pc 72 then (bif Nat.blt pc 69 then (bif Nat.blt pc 68 then (bif Nat.beq pc 65 then some (.if_icmp .ne 84) else none) else (bif Nat.beq pc 68 then some (.aload_n 0) else none)) else (bif Nat.blt pc 70 then (bif Nat.beq pc 69 then some (.iload_n 2) else none) else (bif Nat.beq pc 70 then some (.bipush 43) else none))) else (bif Nat.blt pc 76 then (bif Nat.blt pc 75 then (bif Nat.beq pc 72 then some (.if_icmp .ne 7) else none) else (bif Nat.beq pc 75 then some (.iconst 1) else none)) else (bif Nat.blt pc 79 then (bif Nat.beq pc 76 then some (.goto 4) else none) else (bif Nat.blt pc 80 then (bif Nat.beq pc 79 then some (.iconst 0) else none) else (bif Nat.beq pc 80 then some (.invokevirtual 146) else none))))) else (bif Nat.blt pc 90 then (bif Nat.blt pc 86 then (bif Nat.blt pc 84 then (bif Nat.beq pc 83 then some (.iload_n 2) else none) else (bif Nat.beq pc 84 then some (.bipush 124) else none)) else (bif Nat.blt pc 89 then (bif Nat.beq pc 86 then some (.if_icmp .ne 8) else none) else (bif Nat.beq pc 89 then some (.aload_n 0) else none))) else (bif Nat.blt pc 94 then (bif Nat.blt pc 91 then (bif Nat.beq pc 90 then some (.iconst 0) else none) else (bif Nat.beq pc 91 then some (.invokevirtual 146) else none)) else (bif Nat.blt pc 95 then (bif Nat.beq pc 94 then some (.aload_n 0) else none) else (bif Nat.blt pc 98 then (bif Nat.beq pc 95 then some (.getfield 82) else none) else (bif Nat.beq pc 98 then some (.aload_n 0) else none)))))) else (bif Nat.blt pc 117 then (bif Nat.blt pc 108 then (bif Nat.blt pc 104 then (bif Nat.blt pc 102 then (bif Nat.beq pc 99 then some (.getfield 125) else none) else (bif Nat.beq pc 102 then some (.bipush 100) else none)) else (bif Nat.blt pc 105 then (bif Nat.beq pc 104 then some (.aload_n 0) else none) else (bif Nat.beq pc 105 then some (.getfield 106) else none))) else (bif Nat.blt pc 110 then (bif Nat.blt pc 109 then (bif Nat.beq pc 108 then some (.imul) else none) else (bif Nat.beq pc 109 then some (.iload_n 2) else none)) else (bif Nat.blt pc 112 then (bif Nat.beq pc 110 then some (.bipush 124) else none) else (bif Nat.blt pc 115 then (bif Nat.beq pc 112 then some (.if_icmp .ne 8) else none) else (bif Nat.beq pc 115 then some (.bipush 7) else none))))) else (bif Nat.blt pc 125 then (bif Nat.blt pc 122 then (bif Nat.blt pc 120 then (bif Nat.beq pc 117 then some (.goto 5) else none) else (bif Nat.beq pc 120 then some (.bipush 8) else none)) else (bif Nat.blt pc 123 then (bif Nat.beq pc 122 then some (.iadd) else none) else (bif Nat.blt pc 124 then (bif Nat.beq pc 123 then some (.iastore) else none) else (bif Nat.beq pc 124 then some (.aload_n 0) else none)))) else (bif Nat.blt pc 129 then (bif Nat.blt pc 126 then (bif Nat.beq pc 125 then some (.dup) else none) else (bif Nat.beq pc 126 then some (.getfield 125) else none)) else (bif Nat.blt pc 130 then (bif Nat.beq pc 129 then some (.iconst 1) else none) else (bif Nat.blt pc 131 then (bif Nat.beq pc 130 then some (.iadd) else none) else (bif Nat.beq pc 131 then some (.putfield 125) else none)))))))) else (bif Nat.blt pc 203 then (bif Nat.blt pc 166 then (bif Nat.blt pc 149 then (bif Nat.blt pc 140 then (bif Nat.blt pc 136 then (bif Nat.blt pc 135 then (bif Nat.beq pc 134 then some (.aload_n 0) else none) else (bif Nat.beq pc 135 then some (.dup) else none)) else (bif Nat.blt pc 139 then (bif Nat.beq pc 136 then some (.getfield 106) else none) else (bif Nat.beq pc 139 then some (.iconst 1) else none))) else (bif Nat.blt pc 144 then (bif Nat.blt pc 141 then (bif Nat.beq pc 140 then some (.iadd) else none) else (bif Nat.beq pc 141 then some (.putfield 106) else none)) else (bif Nat.blt pc 145 then (bif Nat.beq pc 144 then some (.iconst 1) else none) else (bif Nat.blt pc 146 then (bif Nat.beq pc 145 then some (.istore_n 1) else none) else (bif Nat.beq pc 146 then some (.goto 124) else none))))) else (bif Nat.blt pc 155 then (bif Nat.blt pc 151 then (bif Nat.blt pc 150 then (bif Nat.beq pc 149 then some (.aload_n 0) else none) else (bif Nat.beq pc 150 then some (.iconst 1) else none)) else (bif Nat.blt pc 154 then (bif Nat.beq pc 151 then some (.invokevirtual 146) else none) else (bif Nat.beq pc 154 then some (.aload_n 0) else none))) else (bif Nat.blt pc 161 then (bif Nat.blt pc 158 then (bif Nat.beq pc 155 then some (.getfield 125) else none) else (bif Nat.beq pc 158 then some (.ifCond .ne 36) else none)) else (bif Nat.blt pc 162 then (bif Nat.beq pc 161 then some (.iload_n 2) else none) else (bif Nat.blt pc 165 then (bif Nat.beq pc 162 then some (.ifCond .ne 19) else none) else (bif Nat.beq pc 165 then some (.aload_n 0) else none)))))) else (bif Nat.blt pc 185 then (bif Nat.blt pc 174 then (bif Nat.blt pc 170 then (bif Nat.blt pc 169 then (bif Nat.beq pc 166 then some (.getfield 106) else none) else (bif Nat.beq pc 169 then some (.aload_n 0) else none)) else (bif Nat.blt pc 173 then (bif Nat.beq pc 170 then some (.getfield 13) else none) else (bif Nat.beq pc 173 then some (.aload_n 0) else none))) else (bif Nat.blt pc 178 then (bif Nat.blt pc 177 then (bif Nat.beq pc 174 then some (.getfield 103) else none) else (bif Nat.beq pc 177 then some (.iaload) else none)) else (bif Nat.blt pc 181 then (bif Nat.beq pc 178 then some (.if_icmp .eq 10) else none) else (bif Nat.blt pc 182 then (bif Nat.beq pc 181 then some (.aload_n 0) else none) else (bif Nat.beq pc 182 then some (.invokevirtual 121) else none))))) else (bif Nat.blt pc 194 then (bif Nat.blt pc 189 then (bif Nat.blt pc 188 then (bif Nat.beq pc 185 then some (.ifCond .eq 7) else none) else (bif Nat.beq pc 188 then some (.iconst 1) else none)) else (bif Nat.blt pc 192 then (bif Nat.beq pc 189 then some (.goto 4) else none) else (bif Nat.blt pc 193 then (bif Nat.beq pc 192 then some (.iconst 0) else none) else (bif Nat.beq pc 193 then some (.ireturn) else none)))) else (bif Nat.blt pc 196 then (bif Nat.blt pc 195 then (bif Nat.beq pc 194 then some (.iload_n 2) else none) else (bif Nat.beq pc 195 then some (.aload_n 0) else none)) else (bif Nat.blt pc 199 then (bif Nat.beq pc 196 then some (.getfield 82) else none) else (bif Nat.blt pc 200 then (bif Nat.beq pc 199 then some (.aload_n 0) else none) else (bif Nat.beq pc 200 then some (.getfield 125) else none))))))) else (bif Nat.blt pc 237 then (bif Nat.blt pc 221 then (bif Nat.blt pc 208 then (bif Nat.blt pc 205 then (bif Nat.blt pc 204 then (bif Nat.beq pc 203 then some (.iconst 1) else none) else (bif Nat.beq pc 204 then some (.isub) else none)) else (bif Nat.blt pc 206 then (bif Nat.beq pc 205 then some (.iaload) else none) else (bif Nat.beq pc 206 then some (.bipush 91) else none))) else (bif Nat.blt pc 213 then (bif Nat.blt pc 211 then (bif Nat.beq pc 208 then some (.if_icmp .ne 8) else none) else (bif Nat.beq pc 211 then some (.bipush 93) else none)) else (bif Nat.blt pc 216 then (bif Nat.beq pc 213 then some (.goto 5) else none) else (bif Nat.blt pc 218 then (bif Nat.beq pc 216 then some (.bipush 41) else none) else (bif Nat.beq pc 218 then some (.if_icmp .eq 8) else none))))) else (bif Nat.blt pc 228 then (bif Nat.blt pc 225 then (bif Nat.blt pc 222 then (bif Nat.beq pc 221 then some (.aload_n 0) else none) else (bif Nat.beq pc 222 then some (.invokevirtual 121) else none)) else (bif Nat.blt pc 226 then (bif Nat.beq pc 225 then some (.ireturn) else none) else (bif Nat.blt pc 227 then (bif Nat.beq pc 226 then some (.aload_n 0) else none) else (bif Nat.beq pc 227 then some (.dup) else none)))) else (bif Nat.blt pc 232 then (bif Nat.blt pc 231 then (bif Nat.beq pc 228 then some (.getfield 125) else none) else (bif Nat.beq pc 231 then some (.iconst 1) else none)) else (bif Nat.blt pc 233 then (bif Nat.beq pc 232 then some (.isub) else none) else (bif Nat.blt pc 236 then (bif Nat.beq pc 233 then some (.putfield 125) else none) else (bif Nat.beq pc 236 then some (.aload_n 0) else none)))))) else (bif Nat.blt pc 253 then (bif Nat.blt pc 245 then (bif Nat.blt pc 241 then (bif Nat.blt pc 240 then (bif Nat.beq pc 237 then some (.getfield 82) else none) else (bif Nat.beq pc 240 then some (.aload_n 0) else none)) else (bif Nat.blt pc 244 then (bif Nat.beq pc 241 then some (.getfield 125) else none) else (bif Nat.beq pc 244 then some (.iaload) else none))) else (bif Nat.blt pc 250 then (bif Nat.blt pc 247 then (bif Nat.beq pc 245 then some (.bipush 91) else none) else (bif Nat.beq pc 247 then some (.if_icmp .ne 13) else none)) else (bif Nat.blt pc 251 then (bif Nat.beq pc 250 then some (.aload_n 0) else none) else (bif Nat.blt pc 252 then (bif Nat.beq pc 251 then some (.iconst 3) else none) else (bif Nat.beq pc 252 then some (.iconst 0) else none))))) else (bif Nat.blt pc 262 then (bif Nat.blt pc 257 then (bif Nat.blt pc 254 then (bif Nat.beq pc 253 then some (.aload_n 0) else none) else (bif Nat.beq pc 254 then some (.getfield 106) else none)) else (bif Nat.blt pc 260 then (bif Nat.beq pc 257 then some (.invokevirtual 128) else none) else (bif Nat.blt pc 261 then (bif Nat.beq pc 260 then some (.aload_n 0) else none) else (bif Nat.beq pc 261 then some (.dup) else none)))) else (bif Nat.blt pc 266 then (bif Nat.blt pc 265 then (bif Nat.beq pc 262 then some (.getfield 106) else none) else (bif Nat.beq pc 265 then some (.iconst 1) else none)) else (bif Nat.blt pc 267 then (bif Nat.beq pc 266 then some (.iadd) else none) else (bif Nat.blt pc 270 then (bif Nat.beq pc 267 then some (.putfield 106) else none) else (bif Nat.beq pc 270 then some (.goto (-263)) else none)))))))))
def px_a_Model_readAtom (pc : Nat) : Option Instr := (bif Nat.blt pc 105 then (bif Nat.blt pc 51 then (bif Nat.blt pc 24 then (bif Nat.blt pc 11 then (bif Nat.blt pc 5 then (bif Nat.blt pc 1 then (bif Nat.beq pc 0 then some (.aload_n 0) else none) else (bif Nat.blt pc 4 then (bif Nat.beq pc 1 then some (.invokevirtual 113) else none) else (bif Nat.beq pc 4 then some (.istore_n 1) else none))) else (bif Nat.blt pc 9 then (bif Nat.blt pc 6 then (bif Nat.beq pc 5 then some (.aload_n 0) else none) else (bif Nat.beq pc 6 then some (.getfield 106) else none)) else (bif Nat.blt pc 10 then (bif Nat.beq pc 9 then some (.istore_n 2) else none) else (bif Nat.beq pc 10 then some (.iload_n 1) else none)))) else (bif Nat.blt pc 18 then (bif Nat.blt pc 14 then (bif Nat.beq pc 11 then some (.invokestatic 117) else none) else (bif Nat.blt pc 17 then (bif Nat.beq pc 14 then some (.ifCond .lt 16) else none) else (bif Nat.beq pc 17 then some (.aload_n 0) else none))) else (bif Nat.blt pc 20 then (bif Nat.blt pc 19 then (bif Nat.beq pc 18 then some (.iconst 1) else none) else (bif Nat.beq pc 19 then some (.iload_n 1) else none)) else (bif Nat.blt pc 23 then (bif Nat.beq pc 20 then some (.invokestatic 117) else none) else (bif Nat.beq pc 23 then some (.iload_n 2) else none))))) else (bif Nat.blt pc 39 then (bif Nat.blt pc 31 then (bif Nat.blt pc 27 then (bif Nat.beq pc 24 then some (.invokevirtual 128) else none) else (bif Nat.blt pc 30 then (bif Nat.beq pc 27 then some (.goto 168) else none) else (bif Nat.beq pc 30 then some (.iload_n 1) else none))) else (bif Nat.blt pc 37 then (bif Nat.blt pc 34 then (bif Nat.beq pc 31 then some (.invokestatic 132) else none) else (bif Nat.beq pc 34 then some (.ifCond .eq 27) else none)) else (bif Nat.blt pc 38 then (bif Nat.beq pc 37 then some (.aload_n 0) else none) else (bif Nat.beq pc 38 then some (.iconst 2) else none)))) else (bif Nat.blt pc 47 then (bif Nat.blt pc 42 then (bif Nat.blt pc 41 then (bif Nat.beq pc 39 then some (.bipush 26) else none) else (bif Nat.beq pc 41 then some (.aload_n 0) else none)) else (bif Nat.blt pc 45 then (bif Nat.beq pc 42 then some (.getfield 103) else none) else (bif Nat.beq pc 45 then some (.bipush 12) else none))) else (bif Nat.blt pc 49 then (bif Nat.blt pc 48 then (bif Nat.beq pc 47 then some (.idiv) else none) else (bif Nat.beq pc 48 then some (.imul) else none)) else (bif Nat.blt pc 50 then (bif Nat.beq pc 49 then some (.iload_n 1) else none) else (bif Nat.beq pc 50 then some (.iadd) else none)))))) else (bif Nat.blt pc 79 then (bif Nat.blt pc 64 then (bif Nat.blt pc 55 then (bif Nat.blt pc 53 then (bif Nat.beq pc 51 then some (.bipush 65) else none) else (bif Nat.blt pc 54 then (bif Nat.beq pc 53 then some (.isub) else none) else (bif Nat.beq pc 54 then some (.iload_n 2) else none))) else (bif Nat.blt pc 61 then (bif Nat.blt pc 58 then (bif Nat.beq pc 55 then some (.invokevirtual 128) else none) else (bif Nat.beq pc 58 then some (.goto 137) else none)) else (bif Nat.blt pc 62 then (bif Nat.beq pc 61 then some (.iload_n 1) else none) else (bif Nat.beq pc 62 then some (.bipush 48) else none)))) else (bif Nat.blt pc 73 then (bif Nat.blt pc 68 then (bif Nat.blt pc 67 then (bif Nat.beq pc 64 then some (.if_icmp .lt 76) else none) else (bif Nat.beq pc 67 then some (.iload_n 1) else none)) else (bif Nat.blt pc 70 then (bif Nat.beq pc 68 then some (.bipush 55) else none) else (bif Nat.beq pc 70 then some (.if_icmp .gt 70) else none))) else (bif Nat.blt pc 75 then (bif Nat.blt pc 74 then (bif Nat.beq pc 73 then some (.aload_n 0) else none) else (bif Nat.beq pc 74 then some (.dup) else none)) else (bif Nat.blt pc 78 then (bif Nat.beq pc 75 then some (.getfield 106) else none) else (bif Nat.beq pc 78 then some (.iconst 1) else none))))) else (bif Nat.blt pc 93 then (bif Nat.blt pc 84 then (bif Nat.blt pc 80 then (bif Nat.beq pc 79 then some (.iadd) else none) else (bif Nat.blt pc 83 then (bif Nat.beq pc 80 then some (.putfield 106) else none) else (bif Nat.beq pc 83 then some (.aload_n 0) else none))) else (bif Nat.blt pc 89 then (bif Nat.blt pc 87 then (bif Nat.beq pc 84 then some (.invokevirtual 113) else none) else (bif Nat.beq pc 87 then some (.bipush 46) else none)) else (bif Nat.blt pc 92 then (bif Nat.beq pc 89 then some (.if_icmp .eq 5) else none) else (bif Nat.beq pc 92 then some (.iconst (-1)) else none)))) else (bif Nat.blt pc 99 then (bif Nat.blt pc 95 then (bif Nat.blt pc 94 then (bif Nat.beq pc 93 then some (.ireturn) else none) else (bif Nat.beq pc 94 then some (.aload_n 0) else none)) else (bif Nat.blt pc 96 then (bif Nat.beq pc 95 then some (.dup) else none) else (bif Nat.beq pc 96 then some (.getfield 106) else none))) else (bif Nat.blt pc 101 then (bif Nat.blt pc 100 then (bif Nat.beq pc 99 then some (.iconst 1) else none) else (bif Nat.beq pc 100 then some (.iadd) else none)) else (bif Nat.blt pc 104 then (bif Nat.beq pc 101 then some (.putfield 106) else none) else (bif Nat.beq pc 104 then some (.aload_n 0) else none))))))) else (bif Nat.blt pc 161 then (bif Nat.blt pc 130 then (bif Nat.blt pc 118 then (bif Nat.blt pc 114 then (bif Nat.blt pc 108 then (bif Nat.beq pc 105 then some (.invokevirtual 113) else none) else (bif Nat.blt pc 111 then (bif Nat.beq pc 108 then some (.invokestatic 132) else none) else (bif Nat.beq pc 111 then some (.ifCond .ne 5) else none))) else (bif Nat.blt pc 116 then (bif Nat.blt pc 115 then (bif Nat.beq pc 114 then some (.iconst (-1)) else none) else (bif Nat.beq pc 115 then some (.ireturn) else none)) else (bif Nat.blt pc 117 then (bif Nat.beq pc 116 then some (.aload_n 0) else none) else (bif Nat.beq pc 117 then some (.iconst 2) else none)))) else (bif Nat.blt pc 124 then (bif Nat.blt pc 121 then (bif Nat.blt pc 120 then (bif Nat.beq pc 118 then some (.bipush 26) else none) else (bif Nat.beq pc 120 then some (.iload_n 1) else none)) else (bif Nat.blt pc 123 then (bif Nat.beq pc 121 then some (.bipush 48) else none) else (bif Nat.beq pc 123 then some (.isub) else none))) else (bif Nat.blt pc 126 then (bif Nat.blt pc 125 then (bif Nat.beq pc 124 then some (.imul) else none) else (bif Nat.beq pc 125 then some (.aload_n 0) else none)) else (bif Nat.blt pc 129 then (bif Nat.beq pc 126 then some (.invokevirtual 113) else none) else (bif Nat.beq pc 129 then some (.iadd) else none))))) else (bif Nat.blt pc 143 then (bif Nat.blt pc 134 then (bif Nat.blt pc 132 then (bif Nat.beq pc 130 then some (.bipush 65) else none) else (bif Nat.blt pc 133 then (bif Nat.beq pc 132 then some (.isub) else none) else (bif Nat.beq pc 133 then some (.iload_n 2) else none))) else (bif Nat.blt pc 140 then (bif Nat.blt pc 137 then (bif Nat.beq pc 134 then some (.invokevirtual 128) else none) else (bif Nat.beq pc 137 then some (.goto 58) else none)) else (bif Nat.blt pc 141 then (bif Nat.beq pc 140 then some (.iload_n 1) else none) else (bif Nat.beq pc 141 then some (.bipush 91) else none)))) else (bif Nat.blt pc 152 then (bif Nat.blt pc 147 then (bif Nat.blt pc 146 then (bif Nat.beq pc 143 then some (.if_icmp .eq 9) else none) else (bif Nat.beq pc 146 then some (.iload_n 1) else none)) else (bif Nat.blt pc 149 then (bif Nat.beq pc 147 then some (.bipush 40) else none) else (bif Nat.beq pc 149 then some (.if_icmp .ne 44) else none))) else (bif Nat.blt pc 156 then (bif Nat.blt pc 153 then (bif Nat.beq pc 152 then some (.aload_n 0) else none) else (bif Nat.beq pc 153 then some (.invokevirtual 136) else none)) else (bif Nat.blt pc 158 then (bif Nat.beq pc 156 then some (.bipush 12) else none) else (bif Nat.beq pc 158 then some (.if_icmp .ge 35) else none)))))) else (bif Nat.blt pc 186 then (bif Nat.blt pc 172 then (bif Nat.blt pc 166 then (bif Nat.blt pc 162 then (bif Nat.beq pc 161 then some (.aload_n 0) else none) else (bif Nat.blt pc 165 then (bif Nat.beq pc 162 then some (.getfield 82) else none) else (bif Nat.beq pc 165 then some (.aload_n 0) else none))) else (bif Nat.blt pc 170 then (bif Nat.blt pc 169 then (bif Nat.beq pc 166 then some (.getfield 125) else none) else (bif Nat.beq pc 169 then some (.iload_n 1) else none)) else (bif Nat.blt pc 171 then (bif Nat.beq pc 170 then some (.iastore) else none) else (bif Nat.beq pc 171 then some (.aload_n 0) else none)))) else (bif Nat.blt pc 178 then (bif Nat.blt pc 176 then (bif Nat.blt pc 173 then (bif Nat.beq pc 172 then some (.dup) else none) else (bif Nat.beq pc 173 then some (.getfield 125) else none)) else (bif Nat.blt pc 177 then (bif Nat.beq pc 176 then some (.iconst 1) else none) else (bif Nat.beq pc 177 then some (.iadd) else none))) else (bif Nat.blt pc 182 then (bif Nat.blt pc 181 then (bif Nat.beq pc 178 then some (.putfield 125) else none) else (bif Nat.beq pc 181 then some (.aload_n 0) else none)) else (bif Nat.blt pc 183 then (bif Nat.beq pc 182 then some (.dup) else none) else (bif Nat.beq pc 183 then some (.getfield 106) else none))))) else (bif Nat.blt pc 195 then (bif Nat.blt pc 191 then (bif Nat.blt pc 187 then (bif Nat.beq pc 186 then some (.iconst 1) else none) else (bif Nat.blt pc 188 then (bif Nat.beq pc 187 then some (.iadd) else none) else (bif Nat.beq pc 188 then some (.putfield 106) else none))) else (bif Nat.blt pc 193 then (bif Nat.blt pc 192 then (bif Nat.beq pc 191 then some (.iconst 0) else none) else (bif Nat.beq pc 192 then some (.ireturn) else none)) else (bif Nat.blt pc 194 then (bif Nat.beq pc 193 then some (.iconst (-1)) else none) else (bif Nat.beq pc 194 then some (.ireturn) else none)))) else (bif Nat.blt pc 201 then (bif Nat.blt pc 197 then (bif Nat.blt pc 196 then (bif Nat.beq pc 195 then some (.aload_n 0) else none) else (bif Nat.beq pc 196 then some (.dup) else none)) else (bif Nat.blt pc 200 then (bif Nat.beq pc 197 then some (.getfield 106) else none) else (bif Nat.beq pc 200 then some (.iconst 1) else none))) else (bif Nat.blt pc 205 then (bif Nat.blt pc 202 then (bif Nat.beq pc 201 then some (.iadd) else none) else (bif Nat.beq pc 202 then some (.putfield 106) else none)) else (bif Nat.blt pc 206 then (bif Nat.beq pc 205 then some (.iconst 1) else none) else (bif Nat.beq pc 206 then some (.ireturn) else none))))))))
def px_a_Model_step (pc : Nat) : Option Instr := (bif Nat.blt pc 31 then (bif Nat.blt pc 16 then (bif Nat.blt pc 7 then (bif Nat.blt pc 3 then (bif Nat.blt pc 2 then (bif Nat.beq pc 0 then some (.bipush 64) else none) else (bif Nat.beq pc 2 then some (.aload_n 0) else none)) else (bif Nat.blt pc 6 then (bif Nat.beq pc 3 then some (.getfield 103) else none) else (bif Nat.beq pc 6 then some (.imul) else none))) else (bif Nat.blt pc 11 then (bif Nat.blt pc 8 then (bif Nat.beq pc 7 then some (.aload_n 0) else none) else (bif Nat.beq pc 8 then some (.getfield 32) else none)) else (bif Nat.blt pc 12 then (bif Nat.beq pc 11 then some (.aload_n 0) else none) else (bif Nat.blt pc 15 then (bif Nat.beq pc 12 then some (.getfield 103) else none) else (bif Nat.beq pc 15 then some (.iaload) else none))))) else (bif Nat.blt pc 23 then (bif Nat.blt pc 19 then (bif Nat.blt pc 17 then (bif Nat.beq pc 16 then some (.iadd) else none) else (bif Nat.beq pc 17 then some (.istore 4) else none)) else (bif Nat.blt pc 20 then (bif Nat.beq pc 19 then some (.aload_n 0) else none) else (bif Nat.beq pc 20 then some (.getfield 35) else none))) else (bif Nat.blt pc 26 then (bif Nat.blt pc 25 then (bif Nat.beq pc 23 then some (.iload 4) else none) else (bif Nat.beq pc 25 then some (.iload_n 1) else none)) else (bif Nat.blt pc 27 then (bif Nat.beq pc 26 then some (.iastore) else none) else (bif Nat.blt pc 28 then (bif Nat.beq pc 27 then some (.aload_n 0) else none) else (bif Nat.beq pc 28 then some (.getfield 38) else none)))))) else (bif Nat.blt pc 44 then (bif Nat.blt pc 36 then (bif Nat.blt pc 34 then (bif Nat.blt pc 33 then (bif Nat.beq pc 31 then some (.iload 4) else none) else (bif Nat.beq pc 33 then some (.iload_n 2) else none)) else (bif Nat.blt pc 35 then (bif Nat.beq pc 34 then some (.iastore) else none) else (bif Nat.beq pc 35 then some (.aload_n 0) else none))) else (bif Nat.blt pc 41 then (bif Nat.blt pc 39 then (bif Nat.beq pc 36 then some (.getfield 41) else none) else (bif Nat.beq pc 39 then some (.iload 4) else none)) else (bif Nat.blt pc 42 then (bif Nat.beq pc 41 then some (.iload_n 3) else none) else (bif Nat.blt pc 43 then (bif Nat.beq pc 42 then some (.iastore) else none) else (bif Nat.beq pc 43 then some (.aload_n 0) else none))))) else (bif Nat.blt pc 52 then (bif Nat.blt pc 48 then (bif Nat.blt pc 47 then (bif Nat.beq pc 44 then some (.getfield 32) else none) else (bif Nat.beq pc 47 then some (.aload_n 0) else none)) else (bif Nat.blt pc 51 then (bif Nat.beq pc 48 then some (.getfield 103) else none) else (bif Nat.beq pc 51 then some (.dup2) else none))) else (bif Nat.blt pc 54 then (bif Nat.blt pc 53 then (bif Nat.beq pc 52 then some (.iaload) else none) else (bif Nat.beq pc 53 then some (.iconst 1) else none)) else (bif Nat.blt pc 55 then (bif Nat.beq pc 54 then some (.iadd) else none) else (bif Nat.blt pc 56 then (bif Nat.beq pc 55 then some (.iastore) else none) else (bif Nat.beq pc 56 then some (.return_) else none)))))))
def px_a_Model_brackets (pc : Nat) : Option Instr := (bif Nat.blt pc 22 then (bif Nat.blt pc 9 then (bif Nat.blt pc 3 then (bif Nat.blt pc 1 then (bif Nat.beq pc 0 then some (.iconst 0) else none) else (bif Nat.blt pc 2 then (bif Nat.beq pc 1 then some (.istore_n 1) else none) else (bif Nat.beq pc 2 then some (.iconst 0) else none))) else (bif Nat.blt pc 5 then (bif Nat.blt pc 4 then (bif Nat.beq pc 3 then some (.istore_n 2) else none) else (bif Nat.beq pc 4 then some (.iload_n 2) else none)) else (bif Nat.blt pc 6 then (bif Nat.beq pc 5 then some (.aload_n 0) else none) else (bif Nat.beq pc 6 then some (.getfield 125) else none)))) else (bif Nat.blt pc 17 then (bif Nat.blt pc 13 then (bif Nat.blt pc 12 then (bif Nat.beq pc 9 then some (.if_icmp .ge 39) else none) else (bif Nat.beq pc 12 then some (.aload_n 0) else none)) else (bif Nat.blt pc 16 then (bif Nat.beq pc 13 then some (.getfield 82) else none) else (bif Nat.beq pc 16 then some (.iload_n 2) else none))) else (bif Nat.blt pc 20 then (bif Nat.blt pc 18 then (bif Nat.beq pc 17 then some (.iaload) else none) else (bif Nat.beq pc 18 then some (.bipush 100) else none)) else (bif Nat.blt pc 21 then (bif Nat.beq pc 20 then some (.irem) else none) else (bif Nat.beq pc 21 then some (.istore_n 3) else none))))) else (bif Nat.blt pc 36 then (bif Nat.blt pc 29 then (bif Nat.blt pc 25 then (bif Nat.blt pc 23 then (bif Nat.beq pc 22 then some (.iload_n 3) else none) else (bif Nat.beq pc 23 then some (.bipush 91) else none)) else (bif Nat.blt pc 28 then (bif Nat.beq pc 25 then some (.if_icmp .eq 9) else none) else (bif Nat.beq pc 28 then some (.iload_n 3) else none))) else (bif Nat.blt pc 34 then (bif Nat.blt pc 31 then (bif Nat.beq pc 29 then some (.bipush 40) else none) else (bif Nat.beq pc 31 then some (.if_icmp .ne 9) else none)) else (bif Nat.blt pc 35 then (bif Nat.beq pc 34 then some (.iload_n 1) else none) else (bif Nat.beq pc 35 then some (.iconst 1) else none)))) else (bif Nat.blt pc 42 then (bif Nat.blt pc 40 then (bif Nat.blt pc 37 then (bif Nat.beq pc 36 then some (.iadd) else none) else (bif Nat.beq pc 37 then some (.goto 4) else none)) else (bif Nat.blt pc 41 then (bif Nat.beq pc 40 then some (.iload_n 1) else none) else (bif Nat.beq pc 41 then some (.istore_n 1) else none))) else (bif Nat.blt pc 48 then (bif Nat.blt pc 45 then (bif Nat.beq pc 42 then some (.iinc 2 1) else none) else (bif Nat.beq pc 45 then some (.goto (-41)) else none)) else (bif Nat.blt pc 49 then (bif Nat.beq pc 48 then some (.iload_n 1) else none) else (bif Nat.beq pc 49 then some (.ireturn) else none))))))
def px_a_Model_readBehind (pc : Nat) : Option Instr := (bif Nat.blt pc 71 then (bif Nat.blt pc 34 then (bif Nat.blt pc 17 then (bif Nat.blt pc 6 then (bif Nat.blt pc 4 then (bif Nat.blt pc 1 then (bif Nat.beq pc 0 then some (.aload_n 0) else none) else (bif Nat.beq pc 1 then some (.invokevirtual 113) else none)) else (bif Nat.blt pc 5 then (bif Nat.beq pc 4 then some (.istore_n 1) else none) else (bif Nat.beq pc 5 then some (.iload_n 1) else none))) else (bif Nat.blt pc 11 then (bif Nat.blt pc 8 then (bif Nat.beq pc 6 then some (.bipush 33) else none) else (bif Nat.beq pc 8 then some (.if_icmp .eq 15) else none)) else (bif Nat.blt pc 12 then (bif Nat.beq pc 11 then some (.iload_n 1) else none) else (bif Nat.blt pc 14 then (bif Nat.beq pc 12 then some (.bipush 91) else none) else (bif Nat.beq pc 14 then some (.if_icmp .eq 9) else none))))) else (bif Nat.blt pc 27 then (bif Nat.blt pc 20 then (bif Nat.blt pc 18 then (bif Nat.beq pc 17 then some (.iload_n 1) else none) else (bif Nat.beq pc 18 then some (.bipush 38) else none)) else (bif Nat.blt pc 23 then (bif Nat.beq pc 20 then some (.if_icmp .ne 116) else none) else (bif Nat.blt pc 24 then (bif Nat.beq pc 23 then some (.aload_n 0) else none) else (bif Nat.beq pc 24 then some (.getfield 106) else none)))) else (bif Nat.blt pc 29 then (bif Nat.blt pc 28 then (bif Nat.beq pc 27 then some (.istore_n 2) else none) else (bif Nat.beq pc 28 then some (.aload_n 0) else none)) else (bif Nat.blt pc 30 then (bif Nat.beq pc 29 then some (.dup) else none) else (bif Nat.blt pc 33 then (bif Nat.beq pc 30 then some (.getfield 106) else none) else (bif Nat.beq pc 33 then some (.iconst 1) else none)))))) else (bif Nat.blt pc 51 then (bif Nat.blt pc 44 then (bif Nat.blt pc 38 then (bif Nat.blt pc 35 then (bif Nat.beq pc 34 then some (.iadd) else none) else (bif Nat.beq pc 35 then some (.putfield 106) else none)) else (bif Nat.blt pc 39 then (bif Nat.beq pc 38 then some (.iload_n 1) else none) else (bif Nat.blt pc 41 then (bif Nat.beq pc 39 then some (.bipush 33) else none) else (bif Nat.beq pc 41 then some (.if_icmp .ne 13) else none)))) else (bif Nat.blt pc 46 then (bif Nat.blt pc 45 then (bif Nat.beq pc 44 then some (.aload_n 0) else none) else (bif Nat.beq pc 45 then some (.iconst 5) else none)) else (bif Nat.blt pc 47 then (bif Nat.beq pc 46 then some (.iconst 0) else none) else (bif Nat.blt pc 48 then (bif Nat.beq pc 47 then some (.iload_n 2) else none) else (bif Nat.beq pc 48 then some (.invokevirtual 128) else none))))) else (bif Nat.blt pc 61 then (bif Nat.blt pc 55 then (bif Nat.blt pc 54 then (bif Nat.beq pc 51 then some (.goto 77) else none) else (bif Nat.beq pc 54 then some (.iload_n 1) else none)) else (bif Nat.blt pc 57 then (bif Nat.beq pc 55 then some (.bipush 91) else none) else (bif Nat.blt pc 60 then (bif Nat.beq pc 57 then some (.if_icmp .ne 34) else none) else (bif Nat.beq pc 60 then some (.aload_n 0) else none)))) else (bif Nat.blt pc 66 then (bif Nat.blt pc 64 then (bif Nat.beq pc 61 then some (.invokevirtual 113) else none) else (bif Nat.beq pc 64 then some (.bipush 93) else none)) else (bif Nat.blt pc 69 then (bif Nat.beq pc 66 then some (.if_icmp .eq 5) else none) else (bif Nat.blt pc 70 then (bif Nat.beq pc 69 then some (.iconst 0) else none) else (bif Nat.beq pc 70 then some (.ireturn) else none))))))) else (bif Nat.blt pc 105 then (bif Nat.blt pc 85 then (bif Nat.blt pc 78 then (bif Nat.blt pc 73 then (bif Nat.blt pc 72 then (bif Nat.beq pc 71 then some (.aload_n 0) else none) else (bif Nat.beq pc 72 then some (.dup) else none)) else (bif Nat.blt pc 76 then (bif Nat.beq pc 73 then some (.getfield 106) else none) else (bif Nat.blt pc 77 then (bif Nat.beq pc 76 then some (.iconst 1) else none) else (bif Nat.beq pc 77 then some (.iadd) else none)))) else (bif Nat.blt pc 82 then (bif Nat.blt pc 81 then (bif Nat.beq pc 78 then some (.putfield 106) else none) else (bif Nat.beq pc 81 then some (.aload_n 0) else none)) else (bif Nat.blt pc 83 then (bif Nat.beq pc 82 then some (.iconst 4) else none) else (bif Nat.blt pc 84 then (bif Nat.beq pc 83 then some (.iconst 0) else none) else (bif Nat.beq pc 84 then some (.iload_n 2) else none))))) else (bif Nat.blt pc 98 then (bif Nat.blt pc 91 then (bif Nat.blt pc 88 then (bif Nat.beq pc 85 then some (.invokevirtual 128) else none) else (bif Nat.beq pc 88 then some (.goto 40) else none)) else (bif Nat.blt pc 92 then (bif Nat.beq pc 91 then some (.aload_n 0) else none) else (bif Nat.blt pc 95 then (bif Nat.beq pc 92 then some (.invokevirtual 113) else none) else (bif Nat.beq pc 95 then some (.invokestatic 117) else none)))) else (bif Nat.blt pc 100 then (bif Nat.blt pc 99 then (bif Nat.beq pc 98 then some (.istore_n 3) else none) else (bif Nat.beq pc 99 then some (.iload_n 3) else none)) else (bif Nat.blt pc 103 then (bif Nat.beq pc 100 then some (.ifCond .lt 8) else none) else (bif Nat.blt pc 104 then (bif Nat.beq pc 103 then some (.iload_n 3) else none) else (bif Nat.beq pc 104 then some (.iconst 4) else none)))))) else (bif Nat.blt pc 121 then (bif Nat.blt pc 112 then (bif Nat.blt pc 109 then (bif Nat.blt pc 108 then (bif Nat.beq pc 105 then some (.if_icmp .ne 5) else none) else (bif Nat.beq pc 108 then some (.iconst 0) else none)) else (bif Nat.blt pc 110 then (bif Nat.beq pc 109 then some (.ireturn) else none) else (bif Nat.blt pc 111 then (bif Nat.beq pc 110 then some (.aload_n 0) else none) else (bif Nat.beq pc 111 then some (.dup) else none)))) else (bif Nat.blt pc 116 then (bif Nat.blt pc 115 then (bif Nat.beq pc 112 then some (.getfield 106) else none) else (bif Nat.beq pc 115 then some (.iconst 1) else none)) else (bif Nat.blt pc 117 then (bif Nat.beq pc 116 then some (.iadd) else none) else (bif Nat.blt pc 120 then (bif Nat.beq pc 117 then some (.putfield 106) else none) else (bif Nat.beq pc 120 then some (.aload_n 0) else none))))) else (bif Nat.blt pc 129 then (bif Nat.blt pc 124 then (bif Nat.blt pc 123 then (bif Nat.beq pc 121 then some (.bipush 6) else none) else (bif Nat.beq pc 123 then some (.iload_n 3) else none)) else (bif Nat.blt pc 125 then (bif Nat.beq pc 124 then some (.iload_n 2) else none) else (bif Nat.blt pc 128 then (bif Nat.beq pc 125 then some (.invokevirtual 128) else none) else (bif Nat.beq pc 128 then some (.aload_n 0) else none)))) else (bif Nat.blt pc 133 then (bif Nat.blt pc 132 then (bif Nat.beq pc 129 then some (.invokevirtual 113) else none) else (bif Nat.beq pc 132 then some (.istore_n 1) else none)) else (bif Nat.blt pc 136 then (bif Nat.beq pc 133 then some (.goto (-128)) else none) else (bif Nat.blt pc 137 then (bif Nat.beq pc 136 then some (.iconst 1) else none) else (bif Nat.beq pc 137 then some (.ireturn) else none))))))))
def px_a_Model_join (pc : Nat) : Option Instr := (bif Nat.blt pc 46 then (bif Nat.blt pc 23 then (bif Nat.blt pc 12 then (bif Nat.blt pc 7 then (bif Nat.blt pc 1 then (bif Nat.beq pc 0 then some (.aload_n 0) else none) else (bif Nat.blt pc 4 then (bif Nat.beq pc 1 then some (.getfield 125) else none) else (bif Nat.beq pc 4 then some (.ifCond .le 87) else none))) else (bif Nat.blt pc 8 then (bif Nat.beq pc 7 then some (.aload_n 0) else none) else (bif Nat.blt pc 11 then (bif Nat.beq pc 8 then some (.getfield 82) else none) else (bif Nat.beq pc 11 then some (.aload_n 0) else none)))) else (bif Nat.blt pc 17 then (bif Nat.blt pc 15 then (bif Nat.beq pc 12 then some (.getfield 125) else none) else (bif Nat.blt pc 16 then (bif Nat.beq pc 15 then some (.iconst 1) else none) else (bif Nat.beq pc 16 then some (.isub) else none))) else (bif Nat.blt pc 20 then (bif Nat.blt pc 18 then (bif Nat.beq pc 17 then some (.iaload) else none) else (bif Nat.beq pc 18 then some (.bipush 100) else none)) else (bif Nat.blt pc 21 then (bif Nat.beq pc 20 then some (.irem) else none) else (bif Nat.beq pc 21 then some (.bipush 7) else none))))) else (bif Nat.blt pc 35 then (bif Nat.blt pc 30 then (bif Nat.blt pc 26 then (bif Nat.beq pc 23 then some (.if_icmp .eq 26) else none) else (bif Nat.blt pc 27 then (bif Nat.beq pc 26 then some (.iload_n 1) else none) else (bif Nat.beq pc 27 then some (.ifCond .eq 64) else none))) else (bif Nat.blt pc 31 then (bif Nat.beq pc 30 then some (.aload_n 0) else none) else (bif Nat.blt pc 34 then (bif Nat.beq pc 31 then some (.getfield 82) else none) else (bif Nat.beq pc 34 then some (.aload_n 0) else none)))) else (bif Nat.blt pc 40 then (bif Nat.blt pc 38 then (bif Nat.beq pc 35 then some (.getfield 125) else none) else (bif Nat.blt pc 39 then (bif Nat.beq pc 38 then some (.iconst 1) else none) else (bif Nat.beq pc 39 then some (.isub) else none))) else (bif Nat.blt pc 43 then (bif Nat.blt pc 41 then (bif Nat.beq pc 40 then some (.iaload) else none) else (bif Nat.beq pc 41 then some (.bipush 100) else none)) else (bif Nat.blt pc 44 then (bif Nat.beq pc 43 then some (.irem) else none) else (bif Nat.beq pc 44 then some (.bipush 8) else none)))))) else (bif Nat.blt pc 69 then (bif Nat.blt pc 56 then (bif Nat.blt pc 51 then (bif Nat.blt pc 49 then (bif Nat.beq pc 46 then some (.if_icmp .ne 45) else none) else (bif Nat.blt pc 50 then (bif Nat.beq pc 49 then some (.aload_n 0) else none) else (bif Nat.beq pc 50 then some (.dup) else none))) else (bif Nat.blt pc 54 then (bif Nat.beq pc 51 then some (.getfield 125) else none) else (bif Nat.blt pc 55 then (bif Nat.beq pc 54 then some (.iconst 1) else none) else (bif Nat.beq pc 55 then some (.isub) else none)))) else (bif Nat.blt pc 61 then (bif Nat.blt pc 59 then (bif Nat.beq pc 56 then some (.putfield 125) else none) else (bif Nat.blt pc 60 then (bif Nat.beq pc 59 then some (.aload_n 0) else none) else (bif Nat.beq pc 60 then some (.aload_n 0) else none))) else (bif Nat.blt pc 65 then (bif Nat.blt pc 64 then (bif Nat.beq pc 61 then some (.getfield 82) else none) else (bif Nat.beq pc 64 then some (.aload_n 0) else none)) else (bif Nat.blt pc 68 then (bif Nat.beq pc 65 then some (.getfield 125) else none) else (bif Nat.beq pc 68 then some (.iaload) else none))))) else (bif Nat.blt pc 78 then (bif Nat.blt pc 73 then (bif Nat.blt pc 71 then (bif Nat.beq pc 69 then some (.bipush 100) else none) else (bif Nat.blt pc 72 then (bif Nat.beq pc 71 then some (.irem) else none) else (bif Nat.beq pc 72 then some (.iconst 0) else none))) else (bif Nat.blt pc 74 then (bif Nat.beq pc 73 then some (.aload_n 0) else none) else (bif Nat.blt pc 77 then (bif Nat.beq pc 74 then some (.getfield 82) else none) else (bif Nat.beq pc 77 then some (.aload_n 0) else none)))) else (bif Nat.blt pc 84 then (bif Nat.blt pc 81 then (bif Nat.beq pc 78 then some (.getfield 125) else none) else (bif Nat.blt pc 82 then (bif Nat.beq pc 81 then some (.iaload) else none) else (bif Nat.beq pc 82 then some (.bipush 100) else none))) else (bif Nat.blt pc 88 then (bif Nat.blt pc 85 then (bif Nat.beq pc 84 then some (.idiv) else none) else (bif Nat.beq pc 85 then some (.invokevirtual 128) else none)) else (bif Nat.blt pc 91 then (bif Nat.beq pc 88 then some (.goto (-88)) else none) else (bif Nat.beq pc 91 then some (.return_) else none)))))))
def px_a_Model_grow (pc : Nat) : Option Instr := (bif Nat.blt pc 114 then (bif Nat.blt pc 57 then (bif Nat.blt pc 29 then (bif Nat.blt pc 14 then (bif Nat.blt pc 6 then (bif Nat.blt pc 2 then (bif Nat.blt pc 1 then (bif Nat.beq pc 0 then some (.iconst 0) else none) else (bif Nat.beq pc 1 then some (.istore_n 1) else none)) else (bif Nat.blt pc 3 then (bif Nat.beq pc 2 then some (.iload_n 1) else none) else (bif Nat.beq pc 3 then some (.sipush 208) else none))) else (bif Nat.blt pc 10 then (bif Nat.blt pc 9 then (bif Nat.beq pc 6 then some (.if_icmp .ge 23) else none) else (bif Nat.beq pc 9 then some (.aload_n 0) else none)) else (bif Nat.blt pc 13 then (bif Nat.beq pc 10 then some (.getfield 47) else none) else (bif Nat.beq pc 13 then some (.iload_n 1) else none)))) else (bif Nat.blt pc 20 then (bif Nat.blt pc 16 then (bif Nat.blt pc 15 then (bif Nat.beq pc 14 then some (.iconst 0) else none) else (bif Nat.beq pc 15 then some (.iastore) else none)) else (bif Nat.blt pc 17 then (bif Nat.beq pc 16 then some (.aload_n 0) else none) else (bif Nat.beq pc 17 then some (.getfield 50) else none))) else (bif Nat.blt pc 22 then (bif Nat.blt pc 21 then (bif Nat.beq pc 20 then some (.iload_n 1) else none) else (bif Nat.beq pc 21 then some (.iconst 0) else none)) else (bif Nat.blt pc 23 then (bif Nat.beq pc 22 then some (.bastore) else none) else (bif Nat.blt pc 26 then (bif Nat.beq pc 23 then some (.iinc 1 1) else none) else (bif Nat.beq pc 26 then some (.goto (-24)) else none)))))) else (bif Nat.blt pc 42 then (bif Nat.blt pc 34 then (bif Nat.blt pc 31 then (bif Nat.blt pc 30 then (bif Nat.beq pc 29 then some (.iconst 0) else none) else (bif Nat.beq pc 30 then some (.istore_n 1) else none)) else (bif Nat.blt pc 32 then (bif Nat.beq pc 31 then some (.iload_n 1) else none) else (bif Nat.beq pc 32 then some (.bipush 96) else none))) else (bif Nat.blt pc 38 then (bif Nat.blt pc 37 then (bif Nat.beq pc 34 then some (.if_icmp .ge 30) else none) else (bif Nat.beq pc 37 then some (.aload_n 0) else none)) else (bif Nat.blt pc 41 then (bif Nat.beq pc 38 then some (.getfield 23) else none) else (bif Nat.beq pc 41 then some (.iload_n 1) else none)))) else (bif Nat.blt pc 50 then (bif Nat.blt pc 46 then (bif Nat.blt pc 43 then (bif Nat.beq pc 42 then some (.iaload) else none) else (bif Nat.beq pc 43 then some (.ifCond .lt 15) else none)) else (bif Nat.blt pc 47 then (bif Nat.beq pc 46 then some (.aload_n 0) else none) else (bif Nat.beq pc 47 then some (.getfield 50) else none))) else (bif Nat.blt pc 54 then (bif Nat.blt pc 51 then (bif Nat.beq pc 50 then some (.aload_n 0) else none) else (bif Nat.beq pc 51 then some (.getfield 23) else none)) else (bif Nat.blt pc 55 then (bif Nat.beq pc 54 then some (.iload_n 1) else none) else (bif Nat.blt pc 56 then (bif Nat.beq pc 55 then some (.iaload) else none) else (bif Nat.beq pc 56 then some (.iconst 1) else none))))))) else (bif Nat.blt pc 85 then (bif Nat.blt pc 71 then (bif Nat.blt pc 65 then (bif Nat.blt pc 61 then (bif Nat.blt pc 58 then (bif Nat.beq pc 57 then some (.bastore) else none) else (bif Nat.beq pc 58 then some (.iinc 1 1) else none)) else (bif Nat.blt pc 64 then (bif Nat.beq pc 61 then some (.goto (-30)) else none) else (bif Nat.beq pc 64 then some (.iconst 1) else none))) else (bif Nat.blt pc 67 then (bif Nat.blt pc 66 then (bif Nat.beq pc 65 then some (.istore_n 1) else none) else (bif Nat.beq pc 66 then some (.iload_n 1) else none)) else (bif Nat.blt pc 70 then (bif Nat.beq pc 67 then some (.ifCond .eq 125) else none) else (bif Nat.beq pc 70 then some (.iconst 0) else none)))) else (bif Nat.blt pc 75 then (bif Nat.blt pc 73 then (bif Nat.blt pc 72 then (bif Nat.beq pc 71 then some (.istore_n 1) else none) else (bif Nat.beq pc 72 then some (.iconst 0) else none)) else (bif Nat.blt pc 74 then (bif Nat.beq pc 73 then some (.istore_n 2) else none) else (bif Nat.beq pc 74 then some (.iload_n 2) else none))) else (bif Nat.blt pc 80 then (bif Nat.blt pc 77 then (bif Nat.beq pc 75 then some (.bipush 96) else none) else (bif Nat.beq pc 77 then some (.if_icmp .ge 112) else none)) else (bif Nat.blt pc 81 then (bif Nat.beq pc 80 then some (.aload_n 0) else none) else (bif Nat.blt pc 82 then (bif Nat.beq pc 81 then some (.iload_n 2) else none) else (bif Nat.beq pc 82 then some (.invokevirtual 156) else none)))))) else (bif Nat.blt pc 99 then (bif Nat.blt pc 93 then (bif Nat.blt pc 89 then (bif Nat.blt pc 88 then (bif Nat.beq pc 85 then some (.ifCond .eq 15) else none) else (bif Nat.beq pc 88 then some (.aload_n 0) else none)) else (bif Nat.blt pc 92 then (bif Nat.beq pc 89 then some (.getfield 44) else none) else (bif Nat.beq pc 92 then some (.iload_n 2) else none))) else (bif Nat.blt pc 95 then (bif Nat.blt pc 94 then (bif Nat.beq pc 93 then some (.aload_n 0) else none) else (bif Nat.beq pc 94 then some (.iload_n 2) else none)) else (bif Nat.blt pc 96 then (bif Nat.beq pc 95 then some (.iconst 0) else none) else (bif Nat.beq pc 96 then some (.invokevirtual 191) else none)))) else (bif Nat.blt pc 105 then (bif Nat.blt pc 101 then (bif Nat.blt pc 100 then (bif Nat.beq pc 99 then some (.iastore) else none) else (bif Nat.beq pc 100 then some (.aload_n 0) else none)) else (bif Nat.blt pc 104 then (bif Nat.beq pc 101 then some (.getfield 23) else none) else (bif Nat.beq pc 104 then some (.iload_n 2) else none))) else (bif Nat.blt pc 109 then (bif Nat.blt pc 106 then (bif Nat.beq pc 105 then some (.iaload) else none) else (bif Nat.beq pc 106 then some (.ifCond .lt 77) else none)) else (bif Nat.blt pc 110 then (bif Nat.beq pc 109 then some (.aload_n 0) else none) else (bif Nat.blt pc 113 then (bif Nat.beq pc 110 then some (.getfield 47) else none) else (bif Nat.beq pc 113 then some (.aload_n 0) else none)))))))) else (bif Nat.blt pc 170 then (bif Nat.blt pc 141 then (bif Nat.blt pc 126 then (bif Nat.blt pc 120 then (bif Nat.blt pc 118 then (bif Nat.blt pc 117 then (bif Nat.beq pc 114 then some (.getfield 23) else none) else (bif Nat.beq pc 117 then some (.iload_n 2) else none)) else (bif Nat.blt pc 119 then (bif Nat.beq pc 118 then some (.iaload) else none) else (bif Nat.beq pc 119 then some (.iaload) else none))) else (bif Nat.blt pc 122 then (bif Nat.blt pc 121 then (bif Nat.beq pc 120 then some (.istore_n 3) else none) else (bif Nat.beq pc 121 then some (.aload_n 0) else none)) else (bif Nat.blt pc 125 then (bif Nat.beq pc 122 then some (.getfield 47) else none) else (bif Nat.beq pc 125 then some (.aload_n 0) else none)))) else (bif Nat.blt pc 132 then (bif Nat.blt pc 130 then (bif Nat.blt pc 129 then (bif Nat.beq pc 126 then some (.getfield 23) else none) else (bif Nat.beq pc 129 then some (.iload_n 2) else none)) else (bif Nat.blt pc 131 then (bif Nat.beq pc 130 then some (.iaload) else none) else (bif Nat.beq pc 131 then some (.iload_n 3) else none))) else (bif Nat.blt pc 136 then (bif Nat.blt pc 133 then (bif Nat.beq pc 132 then some (.aload_n 0) else none) else (bif Nat.beq pc 133 then some (.getfield 26) else none)) else (bif Nat.blt pc 137 then (bif Nat.beq pc 136 then some (.iload_n 2) else none) else (bif Nat.blt pc 138 then (bif Nat.beq pc 137 then some (.iaload) else none) else (bif Nat.beq pc 138 then some (.ifCond .lt 12) else none)))))) else (bif Nat.blt pc 155 then (bif Nat.blt pc 147 then (bif Nat.blt pc 145 then (bif Nat.blt pc 142 then (bif Nat.beq pc 141 then some (.aload_n 0) else none) else (bif Nat.beq pc 142 then some (.getfield 26) else none)) else (bif Nat.blt pc 146 then (bif Nat.beq pc 145 then some (.iload_n 2) else none) else (bif Nat.beq pc 146 then some (.iaload) else none))) else (bif Nat.blt pc 151 then (bif Nat.blt pc 150 then (bif Nat.beq pc 147 then some (.goto 9) else none) else (bif Nat.beq pc 150 then some (.aload_n 0) else none)) else (bif Nat.blt pc 154 then (bif Nat.beq pc 151 then some (.getfield 44) else none) else (bif Nat.beq pc 154 then some (.iload_n 2) else none)))) else (bif Nat.blt pc 159 then (bif Nat.blt pc 157 then (bif Nat.blt pc 156 then (bif Nat.beq pc 155 then some (.iaload) else none) else (bif Nat.beq pc 156 then some (.ior) else none)) else (bif Nat.blt pc 158 then (bif Nat.beq pc 157 then some (.iastore) else none) else (bif Nat.beq pc 158 then some (.iload_n 1) else none))) else (bif Nat.blt pc 163 then (bif Nat.blt pc 162 then (bif Nat.beq pc 159 then some (.ifCond .ne 18) else none) else (bif Nat.beq pc 162 then some (.aload_n 0) else none)) else (bif Nat.blt pc 166 then (bif Nat.beq pc 163 then some (.getfield 47) else none) else (bif Nat.blt pc 167 then (bif Nat.beq pc 166 then some (.aload_n 0) else none) else (bif Nat.beq pc 167 then some (.getfield 23) else none))))))) else (bif Nat.blt pc 200 then (bif Nat.blt pc 182 then (bif Nat.blt pc 174 then (bif Nat.blt pc 172 then (bif Nat.blt pc 171 then (bif Nat.beq pc 170 then some (.iload_n 2) else none) else (bif Nat.beq pc 171 then some (.iaload) else none)) else (bif Nat.blt pc 173 then (bif Nat.beq pc 172 then some (.iaload) else none) else (bif Nat.beq pc 173 then some (.iload_n 3) else none))) else (bif Nat.blt pc 178 then (bif Nat.blt pc 177 then (bif Nat.beq pc 174 then some (.if_icmp .eq 7) else none) else (bif Nat.beq pc 177 then some (.iconst 1) else none)) else (bif Nat.blt pc 181 then (bif Nat.beq pc 178 then some (.goto 4) else none) else (bif Nat.beq pc 181 then some (.iconst 0) else none)))) else (bif Nat.blt pc 192 then (bif Nat.blt pc 186 then (bif Nat.blt pc 183 then (bif Nat.beq pc 182 then some (.istore_n 1) else none) else (bif Nat.beq pc 183 then some (.iinc 2 1) else none)) else (bif Nat.blt pc 189 then (bif Nat.beq pc 186 then some (.goto (-112)) else none) else (bif Nat.beq pc 189 then some (.goto (-123)) else none))) else (bif Nat.blt pc 194 then (bif Nat.blt pc 193 then (bif Nat.beq pc 192 then some (.iconst 0) else none) else (bif Nat.beq pc 193 then some (.istore_n 2) else none)) else (bif Nat.blt pc 195 then (bif Nat.beq pc 194 then some (.iload_n 2) else none) else (bif Nat.blt pc 197 then (bif Nat.beq pc 195 then some (.bipush 96) else none) else (bif Nat.beq pc 197 then some (.if_icmp .ge 33) else none)))))) else (bif Nat.blt pc 214 then (bif Nat.blt pc 206 then (bif Nat.blt pc 204 then (bif Nat.blt pc 201 then (bif Nat.beq pc 200 then some (.aload_n 0) else none) else (bif Nat.beq pc 201 then some (.getfield 44) else none)) else (bif Nat.blt pc 205 then (bif Nat.beq pc 204 then some (.iload_n 2) else none) else (bif Nat.beq pc 205 then some (.aload_n 0) else none))) else (bif Nat.blt pc 210 then (bif Nat.blt pc 207 then (bif Nat.beq pc 206 then some (.iload_n 2) else none) else (bif Nat.beq pc 207 then some (.invokevirtual 156) else none)) else (bif Nat.blt pc 213 then (bif Nat.beq pc 210 then some (.ifCond .eq 12) else none) else (bif Nat.beq pc 213 then some (.aload_n 0) else none)))) else (bif Nat.blt pc 222 then (bif Nat.blt pc 216 then (bif Nat.blt pc 215 then (bif Nat.beq pc 214 then some (.iload_n 2) else none) else (bif Nat.beq pc 215 then some (.iconst 0) else none)) else (bif Nat.blt pc 219 then (bif Nat.beq pc 216 then some (.invokevirtual 191) else none) else (bif Nat.beq pc 219 then some (.goto 4) else none))) else (bif Nat.blt pc 224 then (bif Nat.blt pc 223 then (bif Nat.beq pc 222 then some (.iconst (-1)) else none) else (bif Nat.beq pc 223 then some (.iastore) else none)) else (bif Nat.blt pc 227 then (bif Nat.beq pc 224 then some (.iinc 2 1) else none) else (bif Nat.blt pc 230 then (bif Nat.beq pc 227 then some (.goto (-33)) else none) else (bif Nat.beq pc 230 then some (.return_) else none)))))))))
def px_a_Model_isRead (pc : Nat) : Option Instr := (bif Nat.blt pc 13 then (bif Nat.blt pc 5 then (bif Nat.blt pc 1 then (bif Nat.beq pc 0 then some (.aload_n 0) else none) else (bif Nat.blt pc 4 then (bif Nat.beq pc 1 then some (.getfield 13) else none) else (bif Nat.beq pc 4 then some (.iload_n 1) else none))) else (bif Nat.blt pc 9 then (bif Nat.blt pc 6 then (bif Nat.beq pc 5 then some (.iaload) else none) else (bif Nat.beq pc 6 then some (.ifCond .le 16) else none)) else (bif Nat.blt pc 10 then (bif Nat.beq pc 9 then some (.aload_n 0) else none) else (bif Nat.beq pc 10 then some (.getfield 20) else none)))) else (bif Nat.blt pc 18 then (bif Nat.blt pc 14 then (bif Nat.beq pc 13 then some (.iload_n 1) else none) else (bif Nat.blt pc 15 then (bif Nat.beq pc 14 then some (.iaload) else none) else (bif Nat.beq pc 15 then some (.ifCond .ge 7) else none))) else (bif Nat.blt pc 22 then (bif Nat.blt pc 19 then (bif Nat.beq pc 18 then some (.iconst 1) else none) else (bif Nat.beq pc 19 then some (.goto 4) else none)) else (bif Nat.blt pc 23 then (bif Nat.beq pc 22 then some (.iconst 0) else none) else (bif Nat.beq pc 23 then some (.ireturn) else none)))))
def px_a_Model_value (pc : Nat) : Option Instr := (bif Nat.blt pc 188 then (bif Nat.blt pc 86 then (bif Nat.blt pc 40 then (bif Nat.blt pc 19 then (bif Nat.blt pc 9 then (bif Nat.blt pc 5 then (bif Nat.blt pc 1 then (bif Nat.beq pc 0 then some (.aload_n 0) else none) else (bif Nat.blt pc 2 then (bif Nat.beq pc 1 then some (.iconst 0) else none) else (bif Nat.beq pc 2 then some (.putfield 167) else none))) else (bif Nat.blt pc 7 then (bif Nat.beq pc 5 then some (.bipush 64) else none) else (bif Nat.blt pc 8 then (bif Nat.beq pc 7 then some (.iload_n 1) else none) else (bif Nat.beq pc 8 then some (.imul) else none)))) else (bif Nat.blt pc 13 then (bif Nat.blt pc 10 then (bif Nat.beq pc 9 then some (.istore_n 3) else none) else (bif Nat.blt pc 11 then (bif Nat.beq pc 10 then some (.iload_n 3) else none) else (bif Nat.beq pc 11 then some (.bipush 64) else none))) else (bif Nat.blt pc 15 then (bif Nat.blt pc 14 then (bif Nat.beq pc 13 then some (.iload_n 1) else none) else (bif Nat.beq pc 14 then some (.imul) else none)) else (bif Nat.blt pc 16 then (bif Nat.beq pc 15 then some (.aload_n 0) else none) else (bif Nat.beq pc 16 then some (.getfield 32) else none))))) else (bif Nat.blt pc 29 then (bif Nat.blt pc 22 then (bif Nat.blt pc 20 then (bif Nat.beq pc 19 then some (.iload_n 1) else none) else (bif Nat.blt pc 21 then (bif Nat.beq pc 20 then some (.iaload) else none) else (bif Nat.beq pc 21 then some (.iadd) else none))) else (bif Nat.blt pc 25 then (bif Nat.beq pc 22 then some (.if_icmp .ge 349) else none) else (bif Nat.blt pc 26 then (bif Nat.beq pc 25 then some (.aload_n 0) else none) else (bif Nat.beq pc 26 then some (.getfield 35) else none)))) else (bif Nat.blt pc 33 then (bif Nat.blt pc 30 then (bif Nat.beq pc 29 then some (.iload_n 3) else none) else (bif Nat.blt pc 31 then (bif Nat.beq pc 30 then some (.iaload) else none) else (bif Nat.beq pc 31 then some (.istore 4) else none))) else (bif Nat.blt pc 36 then (bif Nat.blt pc 35 then (bif Nat.beq pc 33 then some (.iload 4) else none) else (bif Nat.beq pc 35 then some (.iconst 1) else none)) else (bif Nat.blt pc 39 then (bif Nat.beq pc 36 then some (.if_icmp .ne 33) else none) else (bif Nat.beq pc 39 then some (.aload_n 0) else none)))))) else (bif Nat.blt pc 61 then (bif Nat.blt pc 52 then (bif Nat.blt pc 47 then (bif Nat.blt pc 43 then (bif Nat.beq pc 40 then some (.getfield 85) else none) else (bif Nat.blt pc 44 then (bif Nat.beq pc 43 then some (.aload_n 0) else none) else (bif Nat.beq pc 44 then some (.getfield 167) else none))) else (bif Nat.blt pc 48 then (bif Nat.beq pc 47 then some (.iconst 1) else none) else (bif Nat.blt pc 49 then (bif Nat.beq pc 48 then some (.aload_n 0) else none) else (bif Nat.beq pc 49 then some (.getfield 38) else none)))) else (bif Nat.blt pc 55 then (bif Nat.blt pc 53 then (bif Nat.beq pc 52 then some (.iload_n 3) else none) else (bif Nat.blt pc 54 then (bif Nat.beq pc 53 then some (.iaload) else none) else (bif Nat.beq pc 54 then some (.ishl) else none))) else (bif Nat.blt pc 57 then (bif Nat.blt pc 56 then (bif Nat.beq pc 55 then some (.iastore) else none) else (bif Nat.beq pc 56 then some (.aload_n 0) else none)) else (bif Nat.blt pc 58 then (bif Nat.beq pc 57 then some (.dup) else none) else (bif Nat.beq pc 58 then some (.getfield 167) else none))))) else (bif Nat.blt pc 75 then (bif Nat.blt pc 66 then (bif Nat.blt pc 62 then (bif Nat.beq pc 61 then some (.iconst 1) else none) else (bif Nat.blt pc 63 then (bif Nat.beq pc 62 then some (.iadd) else none) else (bif Nat.beq pc 63 then some (.putfield 167) else none))) else (bif Nat.blt pc 71 then (bif Nat.blt pc 69 then (bif Nat.beq pc 66 then some (.goto 299) else none) else (bif Nat.beq pc 69 then some (.iload 4) else none)) else (bif Nat.blt pc 72 then (bif Nat.beq pc 71 then some (.iconst 2) else none) else (bif Nat.beq pc 72 then some (.if_icmp .ne 80) else none)))) else (bif Nat.blt pc 80 then (bif Nat.blt pc 76 then (bif Nat.beq pc 75 then some (.aload_n 0) else none) else (bif Nat.blt pc 79 then (bif Nat.beq pc 76 then some (.getfield 50) else none) else (bif Nat.beq pc 79 then some (.aload_n 0) else none))) else (bif Nat.blt pc 84 then (bif Nat.blt pc 83 then (bif Nat.beq pc 80 then some (.getfield 38) else none) else (bif Nat.beq pc 83 then some (.iload_n 3) else none)) else (bif Nat.blt pc 85 then (bif Nat.beq pc 84 then some (.iaload) else none) else (bif Nat.beq pc 85 then some (.baload) else none))))))) else (bif Nat.blt pc 137 then (bif Nat.blt pc 111 then (bif Nat.blt pc 98 then (bif Nat.blt pc 92 then (bif Nat.blt pc 88 then (bif Nat.beq pc 86 then some (.istore 5) else none) else (bif Nat.blt pc 89 then (bif Nat.beq pc 88 then some (.aload_n 0) else none) else (bif Nat.beq pc 89 then some (.getfield 85) else none))) else (bif Nat.blt pc 93 then (bif Nat.beq pc 92 then some (.aload_n 0) else none) else (bif Nat.blt pc 96 then (bif Nat.beq pc 93 then some (.getfield 167) else none) else (bif Nat.beq pc 96 then some (.iload 5) else none)))) else (bif Nat.blt pc 105 then (bif Nat.blt pc 101 then (bif Nat.beq pc 98 then some (.ifCond .eq 17) else none) else (bif Nat.blt pc 102 then (bif Nat.beq pc 101 then some (.aload_n 0) else none) else (bif Nat.beq pc 102 then some (.getfield 47) else none))) else (bif Nat.blt pc 109 then (bif Nat.blt pc 106 then (bif Nat.beq pc 105 then some (.aload_n 0) else none) else (bif Nat.beq pc 106 then some (.getfield 38) else none)) else (bif Nat.blt pc 110 then (bif Nat.beq pc 109 then some (.iload_n 3) else none) else (bif Nat.beq pc 110 then some (.iaload) else none))))) else (bif Nat.blt pc 123 then (bif Nat.blt pc 117 then (bif Nat.blt pc 112 then (bif Nat.beq pc 111 then some (.iaload) else none) else (bif Nat.blt pc 115 then (bif Nat.beq pc 112 then some (.goto 5) else none) else (bif Nat.beq pc 115 then some (.bipush 16) else none))) else (bif Nat.blt pc 119 then (bif Nat.blt pc 118 then (bif Nat.beq pc 117 then some (.iastore) else none) else (bif Nat.beq pc 118 then some (.aload_n 0) else none)) else (bif Nat.blt pc 120 then (bif Nat.beq pc 119 then some (.dup) else none) else (bif Nat.beq pc 120 then some (.getfield 167) else none)))) else (bif Nat.blt pc 128 then (bif Nat.blt pc 124 then (bif Nat.beq pc 123 then some (.iconst 1) else none) else (bif Nat.blt pc 125 then (bif Nat.beq pc 124 then some (.iadd) else none) else (bif Nat.beq pc 125 then some (.putfield 167) else none))) else (bif Nat.blt pc 132 then (bif Nat.blt pc 129 then (bif Nat.beq pc 128 then some (.iload_n 2) else none) else (bif Nat.beq pc 129 then some (.ifCond .eq 20) else none)) else (bif Nat.blt pc 134 then (bif Nat.beq pc 132 then some (.iload 5) else none) else (bif Nat.beq pc 134 then some (.ifCond .ne 15) else none)))))) else (bif Nat.blt pc 161 then (bif Nat.blt pc 145 then (bif Nat.blt pc 140 then (bif Nat.blt pc 138 then (bif Nat.beq pc 137 then some (.aload_n 0) else none) else (bif Nat.blt pc 139 then (bif Nat.beq pc 138 then some (.iload_n 1) else none) else (bif Nat.beq pc 139 then some (.aload_n 0) else none))) else (bif Nat.blt pc 143 then (bif Nat.beq pc 140 then some (.getfield 41) else none) else (bif Nat.blt pc 144 then (bif Nat.beq pc 143 then some (.iload_n 3) else none) else (bif Nat.beq pc 144 then some (.iaload) else none)))) else (bif Nat.blt pc 152 then (bif Nat.blt pc 146 then (bif Nat.beq pc 145 then some (.iconst 2) else none) else (bif Nat.blt pc 149 then (bif Nat.beq pc 146 then some (.invokevirtual 170) else none) else (bif Nat.beq pc 149 then some (.goto 216) else none))) else (bif Nat.blt pc 156 then (bif Nat.blt pc 154 then (bif Nat.beq pc 152 then some (.iload 4) else none) else (bif Nat.beq pc 154 then some (.bipush 7) else none)) else (bif Nat.blt pc 159 then (bif Nat.beq pc 156 then some (.if_icmp .eq 10) else none) else (bif Nat.beq pc 159 then some (.iload 4) else none))))) else (bif Nat.blt pc 173 then (bif Nat.blt pc 167 then (bif Nat.blt pc 163 then (bif Nat.beq pc 161 then some (.bipush 8) else none) else (bif Nat.blt pc 166 then (bif Nat.beq pc 163 then some (.if_icmp .ne 130) else none) else (bif Nat.beq pc 166 then some (.aload_n 0) else none))) else (bif Nat.blt pc 171 then (bif Nat.blt pc 168 then (bif Nat.beq pc 167 then some (.dup) else none) else (bif Nat.beq pc 168 then some (.getfield 167) else none)) else (bif Nat.blt pc 172 then (bif Nat.beq pc 171 then some (.iconst 1) else none) else (bif Nat.beq pc 172 then some (.isub) else none)))) else (bif Nat.blt pc 180 then (bif Nat.blt pc 176 then (bif Nat.beq pc 173 then some (.putfield 167) else none) else (bif Nat.blt pc 177 then (bif Nat.beq pc 176 then some (.iload_n 2) else none) else (bif Nat.beq pc 177 then some (.ifCond .eq 48) else none))) else (bif Nat.blt pc 184 then (bif Nat.blt pc 182 then (bif Nat.beq pc 180 then some (.iload 4) else none) else (bif Nat.beq pc 182 then some (.bipush 8) else none)) else (bif Nat.blt pc 187 then (bif Nat.beq pc 184 then some (.if_icmp .ne 41) else none) else (bif Nat.beq pc 187 then some (.aload_n 0) else none)))))))) else (bif Nat.blt pc 282 then (bif Nat.blt pc 235 then (bif Nat.blt pc 213 then (bif Nat.blt pc 198 then (bif Nat.blt pc 195 then (bif Nat.blt pc 191 then (bif Nat.beq pc 188 then some (.getfield 85) else none) else (bif Nat.blt pc 192 then (bif Nat.beq pc 191 then some (.aload_n 0) else none) else (bif Nat.beq pc 192 then some (.getfield 167) else none))) else (bif Nat.blt pc 196 then (bif Nat.beq pc 195 then some (.iconst 1) else none) else (bif Nat.blt pc 197 then (bif Nat.beq pc 196 then some (.isub) else none) else (bif Nat.beq pc 197 then some (.iaload) else none)))) else (bif Nat.blt pc 203 then (bif Nat.blt pc 199 then (bif Nat.beq pc 198 then some (.aload_n 0) else none) else (bif Nat.blt pc 202 then (bif Nat.beq pc 199 then some (.getfield 85) else none) else (bif Nat.beq pc 202 then some (.aload_n 0) else none))) else (bif Nat.blt pc 207 then (bif Nat.blt pc 206 then (bif Nat.beq pc 203 then some (.getfield 167) else none) else (bif Nat.beq pc 206 then some (.iaload) else none)) else (bif Nat.blt pc 210 then (bif Nat.beq pc 207 then some (.invokestatic 173) else none) else (bif Nat.beq pc 210 then some (.ifCond .eq 15) else none))))) else (bif Nat.blt pc 222 then (bif Nat.blt pc 216 then (bif Nat.blt pc 214 then (bif Nat.beq pc 213 then some (.aload_n 0) else none) else (bif Nat.blt pc 215 then (bif Nat.beq pc 214 then some (.iload_n 1) else none) else (bif Nat.beq pc 215 then some (.aload_n 0) else none))) else (bif Nat.blt pc 220 then (bif Nat.blt pc 219 then (bif Nat.beq pc 216 then some (.getfield 41) else none) else (bif Nat.beq pc 219 then some (.iload_n 3) else none)) else (bif Nat.blt pc 221 then (bif Nat.beq pc 220 then some (.iaload) else none) else (bif Nat.beq pc 221 then some (.iconst 4) else none)))) else (bif Nat.blt pc 229 then (bif Nat.blt pc 225 then (bif Nat.beq pc 222 then some (.invokevirtual 170) else none) else (bif Nat.blt pc 226 then (bif Nat.beq pc 225 then some (.aload_n 0) else none) else (bif Nat.beq pc 226 then some (.getfield 85) else none))) else (bif Nat.blt pc 233 then (bif Nat.blt pc 230 then (bif Nat.beq pc 229 then some (.aload_n 0) else none) else (bif Nat.beq pc 230 then some (.getfield 167) else none)) else (bif Nat.blt pc 234 then (bif Nat.beq pc 233 then some (.iconst 1) else none) else (bif Nat.beq pc 234 then some (.isub) else none)))))) else (bif Nat.blt pc 258 then (bif Nat.blt pc 247 then (bif Nat.blt pc 242 then (bif Nat.blt pc 237 then (bif Nat.beq pc 235 then some (.iload 4) else none) else (bif Nat.blt pc 239 then (bif Nat.beq pc 237 then some (.bipush 7) else none) else (bif Nat.beq pc 239 then some (.if_icmp .ne 27) else none))) else (bif Nat.blt pc 243 then (bif Nat.beq pc 242 then some (.aload_n 0) else none) else (bif Nat.blt pc 246 then (bif Nat.beq pc 243 then some (.getfield 85) else none) else (bif Nat.beq pc 246 then some (.aload_n 0) else none)))) else (bif Nat.blt pc 252 then (bif Nat.blt pc 250 then (bif Nat.beq pc 247 then some (.getfield 167) else none) else (bif Nat.blt pc 251 then (bif Nat.beq pc 250 then some (.iconst 1) else none) else (bif Nat.beq pc 251 then some (.isub) else none))) else (bif Nat.blt pc 254 then (bif Nat.blt pc 253 then (bif Nat.beq pc 252 then some (.iaload) else none) else (bif Nat.beq pc 253 then some (.aload_n 0) else none)) else (bif Nat.blt pc 257 then (bif Nat.beq pc 254 then some (.getfield 85) else none) else (bif Nat.beq pc 257 then some (.aload_n 0) else none))))) else (bif Nat.blt pc 271 then (bif Nat.blt pc 263 then (bif Nat.blt pc 261 then (bif Nat.beq pc 258 then some (.getfield 167) else none) else (bif Nat.blt pc 262 then (bif Nat.beq pc 261 then some (.iaload) else none) else (bif Nat.beq pc 262 then some (.ior) else none))) else (bif Nat.blt pc 267 then (bif Nat.blt pc 266 then (bif Nat.beq pc 263 then some (.goto 26) else none) else (bif Nat.beq pc 266 then some (.aload_n 0) else none)) else (bif Nat.blt pc 270 then (bif Nat.beq pc 267 then some (.getfield 85) else none) else (bif Nat.beq pc 270 then some (.aload_n 0) else none)))) else (bif Nat.blt pc 276 then (bif Nat.blt pc 274 then (bif Nat.beq pc 271 then some (.getfield 167) else none) else (bif Nat.blt pc 275 then (bif Nat.beq pc 274 then some (.iconst 1) else none) else (bif Nat.beq pc 275 then some (.isub) else none))) else (bif Nat.blt pc 278 then (bif Nat.blt pc 277 then (bif Nat.beq pc 276 then some (.iaload) else none) else (bif Nat.beq pc 277 then some (.aload_n 0) else none)) else (bif Nat.blt pc 281 then (bif Nat.beq pc 278 then some (.getfield 85) else none) else (bif Nat.beq pc 281 then some (.aload_n 0) else none))))))) else (bif Nat.blt pc 332 then (bif Nat.blt pc 308 then (bif Nat.blt pc 294 then (bif Nat.blt pc 289 then (bif Nat.blt pc 285 then (bif Nat.beq pc 282 then some (.getfield 167) else none) else (bif Nat.blt pc 286 then (bif Nat.beq pc 285 then some (.iaload) else none) else (bif Nat.beq pc 286 then some (.invokestatic 177) else none))) else (bif Nat.blt pc 290 then (bif Nat.beq pc 289 then some (.iastore) else none) else (bif Nat.blt pc 293 then (bif Nat.beq pc 290 then some (.goto 75) else none) else (bif Nat.beq pc 293 then some (.iload_n 2) else none)))) else (bif Nat.blt pc 300 then (bif Nat.blt pc 297 then (bif Nat.beq pc 294 then some (.ifCond .eq 38) else none) else (bif Nat.blt pc 299 then (bif Nat.beq pc 297 then some (.iload 4) else none) else (bif Nat.beq pc 299 then some (.iconst 4) else none))) else (bif Nat.blt pc 304 then (bif Nat.blt pc 303 then (bif Nat.beq pc 300 then some (.if_icmp .ne 32) else none) else (bif Nat.beq pc 303 then some (.aload_n 0) else none)) else (bif Nat.blt pc 307 then (bif Nat.beq pc 304 then some (.getfield 85) else none) else (bif Nat.beq pc 307 then some (.aload_n 0) else none))))) else (bif Nat.blt pc 321 then (bif Nat.blt pc 313 then (bif Nat.blt pc 311 then (bif Nat.beq pc 308 then some (.getfield 167) else none) else (bif Nat.blt pc 312 then (bif Nat.beq pc 311 then some (.iconst 1) else none) else (bif Nat.beq pc 312 then some (.isub) else none))) else (bif Nat.blt pc 317 then (bif Nat.blt pc 314 then (bif Nat.beq pc 313 then some (.iaload) else none) else (bif Nat.beq pc 314 then some (.invokestatic 180) else none)) else (bif Nat.blt pc 320 then (bif Nat.beq pc 317 then some (.ifCond .eq 15) else none) else (bif Nat.beq pc 320 then some (.aload_n 0) else none)))) else (bif Nat.blt pc 326 then (bif Nat.blt pc 322 then (bif Nat.beq pc 321 then some (.iload_n 1) else none) else (bif Nat.blt pc 323 then (bif Nat.beq pc 322 then some (.aload_n 0) else none) else (bif Nat.beq pc 323 then some (.getfield 41) else none))) else (bif Nat.blt pc 328 then (bif Nat.blt pc 327 then (bif Nat.beq pc 326 then some (.iload_n 3) else none) else (bif Nat.beq pc 327 then some (.iaload) else none)) else (bif Nat.blt pc 329 then (bif Nat.beq pc 328 then some (.iconst 3) else none) else (bif Nat.beq pc 329 then some (.invokevirtual 170) else none)))))) else (bif Nat.blt pc 353 then (bif Nat.blt pc 342 then (bif Nat.blt pc 337 then (bif Nat.blt pc 333 then (bif Nat.beq pc 332 then some (.aload_n 0) else none) else (bif Nat.blt pc 336 then (bif Nat.beq pc 333 then some (.getfield 85) else none) else (bif Nat.beq pc 336 then some (.aload_n 0) else none))) else (bif Nat.blt pc 340 then (bif Nat.beq pc 337 then some (.getfield 167) else none) else (bif Nat.blt pc 341 then (bif Nat.beq pc 340 then some (.iconst 1) else none) else (bif Nat.beq pc 341 then some (.isub) else none)))) else (bif Nat.blt pc 347 then (bif Nat.blt pc 343 then (bif Nat.beq pc 342 then some (.aload_n 0) else none) else (bif Nat.blt pc 346 then (bif Nat.beq pc 343 then some (.getfield 85) else none) else (bif Nat.beq pc 346 then some (.aload_n 0) else none))) else (bif Nat.blt pc 351 then (bif Nat.blt pc 350 then (bif Nat.beq pc 347 then some (.getfield 167) else none) else (bif Nat.beq pc 350 then some (.iconst 1) else none)) else (bif Nat.blt pc 352 then (bif Nat.beq pc 351 then some (.isub) else none) else (bif Nat.beq pc 352 then some (.iaload) else none))))) else (bif Nat.blt pc 365 then (bif Nat.blt pc 359 then (bif Nat.blt pc 355 then (bif Nat.beq pc 353 then some (.iload 4) else none) else (bif Nat.blt pc 356 then (bif Nat.beq pc 355 then some (.aload_n 0) else none) else (bif Nat.beq pc 356 then some (.getfield 38) else none))) else (bif Nat.blt pc 361 then (bif Nat.blt pc 360 then (bif Nat.beq pc 359 then some (.iload_n 3) else none) else (bif Nat.beq pc 360 then some (.iaload) else none)) else (bif Nat.blt pc 364 then (bif Nat.beq pc 361 then some (.invokestatic 183) else none) else (bif Nat.beq pc 364 then some (.iastore) else none)))) else (bif Nat.blt pc 372 then (bif Nat.blt pc 368 then (bif Nat.beq pc 365 then some (.iinc 3 1) else none) else (bif Nat.blt pc 371 then (bif Nat.beq pc 368 then some (.goto (-358)) else none) else (bif Nat.beq pc 371 then some (.aload_n 0) else none))) else (bif Nat.blt pc 376 then (bif Nat.blt pc 375 then (bif Nat.beq pc 372 then some (.getfield 85) else none) else (bif Nat.beq pc 375 then some (.iconst 0) else none)) else (bif Nat.blt pc 377 then (bif Nat.beq pc 376 then some (.iaload) else none) else (bif Nat.beq pc 377 then some (.ireturn) else none)))))))))
def px_a_Model_note (pc : Nat) : Option Instr := (bif Nat.blt pc 20 then (bif Nat.blt pc 10 then (bif Nat.blt pc 5 then (bif Nat.blt pc 1 then (bif Nat.beq pc 0 then some (.aload_n 0) else none) else (bif Nat.blt pc 4 then (bif Nat.beq pc 1 then some (.getfield 54) else none) else (bif Nat.beq pc 4 then some (.aload_n 0) else none))) else (bif Nat.blt pc 8 then (bif Nat.beq pc 5 then some (.getfield 164) else none) else (bif Nat.blt pc 9 then (bif Nat.beq pc 8 then some (.iload_n 1) else none) else (bif Nat.beq pc 9 then some (.iastore) else none)))) else (bif Nat.blt pc 15 then (bif Nat.blt pc 11 then (bif Nat.beq pc 10 then some (.aload_n 0) else none) else (bif Nat.blt pc 14 then (bif Nat.beq pc 11 then some (.getfield 57) else none) else (bif Nat.beq pc 14 then some (.aload_n 0) else none))) else (bif Nat.blt pc 18 then (bif Nat.beq pc 15 then some (.getfield 164) else none) else (bif Nat.blt pc 19 then (bif Nat.beq pc 18 then some (.iload_n 2) else none) else (bif Nat.beq pc 19 then some (.iastore) else none))))) else (bif Nat.blt pc 30 then (bif Nat.blt pc 25 then (bif Nat.blt pc 21 then (bif Nat.beq pc 20 then some (.aload_n 0) else none) else (bif Nat.blt pc 24 then (bif Nat.beq pc 21 then some (.getfield 60) else none) else (bif Nat.beq pc 24 then some (.aload_n 0) else none))) else (bif Nat.blt pc 28 then (bif Nat.beq pc 25 then some (.getfield 164) else none) else (bif Nat.blt pc 29 then (bif Nat.beq pc 28 then some (.iload_n 3) else none) else (bif Nat.beq pc 29 then some (.iastore) else none)))) else (bif Nat.blt pc 35 then (bif Nat.blt pc 31 then (bif Nat.beq pc 30 then some (.aload_n 0) else none) else (bif Nat.blt pc 32 then (bif Nat.beq pc 31 then some (.dup) else none) else (bif Nat.beq pc 32 then some (.getfield 164) else none))) else (bif Nat.blt pc 37 then (bif Nat.blt pc 36 then (bif Nat.beq pc 35 then some (.iconst 1) else none) else (bif Nat.beq pc 36 then some (.iadd) else none)) else (bif Nat.blt pc 40 then (bif Nat.beq pc 37 then some (.putfield 164) else none) else (bif Nat.beq pc 40 then some (.return_) else none))))))
def px_a_Model_lacksSum (pc : Nat) : Option Instr := (bif Nat.blt pc 33 then (bif Nat.blt pc 15 then (bif Nat.blt pc 5 then (bif Nat.blt pc 2 then (bif Nat.blt pc 1 then (bif Nat.beq pc 0 then some (.iconst 0) else none) else (bif Nat.beq pc 1 then some (.istore_n 2) else none)) else (bif Nat.blt pc 3 then (bif Nat.beq pc 2 then some (.iconst 0) else none) else (bif Nat.blt pc 4 then (bif Nat.beq pc 3 then some (.istore_n 3) else none) else (bif Nat.beq pc 4 then some (.iload_n 3) else none)))) else (bif Nat.blt pc 10 then (bif Nat.blt pc 7 then (bif Nat.beq pc 5 then some (.bipush 20) else none) else (bif Nat.beq pc 7 then some (.if_icmp .ge 63) else none)) else (bif Nat.blt pc 11 then (bif Nat.beq pc 10 then some (.iconst 0) else none) else (bif Nat.blt pc 13 then (bif Nat.beq pc 11 then some (.istore 4) else none) else (bif Nat.beq pc 13 then some (.iload 4) else none))))) else (bif Nat.blt pc 25 then (bif Nat.blt pc 20 then (bif Nat.blt pc 17 then (bif Nat.beq pc 15 then some (.bipush 20) else none) else (bif Nat.beq pc 17 then some (.if_icmp .ge 47) else none)) else (bif Nat.blt pc 21 then (bif Nat.beq pc 20 then some (.iload_n 2) else none) else (bif Nat.blt pc 24 then (bif Nat.beq pc 21 then some (.ifCond .ne 31) else none) else (bif Nat.beq pc 24 then some (.iload_n 0) else none)))) else (bif Nat.blt pc 28 then (bif Nat.blt pc 26 then (bif Nat.beq pc 25 then some (.iload_n 3) else none) else (bif Nat.blt pc 27 then (bif Nat.beq pc 26 then some (.ishr) else none) else (bif Nat.beq pc 27 then some (.iconst 1) else none))) else (bif Nat.blt pc 29 then (bif Nat.beq pc 28 then some (.iand) else none) else (bif Nat.blt pc 30 then (bif Nat.beq pc 29 then some (.iconst 1) else none) else (bif Nat.beq pc 30 then some (.if_icmp .ne 26) else none)))))) else (bif Nat.blt pc 49 then (bif Nat.blt pc 39 then (bif Nat.blt pc 36 then (bif Nat.blt pc 34 then (bif Nat.beq pc 33 then some (.iload_n 1) else none) else (bif Nat.beq pc 34 then some (.iload 4) else none)) else (bif Nat.blt pc 37 then (bif Nat.beq pc 36 then some (.ishr) else none) else (bif Nat.blt pc 38 then (bif Nat.beq pc 37 then some (.iconst 1) else none) else (bif Nat.beq pc 38 then some (.iand) else none)))) else (bif Nat.blt pc 43 then (bif Nat.blt pc 40 then (bif Nat.beq pc 39 then some (.iconst 1) else none) else (bif Nat.beq pc 40 then some (.if_icmp .ne 16) else none)) else (bif Nat.blt pc 44 then (bif Nat.beq pc 43 then some (.iload_n 3) else none) else (bif Nat.blt pc 46 then (bif Nat.beq pc 44 then some (.iload 4) else none) else (bif Nat.beq pc 46 then some (.invokestatic 161) else none))))) else (bif Nat.blt pc 58 then (bif Nat.blt pc 53 then (bif Nat.blt pc 52 then (bif Nat.beq pc 49 then some (.ifCond .ge 7) else none) else (bif Nat.beq pc 52 then some (.iconst 1) else none)) else (bif Nat.blt pc 56 then (bif Nat.beq pc 53 then some (.goto 4) else none) else (bif Nat.blt pc 57 then (bif Nat.beq pc 56 then some (.iconst 0) else none) else (bif Nat.beq pc 57 then some (.istore_n 2) else none)))) else (bif Nat.blt pc 67 then (bif Nat.blt pc 61 then (bif Nat.beq pc 58 then some (.iinc 4 1) else none) else (bif Nat.blt pc 64 then (bif Nat.beq pc 61 then some (.goto (-48)) else none) else (bif Nat.beq pc 64 then some (.iinc 3 1) else none))) else (bif Nat.blt pc 70 then (bif Nat.beq pc 67 then some (.goto (-63)) else none) else (bif Nat.blt pc 71 then (bif Nat.beq pc 70 then some (.iload_n 2) else none) else (bif Nat.beq pc 71 then some (.ireturn) else none)))))))
def px_a_Model_sumOf (pc : Nat) : Option Instr := (bif Nat.blt pc 40 then (bif Nat.blt pc 19 then (bif Nat.blt pc 10 then (bif Nat.blt pc 5 then (bif Nat.blt pc 1 then (bif Nat.beq pc 0 then some (.iload_n 0) else none) else (bif Nat.blt pc 2 then (bif Nat.beq pc 1 then some (.iconst 4) else none) else (bif Nat.beq pc 2 then some (.if_icmp .eq 8) else none))) else (bif Nat.blt pc 6 then (bif Nat.beq pc 5 then some (.iload_n 1) else none) else (bif Nat.blt pc 7 then (bif Nat.beq pc 6 then some (.iconst 4) else none) else (bif Nat.beq pc 7 then some (.if_icmp .ne 6) else none)))) else (bif Nat.blt pc 14 then (bif Nat.blt pc 12 then (bif Nat.beq pc 10 then some (.bipush 16) else none) else (bif Nat.blt pc 13 then (bif Nat.beq pc 12 then some (.ireturn) else none) else (bif Nat.beq pc 13 then some (.iload_n 0) else none))) else (bif Nat.blt pc 15 then (bif Nat.beq pc 14 then some (.iconst 2) else none) else (bif Nat.blt pc 18 then (bif Nat.beq pc 15 then some (.if_icmp .ge 20) else none) else (bif Nat.beq pc 18 then some (.iload_n 1) else none))))) else (bif Nat.blt pc 29 then (bif Nat.blt pc 24 then (bif Nat.blt pc 20 then (bif Nat.beq pc 19 then some (.iconst 2) else none) else (bif Nat.blt pc 23 then (bif Nat.beq pc 20 then some (.if_icmp .ge 15) else none) else (bif Nat.beq pc 23 then some (.iload_n 0) else none))) else (bif Nat.blt pc 25 then (bif Nat.beq pc 24 then some (.iload_n 1) else none) else (bif Nat.blt pc 26 then (bif Nat.beq pc 25 then some (.iadd) else none) else (bif Nat.beq pc 26 then some (.ifCond .ne 7) else none)))) else (bif Nat.blt pc 34 then (bif Nat.blt pc 30 then (bif Nat.beq pc 29 then some (.iconst 1) else none) else (bif Nat.blt pc 33 then (bif Nat.beq pc 30 then some (.goto 4) else none) else (bif Nat.beq pc 33 then some (.iconst 2) else none))) else (bif Nat.blt pc 36 then (bif Nat.blt pc 35 then (bif Nat.beq pc 34 then some (.ireturn) else none) else (bif Nat.beq pc 35 then some (.iload_n 0) else none)) else (bif Nat.blt pc 37 then (bif Nat.beq pc 36 then some (.iconst 2) else none) else (bif Nat.beq pc 37 then some (.if_icmp .ne 10) else none)))))) else (bif Nat.blt pc 56 then (bif Nat.blt pc 48 then (bif Nat.blt pc 45 then (bif Nat.blt pc 41 then (bif Nat.beq pc 40 then some (.iload_n 1) else none) else (bif Nat.blt pc 42 then (bif Nat.beq pc 41 then some (.iconst 2) else none) else (bif Nat.beq pc 42 then some (.if_icmp .ne 5) else none))) else (bif Nat.blt pc 46 then (bif Nat.beq pc 45 then some (.iconst 4) else none) else (bif Nat.blt pc 47 then (bif Nat.beq pc 46 then some (.ireturn) else none) else (bif Nat.beq pc 47 then some (.iload_n 0) else none)))) else (bif Nat.blt pc 53 then (bif Nat.blt pc 49 then (bif Nat.beq pc 48 then some (.iconst 4) else none) else (bif Nat.blt pc 52 then (bif Nat.beq pc 49 then some (.if_icmp .le 22) else none) else (bif Nat.beq pc 52 then some (.iload_n 0) else none))) else (bif Nat.blt pc 54 then (bif Nat.beq pc 53 then some (.iconst 5) else none) else (bif Nat.blt pc 55 then (bif Nat.beq pc 54 then some (.idiv) else none) else (bif Nat.beq pc 55 then some (.iload_n 1) else none))))) else (bif Nat.blt pc 64 then (bif Nat.blt pc 61 then (bif Nat.blt pc 57 then (bif Nat.beq pc 56 then some (.iconst 5) else none) else (bif Nat.blt pc 58 then (bif Nat.beq pc 57 then some (.idiv) else none) else (bif Nat.beq pc 58 then some (.if_icmp .ne 13) else none))) else (bif Nat.blt pc 62 then (bif Nat.beq pc 61 then some (.iconst 1) else none) else (bif Nat.blt pc 63 then (bif Nat.beq pc 62 then some (.iload_n 0) else none) else (bif Nat.beq pc 63 then some (.ishl) else none)))) else (bif Nat.blt pc 67 then (bif Nat.blt pc 65 then (bif Nat.beq pc 64 then some (.iconst 1) else none) else (bif Nat.blt pc 66 then (bif Nat.beq pc 65 then some (.iload_n 1) else none) else (bif Nat.beq pc 66 then some (.ishl) else none))) else (bif Nat.blt pc 71 then (bif Nat.blt pc 68 then (bif Nat.beq pc 67 then some (.ior) else none) else (bif Nat.beq pc 68 then some (.goto 4) else none)) else (bif Nat.blt pc 72 then (bif Nat.beq pc 71 then some (.iconst (-1)) else none) else (bif Nat.beq pc 72 then some (.ireturn) else none)))))))
def px_a_Model_sum (pc : Nat) : Option Instr := (bif Nat.blt pc 33 then (bif Nat.blt pc 17 then (bif Nat.blt pc 5 then (bif Nat.blt pc 2 then (bif Nat.blt pc 1 then (bif Nat.beq pc 0 then some (.iconst 0) else none) else (bif Nat.beq pc 1 then some (.istore_n 2) else none)) else (bif Nat.blt pc 3 then (bif Nat.beq pc 2 then some (.iconst 0) else none) else (bif Nat.blt pc 4 then (bif Nat.beq pc 3 then some (.istore_n 3) else none) else (bif Nat.beq pc 4 then some (.iload_n 3) else none)))) else (bif Nat.blt pc 11 then (bif Nat.blt pc 7 then (bif Nat.beq pc 5 then some (.bipush 20) else none) else (bif Nat.blt pc 10 then (bif Nat.beq pc 7 then some (.if_icmp .ge 66) else none) else (bif Nat.beq pc 10 then some (.iconst 0) else none))) else (bif Nat.blt pc 13 then (bif Nat.beq pc 11 then some (.istore 4) else none) else (bif Nat.blt pc 15 then (bif Nat.beq pc 13 then some (.iload 4) else none) else (bif Nat.beq pc 15 then some (.bipush 20) else none))))) else (bif Nat.blt pc 24 then (bif Nat.blt pc 21 then (bif Nat.blt pc 20 then (bif Nat.beq pc 17 then some (.if_icmp .ge 50) else none) else (bif Nat.beq pc 20 then some (.iload_n 0) else none)) else (bif Nat.blt pc 22 then (bif Nat.beq pc 21 then some (.iload_n 3) else none) else (bif Nat.blt pc 23 then (bif Nat.beq pc 22 then some (.ishr) else none) else (bif Nat.beq pc 23 then some (.iconst 1) else none)))) else (bif Nat.blt pc 29 then (bif Nat.blt pc 25 then (bif Nat.beq pc 24 then some (.iand) else none) else (bif Nat.blt pc 26 then (bif Nat.beq pc 25 then some (.iconst 1) else none) else (bif Nat.beq pc 26 then some (.if_icmp .ne 35) else none))) else (bif Nat.blt pc 30 then (bif Nat.beq pc 29 then some (.iload_n 1) else none) else (bif Nat.blt pc 32 then (bif Nat.beq pc 30 then some (.iload 4) else none) else (bif Nat.beq pc 32 then some (.ishr) else none)))))) else (bif Nat.blt pc 53 then (bif Nat.blt pc 40 then (bif Nat.blt pc 35 then (bif Nat.blt pc 34 then (bif Nat.beq pc 33 then some (.iconst 1) else none) else (bif Nat.beq pc 34 then some (.iand) else none)) else (bif Nat.blt pc 36 then (bif Nat.beq pc 35 then some (.iconst 1) else none) else (bif Nat.blt pc 39 then (bif Nat.beq pc 36 then some (.if_icmp .ne 25) else none) else (bif Nat.beq pc 39 then some (.iload_n 3) else none)))) else (bif Nat.blt pc 47 then (bif Nat.blt pc 42 then (bif Nat.beq pc 40 then some (.iload 4) else none) else (bif Nat.blt pc 45 then (bif Nat.beq pc 42 then some (.invokestatic 161) else none) else (bif Nat.beq pc 45 then some (.istore 5) else none))) else (bif Nat.blt pc 48 then (bif Nat.beq pc 47 then some (.iload_n 2) else none) else (bif Nat.blt pc 50 then (bif Nat.beq pc 48 then some (.iload 5) else none) else (bif Nat.beq pc 50 then some (.ifCond .ge 7) else none))))) else (bif Nat.blt pc 61 then (bif Nat.blt pc 57 then (bif Nat.blt pc 54 then (bif Nat.beq pc 53 then some (.iconst 0) else none) else (bif Nat.beq pc 54 then some (.goto 5) else none)) else (bif Nat.blt pc 59 then (bif Nat.beq pc 57 then some (.iload 5) else none) else (bif Nat.blt pc 60 then (bif Nat.beq pc 59 then some (.ior) else none) else (bif Nat.beq pc 60 then some (.istore_n 2) else none)))) else (bif Nat.blt pc 70 then (bif Nat.blt pc 64 then (bif Nat.beq pc 61 then some (.iinc 4 1) else none) else (bif Nat.blt pc 67 then (bif Nat.beq pc 64 then some (.goto (-51)) else none) else (bif Nat.beq pc 67 then some (.iinc 3 1) else none))) else (bif Nat.blt pc 73 then (bif Nat.beq pc 70 then some (.goto (-66)) else none) else (bif Nat.blt pc 74 then (bif Nat.beq pc 73 then some (.iload_n 2) else none) else (bif Nat.beq pc 74 then some (.ireturn) else none)))))))
def px_a_Model_isFirst (pc : Nat) : Option Instr := (bif Nat.blt pc 7 then (bif Nat.blt pc 3 then (bif Nat.blt pc 1 then (bif Nat.beq pc 0 then some (.iload_n 0) else none) else (bif Nat.beq pc 1 then some (.bipush 15) else none)) else (bif Nat.blt pc 4 then (bif Nat.beq pc 3 then some (.iand) else none) else (bif Nat.beq pc 4 then some (.ifCond .eq 7) else none))) else (bif Nat.blt pc 11 then (bif Nat.blt pc 8 then (bif Nat.beq pc 7 then some (.iconst 1) else none) else (bif Nat.beq pc 8 then some (.goto 4) else none)) else (bif Nat.blt pc 12 then (bif Nat.beq pc 11 then some (.iconst 0) else none) else (bif Nat.beq pc 12 then some (.ireturn) else none))))
def px_a_Model_changed (pc : Nat) : Option Instr := (bif Nat.blt pc 29 then (bif Nat.blt pc 16 then (bif Nat.blt pc 9 then (bif Nat.blt pc 2 then (bif Nat.blt pc 1 then (bif Nat.beq pc 0 then some (.iload_n 1) else none) else (bif Nat.beq pc 1 then some (.iconst 3) else none)) else (bif Nat.blt pc 5 then (bif Nat.beq pc 2 then some (.if_icmp .ne 8) else none) else (bif Nat.blt pc 6 then (bif Nat.beq pc 5 then some (.iload_n 0) else none) else (bif Nat.beq pc 6 then some (.invokestatic 187) else none)))) else (bif Nat.blt pc 11 then (bif Nat.blt pc 10 then (bif Nat.beq pc 9 then some (.ireturn) else none) else (bif Nat.beq pc 10 then some (.iload_n 1) else none)) else (bif Nat.blt pc 12 then (bif Nat.beq pc 11 then some (.iconst 4) else none) else (bif Nat.blt pc 15 then (bif Nat.beq pc 12 then some (.if_icmp .ne 12) else none) else (bif Nat.beq pc 15 then some (.iload_n 0) else none))))) else (bif Nat.blt pc 22 then (bif Nat.blt pc 18 then (bif Nat.blt pc 17 then (bif Nat.beq pc 16 then some (.iconst 5) else none) else (bif Nat.beq pc 17 then some (.ishr) else none)) else (bif Nat.blt pc 19 then (bif Nat.beq pc 18 then some (.iload_n 0) else none) else (bif Nat.blt pc 21 then (bif Nat.beq pc 19 then some (.bipush 16) else none) else (bif Nat.beq pc 21 then some (.iand) else none)))) else (bif Nat.blt pc 24 then (bif Nat.blt pc 23 then (bif Nat.beq pc 22 then some (.ior) else none) else (bif Nat.beq pc 23 then some (.ireturn) else none)) else (bif Nat.blt pc 25 then (bif Nat.beq pc 24 then some (.iload_n 1) else none) else (bif Nat.blt pc 26 then (bif Nat.beq pc 25 then some (.iconst 5) else none) else (bif Nat.beq pc 26 then some (.if_icmp .ne 8) else none)))))) else (bif Nat.blt pc 43 then (bif Nat.blt pc 35 then (bif Nat.blt pc 32 then (bif Nat.blt pc 30 then (bif Nat.beq pc 29 then some (.iload_n 0) else none) else (bif Nat.beq pc 30 then some (.bipush (-9)) else none)) else (bif Nat.blt pc 33 then (bif Nat.beq pc 32 then some (.iand) else none) else (bif Nat.blt pc 34 then (bif Nat.beq pc 33 then some (.ireturn) else none) else (bif Nat.beq pc 34 then some (.iload_n 0) else none)))) else (bif Nat.blt pc 38 then (bif Nat.blt pc 37 then (bif Nat.beq pc 35 then some (.bipush 16) else none) else (bif Nat.beq pc 37 then some (.iand) else none)) else (bif Nat.blt pc 41 then (bif Nat.beq pc 38 then some (.ifCond .ne 12) else none) else (bif Nat.blt pc 42 then (bif Nat.beq pc 41 then some (.iload_n 0) else none) else (bif Nat.beq pc 42 then some (.iload_n 2) else none))))) else (bif Nat.blt pc 50 then (bif Nat.blt pc 45 then (bif Nat.blt pc 44 then (bif Nat.beq pc 43 then some (.ishr) else none) else (bif Nat.beq pc 44 then some (.iconst 1) else none)) else (bif Nat.blt pc 46 then (bif Nat.beq pc 45 then some (.iand) else none) else (bif Nat.blt pc 47 then (bif Nat.beq pc 46 then some (.iconst 1) else none) else (bif Nat.beq pc 47 then some (.if_icmp .ne 9) else none)))) else (bif Nat.blt pc 53 then (bif Nat.blt pc 51 then (bif Nat.beq pc 50 then some (.iconst 1) else none) else (bif Nat.blt pc 52 then (bif Nat.beq pc 51 then some (.iload_n 2) else none) else (bif Nat.beq pc 52 then some (.ishl) else none))) else (bif Nat.blt pc 56 then (bif Nat.beq pc 53 then some (.goto 4) else none) else (bif Nat.blt pc 57 then (bif Nat.beq pc 56 then some (.iconst 0) else none) else (bif Nat.beq pc 57 then some (.ireturn) else none)))))))
def px_a_Model_wrapped (pc : Nat) : Option Instr := (bif Nat.blt pc 10 then (bif Nat.blt pc 5 then (bif Nat.blt pc 2 then (bif Nat.blt pc 1 then (bif Nat.beq pc 0 then some (.iload_n 0) else none) else (bif Nat.beq pc 1 then some (.iconst 5) else none)) else (bif Nat.blt pc 3 then (bif Nat.beq pc 2 then some (.ishl) else none) else (bif Nat.beq pc 3 then some (.ldc 159) else none))) else (bif Nat.blt pc 7 then (bif Nat.blt pc 6 then (bif Nat.beq pc 5 then some (.iand) else none) else (bif Nat.beq pc 6 then some (.istore_n 1) else none)) else (bif Nat.blt pc 8 then (bif Nat.beq pc 7 then some (.iload_n 0) else none) else (bif Nat.beq pc 8 then some (.bipush 15) else none)))) else (bif Nat.blt pc 17 then (bif Nat.blt pc 14 then (bif Nat.blt pc 11 then (bif Nat.beq pc 10 then some (.ishr) else none) else (bif Nat.beq pc 11 then some (.ifCond .eq 10) else none)) else (bif Nat.blt pc 15 then (bif Nat.beq pc 14 then some (.iload_n 1) else none) else (bif Nat.beq pc 15 then some (.ldc 160) else none))) else (bif Nat.blt pc 21 then (bif Nat.blt pc 18 then (bif Nat.beq pc 17 then some (.ior) else none) else (bif Nat.beq pc 18 then some (.goto 4) else none)) else (bif Nat.blt pc 22 then (bif Nat.beq pc 21 then some (.iload_n 1) else none) else (bif Nat.beq pc 22 then some (.ireturn) else none)))))
def px_a_Model_judgeAll (pc : Nat) : Option Instr := (bif Nat.blt pc 14 then (bif Nat.blt pc 6 then (bif Nat.blt pc 2 then (bif Nat.blt pc 1 then (bif Nat.beq pc 0 then some (.aload_n 0) else none) else (bif Nat.beq pc 1 then some (.iconst 0) else none)) else (bif Nat.blt pc 5 then (bif Nat.beq pc 2 then some (.putfield 164) else none) else (bif Nat.beq pc 5 then some (.iconst 0) else none))) else (bif Nat.blt pc 8 then (bif Nat.blt pc 7 then (bif Nat.beq pc 6 then some (.istore_n 1) else none) else (bif Nat.beq pc 7 then some (.iload_n 1) else none)) else (bif Nat.blt pc 10 then (bif Nat.beq pc 8 then some (.bipush 96) else none) else (bif Nat.blt pc 13 then (bif Nat.beq pc 10 then some (.if_icmp .ge 23) else none) else (bif Nat.beq pc 13 then some (.aload_n 0) else none))))) else (bif Nat.blt pc 23 then (bif Nat.blt pc 18 then (bif Nat.blt pc 17 then (bif Nat.beq pc 14 then some (.getfield 13) else none) else (bif Nat.beq pc 17 then some (.iload_n 1) else none)) else (bif Nat.blt pc 19 then (bif Nat.beq pc 18 then some (.iaload) else none) else (bif Nat.blt pc 22 then (bif Nat.beq pc 19 then some (.ifCond .le 8) else none) else (bif Nat.beq pc 22 then some (.aload_n 0) else none)))) else (bif Nat.blt pc 27 then (bif Nat.blt pc 24 then (bif Nat.beq pc 23 then some (.iload_n 1) else none) else (bif Nat.beq pc 24 then some (.invokevirtual 195) else none)) else (bif Nat.blt pc 30 then (bif Nat.beq pc 27 then some (.iinc 1 1) else none) else (bif Nat.blt pc 33 then (bif Nat.beq pc 30 then some (.goto (-23)) else none) else (bif Nat.beq pc 33 then some (.return_) else none))))))
def px_a_Model_judge (pc : Nat) : Option Instr := (bif Nat.blt pc 122 then (bif Nat.blt pc 60 then (bif Nat.blt pc 28 then (bif Nat.blt pc 15 then (bif Nat.blt pc 6 then (bif Nat.blt pc 4 then (bif Nat.blt pc 1 then (bif Nat.beq pc 0 then some (.aload_n 0) else none) else (bif Nat.beq pc 1 then some (.getfield 164) else none)) else (bif Nat.blt pc 5 then (bif Nat.beq pc 4 then some (.istore_n 2) else none) else (bif Nat.beq pc 5 then some (.aload_n 0) else none))) else (bif Nat.blt pc 10 then (bif Nat.blt pc 9 then (bif Nat.beq pc 6 then some (.getfield 20) else none) else (bif Nat.beq pc 9 then some (.iload_n 1) else none)) else (bif Nat.blt pc 11 then (bif Nat.beq pc 10 then some (.iaload) else none) else (bif Nat.blt pc 14 then (bif Nat.beq pc 11 then some (.ifCond .lt 16) else none) else (bif Nat.beq pc 14 then some (.aload_n 0) else none))))) else (bif Nat.blt pc 21 then (bif Nat.blt pc 17 then (bif Nat.blt pc 16 then (bif Nat.beq pc 15 then some (.iload_n 1) else none) else (bif Nat.beq pc 16 then some (.aload_n 0) else none)) else (bif Nat.blt pc 20 then (bif Nat.beq pc 17 then some (.getfield 20) else none) else (bif Nat.beq pc 20 then some (.iload_n 1) else none))) else (bif Nat.blt pc 23 then (bif Nat.blt pc 22 then (bif Nat.beq pc 21 then some (.iaload) else none) else (bif Nat.beq pc 22 then some (.iconst 1) else none)) else (bif Nat.blt pc 26 then (bif Nat.beq pc 23 then some (.invokevirtual 170) else none) else (bif Nat.blt pc 27 then (bif Nat.beq pc 26 then some (.return_) else none) else (bif Nat.beq pc 27 then some (.aload_n 0) else none)))))) else (bif Nat.blt pc 43 then (bif Nat.blt pc 34 then (bif Nat.blt pc 30 then (bif Nat.blt pc 29 then (bif Nat.beq pc 28 then some (.iload_n 1) else none) else (bif Nat.beq pc 29 then some (.iconst 1) else none)) else (bif Nat.blt pc 33 then (bif Nat.beq pc 30 then some (.invokevirtual 191) else none) else (bif Nat.beq pc 33 then some (.pop) else none))) else (bif Nat.blt pc 38 then (bif Nat.blt pc 35 then (bif Nat.beq pc 34 then some (.aload_n 0) else none) else (bif Nat.beq pc 35 then some (.getfield 26) else none)) else (bif Nat.blt pc 39 then (bif Nat.beq pc 38 then some (.iload_n 1) else none) else (bif Nat.blt pc 40 then (bif Nat.beq pc 39 then some (.iaload) else none) else (bif Nat.beq pc 40 then some (.ifCond .lt 40) else none))))) else (bif Nat.blt pc 51 then (bif Nat.blt pc 47 then (bif Nat.blt pc 44 then (bif Nat.beq pc 43 then some (.aload_n 0) else none) else (bif Nat.beq pc 44 then some (.getfield 26) else none)) else (bif Nat.blt pc 48 then (bif Nat.beq pc 47 then some (.iload_n 1) else none) else (bif Nat.blt pc 49 then (bif Nat.beq pc 48 then some (.iaload) else none) else (bif Nat.beq pc 49 then some (.bipush 16) else none)))) else (bif Nat.blt pc 55 then (bif Nat.blt pc 52 then (bif Nat.beq pc 51 then some (.iand) else none) else (bif Nat.beq pc 52 then some (.ifCond .ne 28) else none)) else (bif Nat.blt pc 56 then (bif Nat.beq pc 55 then some (.aload_n 0) else none) else (bif Nat.blt pc 59 then (bif Nat.beq pc 56 then some (.getfield 44) else none) else (bif Nat.beq pc 59 then some (.iload_n 1) else none))))))) else (bif Nat.blt pc 88 then (bif Nat.blt pc 72 then (bif Nat.blt pc 66 then (bif Nat.blt pc 62 then (bif Nat.blt pc 61 then (bif Nat.beq pc 60 then some (.iaload) else none) else (bif Nat.beq pc 61 then some (.aload_n 0) else none)) else (bif Nat.blt pc 65 then (bif Nat.beq pc 62 then some (.getfield 26) else none) else (bif Nat.beq pc 65 then some (.iload_n 1) else none))) else (bif Nat.blt pc 68 then (bif Nat.blt pc 67 then (bif Nat.beq pc 66 then some (.iaload) else none) else (bif Nat.beq pc 67 then some (.iconst (-1)) else none)) else (bif Nat.blt pc 69 then (bif Nat.beq pc 68 then some (.ixor) else none) else (bif Nat.blt pc 70 then (bif Nat.beq pc 69 then some (.iand) else none) else (bif Nat.beq pc 70 then some (.bipush (-17)) else none))))) else (bif Nat.blt pc 81 then (bif Nat.blt pc 76 then (bif Nat.blt pc 73 then (bif Nat.beq pc 72 then some (.iand) else none) else (bif Nat.beq pc 73 then some (.ifCond .eq 7) else none)) else (bif Nat.blt pc 77 then (bif Nat.beq pc 76 then some (.iconst 1) else none) else (bif Nat.blt pc 80 then (bif Nat.beq pc 77 then some (.goto 4) else none) else (bif Nat.beq pc 80 then some (.iconst 0) else none)))) else (bif Nat.blt pc 83 then (bif Nat.blt pc 82 then (bif Nat.beq pc 81 then some (.istore_n 3) else none) else (bif Nat.beq pc 82 then some (.iload_n 3) else none)) else (bif Nat.blt pc 86 then (bif Nat.beq pc 83 then some (.ifCond .eq 15) else none) else (bif Nat.blt pc 87 then (bif Nat.beq pc 86 then some (.aload_n 0) else none) else (bif Nat.beq pc 87 then some (.iload_n 1) else none)))))) else (bif Nat.blt pc 101 then (bif Nat.blt pc 94 then (bif Nat.blt pc 92 then (bif Nat.blt pc 89 then (bif Nat.beq pc 88 then some (.aload_n 0) else none) else (bif Nat.beq pc 89 then some (.getfield 29) else none)) else (bif Nat.blt pc 93 then (bif Nat.beq pc 92 then some (.iload_n 1) else none) else (bif Nat.beq pc 93 then some (.iaload) else none))) else (bif Nat.blt pc 98 then (bif Nat.blt pc 95 then (bif Nat.beq pc 94 then some (.iconst 5) else none) else (bif Nat.beq pc 95 then some (.invokevirtual 170) else none)) else (bif Nat.blt pc 99 then (bif Nat.beq pc 98 then some (.iload_n 2) else none) else (bif Nat.blt pc 100 then (bif Nat.beq pc 99 then some (.iconst 1) else none) else (bif Nat.beq pc 100 then some (.iadd) else none))))) else (bif Nat.blt pc 112 then (bif Nat.blt pc 105 then (bif Nat.blt pc 103 then (bif Nat.beq pc 101 then some (.istore 4) else none) else (bif Nat.beq pc 103 then some (.iload 4) else none)) else (bif Nat.blt pc 106 then (bif Nat.beq pc 105 then some (.aload_n 0) else none) else (bif Nat.blt pc 109 then (bif Nat.beq pc 106 then some (.getfield 164) else none) else (bif Nat.beq pc 109 then some (.if_icmp .ge 140) else none)))) else (bif Nat.blt pc 116 then (bif Nat.blt pc 114 then (bif Nat.beq pc 112 then some (.iload 4) else none) else (bif Nat.beq pc 114 then some (.istore 5) else none)) else (bif Nat.blt pc 118 then (bif Nat.beq pc 116 then some (.iload 5) else none) else (bif Nat.blt pc 119 then (bif Nat.beq pc 118 then some (.iload_n 2) else none) else (bif Nat.beq pc 119 then some (.if_icmp .le 124) else none)))))))) else (bif Nat.blt pc 184 then (bif Nat.blt pc 152 then (bif Nat.blt pc 138 then (bif Nat.blt pc 130 then (bif Nat.blt pc 125 then (bif Nat.blt pc 124 then (bif Nat.beq pc 122 then some (.bipush 8) else none) else (bif Nat.beq pc 124 then some (.aload_n 0) else none)) else (bif Nat.blt pc 128 then (bif Nat.beq pc 125 then some (.getfield 57) else none) else (bif Nat.beq pc 128 then some (.iload 5) else none))) else (bif Nat.blt pc 132 then (bif Nat.blt pc 131 then (bif Nat.beq pc 130 then some (.iaload) else none) else (bif Nat.beq pc 131 then some (.imul) else none)) else (bif Nat.blt pc 133 then (bif Nat.beq pc 132 then some (.aload_n 0) else none) else (bif Nat.blt pc 136 then (bif Nat.beq pc 133 then some (.getfield 60) else none) else (bif Nat.beq pc 136 then some (.iload 5) else none))))) else (bif Nat.blt pc 146 then (bif Nat.blt pc 140 then (bif Nat.blt pc 139 then (bif Nat.beq pc 138 then some (.iaload) else none) else (bif Nat.beq pc 139 then some (.iadd) else none)) else (bif Nat.blt pc 142 then (bif Nat.beq pc 140 then some (.bipush 8) else none) else (bif Nat.blt pc 143 then (bif Nat.beq pc 142 then some (.aload_n 0) else none) else (bif Nat.beq pc 143 then some (.getfield 57) else none)))) else (bif Nat.blt pc 149 then (bif Nat.blt pc 148 then (bif Nat.beq pc 146 then some (.iload 5) else none) else (bif Nat.beq pc 148 then some (.iconst 1) else none)) else (bif Nat.blt pc 150 then (bif Nat.beq pc 149 then some (.isub) else none) else (bif Nat.blt pc 151 then (bif Nat.beq pc 150 then some (.iaload) else none) else (bif Nat.beq pc 151 then some (.imul) else none)))))) else (bif Nat.blt pc 166 then (bif Nat.blt pc 159 then (bif Nat.blt pc 156 then (bif Nat.blt pc 153 then (bif Nat.beq pc 152 then some (.aload_n 0) else none) else (bif Nat.beq pc 153 then some (.getfield 60) else none)) else (bif Nat.blt pc 158 then (bif Nat.beq pc 156 then some (.iload 5) else none) else (bif Nat.beq pc 158 then some (.iconst 1) else none))) else (bif Nat.blt pc 161 then (bif Nat.blt pc 160 then (bif Nat.beq pc 159 then some (.isub) else none) else (bif Nat.beq pc 160 then some (.iaload) else none)) else (bif Nat.blt pc 162 then (bif Nat.beq pc 161 then some (.iadd) else none) else (bif Nat.blt pc 165 then (bif Nat.beq pc 162 then some (.if_icmp .ge 81) else none) else (bif Nat.beq pc 165 then some (.aload_n 0) else none))))) else (bif Nat.blt pc 175 then (bif Nat.blt pc 171 then (bif Nat.blt pc 169 then (bif Nat.beq pc 166 then some (.getfield 57) else none) else (bif Nat.beq pc 169 then some (.iload 5) else none)) else (bif Nat.blt pc 172 then (bif Nat.beq pc 171 then some (.iaload) else none) else (bif Nat.blt pc 174 then (bif Nat.beq pc 172 then some (.istore 6) else none) else (bif Nat.beq pc 174 then some (.aload_n 0) else none)))) else (bif Nat.blt pc 180 then (bif Nat.blt pc 178 then (bif Nat.beq pc 175 then some (.getfield 60) else none) else (bif Nat.beq pc 178 then some (.iload 5) else none)) else (bif Nat.blt pc 181 then (bif Nat.beq pc 180 then some (.iaload) else none) else (bif Nat.blt pc 183 then (bif Nat.beq pc 181 then some (.istore 7) else none) else (bif Nat.beq pc 183 then some (.aload_n 0) else none))))))) else (bif Nat.blt pc 215 then (bif Nat.blt pc 199 then (bif Nat.blt pc 193 then (bif Nat.blt pc 189 then (bif Nat.blt pc 187 then (bif Nat.beq pc 184 then some (.getfield 57) else none) else (bif Nat.beq pc 187 then some (.iload 5) else none)) else (bif Nat.blt pc 190 then (bif Nat.beq pc 189 then some (.aload_n 0) else none) else (bif Nat.beq pc 190 then some (.getfield 57) else none))) else (bif Nat.blt pc 196 then (bif Nat.blt pc 195 then (bif Nat.beq pc 193 then some (.iload 5) else none) else (bif Nat.beq pc 195 then some (.iconst 1) else none)) else (bif Nat.blt pc 197 then (bif Nat.beq pc 196 then some (.isub) else none) else (bif Nat.blt pc 198 then (bif Nat.beq pc 197 then some (.iaload) else none) else (bif Nat.beq pc 198 then some (.iastore) else none))))) else (bif Nat.blt pc 209 then (bif Nat.blt pc 203 then (bif Nat.blt pc 200 then (bif Nat.beq pc 199 then some (.aload_n 0) else none) else (bif Nat.beq pc 200 then some (.getfield 60) else none)) else (bif Nat.blt pc 205 then (bif Nat.beq pc 203 then some (.iload 5) else none) else (bif Nat.blt pc 206 then (bif Nat.beq pc 205 then some (.aload_n 0) else none) else (bif Nat.beq pc 206 then some (.getfield 60) else none)))) else (bif Nat.blt pc 212 then (bif Nat.blt pc 211 then (bif Nat.beq pc 209 then some (.iload 5) else none) else (bif Nat.beq pc 211 then some (.iconst 1) else none)) else (bif Nat.blt pc 213 then (bif Nat.beq pc 212 then some (.isub) else none) else (bif Nat.blt pc 214 then (bif Nat.beq pc 213 then some (.iaload) else none) else (bif Nat.beq pc 214 then some (.iastore) else none)))))) else (bif Nat.blt pc 230 then (bif Nat.blt pc 222 then (bif Nat.blt pc 219 then (bif Nat.blt pc 216 then (bif Nat.beq pc 215 then some (.aload_n 0) else none) else (bif Nat.beq pc 216 then some (.getfield 57) else none)) else (bif Nat.blt pc 221 then (bif Nat.beq pc 219 then some (.iload 5) else none) else (bif Nat.beq pc 221 then some (.iconst 1) else none))) else (bif Nat.blt pc 225 then (bif Nat.blt pc 223 then (bif Nat.beq pc 222 then some (.isub) else none) else (bif Nat.beq pc 223 then some (.iload 6) else none)) else (bif Nat.blt pc 226 then (bif Nat.beq pc 225 then some (.iastore) else none) else (bif Nat.blt pc 227 then (bif Nat.beq pc 226 then some (.aload_n 0) else none) else (bif Nat.beq pc 227 then some (.getfield 60) else none))))) else (bif Nat.blt pc 237 then (bif Nat.blt pc 233 then (bif Nat.blt pc 232 then (bif Nat.beq pc 230 then some (.iload 5) else none) else (bif Nat.beq pc 232 then some (.iconst 1) else none)) else (bif Nat.blt pc 234 then (bif Nat.beq pc 233 then some (.isub) else none) else (bif Nat.blt pc 236 then (bif Nat.beq pc 234 then some (.iload 7) else none) else (bif Nat.beq pc 236 then some (.iastore) else none)))) else (bif Nat.blt pc 243 then (bif Nat.blt pc 240 then (bif Nat.beq pc 237 then some (.iinc 5 (-1)) else none) else (bif Nat.beq pc 240 then some (.goto (-124)) else none)) else (bif Nat.blt pc 246 then (bif Nat.beq pc 243 then some (.iinc 4 1) else none) else (bif Nat.blt pc 249 then (bif Nat.beq pc 246 then some (.goto (-143)) else none) else (bif Nat.beq pc 249 then some (.return_) else none)))))))))
def px_a_Model_readsStale (pc : Nat) : Option Instr := (bif Nat.blt pc 34 then (bif Nat.blt pc 16 then (bif Nat.blt pc 6 then (bif Nat.blt pc 2 then (bif Nat.blt pc 1 then (bif Nat.beq pc 0 then some (.iconst 0) else none) else (bif Nat.beq pc 1 then some (.istore_n 2) else none)) else (bif Nat.blt pc 4 then (bif Nat.beq pc 2 then some (.bipush 64) else none) else (bif Nat.blt pc 5 then (bif Nat.beq pc 4 then some (.iload_n 1) else none) else (bif Nat.beq pc 5 then some (.imul) else none)))) else (bif Nat.blt pc 9 then (bif Nat.blt pc 7 then (bif Nat.beq pc 6 then some (.istore_n 3) else none) else (bif Nat.blt pc 8 then (bif Nat.beq pc 7 then some (.aload_n 0) else none) else (bif Nat.beq pc 8 then some (.iload_n 1) else none))) else (bif Nat.blt pc 12 then (bif Nat.beq pc 9 then some (.invokevirtual 156) else none) else (bif Nat.blt pc 15 then (bif Nat.beq pc 12 then some (.ifCond .eq 58) else none) else (bif Nat.beq pc 15 then some (.iload_n 3) else none))))) else (bif Nat.blt pc 24 then (bif Nat.blt pc 19 then (bif Nat.blt pc 18 then (bif Nat.beq pc 16 then some (.bipush 64) else none) else (bif Nat.beq pc 18 then some (.iload_n 1) else none)) else (bif Nat.blt pc 20 then (bif Nat.beq pc 19 then some (.imul) else none) else (bif Nat.blt pc 21 then (bif Nat.beq pc 20 then some (.aload_n 0) else none) else (bif Nat.beq pc 21 then some (.getfield 32) else none)))) else (bif Nat.blt pc 27 then (bif Nat.blt pc 25 then (bif Nat.beq pc 24 then some (.iload_n 1) else none) else (bif Nat.blt pc 26 then (bif Nat.beq pc 25 then some (.iaload) else none) else (bif Nat.beq pc 26 then some (.iadd) else none))) else (bif Nat.blt pc 30 then (bif Nat.beq pc 27 then some (.if_icmp .ge 43) else none) else (bif Nat.blt pc 31 then (bif Nat.beq pc 30 then some (.iload_n 2) else none) else (bif Nat.beq pc 31 then some (.ifCond .ne 27) else none)))))) else (bif Nat.blt pc 53 then (bif Nat.blt pc 41 then (bif Nat.blt pc 38 then (bif Nat.blt pc 35 then (bif Nat.beq pc 34 then some (.aload_n 0) else none) else (bif Nat.beq pc 35 then some (.getfield 35) else none)) else (bif Nat.blt pc 39 then (bif Nat.beq pc 38 then some (.iload_n 3) else none) else (bif Nat.blt pc 40 then (bif Nat.beq pc 39 then some (.iaload) else none) else (bif Nat.beq pc 40 then some (.iconst 2) else none)))) else (bif Nat.blt pc 48 then (bif Nat.blt pc 44 then (bif Nat.beq pc 41 then some (.if_icmp .ne 21) else none) else (bif Nat.blt pc 45 then (bif Nat.beq pc 44 then some (.aload_n 0) else none) else (bif Nat.beq pc 45 then some (.getfield 79) else none))) else (bif Nat.blt pc 49 then (bif Nat.beq pc 48 then some (.aload_n 0) else none) else (bif Nat.blt pc 52 then (bif Nat.beq pc 49 then some (.getfield 38) else none) else (bif Nat.beq pc 52 then some (.iload_n 3) else none))))) else (bif Nat.blt pc 62 then (bif Nat.blt pc 55 then (bif Nat.blt pc 54 then (bif Nat.beq pc 53 then some (.iaload) else none) else (bif Nat.beq pc 54 then some (.baload) else none)) else (bif Nat.blt pc 58 then (bif Nat.beq pc 55 then some (.ifCond .eq 7) else none) else (bif Nat.blt pc 59 then (bif Nat.beq pc 58 then some (.iconst 1) else none) else (bif Nat.beq pc 59 then some (.goto 4) else none)))) else (bif Nat.blt pc 67 then (bif Nat.blt pc 63 then (bif Nat.beq pc 62 then some (.iconst 0) else none) else (bif Nat.blt pc 64 then (bif Nat.beq pc 63 then some (.istore_n 2) else none) else (bif Nat.beq pc 64 then some (.iinc 3 1) else none))) else (bif Nat.blt pc 70 then (bif Nat.beq pc 67 then some (.goto (-60)) else none) else (bif Nat.blt pc 71 then (bif Nat.beq pc 70 then some (.iload_n 2) else none) else (bif Nat.beq pc 71 then some (.ireturn) else none)))))))
def px_a_Model_drop (pc : Nat) : Option Instr := (bif Nat.blt pc 47 then (bif Nat.blt pc 25 then (bif Nat.blt pc 12 then (bif Nat.blt pc 3 then (bif Nat.blt pc 1 then (bif Nat.beq pc 0 then some (.aload_n 0) else none) else (bif Nat.blt pc 2 then (bif Nat.beq pc 1 then some (.iload_n 1) else none) else (bif Nat.beq pc 2 then some (.iconst 0) else none))) else (bif Nat.blt pc 8 then (bif Nat.blt pc 5 then (bif Nat.beq pc 3 then some (.bipush 7) else none) else (bif Nat.beq pc 5 then some (.invokestatic 218) else none)) else (bif Nat.blt pc 11 then (bif Nat.beq pc 8 then some (.ifCond .eq 7) else none) else (bif Nat.beq pc 11 then some (.iconst 0) else none)))) else (bif Nat.blt pc 19 then (bif Nat.blt pc 15 then (bif Nat.beq pc 12 then some (.goto 4) else none) else (bif Nat.blt pc 16 then (bif Nat.beq pc 15 then some (.iconst 1) else none) else (bif Nat.beq pc 16 then some (.invokevirtual 99) else none))) else (bif Nat.blt pc 23 then (bif Nat.blt pc 22 then (bif Nat.beq pc 19 then some (.ifCond .eq 5) else none) else (bif Nat.beq pc 22 then some (.iconst 0) else none)) else (bif Nat.blt pc 24 then (bif Nat.beq pc 23 then some (.ireturn) else none) else (bif Nat.beq pc 24 then some (.iconst 0) else none))))) else (bif Nat.blt pc 34 then (bif Nat.blt pc 29 then (bif Nat.blt pc 26 then (bif Nat.beq pc 25 then some (.istore_n 2) else none) else (bif Nat.blt pc 28 then (bif Nat.beq pc 26 then some (.bipush 12) else none) else (bif Nat.beq pc 28 then some (.iload_n 1) else none))) else (bif Nat.blt pc 31 then (bif Nat.blt pc 30 then (bif Nat.beq pc 29 then some (.imul) else none) else (bif Nat.beq pc 30 then some (.istore_n 3) else none)) else (bif Nat.blt pc 32 then (bif Nat.beq pc 31 then some (.iload_n 3) else none) else (bif Nat.beq pc 32 then some (.bipush 12) else none)))) else (bif Nat.blt pc 39 then (bif Nat.blt pc 36 then (bif Nat.blt pc 35 then (bif Nat.beq pc 34 then some (.iload_n 1) else none) else (bif Nat.beq pc 35 then some (.imul) else none)) else (bif Nat.blt pc 38 then (bif Nat.beq pc 36 then some (.bipush 12) else none) else (bif Nat.beq pc 38 then some (.iadd) else none))) else (bif Nat.blt pc 43 then (bif Nat.blt pc 42 then (bif Nat.beq pc 39 then some (.if_icmp .ge 38) else none) else (bif Nat.beq pc 42 then some (.aload_n 0) else none)) else (bif Nat.blt pc 46 then (bif Nat.beq pc 43 then some (.getfield 13) else none) else (bif Nat.beq pc 46 then some (.iload_n 3) else none)))))) else (bif Nat.blt pc 68 then (bif Nat.blt pc 58 then (bif Nat.blt pc 52 then (bif Nat.blt pc 48 then (bif Nat.beq pc 47 then some (.iaload) else none) else (bif Nat.blt pc 51 then (bif Nat.beq pc 48 then some (.ifCond .le 9) else none) else (bif Nat.beq pc 51 then some (.iload_n 2) else none))) else (bif Nat.blt pc 54 then (bif Nat.blt pc 53 then (bif Nat.beq pc 52 then some (.iconst 1) else none) else (bif Nat.beq pc 53 then some (.iadd) else none)) else (bif Nat.blt pc 57 then (bif Nat.beq pc 54 then some (.goto 4) else none) else (bif Nat.beq pc 57 then some (.iload_n 2) else none)))) else (bif Nat.blt pc 64 then (bif Nat.blt pc 60 then (bif Nat.blt pc 59 then (bif Nat.beq pc 58 then some (.istore_n 2) else none) else (bif Nat.beq pc 59 then some (.aload_n 0) else none)) else (bif Nat.blt pc 63 then (bif Nat.beq pc 60 then some (.getfield 13) else none) else (bif Nat.beq pc 63 then some (.iload_n 3) else none))) else (bif Nat.blt pc 66 then (bif Nat.blt pc 65 then (bif Nat.beq pc 64 then some (.iconst 0) else none) else (bif Nat.beq pc 65 then some (.iastore) else none)) else (bif Nat.blt pc 67 then (bif Nat.beq pc 66 then some (.aload_n 0) else none) else (bif Nat.beq pc 67 then some (.iload_n 3) else none))))) else (bif Nat.blt pc 83 then (bif Nat.blt pc 77 then (bif Nat.blt pc 71 then (bif Nat.beq pc 68 then some (.invokevirtual 202) else none) else (bif Nat.blt pc 74 then (bif Nat.beq pc 71 then some (.iinc 3 1) else none) else (bif Nat.beq pc 74 then some (.goto (-43)) else none))) else (bif Nat.blt pc 79 then (bif Nat.blt pc 78 then (bif Nat.beq pc 77 then some (.aload_n 0) else none) else (bif Nat.beq pc 78 then some (.iconst 0) else none)) else (bif Nat.blt pc 82 then (bif Nat.beq pc 79 then some (.putfield 199) else none) else (bif Nat.beq pc 82 then some (.aload_n 0) else none)))) else (bif Nat.blt pc 91 then (bif Nat.blt pc 87 then (bif Nat.blt pc 84 then (bif Nat.beq pc 83 then some (.iconst 0) else none) else (bif Nat.beq pc 84 then some (.putfield 205) else none)) else (bif Nat.blt pc 88 then (bif Nat.beq pc 87 then some (.aload_n 0) else none) else (bif Nat.beq pc 88 then some (.invokevirtual 209) else none))) else (bif Nat.blt pc 95 then (bif Nat.blt pc 92 then (bif Nat.beq pc 91 then some (.aload_n 0) else none) else (bif Nat.beq pc 92 then some (.invokevirtual 212) else none)) else (bif Nat.blt pc 96 then (bif Nat.beq pc 95 then some (.iload_n 2) else none) else (bif Nat.beq pc 96 then some (.ireturn) else none)))))))
def px_a_Model_undo (pc : Nat) : Option Instr := (bif Nat.blt pc 23 then (bif Nat.blt pc 12 then (bif Nat.blt pc 5 then (bif Nat.blt pc 1 then (bif Nat.beq pc 0 then some (.aload_n 0) else none) else (bif Nat.blt pc 2 then (bif Nat.beq pc 1 then some (.aload_n 0) else none) else (bif Nat.beq pc 2 then some (.getfield 199) else none))) else (bif Nat.blt pc 8 then (bif Nat.beq pc 5 then some (.ifCond .le 7) else none) else (bif Nat.blt pc 9 then (bif Nat.beq pc 8 then some (.iconst 0) else none) else (bif Nat.beq pc 9 then some (.goto 4) else none)))) else (bif Nat.blt pc 19 then (bif Nat.blt pc 13 then (bif Nat.beq pc 12 then some (.iconst 1) else none) else (bif Nat.blt pc 16 then (bif Nat.beq pc 13 then some (.invokevirtual 99) else none) else (bif Nat.beq pc 16 then some (.ifCond .eq 5) else none))) else (bif Nat.blt pc 21 then (bif Nat.blt pc 20 then (bif Nat.beq pc 19 then some (.iconst 0) else none) else (bif Nat.beq pc 20 then some (.ireturn) else none)) else (bif Nat.blt pc 22 then (bif Nat.beq pc 21 then some (.aload_n 0) else none) else (bif Nat.beq pc 22 then some (.dup) else none))))) else (bif Nat.blt pc 33 then (bif Nat.blt pc 28 then (bif Nat.blt pc 26 then (bif Nat.beq pc 23 then some (.getfield 199) else none) else (bif Nat.blt pc 27 then (bif Nat.beq pc 26 then some (.iconst 1) else none) else (bif Nat.beq pc 27 then some (.isub) else none))) else (bif Nat.blt pc 31 then (bif Nat.beq pc 28 then some (.putfield 199) else none) else (bif Nat.blt pc 32 then (bif Nat.beq pc 31 then some (.aload_n 0) else none) else (bif Nat.beq pc 32 then some (.aload_n 0) else none)))) else (bif Nat.blt pc 40 then (bif Nat.blt pc 36 then (bif Nat.beq pc 33 then some (.getfield 63) else none) else (bif Nat.blt pc 37 then (bif Nat.beq pc 36 then some (.aload_n 0) else none) else (bif Nat.beq pc 37 then some (.getfield 199) else none))) else (bif Nat.blt pc 42 then (bif Nat.blt pc 41 then (bif Nat.beq pc 40 then some (.iaload) else none) else (bif Nat.beq pc 41 then some (.iconst 1) else none)) else (bif Nat.blt pc 45 then (bif Nat.beq pc 42 then some (.invokevirtual 228) else none) else (bif Nat.beq pc 45 then some (.ireturn) else none))))))
def px_a_Model_symbol (pc : Nat) : Option Instr := (bif Nat.blt pc 76 then (bif Nat.blt pc 41 then (bif Nat.blt pc 18 then (bif Nat.blt pc 8 then (bif Nat.blt pc 2 then (bif Nat.blt pc 1 then (bif Nat.beq pc 0 then some (.aload_n 0) else none) else (bif Nat.beq pc 1 then some (.iload_n 1) else none)) else (bif Nat.blt pc 3 then (bif Nat.beq pc 2 then some (.iconst 0) else none) else (bif Nat.blt pc 5 then (bif Nat.beq pc 3 then some (.bipush 7) else none) else (bif Nat.beq pc 5 then some (.invokestatic 218) else none)))) else (bif Nat.blt pc 12 then (bif Nat.blt pc 11 then (bif Nat.beq pc 8 then some (.ifCond .eq 26) else none) else (bif Nat.beq pc 11 then some (.iload_n 2) else none)) else (bif Nat.blt pc 13 then (bif Nat.beq pc 12 then some (.iconst 0) else none) else (bif Nat.blt pc 15 then (bif Nat.beq pc 13 then some (.bipush 25) else none) else (bif Nat.beq pc 15 then some (.invokestatic 218) else none))))) else (bif Nat.blt pc 27 then (bif Nat.blt pc 22 then (bif Nat.blt pc 21 then (bif Nat.beq pc 18 then some (.ifCond .eq 16) else none) else (bif Nat.beq pc 21 then some (.iload_n 3) else none)) else (bif Nat.blt pc 23 then (bif Nat.beq pc 22 then some (.iconst 0) else none) else (bif Nat.blt pc 24 then (bif Nat.beq pc 23 then some (.iconst 3) else none) else (bif Nat.beq pc 24 then some (.invokestatic 218) else none)))) else (bif Nat.blt pc 34 then (bif Nat.blt pc 30 then (bif Nat.beq pc 27 then some (.ifCond .eq 7) else none) else (bif Nat.blt pc 31 then (bif Nat.beq pc 30 then some (.iconst 0) else none) else (bif Nat.beq pc 31 then some (.goto 4) else none))) else (bif Nat.blt pc 35 then (bif Nat.beq pc 34 then some (.iconst 1) else none) else (bif Nat.blt pc 38 then (bif Nat.beq pc 35 then some (.invokevirtual 99) else none) else (bif Nat.beq pc 38 then some (.ifCond .eq 5) else none)))))) else (bif Nat.blt pc 56 then (bif Nat.blt pc 47 then (bif Nat.blt pc 43 then (bif Nat.blt pc 42 then (bif Nat.beq pc 41 then some (.iconst 0) else none) else (bif Nat.beq pc 42 then some (.ireturn) else none)) else (bif Nat.blt pc 45 then (bif Nat.beq pc 43 then some (.bipush 26) else none) else (bif Nat.blt pc 46 then (bif Nat.beq pc 45 then some (.iload_n 1) else none) else (bif Nat.beq pc 46 then some (.imul) else none)))) else (bif Nat.blt pc 51 then (bif Nat.blt pc 48 then (bif Nat.beq pc 47 then some (.iload_n 2) else none) else (bif Nat.blt pc 49 then (bif Nat.beq pc 48 then some (.iadd) else none) else (bif Nat.beq pc 49 then some (.istore 4) else none))) else (bif Nat.blt pc 52 then (bif Nat.beq pc 51 then some (.iload_n 3) else none) else (bif Nat.blt pc 55 then (bif Nat.beq pc 52 then some (.ifCond .eq 8) else none) else (bif Nat.beq pc 55 then some (.iload_n 3) else none))))) else (bif Nat.blt pc 66 then (bif Nat.blt pc 60 then (bif Nat.blt pc 57 then (bif Nat.beq pc 56 then some (.iconst 3) else none) else (bif Nat.beq pc 57 then some (.if_icmp .ne 38) else none)) else (bif Nat.blt pc 61 then (bif Nat.beq pc 60 then some (.aload_n 0) else none) else (bif Nat.blt pc 64 then (bif Nat.beq pc 61 then some (.getfield 50) else none) else (bif Nat.beq pc 64 then some (.iload 4) else none)))) else (bif Nat.blt pc 71 then (bif Nat.blt pc 67 then (bif Nat.beq pc 66 then some (.baload) else none) else (bif Nat.blt pc 70 then (bif Nat.beq pc 67 then some (.ifCond .ne 5) else none) else (bif Nat.beq pc 70 then some (.iconst (-1)) else none))) else (bif Nat.blt pc 72 then (bif Nat.beq pc 71 then some (.ireturn) else none) else (bif Nat.blt pc 73 then (bif Nat.beq pc 72 then some (.iload_n 3) else none) else (bif Nat.beq pc 73 then some (.ifCond .ne 11) else none))))))) else (bif Nat.blt pc 113 then (bif Nat.blt pc 94 then (bif Nat.blt pc 84 then (bif Nat.blt pc 80 then (bif Nat.blt pc 77 then (bif Nat.beq pc 76 then some (.aload_n 0) else none) else (bif Nat.beq pc 77 then some (.getfield 47) else none)) else (bif Nat.blt pc 82 then (bif Nat.beq pc 80 then some (.iload 4) else none) else (bif Nat.blt pc 83 then (bif Nat.beq pc 82 then some (.iaload) else none) else (bif Nat.beq pc 83 then some (.ireturn) else none)))) else (bif Nat.blt pc 88 then (bif Nat.blt pc 85 then (bif Nat.beq pc 84 then some (.aload_n 0) else none) else (bif Nat.beq pc 85 then some (.invokevirtual 234) else none)) else (bif Nat.blt pc 89 then (bif Nat.beq pc 88 then some (.aload_n 0) else none) else (bif Nat.blt pc 91 then (bif Nat.beq pc 89 then some (.iload 4) else none) else (bif Nat.beq pc 91 then some (.invokevirtual 237) else none))))) else (bif Nat.blt pc 101 then (bif Nat.blt pc 96 then (bif Nat.blt pc 95 then (bif Nat.beq pc 94 then some (.ireturn) else none) else (bif Nat.beq pc 95 then some (.iconst 0) else none)) else (bif Nat.blt pc 98 then (bif Nat.beq pc 96 then some (.istore 5) else none) else (bif Nat.blt pc 99 then (bif Nat.beq pc 98 then some (.iconst 0) else none) else (bif Nat.beq pc 99 then some (.istore 6) else none)))) else (bif Nat.blt pc 108 then (bif Nat.blt pc 103 then (bif Nat.beq pc 101 then some (.iload 6) else none) else (bif Nat.blt pc 105 then (bif Nat.beq pc 103 then some (.bipush 96) else none) else (bif Nat.beq pc 105 then some (.if_icmp .ge 51) else none))) else (bif Nat.blt pc 109 then (bif Nat.beq pc 108 then some (.iload_n 3) else none) else (bif Nat.blt pc 110 then (bif Nat.beq pc 109 then some (.iconst 1) else none) else (bif Nat.beq pc 110 then some (.if_icmp .ne 18) else none)))))) else (bif Nat.blt pc 136 then (bif Nat.blt pc 122 then (bif Nat.blt pc 117 then (bif Nat.blt pc 114 then (bif Nat.beq pc 113 then some (.aload_n 0) else none) else (bif Nat.beq pc 114 then some (.getfield 23) else none)) else (bif Nat.blt pc 119 then (bif Nat.beq pc 117 then some (.iload 6) else none) else (bif Nat.blt pc 120 then (bif Nat.beq pc 119 then some (.iaload) else none) else (bif Nat.beq pc 120 then some (.iload 4) else none)))) else (bif Nat.blt pc 129 then (bif Nat.blt pc 125 then (bif Nat.beq pc 122 then some (.if_icmp .ne 24) else none) else (bif Nat.blt pc 128 then (bif Nat.beq pc 125 then some (.goto 14) else none) else (bif Nat.beq pc 128 then some (.aload_n 0) else none))) else (bif Nat.blt pc 131 then (bif Nat.beq pc 129 then some (.iload 6) else none) else (bif Nat.blt pc 133 then (bif Nat.beq pc 131 then some (.iload 4) else none) else (bif Nat.beq pc 133 then some (.invokevirtual 240) else none))))) else (bif Nat.blt pc 146 then (bif Nat.blt pc 141 then (bif Nat.blt pc 139 then (bif Nat.beq pc 136 then some (.ifCond .eq 10) else none) else (bif Nat.beq pc 139 then some (.iload 5) else none)) else (bif Nat.blt pc 142 then (bif Nat.beq pc 141 then some (.iconst 1) else none) else (bif Nat.blt pc 143 then (bif Nat.beq pc 142 then some (.iadd) else none) else (bif Nat.beq pc 143 then some (.goto 5) else none)))) else (bif Nat.blt pc 153 then (bif Nat.blt pc 148 then (bif Nat.beq pc 146 then some (.iload 5) else none) else (bif Nat.blt pc 150 then (bif Nat.beq pc 148 then some (.istore 5) else none) else (bif Nat.beq pc 150 then some (.iinc 6 1) else none))) else (bif Nat.blt pc 156 then (bif Nat.beq pc 153 then some (.goto (-52)) else none) else (bif Nat.blt pc 158 then (bif Nat.beq pc 156 then some (.iload 5) else none) else (bif Nat.beq pc 158 then some (.ireturn) else none))))))))
def px_a_Model_know (pc : Nat) : Option Instr := (bif Nat.blt pc 98 then (bif Nat.blt pc 50 then (bif Nat.blt pc 25 then (bif Nat.blt pc 13 then (bif Nat.blt pc 7 then (bif Nat.blt pc 1 then (bif Nat.beq pc 0 then some (.aload_n 0) else none) else (bif Nat.blt pc 4 then (bif Nat.beq pc 1 then some (.getfield 205) else none) else (bif Nat.beq pc 4 then some (.ifCond .eq 4) else none))) else (bif Nat.blt pc 9 then (bif Nat.blt pc 8 then (bif Nat.beq pc 7 then some (.return_) else none) else (bif Nat.beq pc 8 then some (.aload_n 0) else none)) else (bif Nat.blt pc 10 then (bif Nat.beq pc 9 then some (.iconst 1) else none) else (bif Nat.beq pc 10 then some (.putfield 205) else none)))) else (bif Nat.blt pc 16 then (bif Nat.blt pc 14 then (bif Nat.beq pc 13 then some (.iconst 0) else none) else (bif Nat.blt pc 15 then (bif Nat.beq pc 14 then some (.istore_n 1) else none) else (bif Nat.beq pc 15 then some (.iload_n 1) else none))) else (bif Nat.blt pc 21 then (bif Nat.blt pc 18 then (bif Nat.beq pc 16 then some (.ldc 72) else none) else (bif Nat.beq pc 18 then some (.if_icmp .ge 16) else none)) else (bif Nat.blt pc 22 then (bif Nat.beq pc 21 then some (.aload_n 0) else none) else (bif Nat.beq pc 22 then some (.getfield 73) else none))))) else (bif Nat.blt pc 36 then (bif Nat.blt pc 28 then (bif Nat.blt pc 26 then (bif Nat.beq pc 25 then some (.iload_n 1) else none) else (bif Nat.blt pc 27 then (bif Nat.beq pc 26 then some (.iconst 0) else none) else (bif Nat.beq pc 27 then some (.bastore) else none))) else (bif Nat.blt pc 34 then (bif Nat.blt pc 31 then (bif Nat.beq pc 28 then some (.iinc 1 1) else none) else (bif Nat.beq pc 31 then some (.goto (-16)) else none)) else (bif Nat.blt pc 35 then (bif Nat.beq pc 34 then some (.iconst 0) else none) else (bif Nat.beq pc 35 then some (.istore_n 1) else none)))) else (bif Nat.blt pc 44 then (bif Nat.blt pc 40 then (bif Nat.blt pc 37 then (bif Nat.beq pc 36 then some (.iload_n 1) else none) else (bif Nat.beq pc 37 then some (.sipush 208) else none)) else (bif Nat.blt pc 43 then (bif Nat.beq pc 40 then some (.if_icmp .ge 164) else none) else (bif Nat.beq pc 43 then some (.aload_n 0) else none))) else (bif Nat.blt pc 48 then (bif Nat.blt pc 47 then (bif Nat.beq pc 44 then some (.getfield 50) else none) else (bif Nat.beq pc 47 then some (.iload_n 1) else none)) else (bif Nat.blt pc 49 then (bif Nat.beq pc 48 then some (.baload) else none) else (bif Nat.beq pc 49 then some (.istore_n 2) else none)))))) else (bif Nat.blt pc 73 then (bif Nat.blt pc 59 then (bif Nat.blt pc 55 then (bif Nat.blt pc 51 then (bif Nat.beq pc 50 then some (.iload_n 2) else none) else (bif Nat.blt pc 54 then (bif Nat.beq pc 51 then some (.ifCond .eq 147) else none) else (bif Nat.beq pc 54 then some (.iconst 0) else none))) else (bif Nat.blt pc 57 then (bif Nat.blt pc 56 then (bif Nat.beq pc 55 then some (.istore_n 2) else none) else (bif Nat.beq pc 56 then some (.iconst 0) else none)) else (bif Nat.blt pc 58 then (bif Nat.beq pc 57 then some (.istore_n 3) else none) else (bif Nat.beq pc 58 then some (.iload_n 3) else none)))) else (bif Nat.blt pc 65 then (bif Nat.blt pc 61 then (bif Nat.beq pc 59 then some (.bipush 96) else none) else (bif Nat.blt pc 64 then (bif Nat.beq pc 61 then some (.if_icmp .ge 134) else none) else (bif Nat.beq pc 64 then some (.aload_n 0) else none))) else (bif Nat.blt pc 69 then (bif Nat.blt pc 68 then (bif Nat.beq pc 65 then some (.getfield 23) else none) else (bif Nat.beq pc 68 then some (.iload_n 3) else none)) else (bif Nat.blt pc 70 then (bif Nat.beq pc 69 then some (.iaload) else none) else (bif Nat.beq pc 70 then some (.ifCond .lt 37) else none))))) else (bif Nat.blt pc 84 then (bif Nat.blt pc 78 then (bif Nat.blt pc 74 then (bif Nat.beq pc 73 then some (.aload_n 0) else none) else (bif Nat.blt pc 77 then (bif Nat.beq pc 74 then some (.getfield 23) else none) else (bif Nat.beq pc 77 then some (.iload_n 3) else none))) else (bif Nat.blt pc 80 then (bif Nat.blt pc 79 then (bif Nat.beq pc 78 then some (.iaload) else none) else (bif Nat.beq pc 79 then some (.iload_n 1) else none)) else (bif Nat.blt pc 83 then (bif Nat.beq pc 80 then some (.if_icmp .eq 23) else none) else (bif Nat.beq pc 83 then some (.aload_n 0) else none)))) else (bif Nat.blt pc 92 then (bif Nat.blt pc 90 then (bif Nat.blt pc 87 then (bif Nat.beq pc 84 then some (.getfield 73) else none) else (bif Nat.beq pc 87 then some (.sipush 208) else none)) else (bif Nat.blt pc 91 then (bif Nat.beq pc 90 then some (.iload_n 1) else none) else (bif Nat.beq pc 91 then some (.imul) else none))) else (bif Nat.blt pc 96 then (bif Nat.blt pc 93 then (bif Nat.beq pc 92 then some (.aload_n 0) else none) else (bif Nat.beq pc 93 then some (.getfield 23) else none)) else (bif Nat.blt pc 97 then (bif Nat.beq pc 96 then some (.iload_n 3) else none) else (bif Nat.beq pc 97 then some (.iaload) else none))))))) else (bif Nat.blt pc 148 then (bif Nat.blt pc 123 then (bif Nat.blt pc 110 then (bif Nat.blt pc 103 then (bif Nat.blt pc 99 then (bif Nat.beq pc 98 then some (.iadd) else none) else (bif Nat.blt pc 100 then (bif Nat.beq pc 99 then some (.baload) else none) else (bif Nat.beq pc 100 then some (.ifCond .eq 7) else none))) else (bif Nat.blt pc 107 then (bif Nat.blt pc 104 then (bif Nat.beq pc 103 then some (.iconst 1) else none) else (bif Nat.beq pc 104 then some (.goto 4) else none)) else (bif Nat.blt pc 108 then (bif Nat.beq pc 107 then some (.iconst 0) else none) else (bif Nat.beq pc 108 then some (.istore 4) else none)))) else (bif Nat.blt pc 114 then (bif Nat.blt pc 112 then (bif Nat.beq pc 110 then some (.bipush 64) else none) else (bif Nat.blt pc 113 then (bif Nat.beq pc 112 then some (.iload_n 3) else none) else (bif Nat.beq pc 113 then some (.imul) else none))) else (bif Nat.blt pc 118 then (bif Nat.blt pc 116 then (bif Nat.beq pc 114 then some (.istore 5) else none) else (bif Nat.beq pc 116 then some (.iload 4) else none)) else (bif Nat.blt pc 121 then (bif Nat.beq pc 118 then some (.ifCond .eq 71) else none) else (bif Nat.beq pc 121 then some (.iload 5) else none))))) else (bif Nat.blt pc 133 then (bif Nat.blt pc 127 then (bif Nat.blt pc 125 then (bif Nat.beq pc 123 then some (.bipush 64) else none) else (bif Nat.blt pc 126 then (bif Nat.beq pc 125 then some (.iload_n 3) else none) else (bif Nat.beq pc 126 then some (.imul) else none))) else (bif Nat.blt pc 131 then (bif Nat.blt pc 128 then (bif Nat.beq pc 127 then some (.aload_n 0) else none) else (bif Nat.beq pc 128 then some (.getfield 32) else none)) else (bif Nat.blt pc 132 then (bif Nat.beq pc 131 then some (.iload_n 3) else none) else (bif Nat.beq pc 132 then some (.iaload) else none)))) else (bif Nat.blt pc 141 then (bif Nat.blt pc 137 then (bif Nat.blt pc 134 then (bif Nat.beq pc 133 then some (.iadd) else none) else (bif Nat.beq pc 134 then some (.if_icmp .ge 55) else none)) else (bif Nat.blt pc 140 then (bif Nat.beq pc 137 then some (.sipush 208) else none) else (bif Nat.beq pc 140 then some (.iload_n 1) else none))) else (bif Nat.blt pc 143 then (bif Nat.blt pc 142 then (bif Nat.beq pc 141 then some (.imul) else none) else (bif Nat.beq pc 142 then some (.aload_n 0) else none)) else (bif Nat.blt pc 146 then (bif Nat.beq pc 143 then some (.getfield 38) else none) else (bif Nat.beq pc 146 then some (.iload 5) else none)))))) else (bif Nat.blt pc 173 then (bif Nat.blt pc 159 then (bif Nat.blt pc 152 then (bif Nat.blt pc 149 then (bif Nat.beq pc 148 then some (.iaload) else none) else (bif Nat.blt pc 150 then (bif Nat.beq pc 149 then some (.iadd) else none) else (bif Nat.beq pc 150 then some (.istore 6) else none))) else (bif Nat.blt pc 156 then (bif Nat.blt pc 153 then (bif Nat.beq pc 152 then some (.aload_n 0) else none) else (bif Nat.beq pc 153 then some (.getfield 35) else none)) else (bif Nat.blt pc 158 then (bif Nat.beq pc 156 then some (.iload 5) else none) else (bif Nat.beq pc 158 then some (.iaload) else none)))) else (bif Nat.blt pc 164 then (bif Nat.blt pc 160 then (bif Nat.beq pc 159 then some (.iconst 2) else none) else (bif Nat.blt pc 163 then (bif Nat.beq pc 160 then some (.if_icmp .ne 23) else none) else (bif Nat.beq pc 163 then some (.aload_n 0) else none))) else (bif Nat.blt pc 169 then (bif Nat.blt pc 167 then (bif Nat.beq pc 164 then some (.getfield 73) else none) else (bif Nat.beq pc 167 then some (.iload 6) else none)) else (bif Nat.blt pc 170 then (bif Nat.beq pc 169 then some (.baload) else none) else (bif Nat.beq pc 170 then some (.ifCond .ne 13) else none))))) else (bif Nat.blt pc 183 then (bif Nat.blt pc 179 then (bif Nat.blt pc 174 then (bif Nat.beq pc 173 then some (.aload_n 0) else none) else (bif Nat.blt pc 177 then (bif Nat.beq pc 174 then some (.getfield 73) else none) else (bif Nat.beq pc 177 then some (.iload 6) else none))) else (bif Nat.blt pc 181 then (bif Nat.blt pc 180 then (bif Nat.beq pc 179 then some (.iconst 1) else none) else (bif Nat.beq pc 180 then some (.bastore) else none)) else (bif Nat.blt pc 182 then (bif Nat.beq pc 181 then some (.iconst 1) else none) else (bif Nat.beq pc 182 then some (.istore_n 2) else none)))) else (bif Nat.blt pc 195 then (bif Nat.blt pc 189 then (bif Nat.blt pc 186 then (bif Nat.beq pc 183 then some (.iinc 5 1) else none) else (bif Nat.beq pc 186 then some (.goto (-70)) else none)) else (bif Nat.blt pc 192 then (bif Nat.beq pc 189 then some (.iinc 3 1) else none) else (bif Nat.beq pc 192 then some (.goto (-134)) else none))) else (bif Nat.blt pc 201 then (bif Nat.blt pc 198 then (bif Nat.beq pc 195 then some (.goto (-145)) else none) else (bif Nat.beq pc 198 then some (.iinc 1 1) else none)) else (bif Nat.blt pc 204 then (bif Nat.beq pc 201 then some (.goto (-165)) else none) else (bif Nat.beq pc 204 then some (.return_) else none))))))))
def px_a_Model_leastOf (pc : Nat) : Option Instr := (bif Nat.blt pc 11 then (bif Nat.blt pc 4 then (bif Nat.blt pc 2 then (bif Nat.blt pc 1 then (bif Nat.beq pc 0 then some (.iload_n 1) else none) else (bif Nat.beq pc 1 then some (.istore_n 2) else none)) else (bif Nat.blt pc 3 then (bif Nat.beq pc 2 then some (.iload_n 1) else none) else (bif Nat.beq pc 3 then some (.istore_n 3) else none))) else (bif Nat.blt pc 8 then (bif Nat.blt pc 5 then (bif Nat.beq pc 4 then some (.iload_n 3) else none) else (bif Nat.beq pc 5 then some (.ifCond .lt 24) else none)) else (bif Nat.blt pc 9 then (bif Nat.beq pc 8 then some (.aload_n 0) else none) else (bif Nat.blt pc 10 then (bif Nat.beq pc 9 then some (.iload_n 1) else none) else (bif Nat.beq pc 10 then some (.iload_n 3) else none))))) else (bif Nat.blt pc 22 then (bif Nat.blt pc 17 then (bif Nat.blt pc 14 then (bif Nat.beq pc 11 then some (.invokevirtual 231) else none) else (bif Nat.beq pc 14 then some (.ifCond .eq 7) else none)) else (bif Nat.blt pc 18 then (bif Nat.beq pc 17 then some (.iload_n 3) else none) else (bif Nat.blt pc 21 then (bif Nat.beq pc 18 then some (.goto 4) else none) else (bif Nat.beq pc 21 then some (.iload_n 2) else none)))) else (bif Nat.blt pc 26 then (bif Nat.blt pc 23 then (bif Nat.beq pc 22 then some (.istore_n 2) else none) else (bif Nat.beq pc 23 then some (.iinc 3 (-1)) else none)) else (bif Nat.blt pc 29 then (bif Nat.beq pc 26 then some (.goto (-22)) else none) else (bif Nat.blt pc 30 then (bif Nat.beq pc 29 then some (.iload_n 2) else none) else (bif Nat.beq pc 30 then some (.ireturn) else none))))))
def px_a_Model_areOne (pc : Nat) : Option Instr := (bif Nat.blt pc 20 then (bif Nat.blt pc 12 then (bif Nat.blt pc 5 then (bif Nat.blt pc 1 then (bif Nat.beq pc 0 then some (.iload_n 1) else none) else (bif Nat.blt pc 2 then (bif Nat.beq pc 1 then some (.iload_n 2) else none) else (bif Nat.beq pc 2 then some (.if_icmp .eq 33) else none))) else (bif Nat.blt pc 6 then (bif Nat.beq pc 5 then some (.aload_n 0) else none) else (bif Nat.blt pc 9 then (bif Nat.beq pc 6 then some (.getfield 73) else none) else (bif Nat.beq pc 9 then some (.sipush 208) else none)))) else (bif Nat.blt pc 15 then (bif Nat.blt pc 13 then (bif Nat.beq pc 12 then some (.iload_n 1) else none) else (bif Nat.blt pc 14 then (bif Nat.beq pc 13 then some (.imul) else none) else (bif Nat.beq pc 14 then some (.iload_n 2) else none))) else (bif Nat.blt pc 16 then (bif Nat.beq pc 15 then some (.iadd) else none) else (bif Nat.blt pc 17 then (bif Nat.beq pc 16 then some (.baload) else none) else (bif Nat.beq pc 17 then some (.ifCond .eq 22) else none))))) else (bif Nat.blt pc 30 then (bif Nat.blt pc 27 then (bif Nat.blt pc 21 then (bif Nat.beq pc 20 then some (.aload_n 0) else none) else (bif Nat.blt pc 24 then (bif Nat.beq pc 21 then some (.getfield 73) else none) else (bif Nat.beq pc 24 then some (.sipush 208) else none))) else (bif Nat.blt pc 28 then (bif Nat.beq pc 27 then some (.iload_n 2) else none) else (bif Nat.blt pc 29 then (bif Nat.beq pc 28 then some (.imul) else none) else (bif Nat.beq pc 29 then some (.iload_n 1) else none)))) else (bif Nat.blt pc 35 then (bif Nat.blt pc 31 then (bif Nat.beq pc 30 then some (.iadd) else none) else (bif Nat.blt pc 32 then (bif Nat.beq pc 31 then some (.baload) else none) else (bif Nat.beq pc 32 then some (.ifCond .eq 7) else none))) else (bif Nat.blt pc 39 then (bif Nat.blt pc 36 then (bif Nat.beq pc 35 then some (.iconst 1) else none) else (bif Nat.beq pc 36 then some (.goto 4) else none)) else (bif Nat.blt pc 40 then (bif Nat.beq pc 39 then some (.iconst 0) else none) else (bif Nat.beq pc 40 then some (.ireturn) else none))))))
def px_a_Model_reads (pc : Nat) : Option Instr := (bif Nat.blt pc 33 then (bif Nat.blt pc 16 then (bif Nat.blt pc 6 then (bif Nat.blt pc 2 then (bif Nat.blt pc 1 then (bif Nat.beq pc 0 then some (.iconst 0) else none) else (bif Nat.beq pc 1 then some (.istore_n 3) else none)) else (bif Nat.blt pc 4 then (bif Nat.beq pc 2 then some (.bipush 64) else none) else (bif Nat.blt pc 5 then (bif Nat.beq pc 4 then some (.iload_n 1) else none) else (bif Nat.beq pc 5 then some (.imul) else none)))) else (bif Nat.blt pc 9 then (bif Nat.blt pc 8 then (bif Nat.beq pc 6 then some (.istore 4) else none) else (bif Nat.beq pc 8 then some (.aload_n 0) else none)) else (bif Nat.blt pc 10 then (bif Nat.beq pc 9 then some (.iload_n 1) else none) else (bif Nat.blt pc 13 then (bif Nat.beq pc 10 then some (.invokevirtual 156) else none) else (bif Nat.beq pc 13 then some (.ifCond .eq 57) else none))))) else (bif Nat.blt pc 23 then (bif Nat.blt pc 20 then (bif Nat.blt pc 18 then (bif Nat.beq pc 16 then some (.iload 4) else none) else (bif Nat.beq pc 18 then some (.bipush 64) else none)) else (bif Nat.blt pc 21 then (bif Nat.beq pc 20 then some (.iload_n 1) else none) else (bif Nat.blt pc 22 then (bif Nat.beq pc 21 then some (.imul) else none) else (bif Nat.beq pc 22 then some (.aload_n 0) else none)))) else (bif Nat.blt pc 28 then (bif Nat.blt pc 26 then (bif Nat.beq pc 23 then some (.getfield 32) else none) else (bif Nat.blt pc 27 then (bif Nat.beq pc 26 then some (.iload_n 1) else none) else (bif Nat.beq pc 27 then some (.iaload) else none))) else (bif Nat.blt pc 29 then (bif Nat.beq pc 28 then some (.iadd) else none) else (bif Nat.blt pc 32 then (bif Nat.beq pc 29 then some (.if_icmp .ge 41) else none) else (bif Nat.beq pc 32 then some (.iload_n 3) else none)))))) else (bif Nat.blt pc 53 then (bif Nat.blt pc 43 then (bif Nat.blt pc 37 then (bif Nat.blt pc 36 then (bif Nat.beq pc 33 then some (.ifCond .ne 25) else none) else (bif Nat.beq pc 36 then some (.aload_n 0) else none)) else (bif Nat.blt pc 40 then (bif Nat.beq pc 37 then some (.getfield 35) else none) else (bif Nat.blt pc 42 then (bif Nat.beq pc 40 then some (.iload 4) else none) else (bif Nat.beq pc 42 then some (.iaload) else none)))) else (bif Nat.blt pc 47 then (bif Nat.blt pc 44 then (bif Nat.beq pc 43 then some (.iconst 2) else none) else (bif Nat.beq pc 44 then some (.if_icmp .ne 18) else none)) else (bif Nat.blt pc 48 then (bif Nat.beq pc 47 then some (.aload_n 0) else none) else (bif Nat.blt pc 51 then (bif Nat.beq pc 48 then some (.getfield 38) else none) else (bif Nat.beq pc 51 then some (.iload 4) else none))))) else (bif Nat.blt pc 62 then (bif Nat.blt pc 55 then (bif Nat.blt pc 54 then (bif Nat.beq pc 53 then some (.iaload) else none) else (bif Nat.beq pc 54 then some (.iload_n 2) else none)) else (bif Nat.blt pc 58 then (bif Nat.beq pc 55 then some (.if_icmp .ne 7) else none) else (bif Nat.blt pc 59 then (bif Nat.beq pc 58 then some (.iconst 1) else none) else (bif Nat.beq pc 59 then some (.goto 4) else none)))) else (bif Nat.blt pc 67 then (bif Nat.blt pc 63 then (bif Nat.beq pc 62 then some (.iconst 0) else none) else (bif Nat.blt pc 64 then (bif Nat.beq pc 63 then some (.istore_n 3) else none) else (bif Nat.beq pc 64 then some (.iinc 4 1) else none))) else (bif Nat.blt pc 70 then (bif Nat.beq pc 67 then some (.goto (-59)) else none) else (bif Nat.blt pc 71 then (bif Nat.beq pc 70 then some (.iload_n 3) else none) else (bif Nat.beq pc 71 then some (.ireturn) else none)))))))
def px_a_Model_line (pc : Nat) : Option Instr := (bif Nat.blt pc 87 then (bif Nat.blt pc 45 then (bif Nat.blt pc 22 then (bif Nat.blt pc 11 then (bif Nat.blt pc 3 then (bif Nat.blt pc 1 then (bif Nat.beq pc 0 then some (.aload_n 0) else none) else (bif Nat.blt pc 2 then (bif Nat.beq pc 1 then some (.iload_n 1) else none) else (bif Nat.beq pc 2 then some (.iconst 0) else none))) else (bif Nat.blt pc 5 then (bif Nat.beq pc 3 then some (.bipush 7) else none) else (bif Nat.blt pc 8 then (bif Nat.beq pc 5 then some (.invokestatic 218) else none) else (bif Nat.beq pc 8 then some (.ifCond .eq 26) else none)))) else (bif Nat.blt pc 15 then (bif Nat.blt pc 12 then (bif Nat.beq pc 11 then some (.iload_n 2) else none) else (bif Nat.blt pc 13 then (bif Nat.beq pc 12 then some (.iconst 0) else none) else (bif Nat.beq pc 13 then some (.bipush 11) else none))) else (bif Nat.blt pc 18 then (bif Nat.beq pc 15 then some (.invokestatic 218) else none) else (bif Nat.blt pc 21 then (bif Nat.beq pc 18 then some (.ifCond .eq 16) else none) else (bif Nat.beq pc 21 then some (.iload_n 3) else none))))) else (bif Nat.blt pc 34 then (bif Nat.blt pc 27 then (bif Nat.blt pc 23 then (bif Nat.beq pc 22 then some (.iconst 0) else none) else (bif Nat.blt pc 24 then (bif Nat.beq pc 23 then some (.iconst 4) else none) else (bif Nat.beq pc 24 then some (.invokestatic 218) else none))) else (bif Nat.blt pc 30 then (bif Nat.beq pc 27 then some (.ifCond .eq 7) else none) else (bif Nat.blt pc 31 then (bif Nat.beq pc 30 then some (.iconst 0) else none) else (bif Nat.beq pc 31 then some (.goto 4) else none)))) else (bif Nat.blt pc 41 then (bif Nat.blt pc 35 then (bif Nat.beq pc 34 then some (.iconst 1) else none) else (bif Nat.blt pc 38 then (bif Nat.beq pc 35 then some (.invokevirtual 99) else none) else (bif Nat.beq pc 38 then some (.ifCond .eq 5) else none))) else (bif Nat.blt pc 42 then (bif Nat.beq pc 41 then some (.iconst 0) else none) else (bif Nat.blt pc 43 then (bif Nat.beq pc 42 then some (.ireturn) else none) else (bif Nat.beq pc 43 then some (.bipush 12) else none)))))) else (bif Nat.blt pc 63 then (bif Nat.blt pc 52 then (bif Nat.blt pc 48 then (bif Nat.blt pc 46 then (bif Nat.beq pc 45 then some (.iload_n 1) else none) else (bif Nat.blt pc 47 then (bif Nat.beq pc 46 then some (.imul) else none) else (bif Nat.beq pc 47 then some (.iload_n 2) else none))) else (bif Nat.blt pc 49 then (bif Nat.beq pc 48 then some (.iadd) else none) else (bif Nat.blt pc 51 then (bif Nat.beq pc 49 then some (.istore 4) else none) else (bif Nat.beq pc 51 then some (.aload_n 0) else none)))) else (bif Nat.blt pc 58 then (bif Nat.blt pc 55 then (bif Nat.beq pc 52 then some (.getfield 13) else none) else (bif Nat.blt pc 57 then (bif Nat.beq pc 55 then some (.iload 4) else none) else (bif Nat.beq pc 57 then some (.iaload) else none))) else (bif Nat.blt pc 61 then (bif Nat.beq pc 58 then some (.ifCond .ne 5) else none) else (bif Nat.blt pc 62 then (bif Nat.beq pc 61 then some (.iconst (-1)) else none) else (bif Nat.beq pc 62 then some (.ireturn) else none))))) else (bif Nat.blt pc 72 then (bif Nat.blt pc 67 then (bif Nat.blt pc 64 then (bif Nat.beq pc 63 then some (.iconst 0) else none) else (bif Nat.blt pc 66 then (bif Nat.beq pc 64 then some (.istore 5) else none) else (bif Nat.beq pc 66 then some (.iconst 0) else none))) else (bif Nat.blt pc 69 then (bif Nat.beq pc 67 then some (.istore 6) else none) else (bif Nat.blt pc 71 then (bif Nat.beq pc 69 then some (.iload 6) else none) else (bif Nat.beq pc 71 then some (.aload_n 0) else none)))) else (bif Nat.blt pc 79 then (bif Nat.blt pc 75 then (bif Nat.beq pc 72 then some (.getfield 164) else none) else (bif Nat.blt pc 78 then (bif Nat.beq pc 75 then some (.if_icmp .ge 32) else none) else (bif Nat.beq pc 78 then some (.aload_n 0) else none))) else (bif Nat.blt pc 84 then (bif Nat.blt pc 82 then (bif Nat.beq pc 79 then some (.getfield 54) else none) else (bif Nat.beq pc 82 then some (.iload 6) else none)) else (bif Nat.blt pc 85 then (bif Nat.beq pc 84 then some (.iaload) else none) else (bif Nat.beq pc 85 then some (.iload 4) else none))))))) else (bif Nat.blt pc 139 then (bif Nat.blt pc 112 then (bif Nat.blt pc 99 then (bif Nat.blt pc 93 then (bif Nat.blt pc 90 then (bif Nat.beq pc 87 then some (.if_icmp .ne 10) else none) else (bif Nat.blt pc 92 then (bif Nat.beq pc 90 then some (.iload 5) else none) else (bif Nat.beq pc 92 then some (.iconst 1) else none))) else (bif Nat.blt pc 94 then (bif Nat.beq pc 93 then some (.iadd) else none) else (bif Nat.blt pc 97 then (bif Nat.beq pc 94 then some (.goto 5) else none) else (bif Nat.beq pc 97 then some (.iload 5) else none)))) else (bif Nat.blt pc 107 then (bif Nat.blt pc 101 then (bif Nat.beq pc 99 then some (.istore 5) else none) else (bif Nat.blt pc 104 then (bif Nat.beq pc 101 then some (.iinc 6 1) else none) else (bif Nat.beq pc 104 then some (.goto (-35)) else none))) else (bif Nat.blt pc 108 then (bif Nat.beq pc 107 then some (.iload_n 3) else none) else (bif Nat.blt pc 111 then (bif Nat.beq pc 108 then some (.ifCond .ne 13) else none) else (bif Nat.beq pc 111 then some (.aload_n 0) else none))))) else (bif Nat.blt pc 123 then (bif Nat.blt pc 118 then (bif Nat.blt pc 115 then (bif Nat.beq pc 112 then some (.getfield 13) else none) else (bif Nat.blt pc 117 then (bif Nat.beq pc 115 then some (.iload 4) else none) else (bif Nat.beq pc 117 then some (.iaload) else none))) else (bif Nat.blt pc 121 then (bif Nat.beq pc 118 then some (.goto 69) else none) else (bif Nat.blt pc 122 then (bif Nat.beq pc 121 then some (.iload_n 3) else none) else (bif Nat.beq pc 122 then some (.iconst 1) else none)))) else (bif Nat.blt pc 129 then (bif Nat.blt pc 126 then (bif Nat.beq pc 123 then some (.if_icmp .ne 20) else none) else (bif Nat.blt pc 127 then (bif Nat.beq pc 126 then some (.aload_n 0) else none) else (bif Nat.beq pc 127 then some (.iload 4) else none))) else (bif Nat.blt pc 135 then (bif Nat.blt pc 132 then (bif Nat.beq pc 129 then some (.invokevirtual 156) else none) else (bif Nat.beq pc 132 then some (.ifCond .eq 7) else none)) else (bif Nat.blt pc 136 then (bif Nat.beq pc 135 then some (.iconst 1) else none) else (bif Nat.beq pc 136 then some (.goto 51) else none)))))) else (bif Nat.blt pc 163 then (bif Nat.blt pc 150 then (bif Nat.blt pc 144 then (bif Nat.blt pc 140 then (bif Nat.beq pc 139 then some (.iconst 0) else none) else (bif Nat.blt pc 143 then (bif Nat.beq pc 140 then some (.goto 47) else none) else (bif Nat.beq pc 143 then some (.iload_n 3) else none))) else (bif Nat.blt pc 145 then (bif Nat.beq pc 144 then some (.iconst 3) else none) else (bif Nat.blt pc 148 then (bif Nat.beq pc 145 then some (.if_icmp .ne 8) else none) else (bif Nat.beq pc 148 then some (.iload 5) else none)))) else (bif Nat.blt pc 156 then (bif Nat.blt pc 153 then (bif Nat.beq pc 150 then some (.goto 37) else none) else (bif Nat.blt pc 154 then (bif Nat.beq pc 153 then some (.aload_n 0) else none) else (bif Nat.beq pc 154 then some (.iload 4) else none))) else (bif Nat.blt pc 159 then (bif Nat.beq pc 156 then some (.invokevirtual 156) else none) else (bif Nat.blt pc 162 then (bif Nat.beq pc 159 then some (.ifCond .ne 7) else none) else (bif Nat.beq pc 162 then some (.iconst (-1)) else none))))) else (bif Nat.blt pc 175 then (bif Nat.blt pc 168 then (bif Nat.blt pc 166 then (bif Nat.beq pc 163 then some (.goto 24) else none) else (bif Nat.blt pc 167 then (bif Nat.beq pc 166 then some (.iload_n 3) else none) else (bif Nat.beq pc 167 then some (.iconst 2) else none))) else (bif Nat.blt pc 171 then (bif Nat.beq pc 168 then some (.if_icmp .ne 13) else none) else (bif Nat.blt pc 172 then (bif Nat.beq pc 171 then some (.aload_n 0) else none) else (bif Nat.beq pc 172 then some (.getfield 44) else none)))) else (bif Nat.blt pc 181 then (bif Nat.blt pc 177 then (bif Nat.beq pc 175 then some (.iload 4) else none) else (bif Nat.blt pc 178 then (bif Nat.beq pc 177 then some (.iaload) else none) else (bif Nat.beq pc 178 then some (.goto 9) else none))) else (bif Nat.blt pc 184 then (bif Nat.blt pc 182 then (bif Nat.beq pc 181 then some (.aload_n 0) else none) else (bif Nat.beq pc 182 then some (.iload 4) else none)) else (bif Nat.blt pc 187 then (bif Nat.beq pc 184 then some (.invokevirtual 243) else none) else (bif Nat.beq pc 187 then some (.ireturn) else none))))))))
def px_a_Model_readCount (pc : Nat) : Option Instr := (bif Nat.blt pc 17 then (bif Nat.blt pc 5 then (bif Nat.blt pc 2 then (bif Nat.blt pc 1 then (bif Nat.beq pc 0 then some (.iconst 0) else none) else (bif Nat.beq pc 1 then some (.istore_n 2) else none)) else (bif Nat.blt pc 3 then (bif Nat.beq pc 2 then some (.iconst 0) else none) else (bif Nat.blt pc 4 then (bif Nat.beq pc 3 then some (.istore_n 3) else none) else (bif Nat.beq pc 4 then some (.iload_n 3) else none)))) else (bif Nat.blt pc 12 then (bif Nat.blt pc 8 then (bif Nat.beq pc 5 then some (.sipush 208) else none) else (bif Nat.blt pc 11 then (bif Nat.beq pc 8 then some (.if_icmp .ge 26) else none) else (bif Nat.beq pc 11 then some (.aload_n 0) else none))) else (bif Nat.blt pc 13 then (bif Nat.beq pc 12 then some (.iload_n 1) else none) else (bif Nat.blt pc 14 then (bif Nat.beq pc 13 then some (.iload_n 3) else none) else (bif Nat.beq pc 14 then some (.invokevirtual 240) else none))))) else (bif Nat.blt pc 26 then (bif Nat.blt pc 21 then (bif Nat.blt pc 20 then (bif Nat.beq pc 17 then some (.ifCond .eq 9) else none) else (bif Nat.beq pc 20 then some (.iload_n 2) else none)) else (bif Nat.blt pc 22 then (bif Nat.beq pc 21 then some (.iconst 1) else none) else (bif Nat.blt pc 23 then (bif Nat.beq pc 22 then some (.iadd) else none) else (bif Nat.beq pc 23 then some (.goto 4) else none)))) else (bif Nat.blt pc 31 then (bif Nat.blt pc 27 then (bif Nat.beq pc 26 then some (.iload_n 2) else none) else (bif Nat.blt pc 28 then (bif Nat.beq pc 27 then some (.istore_n 2) else none) else (bif Nat.beq pc 28 then some (.iinc 3 1) else none))) else (bif Nat.blt pc 34 then (bif Nat.beq pc 31 then some (.goto (-27)) else none) else (bif Nat.blt pc 35 then (bif Nat.beq pc 34 then some (.iload_n 2) else none) else (bif Nat.beq pc 35 then some (.ireturn) else none))))))
def px_a_Model_diagnostic (pc : Nat) : Option Instr := (bif Nat.blt pc 46 then (bif Nat.blt pc 23 then (bif Nat.blt pc 10 then (bif Nat.blt pc 3 then (bif Nat.blt pc 1 then (bif Nat.beq pc 0 then some (.aload_n 0) else none) else (bif Nat.blt pc 2 then (bif Nat.beq pc 1 then some (.iload_n 2) else none) else (bif Nat.beq pc 2 then some (.iconst 0) else none))) else (bif Nat.blt pc 4 then (bif Nat.beq pc 3 then some (.iconst 3) else none) else (bif Nat.blt pc 7 then (bif Nat.beq pc 4 then some (.invokestatic 218) else none) else (bif Nat.beq pc 7 then some (.ifCond .eq 7) else none)))) else (bif Nat.blt pc 15 then (bif Nat.blt pc 11 then (bif Nat.beq pc 10 then some (.iconst 0) else none) else (bif Nat.blt pc 14 then (bif Nat.beq pc 11 then some (.goto 4) else none) else (bif Nat.beq pc 14 then some (.iconst 1) else none))) else (bif Nat.blt pc 21 then (bif Nat.blt pc 18 then (bif Nat.beq pc 15 then some (.invokevirtual 99) else none) else (bif Nat.beq pc 18 then some (.ifCond .eq 5) else none)) else (bif Nat.blt pc 22 then (bif Nat.beq pc 21 then some (.iconst 0) else none) else (bif Nat.beq pc 22 then some (.ireturn) else none))))) else (bif Nat.blt pc 35 then (bif Nat.blt pc 28 then (bif Nat.blt pc 24 then (bif Nat.beq pc 23 then some (.iload_n 1) else none) else (bif Nat.blt pc 27 then (bif Nat.beq pc 24 then some (.ifCond .lt 11) else none) else (bif Nat.beq pc 27 then some (.iload_n 1) else none))) else (bif Nat.blt pc 29 then (bif Nat.beq pc 28 then some (.aload_n 0) else none) else (bif Nat.blt pc 32 then (bif Nat.beq pc 29 then some (.getfield 164) else none) else (bif Nat.beq pc 32 then some (.if_icmp .lt 5) else none)))) else (bif Nat.blt pc 38 then (bif Nat.blt pc 36 then (bif Nat.beq pc 35 then some (.iconst (-1)) else none) else (bif Nat.blt pc 37 then (bif Nat.beq pc 36 then some (.ireturn) else none) else (bif Nat.beq pc 37 then some (.iload_n 2) else none))) else (bif Nat.blt pc 42 then (bif Nat.blt pc 41 then (bif Nat.beq pc 38 then some (.ifCond .ne 15) else none) else (bif Nat.beq pc 41 then some (.aload_n 0) else none)) else (bif Nat.blt pc 45 then (bif Nat.beq pc 42 then some (.getfield 54) else none) else (bif Nat.beq pc 45 then some (.iload_n 1) else none)))))) else (bif Nat.blt pc 67 then (bif Nat.blt pc 55 then (bif Nat.blt pc 50 then (bif Nat.blt pc 47 then (bif Nat.beq pc 46 then some (.iaload) else none) else (bif Nat.blt pc 49 then (bif Nat.beq pc 47 then some (.bipush 12) else none) else (bif Nat.beq pc 49 then some (.idiv) else none))) else (bif Nat.blt pc 53 then (bif Nat.beq pc 50 then some (.goto 40) else none) else (bif Nat.blt pc 54 then (bif Nat.beq pc 53 then some (.iload_n 2) else none) else (bif Nat.beq pc 54 then some (.iconst 1) else none)))) else (bif Nat.blt pc 62 then (bif Nat.blt pc 58 then (bif Nat.beq pc 55 then some (.if_icmp .ne 15) else none) else (bif Nat.blt pc 59 then (bif Nat.beq pc 58 then some (.aload_n 0) else none) else (bif Nat.beq pc 59 then some (.getfield 54) else none))) else (bif Nat.blt pc 64 then (bif Nat.blt pc 63 then (bif Nat.beq pc 62 then some (.iload_n 1) else none) else (bif Nat.beq pc 63 then some (.iaload) else none)) else (bif Nat.blt pc 66 then (bif Nat.beq pc 64 then some (.bipush 12) else none) else (bif Nat.beq pc 66 then some (.irem) else none))))) else (bif Nat.blt pc 80 then (bif Nat.blt pc 72 then (bif Nat.blt pc 70 then (bif Nat.beq pc 67 then some (.goto 23) else none) else (bif Nat.blt pc 71 then (bif Nat.beq pc 70 then some (.iload_n 2) else none) else (bif Nat.beq pc 71 then some (.iconst 2) else none))) else (bif Nat.blt pc 76 then (bif Nat.blt pc 75 then (bif Nat.beq pc 72 then some (.if_icmp .ne 12) else none) else (bif Nat.beq pc 75 then some (.aload_n 0) else none)) else (bif Nat.blt pc 79 then (bif Nat.beq pc 76 then some (.getfield 57) else none) else (bif Nat.beq pc 79 then some (.iload_n 1) else none)))) else (bif Nat.blt pc 85 then (bif Nat.blt pc 81 then (bif Nat.beq pc 80 then some (.iaload) else none) else (bif Nat.blt pc 84 then (bif Nat.beq pc 81 then some (.goto 9) else none) else (bif Nat.beq pc 84 then some (.aload_n 0) else none))) else (bif Nat.blt pc 89 then (bif Nat.blt pc 88 then (bif Nat.beq pc 85 then some (.getfield 60) else none) else (bif Nat.beq pc 88 then some (.iload_n 1) else none)) else (bif Nat.blt pc 90 then (bif Nat.beq pc 89 then some (.iaload) else none) else (bif Nat.beq pc 90 then some (.ireturn) else none)))))))
def px_a_Model_count (pc : Nat) : Option Instr := (bif Nat.blt pc 96 then (bif Nat.blt pc 49 then (bif Nat.blt pc 23 then (bif Nat.blt pc 10 then (bif Nat.blt pc 3 then (bif Nat.blt pc 1 then (bif Nat.beq pc 0 then some (.aload_n 0) else none) else (bif Nat.blt pc 2 then (bif Nat.beq pc 1 then some (.iload_n 1) else none) else (bif Nat.beq pc 2 then some (.iconst 0) else none))) else (bif Nat.blt pc 4 then (bif Nat.beq pc 3 then some (.iconst 5) else none) else (bif Nat.blt pc 7 then (bif Nat.beq pc 4 then some (.invokestatic 218) else none) else (bif Nat.beq pc 7 then some (.ifCond .eq 7) else none)))) else (bif Nat.blt pc 15 then (bif Nat.blt pc 11 then (bif Nat.beq pc 10 then some (.iconst 0) else none) else (bif Nat.blt pc 14 then (bif Nat.beq pc 11 then some (.goto 4) else none) else (bif Nat.beq pc 14 then some (.iconst 1) else none))) else (bif Nat.blt pc 21 then (bif Nat.blt pc 18 then (bif Nat.beq pc 15 then some (.invokevirtual 99) else none) else (bif Nat.beq pc 18 then some (.ifCond .eq 5) else none)) else (bif Nat.blt pc 22 then (bif Nat.beq pc 21 then some (.iconst 0) else none) else (bif Nat.beq pc 22 then some (.ireturn) else none))))) else (bif Nat.blt pc 36 then (bif Nat.blt pc 28 then (bif Nat.blt pc 24 then (bif Nat.beq pc 23 then some (.iload_n 1) else none) else (bif Nat.blt pc 27 then (bif Nat.beq pc 24 then some (.ifCond .eq 8) else none) else (bif Nat.beq pc 27 then some (.iload_n 1) else none))) else (bif Nat.blt pc 32 then (bif Nat.blt pc 29 then (bif Nat.beq pc 28 then some (.iconst 5) else none) else (bif Nat.beq pc 29 then some (.if_icmp .ne 19) else none)) else (bif Nat.blt pc 33 then (bif Nat.beq pc 32 then some (.iload_n 1) else none) else (bif Nat.beq pc 33 then some (.ifCond .ne 10) else none)))) else (bif Nat.blt pc 43 then (bif Nat.blt pc 37 then (bif Nat.beq pc 36 then some (.aload_n 0) else none) else (bif Nat.blt pc 40 then (bif Nat.beq pc 37 then some (.getfield 164) else none) else (bif Nat.beq pc 40 then some (.goto 7) else none))) else (bif Nat.blt pc 47 then (bif Nat.blt pc 44 then (bif Nat.beq pc 43 then some (.aload_n 0) else none) else (bif Nat.beq pc 44 then some (.getfield 199) else none)) else (bif Nat.blt pc 48 then (bif Nat.beq pc 47 then some (.ireturn) else none) else (bif Nat.beq pc 48 then some (.aload_n 0) else none)))))) else (bif Nat.blt pc 72 then (bif Nat.blt pc 59 then (bif Nat.blt pc 54 then (bif Nat.blt pc 52 then (bif Nat.beq pc 49 then some (.invokevirtual 234) else none) else (bif Nat.blt pc 53 then (bif Nat.beq pc 52 then some (.iconst 0) else none) else (bif Nat.beq pc 53 then some (.istore_n 2) else none))) else (bif Nat.blt pc 56 then (bif Nat.blt pc 55 then (bif Nat.beq pc 54 then some (.iconst 0) else none) else (bif Nat.beq pc 55 then some (.istore_n 3) else none)) else (bif Nat.blt pc 57 then (bif Nat.beq pc 56 then some (.iload_n 3) else none) else (bif Nat.beq pc 57 then some (.bipush 96) else none)))) else (bif Nat.blt pc 64 then (bif Nat.blt pc 62 then (bif Nat.beq pc 59 then some (.if_icmp .ge 31) else none) else (bif Nat.blt pc 63 then (bif Nat.beq pc 62 then some (.iload_n 1) else none) else (bif Nat.beq pc 63 then some (.iconst 4) else none))) else (bif Nat.blt pc 68 then (bif Nat.blt pc 67 then (bif Nat.beq pc 64 then some (.if_icmp .ne 26) else none) else (bif Nat.beq pc 67 then some (.aload_n 0) else none)) else (bif Nat.blt pc 71 then (bif Nat.beq pc 68 then some (.getfield 13) else none) else (bif Nat.beq pc 71 then some (.iload_n 3) else none))))) else (bif Nat.blt pc 83 then (bif Nat.blt pc 77 then (bif Nat.blt pc 73 then (bif Nat.beq pc 72 then some (.iaload) else none) else (bif Nat.blt pc 76 then (bif Nat.beq pc 73 then some (.ifCond .le 9) else none) else (bif Nat.beq pc 76 then some (.iload_n 2) else none))) else (bif Nat.blt pc 79 then (bif Nat.blt pc 78 then (bif Nat.beq pc 77 then some (.iconst 1) else none) else (bif Nat.beq pc 78 then some (.iadd) else none)) else (bif Nat.blt pc 82 then (bif Nat.beq pc 79 then some (.goto 4) else none) else (bif Nat.beq pc 82 then some (.iload_n 2) else none)))) else (bif Nat.blt pc 90 then (bif Nat.blt pc 84 then (bif Nat.beq pc 83 then some (.istore_n 2) else none) else (bif Nat.blt pc 87 then (bif Nat.beq pc 84 then some (.iinc 3 1) else none) else (bif Nat.beq pc 87 then some (.goto (-31)) else none))) else (bif Nat.blt pc 92 then (bif Nat.blt pc 91 then (bif Nat.beq pc 90 then some (.iconst 0) else none) else (bif Nat.beq pc 91 then some (.istore_n 3) else none)) else (bif Nat.blt pc 93 then (bif Nat.beq pc 92 then some (.iload_n 3) else none) else (bif Nat.beq pc 93 then some (.sipush 208) else none))))))) else (bif Nat.blt pc 143 then (bif Nat.blt pc 119 then (bif Nat.blt pc 106 then (bif Nat.blt pc 101 then (bif Nat.blt pc 99 then (bif Nat.beq pc 96 then some (.if_icmp .ge 95) else none) else (bif Nat.blt pc 100 then (bif Nat.beq pc 99 then some (.iload_n 1) else none) else (bif Nat.beq pc 100 then some (.iconst 4) else none))) else (bif Nat.blt pc 104 then (bif Nat.beq pc 101 then some (.if_icmp .ge 90) else none) else (bif Nat.blt pc 105 then (bif Nat.beq pc 104 then some (.iload_n 1) else none) else (bif Nat.beq pc 105 then some (.iconst 1) else none)))) else (bif Nat.blt pc 113 then (bif Nat.blt pc 109 then (bif Nat.beq pc 106 then some (.if_icmp .ne 12) else none) else (bif Nat.blt pc 110 then (bif Nat.beq pc 109 then some (.aload_n 0) else none) else (bif Nat.beq pc 110 then some (.getfield 50) else none))) else (bif Nat.blt pc 115 then (bif Nat.blt pc 114 then (bif Nat.beq pc 113 then some (.iload_n 3) else none) else (bif Nat.beq pc 114 then some (.baload) else none)) else (bif Nat.blt pc 118 then (bif Nat.beq pc 115 then some (.goto 55) else none) else (bif Nat.beq pc 118 then some (.iload_n 1) else none))))) else (bif Nat.blt pc 132 then (bif Nat.blt pc 124 then (bif Nat.blt pc 120 then (bif Nat.beq pc 119 then some (.iconst 2) else none) else (bif Nat.blt pc 123 then (bif Nat.beq pc 120 then some (.if_icmp .ne 38) else none) else (bif Nat.beq pc 123 then some (.aload_n 0) else none))) else (bif Nat.blt pc 128 then (bif Nat.blt pc 127 then (bif Nat.beq pc 124 then some (.getfield 50) else none) else (bif Nat.beq pc 127 then some (.iload_n 3) else none)) else (bif Nat.blt pc 129 then (bif Nat.beq pc 128 then some (.baload) else none) else (bif Nat.beq pc 129 then some (.ifCond .eq 25) else none)))) else (bif Nat.blt pc 137 then (bif Nat.blt pc 133 then (bif Nat.beq pc 132 then some (.aload_n 0) else none) else (bif Nat.blt pc 134 then (bif Nat.beq pc 133 then some (.iload_n 3) else none) else (bif Nat.beq pc 134 then some (.invokevirtual 237) else none))) else (bif Nat.blt pc 141 then (bif Nat.blt pc 138 then (bif Nat.beq pc 137 then some (.iload_n 3) else none) else (bif Nat.beq pc 138 then some (.if_icmp .ne 16) else none)) else (bif Nat.blt pc 142 then (bif Nat.beq pc 141 then some (.aload_n 0) else none) else (bif Nat.beq pc 142 then some (.iload_n 3) else none)))))) else (bif Nat.blt pc 169 then (bif Nat.blt pc 158 then (bif Nat.blt pc 150 then (bif Nat.blt pc 146 then (bif Nat.beq pc 143 then some (.invokevirtual 246) else none) else (bif Nat.blt pc 147 then (bif Nat.beq pc 146 then some (.iconst 1) else none) else (bif Nat.beq pc 147 then some (.if_icmp .le 7) else none))) else (bif Nat.blt pc 154 then (bif Nat.blt pc 151 then (bif Nat.beq pc 150 then some (.iconst 1) else none) else (bif Nat.beq pc 151 then some (.goto 19) else none)) else (bif Nat.blt pc 155 then (bif Nat.beq pc 154 then some (.iconst 0) else none) else (bif Nat.beq pc 155 then some (.goto 15) else none)))) else (bif Nat.blt pc 165 then (bif Nat.blt pc 159 then (bif Nat.beq pc 158 then some (.aload_n 0) else none) else (bif Nat.blt pc 162 then (bif Nat.beq pc 159 then some (.getfield 73) else none) else (bif Nat.beq pc 162 then some (.sipush 208) else none))) else (bif Nat.blt pc 167 then (bif Nat.blt pc 166 then (bif Nat.beq pc 165 then some (.iload_n 3) else none) else (bif Nat.beq pc 166 then some (.imul) else none)) else (bif Nat.blt pc 168 then (bif Nat.beq pc 167 then some (.iload_n 3) else none) else (bif Nat.beq pc 168 then some (.iadd) else none))))) else (bif Nat.blt pc 180 then (bif Nat.blt pc 174 then (bif Nat.blt pc 170 then (bif Nat.beq pc 169 then some (.baload) else none) else (bif Nat.blt pc 172 then (bif Nat.beq pc 170 then some (.istore 4) else none) else (bif Nat.beq pc 172 then some (.iload 4) else none))) else (bif Nat.blt pc 178 then (bif Nat.blt pc 177 then (bif Nat.beq pc 174 then some (.ifCond .eq 9) else none) else (bif Nat.beq pc 177 then some (.iload_n 2) else none)) else (bif Nat.blt pc 179 then (bif Nat.beq pc 178 then some (.iconst 1) else none) else (bif Nat.beq pc 179 then some (.iadd) else none)))) else (bif Nat.blt pc 185 then (bif Nat.blt pc 183 then (bif Nat.beq pc 180 then some (.goto 4) else none) else (bif Nat.blt pc 184 then (bif Nat.beq pc 183 then some (.iload_n 2) else none) else (bif Nat.beq pc 184 then some (.istore_n 2) else none))) else (bif Nat.blt pc 191 then (bif Nat.blt pc 188 then (bif Nat.beq pc 185 then some (.iinc 3 1) else none) else (bif Nat.beq pc 188 then some (.goto (-96)) else none)) else (bif Nat.blt pc 192 then (bif Nat.beq pc 191 then some (.iload_n 2) else none) else (bif Nat.beq pc 192 then some (.ireturn) else none))))))))
def px_a_Model_sizeOf (pc : Nat) : Option Instr := (bif Nat.blt pc 17 then (bif Nat.blt pc 5 then (bif Nat.blt pc 2 then (bif Nat.blt pc 1 then (bif Nat.beq pc 0 then some (.iconst 0) else none) else (bif Nat.beq pc 1 then some (.istore_n 2) else none)) else (bif Nat.blt pc 3 then (bif Nat.beq pc 2 then some (.iconst 0) else none) else (bif Nat.blt pc 4 then (bif Nat.beq pc 3 then some (.istore_n 3) else none) else (bif Nat.beq pc 4 then some (.iload_n 3) else none)))) else (bif Nat.blt pc 12 then (bif Nat.blt pc 8 then (bif Nat.beq pc 5 then some (.sipush 208) else none) else (bif Nat.blt pc 11 then (bif Nat.beq pc 8 then some (.if_icmp .ge 26) else none) else (bif Nat.beq pc 11 then some (.aload_n 0) else none))) else (bif Nat.blt pc 13 then (bif Nat.beq pc 12 then some (.iload_n 1) else none) else (bif Nat.blt pc 14 then (bif Nat.beq pc 13 then some (.iload_n 3) else none) else (bif Nat.beq pc 14 then some (.invokevirtual 231) else none))))) else (bif Nat.blt pc 26 then (bif Nat.blt pc 21 then (bif Nat.blt pc 20 then (bif Nat.beq pc 17 then some (.ifCond .eq 9) else none) else (bif Nat.beq pc 20 then some (.iload_n 2) else none)) else (bif Nat.blt pc 22 then (bif Nat.beq pc 21 then some (.iconst 1) else none) else (bif Nat.blt pc 23 then (bif Nat.beq pc 22 then some (.iadd) else none) else (bif Nat.beq pc 23 then some (.goto 4) else none)))) else (bif Nat.blt pc 31 then (bif Nat.blt pc 27 then (bif Nat.beq pc 26 then some (.iload_n 2) else none) else (bif Nat.blt pc 28 then (bif Nat.beq pc 27 then some (.istore_n 2) else none) else (bif Nat.beq pc 28 then some (.iinc 3 1) else none))) else (bif Nat.blt pc 34 then (bif Nat.beq pc 31 then some (.goto (-27)) else none) else (bif Nat.blt pc 35 then (bif Nat.beq pc 34 then some (.iload_n 2) else none) else (bif Nat.beq pc 35 then some (.ireturn) else none))))))
def px_a_Forms_letterOf (pc : Nat) : Option Instr := (bif Nat.blt pc 57 then (bif Nat.blt pc 53 then (bif Nat.blt pc 1 then (bif Nat.beq pc 0 then some (.iload_n 0) else none) else (bif Nat.blt pc 52 then (bif Nat.beq pc 1 then some (.lookupswitch 61 #[(63, 59), (102, 53), (105, 51), (110, 57), (115, 55)]) else none) else (bif Nat.beq pc 52 then some (.iconst 0) else none))) else (bif Nat.blt pc 55 then (bif Nat.blt pc 54 then (bif Nat.beq pc 53 then some (.ireturn) else none) else (bif Nat.beq pc 54 then some (.iconst 1) else none)) else (bif Nat.blt pc 56 then (bif Nat.beq pc 55 then some (.ireturn) else none) else (bif Nat.beq pc 56 then some (.iconst 2) else none)))) else (bif Nat.blt pc 60 then (bif Nat.blt pc 58 then (bif Nat.beq pc 57 then some (.ireturn) else none) else (bif Nat.blt pc 59 then (bif Nat.beq pc 58 then some (.iconst 3) else none) else (bif Nat.beq pc 59 then some (.ireturn) else none))) else (bif Nat.blt pc 62 then (bif Nat.blt pc 61 then (bif Nat.beq pc 60 then some (.iconst 4) else none) else (bif Nat.beq pc 61 then some (.ireturn) else none)) else (bif Nat.blt pc 63 then (bif Nat.beq pc 62 then some (.iconst (-1)) else none) else (bif Nat.beq pc 63 then some (.ireturn) else none)))))
def px_a_Forms_listed (pc : Nat) : Option Instr := (bif Nat.blt pc 12 then (bif Nat.blt pc 7 then (bif Nat.blt pc 2 then (bif Nat.blt pc 1 then (bif Nat.beq pc 0 then some (.iload_n 0) else none) else (bif Nat.beq pc 1 then some (.iconst 3) else none)) else (bif Nat.blt pc 5 then (bif Nat.beq pc 2 then some (.invokestatic 11) else none) else (bif Nat.blt pc 6 then (bif Nat.beq pc 5 then some (.iand) else none) else (bif Nat.beq pc 6 then some (.istore_n 1) else none)))) else (bif Nat.blt pc 9 then (bif Nat.blt pc 8 then (bif Nat.beq pc 7 then some (.iload_n 0) else none) else (bif Nat.beq pc 8 then some (.iload_n 1) else none)) else (bif Nat.blt pc 10 then (bif Nat.beq pc 9 then some (.iconst (-1)) else none) else (bif Nat.blt pc 11 then (bif Nat.beq pc 10 then some (.ixor) else none) else (bif Nat.beq pc 11 then some (.iand) else none))))) else (bif Nat.blt pc 19 then (bif Nat.blt pc 14 then (bif Nat.blt pc 13 then (bif Nat.beq pc 12 then some (.iconst 5) else none) else (bif Nat.beq pc 13 then some (.ishl) else none)) else (bif Nat.blt pc 15 then (bif Nat.beq pc 14 then some (.istore_n 2) else none) else (bif Nat.blt pc 16 then (bif Nat.beq pc 15 then some (.iload_n 1) else none) else (bif Nat.beq pc 16 then some (.ifCond .ne 7) else none)))) else (bif Nat.blt pc 24 then (bif Nat.blt pc 20 then (bif Nat.beq pc 19 then some (.iload_n 2) else none) else (bif Nat.blt pc 23 then (bif Nat.beq pc 20 then some (.goto 7) else none) else (bif Nat.beq pc 23 then some (.iload_n 2) else none))) else (bif Nat.blt pc 26 then (bif Nat.beq pc 24 then some (.ldc 15) else none) else (bif Nat.blt pc 27 then (bif Nat.beq pc 26 then some (.ior) else none) else (bif Nat.beq pc 27 then some (.ireturn) else none))))))
def px_a_Forms_inLists (pc : Nat) : Option Instr := (bif Nat.blt pc 4 then (bif Nat.blt pc 2 then (bif Nat.beq pc 0 then some (.bipush 31) else none) else (bif Nat.blt pc 3 then (bif Nat.beq pc 2 then some (.iconst 5) else none) else (bif Nat.beq pc 3 then some (.iload_n 0) else none))) else (bif Nat.blt pc 5 then (bif Nat.beq pc 4 then some (.imul) else none) else (bif Nat.blt pc 6 then (bif Nat.beq pc 5 then some (.ishl) else none) else (bif Nat.beq pc 6 then some (.ireturn) else none))))
def px_a_Forms_unlisted (pc : Nat) : Option Instr := (bif Nat.blt pc 4 then (bif Nat.blt pc 2 then (bif Nat.blt pc 1 then (bif Nat.beq pc 0 then some (.iload_n 0) else none) else (bif Nat.beq pc 1 then some (.iconst 5) else none)) else (bif Nat.blt pc 3 then (bif Nat.beq pc 2 then some (.iushr) else none) else (bif Nat.beq pc 3 then some (.iload_n 0) else none))) else (bif Nat.blt pc 7 then (bif Nat.blt pc 6 then (bif Nat.beq pc 4 then some (.bipush 16) else none) else (bif Nat.beq pc 6 then some (.iand) else none)) else (bif Nat.blt pc 8 then (bif Nat.beq pc 7 then some (.ior) else none) else (bif Nat.beq pc 8 then some (.ireturn) else none))))
def px_a_Forms_withoutNil (pc : Nat) : Option Instr := (bif Nat.blt pc 3 then (bif Nat.blt pc 1 then (bif Nat.beq pc 0 then some (.iload_n 0) else none) else (bif Nat.beq pc 1 then some (.bipush (-9)) else none)) else (bif Nat.blt pc 4 then (bif Nat.beq pc 3 then some (.iand) else none) else (bif Nat.beq pc 4 then some (.ireturn) else none)))
def px_a_Forms_narrowed (pc : Nat) : Option Instr := (bif Nat.blt pc 8 then (bif Nat.blt pc 3 then (bif Nat.blt pc 1 then (bif Nat.beq pc 0 then some (.iconst 1) else none) else (bif Nat.blt pc 2 then (bif Nat.beq pc 1 then some (.iload_n 1) else none) else (bif Nat.beq pc 2 then some (.ishl) else none))) else (bif Nat.blt pc 5 then (bif Nat.blt pc 4 then (bif Nat.beq pc 3 then some (.istore_n 2) else none) else (bif Nat.beq pc 4 then some (.iload_n 0) else none)) else (bif Nat.blt pc 6 then (bif Nat.beq pc 5 then some (.iload_n 2) else none) else (bif Nat.beq pc 6 then some (.bipush 16) else none)))) else (bif Nat.blt pc 13 then (bif Nat.blt pc 9 then (bif Nat.beq pc 8 then some (.ior) else none) else (bif Nat.blt pc 10 then (bif Nat.beq pc 9 then some (.iand) else none) else (bif Nat.beq pc 10 then some (.ifCond .eq 7) else none))) else (bif Nat.blt pc 17 then (bif Nat.blt pc 14 then (bif Nat.beq pc 13 then some (.iload_n 2) else none) else (bif Nat.beq pc 14 then some (.goto 4) else none)) else (bif Nat.blt pc 18 then (bif Nat.beq pc 17 then some (.iconst 0) else none) else (bif Nat.beq pc 18 then some (.ireturn) else none)))))
def px_a_Forms_sum (pc : Nat) : Option Instr := (bif Nat.blt pc 42 then (bif Nat.blt pc 19 then (bif Nat.blt pc 11 then (bif Nat.blt pc 5 then (bif Nat.blt pc 1 then (bif Nat.beq pc 0 then some (.iload_n 0) else none) else (bif Nat.blt pc 4 then (bif Nat.beq pc 1 then some (.ifCond .eq 7) else none) else (bif Nat.beq pc 4 then some (.iload_n 1) else none))) else (bif Nat.blt pc 9 then (bif Nat.blt pc 8 then (bif Nat.beq pc 5 then some (.ifCond .ne 5) else none) else (bif Nat.beq pc 8 then some (.iconst 0) else none)) else (bif Nat.blt pc 10 then (bif Nat.beq pc 9 then some (.ireturn) else none) else (bif Nat.beq pc 10 then some (.iload_n 0) else none)))) else (bif Nat.blt pc 14 then (bif Nat.blt pc 12 then (bif Nat.beq pc 11 then some (.iload_n 1) else none) else (bif Nat.blt pc 13 then (bif Nat.beq pc 12 then some (.ior) else none) else (bif Nat.beq pc 13 then some (.istore_n 2) else none))) else (bif Nat.blt pc 17 then (bif Nat.blt pc 15 then (bif Nat.beq pc 14 then some (.iload_n 2) else none) else (bif Nat.beq pc 15 then some (.bipush 16) else none)) else (bif Nat.blt pc 18 then (bif Nat.beq pc 17 then some (.iand) else none) else (bif Nat.beq pc 18 then some (.iload_n 0) else none))))) else (bif Nat.blt pc 26 then (bif Nat.blt pc 22 then (bif Nat.blt pc 20 then (bif Nat.beq pc 19 then some (.iload_n 1) else none) else (bif Nat.blt pc 21 then (bif Nat.beq pc 20 then some (.iand) else none) else (bif Nat.beq pc 21 then some (.iconst 5) else none))) else (bif Nat.blt pc 24 then (bif Nat.blt pc 23 then (bif Nat.beq pc 22 then some (.iand) else none) else (bif Nat.beq pc 23 then some (.ior) else none)) else (bif Nat.blt pc 25 then (bif Nat.beq pc 24 then some (.istore_n 3) else none) else (bif Nat.beq pc 25 then some (.iload_n 0) else none)))) else (bif Nat.blt pc 34 then (bif Nat.blt pc 30 then (bif Nat.blt pc 27 then (bif Nat.beq pc 26 then some (.iload_n 1) else none) else (bif Nat.beq pc 27 then some (.invokestatic 16) else none)) else (bif Nat.blt pc 33 then (bif Nat.beq pc 30 then some (.ifCond .ne 11) else none) else (bif Nat.beq pc 33 then some (.iload_n 1) else none))) else (bif Nat.blt pc 38 then (bif Nat.blt pc 35 then (bif Nat.beq pc 34 then some (.iload_n 0) else none) else (bif Nat.beq pc 35 then some (.invokestatic 16) else none)) else (bif Nat.blt pc 41 then (bif Nat.beq pc 38 then some (.ifCond .eq 7) else none) else (bif Nat.beq pc 41 then some (.iload_n 3) else none)))))) else (bif Nat.blt pc 65 then (bif Nat.blt pc 51 then (bif Nat.blt pc 45 then (bif Nat.blt pc 43 then (bif Nat.beq pc 42 then some (.iconst 2) else none) else (bif Nat.blt pc 44 then (bif Nat.beq pc 43 then some (.ior) else none) else (bif Nat.beq pc 44 then some (.istore_n 3) else none))) else (bif Nat.blt pc 48 then (bif Nat.blt pc 46 then (bif Nat.beq pc 45 then some (.iconst 1) else none) else (bif Nat.beq pc 46 then some (.istore 4) else none)) else (bif Nat.blt pc 50 then (bif Nat.beq pc 48 then some (.iload 4) else none) else (bif Nat.beq pc 50 then some (.iconst 3) else none)))) else (bif Nat.blt pc 59 then (bif Nat.blt pc 54 then (bif Nat.beq pc 51 then some (.if_icmp .gt 37) else none) else (bif Nat.blt pc 56 then (bif Nat.beq pc 54 then some (.iload 4) else none) else (bif Nat.beq pc 56 then some (.invokestatic 11) else none))) else (bif Nat.blt pc 62 then (bif Nat.blt pc 61 then (bif Nat.beq pc 59 then some (.istore 5) else none) else (bif Nat.beq pc 61 then some (.iload_n 0) else none)) else (bif Nat.blt pc 64 then (bif Nat.beq pc 62 then some (.iload 5) else none) else (bif Nat.beq pc 64 then some (.iand) else none))))) else (bif Nat.blt pc 77 then (bif Nat.blt pc 71 then (bif Nat.blt pc 68 then (bif Nat.beq pc 65 then some (.ifCond .eq 17) else none) else (bif Nat.blt pc 69 then (bif Nat.beq pc 68 then some (.iload_n 1) else none) else (bif Nat.beq pc 69 then some (.iload 5) else none))) else (bif Nat.blt pc 75 then (bif Nat.blt pc 72 then (bif Nat.beq pc 71 then some (.iand) else none) else (bif Nat.beq pc 72 then some (.ifCond .eq 10) else none)) else (bif Nat.blt pc 76 then (bif Nat.beq pc 75 then some (.iload_n 3) else none) else (bif Nat.beq pc 76 then some (.iload_n 2) else none)))) else (bif Nat.blt pc 82 then (bif Nat.blt pc 80 then (bif Nat.blt pc 79 then (bif Nat.beq pc 77 then some (.iload 5) else none) else (bif Nat.beq pc 79 then some (.iand) else none)) else (bif Nat.blt pc 81 then (bif Nat.beq pc 80 then some (.ior) else none) else (bif Nat.beq pc 81 then some (.istore_n 3) else none))) else (bif Nat.blt pc 88 then (bif Nat.blt pc 85 then (bif Nat.beq pc 82 then some (.iinc 4 1) else none) else (bif Nat.beq pc 85 then some (.goto (-37)) else none)) else (bif Nat.blt pc 89 then (bif Nat.beq pc 88 then some (.iload_n 3) else none) else (bif Nat.beq pc 89 then some (.ireturn) else none)))))))
def px_a_Forms_makesFloat (pc : Nat) : Option Instr := (bif Nat.blt pc 8 then (bif Nat.blt pc 3 then (bif Nat.blt pc 1 then (bif Nat.beq pc 0 then some (.iload_n 0) else none) else (bif Nat.blt pc 2 then (bif Nat.beq pc 1 then some (.iconst 2) else none) else (bif Nat.beq pc 2 then some (.iand) else none))) else (bif Nat.blt pc 6 then (bif Nat.beq pc 3 then some (.ifCond .eq 13) else none) else (bif Nat.blt pc 7 then (bif Nat.beq pc 6 then some (.iload_n 1) else none) else (bif Nat.beq pc 7 then some (.iconst 3) else none)))) else (bif Nat.blt pc 13 then (bif Nat.blt pc 9 then (bif Nat.beq pc 8 then some (.iand) else none) else (bif Nat.blt pc 12 then (bif Nat.beq pc 9 then some (.ifCond .eq 7) else none) else (bif Nat.beq pc 12 then some (.iconst 1) else none))) else (bif Nat.blt pc 16 then (bif Nat.beq pc 13 then some (.goto 4) else none) else (bif Nat.blt pc 17 then (bif Nat.beq pc 16 then some (.iconst 0) else none) else (bif Nat.beq pc 17 then some (.ireturn) else none)))))
def px_a_Forms_unlistingLoses (pc : Nat) : Option Instr := (bif Nat.blt pc 7 then (bif Nat.blt pc 3 then (bif Nat.blt pc 1 then (bif Nat.beq pc 0 then some (.iload_n 0) else none) else (bif Nat.beq pc 1 then some (.bipush 31) else none)) else (bif Nat.blt pc 4 then (bif Nat.beq pc 3 then some (.iand) else none) else (bif Nat.blt pc 6 then (bif Nat.beq pc 4 then some (.bipush (-17)) else none) else (bif Nat.beq pc 6 then some (.iand) else none)))) else (bif Nat.blt pc 11 then (bif Nat.blt pc 10 then (bif Nat.beq pc 7 then some (.ifCond .eq 7) else none) else (bif Nat.beq pc 10 then some (.iconst 1) else none)) else (bif Nat.blt pc 14 then (bif Nat.beq pc 11 then some (.goto 4) else none) else (bif Nat.blt pc 15 then (bif Nat.beq pc 14 then some (.iconst 0) else none) else (bif Nat.beq pc 15 then some (.ireturn) else none)))))
def px_a_Forms_summingLoses (pc : Nat) : Option Instr := (bif Nat.blt pc 43 then (bif Nat.blt pc 19 then (bif Nat.blt pc 8 then (bif Nat.blt pc 4 then (bif Nat.blt pc 1 then (bif Nat.beq pc 0 then some (.iload_n 0) else none) else (bif Nat.blt pc 3 then (bif Nat.beq pc 1 then some (.bipush (-17)) else none) else (bif Nat.beq pc 3 then some (.iand) else none))) else (bif Nat.blt pc 5 then (bif Nat.beq pc 4 then some (.istore_n 2) else none) else (bif Nat.blt pc 6 then (bif Nat.beq pc 5 then some (.iload_n 1) else none) else (bif Nat.beq pc 6 then some (.bipush (-17)) else none)))) else (bif Nat.blt pc 11 then (bif Nat.blt pc 9 then (bif Nat.beq pc 8 then some (.iand) else none) else (bif Nat.blt pc 10 then (bif Nat.beq pc 9 then some (.istore_n 3) else none) else (bif Nat.beq pc 10 then some (.iload_n 2) else none))) else (bif Nat.blt pc 15 then (bif Nat.blt pc 14 then (bif Nat.beq pc 11 then some (.ifCond .eq 7) else none) else (bif Nat.beq pc 14 then some (.iload_n 3) else none)) else (bif Nat.blt pc 18 then (bif Nat.beq pc 15 then some (.ifCond .ne 5) else none) else (bif Nat.beq pc 18 then some (.iconst 0) else none))))) else (bif Nat.blt pc 29 then (bif Nat.blt pc 22 then (bif Nat.blt pc 20 then (bif Nat.beq pc 19 then some (.ireturn) else none) else (bif Nat.blt pc 21 then (bif Nat.beq pc 20 then some (.iload_n 2) else none) else (bif Nat.beq pc 21 then some (.iload_n 3) else none))) else (bif Nat.blt pc 25 then (bif Nat.blt pc 23 then (bif Nat.beq pc 22 then some (.ior) else none) else (bif Nat.beq pc 23 then some (.istore 4) else none)) else (bif Nat.blt pc 27 then (bif Nat.beq pc 25 then some (.iload 4) else none) else (bif Nat.beq pc 27 then some (.bipush (-4)) else none)))) else (bif Nat.blt pc 35 then (bif Nat.blt pc 30 then (bif Nat.beq pc 29 then some (.iand) else none) else (bif Nat.blt pc 33 then (bif Nat.beq pc 30 then some (.ifCond .eq 9) else none) else (bif Nat.beq pc 33 then some (.iload 4) else none))) else (bif Nat.blt pc 39 then (bif Nat.blt pc 36 then (bif Nat.beq pc 35 then some (.iconst 4) else none) else (bif Nat.beq pc 36 then some (.if_icmp .ne 7) else none)) else (bif Nat.blt pc 40 then (bif Nat.beq pc 39 then some (.iconst 1) else none) else (bif Nat.beq pc 40 then some (.goto 4) else none)))))) else (bif Nat.blt pc 69 then (bif Nat.blt pc 55 then (bif Nat.blt pc 47 then (bif Nat.blt pc 44 then (bif Nat.beq pc 43 then some (.iconst 0) else none) else (bif Nat.blt pc 46 then (bif Nat.beq pc 44 then some (.istore 5) else none) else (bif Nat.beq pc 46 then some (.iconst 1) else none))) else (bif Nat.blt pc 51 then (bif Nat.blt pc 49 then (bif Nat.beq pc 47 then some (.istore 6) else none) else (bif Nat.beq pc 49 then some (.iload 6) else none)) else (bif Nat.blt pc 52 then (bif Nat.beq pc 51 then some (.iconst 3) else none) else (bif Nat.beq pc 52 then some (.if_icmp .gt 34) else none)))) else (bif Nat.blt pc 62 then (bif Nat.blt pc 57 then (bif Nat.beq pc 55 then some (.iload 5) else none) else (bif Nat.blt pc 60 then (bif Nat.beq pc 57 then some (.ifCond .ne 16) else none) else (bif Nat.beq pc 60 then some (.iload 4) else none))) else (bif Nat.blt pc 67 then (bif Nat.blt pc 64 then (bif Nat.beq pc 62 then some (.iload 6) else none) else (bif Nat.beq pc 64 then some (.invokestatic 11) else none)) else (bif Nat.blt pc 68 then (bif Nat.beq pc 67 then some (.iconst (-1)) else none) else (bif Nat.beq pc 68 then some (.ixor) else none))))) else (bif Nat.blt pc 83 then (bif Nat.blt pc 74 then (bif Nat.blt pc 70 then (bif Nat.beq pc 69 then some (.iand) else none) else (bif Nat.blt pc 73 then (bif Nat.beq pc 70 then some (.ifCond .ne 7) else none) else (bif Nat.beq pc 73 then some (.iconst 1) else none))) else (bif Nat.blt pc 78 then (bif Nat.blt pc 77 then (bif Nat.beq pc 74 then some (.goto 4) else none) else (bif Nat.beq pc 77 then some (.iconst 0) else none)) else (bif Nat.blt pc 80 then (bif Nat.beq pc 78 then some (.istore 5) else none) else (bif Nat.beq pc 80 then some (.iinc 6 1) else none)))) else (bif Nat.blt pc 91 then (bif Nat.blt pc 86 then (bif Nat.beq pc 83 then some (.goto (-34)) else none) else (bif Nat.blt pc 88 then (bif Nat.beq pc 86 then some (.iload 5) else none) else (bif Nat.beq pc 88 then some (.ifCond .ne 7) else none))) else (bif Nat.blt pc 95 then (bif Nat.blt pc 92 then (bif Nat.beq pc 91 then some (.iconst 1) else none) else (bif Nat.beq pc 92 then some (.goto 4) else none)) else (bif Nat.blt pc 96 then (bif Nat.beq pc 95 then some (.iconst 0) else none) else (bif Nat.beq pc 96 then some (.ireturn) else none)))))))
def px_a_Long_bitCount (pc : Nat) : Option Instr := (bif Nat.blt pc 32 then (bif Nat.blt pc 16 then (bif Nat.blt pc 8 then (bif Nat.blt pc 3 then (bif Nat.blt pc 1 then (bif Nat.beq pc 0 then some (.lload_n 0) else none) else (bif Nat.blt pc 2 then (bif Nat.beq pc 1 then some (.lload_n 0) else none) else (bif Nat.beq pc 2 then some (.iconst 1) else none))) else (bif Nat.blt pc 4 then (bif Nat.beq pc 3 then some (.lushr) else none) else (bif Nat.blt pc 7 then (bif Nat.beq pc 4 then some (.ldc2_w 314) else none) else (bif Nat.beq pc 7 then some (.land) else none)))) else (bif Nat.blt pc 11 then (bif Nat.blt pc 9 then (bif Nat.beq pc 8 then some (.lsub) else none) else (bif Nat.blt pc 10 then (bif Nat.beq pc 9 then some (.lstore_n 0) else none) else (bif Nat.beq pc 10 then some (.lload_n 0) else none))) else (bif Nat.blt pc 14 then (bif Nat.beq pc 11 then some (.ldc2_w 316) else none) else (bif Nat.blt pc 15 then (bif Nat.beq pc 14 then some (.land) else none) else (bif Nat.beq pc 15 then some (.lload_n 0) else none))))) else (bif Nat.blt pc 24 then (bif Nat.blt pc 21 then (bif Nat.blt pc 17 then (bif Nat.beq pc 16 then some (.iconst 2) else none) else (bif Nat.blt pc 18 then (bif Nat.beq pc 17 then some (.lushr) else none) else (bif Nat.beq pc 18 then some (.ldc2_w 316) else none))) else (bif Nat.blt pc 22 then (bif Nat.beq pc 21 then some (.land) else none) else (bif Nat.blt pc 23 then (bif Nat.beq pc 22 then some (.ladd) else none) else (bif Nat.beq pc 23 then some (.lstore_n 0) else none)))) else (bif Nat.blt pc 27 then (bif Nat.blt pc 25 then (bif Nat.beq pc 24 then some (.lload_n 0) else none) else (bif Nat.blt pc 26 then (bif Nat.beq pc 25 then some (.lload_n 0) else none) else (bif Nat.beq pc 26 then some (.iconst 4) else none))) else (bif Nat.blt pc 28 then (bif Nat.beq pc 27 then some (.lushr) else none) else (bif Nat.blt pc 29 then (bif Nat.beq pc 28 then some (.ladd) else none) else (bif Nat.beq pc 29 then some (.ldc2_w 318) else none)))))) else (bif Nat.blt pc 46 then (bif Nat.blt pc 39 then (bif Nat.blt pc 35 then (bif Nat.blt pc 33 then (bif Nat.beq pc 32 then some (.land) else none) else (bif Nat.blt pc 34 then (bif Nat.beq pc 33 then some (.lstore_n 0) else none) else (bif Nat.beq pc 34 then some (.lload_n 0) else none))) else (bif Nat.blt pc 36 then (bif Nat.beq pc 35 then some (.lload_n 0) else none) else (bif Nat.blt pc 38 then (bif Nat.beq pc 36 then some (.bipush 8) else none) else (bif Nat.beq pc 38 then some (.lushr) else none)))) else (bif Nat.blt pc 42 then (bif Nat.blt pc 40 then (bif Nat.beq pc 39 then some (.ladd) else none) else (bif Nat.blt pc 41 then (bif Nat.beq pc 40 then some (.lstore_n 0) else none) else (bif Nat.beq pc 41 then some (.lload_n 0) else none))) else (bif Nat.blt pc 43 then (bif Nat.beq pc 42 then some (.lload_n 0) else none) else (bif Nat.blt pc 45 then (bif Nat.beq pc 43 then some (.bipush 16) else none) else (bif Nat.beq pc 45 then some (.lushr) else none))))) else (bif Nat.blt pc 53 then (bif Nat.blt pc 49 then (bif Nat.blt pc 47 then (bif Nat.beq pc 46 then some (.ladd) else none) else (bif Nat.blt pc 48 then (bif Nat.beq pc 47 then some (.lstore_n 0) else none) else (bif Nat.beq pc 48 then some (.lload_n 0) else none))) else (bif Nat.blt pc 50 then (bif Nat.beq pc 49 then some (.lload_n 0) else none) else (bif Nat.blt pc 52 then (bif Nat.beq pc 50 then some (.bipush 32) else none) else (bif Nat.beq pc 52 then some (.lushr) else none)))) else (bif Nat.blt pc 56 then (bif Nat.blt pc 54 then (bif Nat.beq pc 53 then some (.ladd) else none) else (bif Nat.blt pc 55 then (bif Nat.beq pc 54 then some (.lstore_n 0) else none) else (bif Nat.beq pc 55 then some (.lload_n 0) else none))) else (bif Nat.blt pc 59 then (bif Nat.blt pc 57 then (bif Nat.beq pc 56 then some (.l2i) else none) else (bif Nat.beq pc 57 then some (.bipush 127) else none)) else (bif Nat.blt pc 60 then (bif Nat.beq pc 59 then some (.iand) else none) else (bif Nat.beq pc 60 then some (.ireturn) else none)))))))
def px_a_Math_min (pc : Nat) : Option Instr := (bif Nat.blt pc 5 then (bif Nat.blt pc 1 then (bif Nat.beq pc 0 then some (.iload_n 0) else none) else (bif Nat.blt pc 2 then (bif Nat.beq pc 1 then some (.iload_n 1) else none) else (bif Nat.beq pc 2 then some (.if_icmp .gt 7) else none))) else (bif Nat.blt pc 9 then (bif Nat.blt pc 6 then (bif Nat.beq pc 5 then some (.iload_n 0) else none) else (bif Nat.beq pc 6 then some (.goto 4) else none)) else (bif Nat.blt pc 10 then (bif Nat.beq pc 9 then some (.iload_n 1) else none) else (bif Nat.beq pc 10 then some (.ireturn) else none))))
def px_a_Math_max (pc : Nat) : Option Instr := (bif Nat.blt pc 5 then (bif Nat.blt pc 1 then (bif Nat.beq pc 0 then some (.iload_n 0) else none) else (bif Nat.blt pc 2 then (bif Nat.beq pc 1 then some (.iload_n 1) else none) else (bif Nat.beq pc 2 then some (.if_icmp .lt 7) else none))) else (bif Nat.blt pc 9 then (bif Nat.blt pc 6 then (bif Nat.beq pc 5 then some (.iload_n 0) else none) else (bif Nat.beq pc 6 then some (.goto 4) else none)) else (bif Nat.blt pc 10 then (bif Nat.beq pc 9 then some (.iload_n 1) else none) else (bif Nat.beq pc 10 then some (.ireturn) else none))))
abbrev px_Me : Type := Nat × MethodName × ByteArray × Nat × Option FieldType × Nat × (Nat → Option Instr)
def px_mt : List px_Me := [(0, px_y_Circles_init, prog_2_method_1_code, 2, none, 76, px_a_Circles_init),
  (0, px_y_Circles_find, prog_2_method_5_code, 3, none, 19, px_a_Circles_find),
  (0, px_y_Circles_listDefined, prog_2_method_6_code, 3, none, 65, px_a_Circles_listDefined),
  (0, px_y_Circles_gatherReads, prog_2_method_7_code, 5, none, 64, px_a_Circles_gatherReads),
  (0, px_y_Circles_followOn, prog_2_method_8_code, 5, none, 78, px_a_Circles_followOn),
  (0, px_y_Circles_group, prog_2_method_9_code, 3, none, 77, px_a_Circles_group),
  (0, px_y_Circles_findLeast, prog_2_method_10_code, 6, some .int, 78, px_a_Circles_findLeast),
  (0, px_y_Circles_leastOf, prog_2_method_2_code, 2, some .int, 22, px_a_Circles_leastOf),
  (0, px_y_Circles_circleCount, prog_2_method_3_code, 1, some .int, 5, px_a_Circles_circleCount),
  (0, px_y_Circles_selfCount, prog_2_method_4_code, 1, some .int, 5, px_a_Circles_selfCount),
  (1, px_y_Expression_init, prog_3_method_1_code, 3, none, 66, px_a_Expression_init),
  (1, px_y_Expression_add, prog_3_method_2_code, 5, some .int, 72, px_a_Expression_add),
  (1, px_y_Expression_workOut, prog_3_method_3_code, 3, some .int, 48, px_a_Expression_workOut),
  (1, px_y_Expression_valueOf, prog_3_method_5_code, 5, some .int, 140, px_a_Expression_valueOf),
  (1, px_y_Expression_valueAt, prog_3_method_4_code, 2, some .int, 24, px_a_Expression_valueAt),
  (1, px_y_Expression_findFaults, prog_3_method_6_code, 5, none, 52, px_a_Expression_findFaults),
  (1, px_y_Expression_faultOf, prog_3_method_7_code, 3, some .int, 115, px_a_Expression_faultOf),
  (2, px_y_Faults_init, prog_4_method_1_code, 2, none, 27, px_a_Faults_init),
  (2, px_y_Faults_clear, prog_4_method_2_code, 2, none, 30, px_a_Faults_clear),
  (2, px_y_Faults_add, prog_4_method_3_code, 3, none, 40, px_a_Faults_add),
  (2, px_y_Faults_size, prog_4_method_4_code, 1, some .int, 5, px_a_Faults_size),
  (2, px_y_Faults_placeOf, prog_4_method_5_code, 4, some .int, 39, px_a_Faults_placeOf),
  (2, px_y_Faults_codeOf, prog_4_method_6_code, 3, some .int, 30, px_a_Faults_codeOf),
  (3, px_y_History_init, prog_6_method_1_code, 1, none, 27, px_a_History_init),
  (3, px_y_History_keep, prog_6_method_3_code, 3, none, 44, px_a_History_keep),
  (3, px_y_History_loseOldest, prog_6_method_4_code, 2, none, 49, px_a_History_loseOldest),
  (3, px_y_History_forget, prog_6_method_8_code, 2, none, 27, px_a_History_forget),
  (3, px_y_History_size, prog_6_method_2_code, 1, some .int, 5, px_a_History_size),
  (3, px_y_History_lastPlace, prog_6_method_5_code, 1, some .int, 23, px_a_History_lastPlace),
  (3, px_y_History_lastLine, prog_6_method_6_code, 1, some (.object "CheckDaemon$Line"), 23, px_a_History_lastLine),
  (3, px_y_History_removeLast, prog_6_method_7_code, 1, none, 28, px_a_History_removeLast),
  (4, px_y_Line_init0, prog_7_method_1_code, 6, none, 54, px_a_Line_init0),
  (4, px_y_Line_init1, prog_7_method_2_code, 3, none, 59, px_a_Line_init1),
  (4, px_y_Line_defined, prog_7_method_3_code, 1, some .int, 5, px_a_Line_defined),
  (4, px_y_Line_reads, prog_7_method_4_code, 2, some .boolean, 12, px_a_Line_reads),
  (4, px_y_Line_says, prog_7_method_7_code, 1, some .int, 20, px_a_Line_says),
  (4, px_y_Line_workOut, prog_7_method_8_code, 2, none, 13, px_a_Line_workOut),
  (4, px_y_Line_findFaults, prog_7_method_9_code, 2, none, 60, px_a_Line_findFaults),
  (4, px_y_Line_isMismatch, prog_7_method_10_code, 1, some .boolean, 43, px_a_Line_isMismatch),
  (4, px_y_Line_symbolsRead, prog_7_method_5_code, 1, some (.object "CheckDaemon$SymbolSet"), 8, px_a_Line_symbolsRead),
  (4, px_y_Line_tellAbout, prog_7_method_11_code, 2, some .int, 99, px_a_Line_tellAbout),
  (4, px_y_Line_faults, prog_7_method_6_code, 1, some (.object "CheckDaemon$Faults"), 5, px_a_Line_faults),
  (5, px_y_Parser_init, prog_8_method_1_code, 4, none, 64, px_a_Parser_init),
  (5, px_y_Parser_read, prog_8_method_2_code, 2, some (.object "CheckDaemon$Line"), 80, px_a_Parser_read),
  (5, px_y_Parser_readHead, prog_8_method_6_code, 3, some .boolean, 75, px_a_Parser_readHead),
  (5, px_y_Parser_next, prog_8_method_3_code, 1, some .int, 63, px_a_Parser_next),
  (5, px_y_Parser_isName, prog_8_method_5_code, 1, some .boolean, 18, px_a_Parser_isName),
  (5, px_y_Parser_take, prog_8_method_4_code, 2, some .boolean, 22, px_a_Parser_take),
  (5, px_y_Parser_readTypeWord, prog_8_method_7_code, 4, some .boolean, 105, px_a_Parser_readTypeWord),
  (5, px_y_Parser_readSum, prog_8_method_8_code, 6, some .int, 84, px_a_Parser_readSum),
  (5, px_y_Parser_readOr, prog_8_method_9_code, 6, some .int, 84, px_a_Parser_readOr),
  (5, px_y_Parser_readPart, prog_8_method_10_code, 4, some .int, 43, px_a_Parser_readPart),
  (5, px_y_Parser_readAtom, prog_8_method_13_code, 7, some .int, 208, px_a_Parser_readAtom),
  (5, px_y_Parser_readName, prog_8_method_14_code, 5, some .int, 60, px_a_Parser_readName),
  (5, px_y_Parser_isEnding, prog_8_method_11_code, 1, some .boolean, 24, px_a_Parser_isEnding),
  (5, px_y_Parser_readEnding, prog_8_method_12_code, 5, some .int, 118, px_a_Parser_readEnding),
  (6, px_y_SymbolSet_init, prog_9_method_1_code, 1, none, 12, px_a_SymbolSet_init),
  (6, px_y_SymbolSet_add, prog_9_method_2_code, 2, none, 30, px_a_SymbolSet_add),
  (6, px_y_SymbolSet_clear, prog_9_method_5_code, 2, none, 21, px_a_SymbolSet_clear),
  (6, px_y_SymbolSet_has, prog_9_method_3_code, 2, some .boolean, 38, px_a_SymbolSet_has),
  (6, px_y_SymbolSet_addAll, prog_9_method_4_code, 3, none, 29, px_a_SymbolSet_addAll),
  (6, px_y_SymbolSet_size, prog_9_method_6_code, 3, some .int, 29, px_a_SymbolSet_size),
  (7, px_y_Symbols_init, prog_10_method_1_code, 2, none, 46, px_a_Symbols_init),
  (7, px_y_Symbols_addDefiners, prog_10_method_5_code, 3, none, 18, px_a_Symbols_addDefiners),
  (7, px_y_Symbols_isSymbol, prog_10_method_2_code, 1, some .boolean, 17, px_a_Symbols_isSymbol),
  (7, px_y_Symbols_restart, prog_10_method_6_code, 2, none, 29, px_a_Symbols_restart),
  (7, px_y_Symbols_grow, prog_10_method_7_code, 3, some .boolean, 34, px_a_Symbols_grow),
  (7, px_y_Symbols_typeOf, prog_10_method_3_code, 2, some .int, 19, px_a_Symbols_typeOf),
  (7, px_y_Symbols_definersOf, prog_10_method_4_code, 2, some .int, 18, px_a_Symbols_definersOf),
  (7, px_y_Symbols_definedCount, prog_10_method_8_code, 3, some .int, 31, px_a_Symbols_definedCount),
  (8, px_y_Workspace_init, prog_11_method_1_code, 1, none, 82, px_a_Workspace_init),
  (8, px_y_Workspace_lineAt, prog_11_method_2_code, 2, some (.object "CheckDaemon$Line"), 21, px_a_Workspace_lineAt),
  (8, px_y_Workspace_edit, prog_11_method_3_code, 6, some .int, 98, px_a_Workspace_edit),
  (8, px_y_Workspace_startLooking, prog_11_method_4_code, 2, none, 34, px_a_Workspace_startLooking),
  (8, px_y_Workspace_leave, prog_11_method_5_code, 2, none, 25, px_a_Workspace_leave),
  (8, px_y_Workspace_touch, prog_11_method_7_code, 2, none, 55, px_a_Workspace_touch),
  (8, px_y_Workspace_enter, prog_11_method_6_code, 2, none, 25, px_a_Workspace_enter),
  (8, px_y_Workspace_lookOn, prog_11_method_8_code, 5, some .int, 96, px_a_Workspace_lookOn),
  (8, px_y_Workspace_restartTypes, prog_11_method_9_code, 3, none, 113, px_a_Workspace_restartTypes),
  (8, px_y_Workspace_workOutWaiting, prog_11_method_10_code, 4, some .boolean, 81, px_a_Workspace_workOutWaiting),
  (8, px_y_Workspace_wakeReaders, prog_11_method_11_code, 4, none, 41, px_a_Workspace_wakeReaders),
  (8, px_y_Workspace_findFaults, prog_11_method_12_code, 3, none, 43, px_a_Workspace_findFaults),
  (8, px_y_Workspace_tellSymbol, prog_11_method_13_code, 4, some .int, 78, px_a_Workspace_tellSymbol),
  (8, px_y_Workspace_readersOf, prog_11_method_14_code, 5, some .int, 43, px_a_Workspace_readersOf),
  (8, px_y_Workspace_freshCircles, prog_11_method_15_code, 1, some (.object "CheckDaemon$Circles"), 32, px_a_Workspace_freshCircles),
  (8, px_y_Workspace_tellFault, prog_11_method_16_code, 7, some .int, 68, px_a_Workspace_tellFault),
  (8, px_y_Workspace_tellFaultAt, prog_11_method_17_code, 4, some .int, 50, px_a_Workspace_tellFaultAt),
  (8, px_y_Workspace_howMany, prog_11_method_18_code, 2, some .int, 66, px_a_Workspace_howMany),
  (8, px_y_Workspace_faultCount, prog_11_method_19_code, 4, some .int, 39, px_a_Workspace_faultCount),
  (8, px_y_Workspace_lineCount, prog_11_method_20_code, 3, some .int, 30, px_a_Workspace_lineCount),
  (9, px_y_Daemon_init, prog_1_method_1_code, 1, none, 40, px_a_Daemon_init),
  (9, px_y_Daemon_erase, prog_1_method_3_code, 2, some .int, 12, px_a_Daemon_erase),
  (9, px_y_Daemon_type, prog_1_method_2_code, 7, some .int, 82, px_a_Daemon_type),
  (9, px_y_Daemon_charactersIn, prog_1_method_12_code, 3, some .int, 30, px_a_Daemon_charactersIn),
  (9, px_y_Daemon_append, prog_1_method_13_code, 4, none, 58, px_a_Daemon_append),
  (9, px_y_Daemon_put, prog_1_method_4_code, 5, some .int, 89, px_a_Daemon_put),
  (9, px_y_Daemon_isPlace, prog_1_method_11_code, 2, some .boolean, 26, px_a_Daemon_isPlace),
  (9, px_y_Daemon_isBlank, prog_1_method_14_code, 2, some .boolean, 40, px_a_Daemon_isBlank),
  (9, px_y_Daemon_drop, prog_1_method_5_code, 5, some .int, 79, px_a_Daemon_drop),
  (9, px_y_Daemon_undo, prog_1_method_6_code, 3, some .int, 53, px_a_Daemon_undo),
  (9, px_y_Daemon_symbol, prog_1_method_7_code, 4, some .int, 54, px_a_Daemon_symbol),
  (9, px_y_Daemon_line, prog_1_method_8_code, 5, some .int, 58, px_a_Daemon_line),
  (9, px_y_Daemon_diagnostic, prog_1_method_9_code, 3, some .int, 37, px_a_Daemon_diagnostic),
  (9, px_y_Daemon_count, prog_1_method_10_code, 2, some .int, 43, px_a_Daemon_count),
  (10, px_y_Model_init, prog_13_method_1_code, 2, none, 251, px_a_Model_init),
  (10, px_y_Model_thrown, prog_13_method_2_code, 1, some .int, 5, px_a_Model_thrown),
  (10, px_y_Model_type, prog_13_method_6_code, 7, some .int, 79, px_a_Model_type),
  (10, px_y_Model_feed, prog_13_method_5_code, 6, some .int, 52, px_a_Model_feed),
  (10, px_y_Model_refused, prog_13_method_3_code, 2, some .boolean, 15, px_a_Model_refused),
  (10, px_y_Model_erase, prog_13_method_7_code, 2, some .int, 17, px_a_Model_erase),
  (10, px_y_Model_put, prog_13_method_38_code, 5, some .int, 81, px_a_Model_put),
  (10, px_y_Model_isIn, prog_13_method_4_code, 3, some .boolean, 16, px_a_Model_isIn),
  (10, px_y_Model_remember, prog_13_method_37_code, 3, none, 166, px_a_Model_remember),
  (10, px_y_Model_isBlank, prog_13_method_36_code, 3, some .boolean, 41, px_a_Model_isBlank),
  (10, px_y_Model_edit, prog_13_method_34_code, 6, some .int, 315, px_a_Model_edit),
  (10, px_y_Model_read, prog_13_method_20_code, 3, none, 163, px_a_Model_read),
  (10, px_y_Model_look, prog_13_method_9_code, 1, some .char, 51, px_a_Model_look),
  (10, px_y_Model_charAt, prog_13_method_8_code, 2, some .char, 32, px_a_Model_charAt),
  (10, px_y_Model_isSymbol, prog_13_method_12_code, 1, some .boolean, 18, px_a_Model_isSymbol),
  (10, px_y_Model_readWord, prog_13_method_14_code, 5, some .boolean, 160, px_a_Model_readWord),
  (10, px_y_Model_letterOf, prog_13_method_11_code, 1, some .int, 52, px_a_Model_letterOf),
  (10, px_y_Model_wrong, prog_13_method_10_code, 1, some .boolean, 15, px_a_Model_wrong),
  (10, px_y_Model_readExpression, prog_13_method_19_code, 3, some .boolean, 273, px_a_Model_readExpression),
  (10, px_y_Model_readAtom, prog_13_method_17_code, 3, some .int, 207, px_a_Model_readAtom),
  (10, px_y_Model_step, prog_13_method_13_code, 5, none, 57, px_a_Model_step),
  (10, px_y_Model_brackets, prog_13_method_16_code, 4, some .int, 50, px_a_Model_brackets),
  (10, px_y_Model_readBehind, prog_13_method_18_code, 4, some .boolean, 138, px_a_Model_readBehind),
  (10, px_y_Model_join, prog_13_method_15_code, 2, none, 92, px_a_Model_join),
  (10, px_y_Model_grow, prog_13_method_31_code, 4, none, 231, px_a_Model_grow),
  (10, px_y_Model_isRead, prog_13_method_21_code, 2, some .boolean, 24, px_a_Model_isRead),
  (10, px_y_Model_value, prog_13_method_29_code, 6, some .int, 378, px_a_Model_value),
  (10, px_y_Model_note, prog_13_method_28_code, 4, none, 41, px_a_Model_note),
  (10, px_y_Model_lacksSum, prog_13_method_27_code, 5, some .boolean, 72, px_a_Model_lacksSum),
  (10, px_y_Model_sumOf, prog_13_method_26_code, 2, some .int, 73, px_a_Model_sumOf),
  (10, px_y_Model_sum, prog_13_method_25_code, 6, some .int, 75, px_a_Model_sum),
  (10, px_y_Model_isFirst, prog_13_method_24_code, 1, some .boolean, 13, px_a_Model_isFirst),
  (10, px_y_Model_changed, prog_13_method_30_code, 3, some .int, 58, px_a_Model_changed),
  (10, px_y_Model_wrapped, prog_13_method_23_code, 2, some .int, 23, px_a_Model_wrapped),
  (10, px_y_Model_judgeAll, prog_13_method_33_code, 2, none, 34, px_a_Model_judgeAll),
  (10, px_y_Model_judge, prog_13_method_32_code, 8, none, 250, px_a_Model_judge),
  (10, px_y_Model_readsStale, prog_13_method_35_code, 4, some .boolean, 72, px_a_Model_readsStale),
  (10, px_y_Model_drop, prog_13_method_39_code, 4, some .int, 97, px_a_Model_drop),
  (10, px_y_Model_undo, prog_13_method_40_code, 1, some .int, 46, px_a_Model_undo),
  (10, px_y_Model_symbol, prog_13_method_45_code, 7, some .int, 159, px_a_Model_symbol),
  (10, px_y_Model_know, prog_13_method_41_code, 7, none, 205, px_a_Model_know),
  (10, px_y_Model_leastOf, prog_13_method_43_code, 4, some .int, 31, px_a_Model_leastOf),
  (10, px_y_Model_areOne, prog_13_method_42_code, 3, some .boolean, 41, px_a_Model_areOne),
  (10, px_y_Model_reads, prog_13_method_22_code, 5, some .boolean, 72, px_a_Model_reads),
  (10, px_y_Model_line, prog_13_method_47_code, 7, some .int, 188, px_a_Model_line),
  (10, px_y_Model_readCount, prog_13_method_46_code, 4, some .int, 36, px_a_Model_readCount),
  (10, px_y_Model_diagnostic, prog_13_method_48_code, 3, some .int, 91, px_a_Model_diagnostic),
  (10, px_y_Model_count, prog_13_method_49_code, 5, some .int, 193, px_a_Model_count),
  (10, px_y_Model_sizeOf, prog_13_method_44_code, 4, some .int, 36, px_a_Model_sizeOf),
  (11, px_y_Forms_letterOf, prog_5_method_2_code, 1, some .int, 64, px_a_Forms_letterOf),
  (11, px_y_Forms_listed, prog_5_method_4_code, 3, some .int, 28, px_a_Forms_listed),
  (11, px_y_Forms_inLists, prog_5_method_3_code, 1, some .int, 7, px_a_Forms_inLists),
  (11, px_y_Forms_unlisted, prog_5_method_5_code, 1, some .int, 9, px_a_Forms_unlisted),
  (11, px_y_Forms_withoutNil, prog_5_method_7_code, 1, some .int, 5, px_a_Forms_withoutNil),
  (11, px_y_Forms_narrowed, prog_5_method_8_code, 3, some .int, 19, px_a_Forms_narrowed),
  (11, px_y_Forms_sum, prog_5_method_9_code, 6, some .int, 90, px_a_Forms_sum),
  (11, px_y_Forms_makesFloat, prog_5_method_10_code, 2, some .boolean, 18, px_a_Forms_makesFloat),
  (11, px_y_Forms_unlistingLoses, prog_5_method_6_code, 1, some .boolean, 16, px_a_Forms_unlistingLoses),
  (11, px_y_Forms_summingLoses, prog_5_method_11_code, 7, some .boolean, 97, px_a_Forms_summingLoses),
  (12, px_y_Long_bitCount, prog_17_method_50_code, 2, some .int, 61, px_a_Long_bitCount),
  (13, px_y_Math_min, prog_18_method_69_code, 2, some .int, 11, px_a_Math_min),
  (13, px_y_Math_max, prog_18_method_65_code, 2, some .int, 11, px_a_Math_max)]
def px_me (mi : Nat) : px_Me := px_mt.getD mi (6, px_y_SymbolSet_init, prog_9_method_1_code, 1, none, 12, px_a_SymbolSet_init)
def px_cn (mi : Nat) : Nat := (px_me mi).1
def px_y (mi : Nat) : MethodName := (px_me mi).2.1
def px_b (mi : Nat) : ByteArray := (px_me mi).2.2.1
def px_ml (mi : Nat) : Nat := (px_me mi).2.2.2.1
def px_rt (mi : Nat) : Option FieldType := (px_me mi).2.2.2.2.1
def px_yc (mi : Nat) : Nat := px_cn mi
def px_isI (mi : Nat) : Bool := decide ((px_y mi).name = "<init>")
def px_at (mi pc : Nat) : Option Instr := bif Nat.blt pc (px_me mi).2.2.2.2.2.1 then (px_me mi).2.2.2.2.2.2 pc else none
def px_flL0 : List (Nat × Nat × Nat) := [(11, 0, 0), (17, 0, 1), (21, 0, 2), (24, 0, 3), (28, 0, 4), (31, 0, 5)]
def px_flL1 : List (Nat × Nat × Nat) := [(22, 1, 0), (26, 1, 1), (29, 1, 2), (32, 1, 3), (35, 1, 4), (9, 1, 5), (18, 1, 6)]
def px_flL2 : List (Nat × Nat × Nat) := [(15, 2, 0), (9, 2, 1)]
def px_flL3 : List (Nat × Nat × Nat) := [(9, 3, 0), (17, 3, 1), (21, 3, 2)]
def px_flL4 : List (Nat × Nat × Nat) := [(46, 1, 6), (15, 4, 0), (18, 4, 1), (21, 4, 2), (24, 4, 3), (27, 4, 4), (30, 4, 5), (39, 4, 6), (9, 4, 7)]
def px_flL5 : List (Nat × Nat × Nat) := [(109, 1, 6), (24, 5, 0), (37, 5, 1), (40, 5, 2), (48, 5, 3), (9, 5, 4), (15, 5, 5), (18, 5, 6), (21, 5, 7)]
def px_flL6 : List (Nat × Nat × Nat) := [(11, 6, 0)]
def px_flL7 : List (Nat × Nat × Nat) := [(9, 7, 0), (15, 7, 1)]
def px_flL8 : List (Nat × Nat × Nat) := [(13, 8, 0), (22, 8, 1), (26, 8, 2), (30, 8, 3), (36, 8, 4), (40, 8, 5), (44, 8, 6), (51, 8, 7), (55, 8, 8)]
def px_flL9 : List (Nat × Nat × Nat) := [(9, 9, 0), (13, 9, 1), (20, 9, 2), (27, 9, 3)]
def px_flL10 : List (Nat × Nat × Nat) := [(88, 10, 0), (7, 10, 1), (92, 10, 2), (13, 10, 3), (17, 10, 4), (20, 10, 5), (23, 10, 6), (26, 10, 7), (29, 10, 8), (32, 10, 9), (35, 10, 10), (38, 10, 11), (41, 10, 12), (44, 10, 13), (47, 10, 14), (50, 10, 15), (164, 10, 16), (54, 10, 17), (57, 10, 18), (60, 10, 19), (199, 10, 20), (63, 10, 21), (66, 10, 22), (69, 10, 23), (205, 10, 24), (73, 10, 25), (76, 10, 26), (79, 10, 27), (106, 10, 28), (103, 10, 29), (125, 10, 30), (82, 10, 31), (85, 10, 32), (167, 10, 33)]
def px_flT : List (List (Nat × Nat × Nat)) := [px_flL0, px_flL1, px_flL2, px_flL3, px_flL4, px_flL5, px_flL6, px_flL7, px_flL8, px_flL9, px_flL10, [], [], []]
def px_fl (cn ix : Nat) : Option (Nat × Nat) := px_find (px_flT.getD cn []) ix
def px_caL0 : List (Nat × Nat × Nat × Nat) := [(34, 2, 56, 0), (35, 1, 2, 1), (49, 1, 58, 0), (52, 1, 68, 1), (39, 1, 3, 1), (58, 1, 33, 0), (63, 1, 39, 0), (67, 1, 60, 1), (43, 1, 4, 0), (71, 1, 59, 1), (46, 1, 5, 0), (75, 1, 6, 2)]
def px_caL1 : List (Nat × Nat × Nat × Nat) := [(17, 2, 56, 0), (38, 1, 13, 2), (46, 1, 67, 1), (42, 1, 14, 1), (51, 0, 154, 1), (56, 0, 156, 1), (59, 0, 157, 1), (62, 0, 158, 2), (66, 0, 159, 2), (69, 1, 16, 2), (78, 1, 68, 1), (81, 0, 161, 1), (85, 0, 162, 2), (72, 1, 19, 2)]
def px_caL2 : List (Nat × Nat × Nat × Nat) := [(19, 1, 21, 1)]
def px_caL3 : List (Nat × Nat × Nat × Nat) := [(25, 1, 25, 0)]
def px_caL4 : List (Nat × Nat × Nat × Nat) := [(36, 2, 17, 1), (45, 2, 10, 1), (50, 1, 59, 1), (56, 1, 12, 1), (60, 1, 18, 0), (63, 1, 19, 2), (67, 1, 15, 2), (71, 1, 38, 0), (77, 1, 20, 0), (81, 1, 61, 0)]
def px_caL5 : List (Nat × Nat × Nat × Nat) := [(28, 0, 164, 2), (34, 0, 165, 2), (45, 2, 10, 1), (52, 1, 44, 0), (60, 1, 45, 0), (72, 0, 46, 1), (76, 1, 47, 1), (79, 1, 48, 0), (82, 0, 153, 1), (56, 1, 49, 1), (87, 1, 50, 1), (94, 1, 51, 1), (97, 1, 52, 1), (90, 1, 11, 4), (106, 1, 53, 2), (113, 1, 57, 1), (100, 0, 54, 1), (103, 1, 55, 1), (66, 2, 31, 5), (69, 2, 32, 2)]
def px_caL6 : List (Nat × Nat × Nat × Nat) := [(15, 0, 163, 1)]
def px_caL7 : List (Nat × Nat × Nat × Nat) := [(20, 0, 64, 1)]
def px_caL8 : List (Nat × Nat × Nat × Nat) := [(21, 2, 62, 0), (35, 2, 56, 0), (50, 2, 0, 0), (59, 1, 73, 0), (83, 1, 58, 0), (62, 1, 74, 1), (86, 1, 33, 0), (89, 1, 63, 2), (93, 1, 75, 1), (97, 1, 59, 1), (101, 1, 57, 1), (66, 1, 76, 1), (69, 1, 77, 0), (104, 1, 34, 1), (73, 1, 78, 0), (107, 1, 65, 1), (110, 1, 35, 0), (113, 1, 66, 2), (76, 1, 79, 0), (117, 1, 36, 1), (121, 1, 80, 1), (80, 1, 81, 0), (124, 1, 37, 1), (126, 1, 68, 1), (130, 1, 67, 1), (133, 1, 83, 1), (136, 1, 84, 0), (143, 1, 1, 2), (140, 1, 7, 1), (147, 1, 41, 0), (151, 1, 20, 0), (156, 0, 86, 4), (160, 1, 21, 1), (163, 1, 22, 1), (166, 1, 88, 0), (169, 1, 69, 0), (172, 1, 8, 0), (175, 1, 9, 0), (178, 1, 89, 0)]
def px_caL9 : List (Nat × Nat × Nat × Nat) := [(19, 2, 70, 0), (26, 2, 23, 0), (31, 0, 93, 1), (42, 1, 94, 1), (46, 0, 96, 2), (55, 1, 97, 0), (61, 2, 42, 3), (64, 1, 43, 0), (68, 1, 71, 1), (72, 1, 24, 2), (76, 1, 72, 2), (82, 1, 26, 0), (85, 1, 27, 0), (91, 1, 28, 0), (94, 1, 29, 0), (97, 1, 30, 0), (102, 1, 82, 2), (108, 1, 40, 1), (115, 1, 85, 2), (118, 1, 87, 1)]
def px_caL10 : List (Nat × Nat × Nat × Nat) := [(95, 1, 107, 2), (99, 1, 108, 1), (218, 0, 111, 3), (222, 1, 112, 1), (225, 1, 113, 0), (228, 1, 114, 2), (202, 1, 115, 1), (113, 1, 116, 0), (109, 1, 117, 1), (132, 0, 118, 1), (150, 1, 119, 0), (117, 0, 120, 1), (121, 1, 121, 0), (153, 1, 122, 0), (140, 1, 123, 0), (128, 1, 124, 3), (136, 1, 125, 0), (143, 1, 126, 0), (146, 1, 127, 1), (209, 1, 128, 0), (156, 1, 129, 1), (191, 1, 130, 2), (170, 1, 131, 3), (173, 0, 132, 2), (161, 0, 133, 2), (177, 0, 134, 2), (180, 0, 135, 1), (183, 0, 136, 3), (187, 0, 137, 1), (212, 1, 138, 0), (195, 1, 139, 1), (215, 1, 140, 1), (234, 1, 144, 0), (237, 1, 145, 1), (231, 1, 146, 2), (240, 1, 147, 2), (243, 1, 149, 1), (246, 1, 152, 1)]
def px_caL11 : List (Nat × Nat × Nat × Nat) := [(11, 0, 155, 1), (16, 0, 160, 2)]
def px_caT : List (List (Nat × Nat × Nat × Nat)) := [px_caL0, px_caL1, px_caL2, px_caL3, px_caL4, px_caL5, px_caL6, px_caL7, px_caL8, px_caL9, px_caL10, px_caL11, [], []]
def px_ca (cn ix : Nat) : Option (Nat × Nat × Nat) := px_find (px_caT.getD cn []) ix
def px_ncL0 : List (Nat × Nat) := [(9, 6)]
def px_ncL1 : List (Nat × Nat) := [(15, 6)]
def px_ncL4 : List (Nat × Nat) := [(34, 2), (43, 1)]
def px_ncL5 : List (Nat × Nat) := [(43, 1), (64, 4)]
def px_ncL8 : List (Nat × Nat) := [(19, 7), (33, 6), (48, 0)]
def px_ncL9 : List (Nat × Nat) := [(17, 8), (24, 3), (59, 5)]
def px_ncT : List (List (Nat × Nat)) := [px_ncL0, px_ncL1, [], [], px_ncL4, px_ncL5, [], [], px_ncL8, px_ncL9, [], [], [], []]
def px_nc (cn ix : Nat) : Option (Nat) := px_find (px_ncT.getD cn []) ix
def px_anL0 : List (Nat × Nat) := [(9, 5)]
def px_anL3 : List (Nat × Nat) := [(15, 4)]
def px_anL8 : List (Nat × Nat) := [(11, 4)]
def px_anT : List (List (Nat × Nat)) := [px_anL0, [], [], px_anL3, [], [], [], [], px_anL8, [], [], [], [], []]
def px_an (cn ix : Nat) : Option (Nat) := px_find (px_anT.getD cn []) ix
def px_kcL10 : List (Nat × Int32) := [(72, 43264), (159, 1048575), (160, 524288)]
def px_kcL11 : List (Nat × Int32) := [(15, 524288)]
def px_kcT : List (List (Nat × Int32)) := [[], [], [], [], [], [], [], [], [], [], px_kcL10, px_kcL11, [], []]
def px_kc (cn ix : Nat) : Option (Int32) := px_find (px_kcT.getD cn []) ix
def px_klL12 : List (Nat × Int64) := [(314, 6148914691236517205), (316, 3689348814741910323), (318, 1085102592571150095)]
def px_klT : List (List (Nat × Int64)) := [[], [], [], [], [], [], [], [], [], [], [], [], px_klL12, []]
def px_kl (cn ix : Nat) : Option (Int64) := px_find (px_klT.getD cn []) ix
def px_obL0 : List (Nat × Bool) := [(3, true)]
def px_obL1 : List (Nat × Bool) := [(3, true)]
def px_obL2 : List (Nat × Bool) := [(3, true)]
def px_obL3 : List (Nat × Bool) := [(3, true)]
def px_obL4 : List (Nat × Bool) := [(3, true)]
def px_obL5 : List (Nat × Bool) := [(3, true)]
def px_obL6 : List (Nat × Bool) := [(3, true)]
def px_obL7 : List (Nat × Bool) := [(3, true)]
def px_obL8 : List (Nat × Bool) := [(5, true)]
def px_obL9 : List (Nat × Bool) := [(3, true)]
def px_obL10 : List (Nat × Bool) := [(1, true)]
def px_obT : List (List (Nat × Bool)) := [px_obL0, px_obL1, px_obL2, px_obL3, px_obL4, px_obL5, px_obL6, px_obL7, px_obL8, px_obL9, px_obL10, [], [], []]
def px_obq (cn ix : Nat) : Option (Bool) := px_find (px_obT.getD cn []) ix
def px_oi (cn ix : Nat) : Bool := (px_obq cn ix).getD false
/-- may the method store there: the field is not final, or it is its own maker -/
def px_may (mi ci k : Nat) : Bool := !(((px_cl.getD ci (px_R0, px_T0, 0)).2.1 k).2.2.2) || (px_isI mi && Nat.beq (px_cn mi) ci)
def px_nwF : List (String × Nat × String × String × String × String) := [("CheckDaemon$Line", 46, "CheckDaemon$Expression", "reads", "LCheckDaemon$SymbolSet;", "CheckDaemon"), ("CheckDaemon$Parser", 109, "CheckDaemon$Expression", "reads", "LCheckDaemon$SymbolSet;", "CheckDaemon")]
def px_nwM : List (String × Nat × MethodName × String) := [("CheckDaemon", 19, ⟨"CheckDaemon$Workspace", "<init>", "()V"⟩, "CheckDaemon"), ("CheckDaemon$Workspace", 35, ⟨"CheckDaemon$SymbolSet", "<init>", "()V"⟩, "CheckDaemon"), ("CheckDaemon$Circles", 34, ⟨"CheckDaemon$SymbolSet", "<init>", "()V"⟩, "CheckDaemon"), ("CheckDaemon", 26, ⟨"CheckDaemon$History", "<init>", "()V"⟩, "CheckDaemon"), ("CheckDaemon$Expression", 17, ⟨"CheckDaemon$SymbolSet", "<init>", "()V"⟩, "CheckDaemon")]
def px_nw : List Cond := px_nwF.map (fun q => Cond.fieldLinkNest q.1 q.2.1 q.2.2.1 q.2.2.2.1 q.2.2.2.2.1 q.2.2.2.2.2) ++ px_nwM.map (fun q => Cond.methodLinkNest q.1 q.2.1 q.2.2.1 q.2.2.2)
/-- how long an instruction is -/
def px_sz (pc : Nat) (i : Instr) : Nat := match i with
  | .bipush _ | .ldc _ | .iload _ | .lload _ | .aload _ | .istore _ | .lstore _ | .astore _ | .newarray _ => 2
  | .sipush _ | .ldc_w _ | .ldc2_w _ | .iinc _ _ | .ifCond _ _ | .if_icmp _ _ | .if_acmp _ _ | .goto _ | .ifnull _ | .ifnonnull _ | .getstatic _ | .putstatic _ | .getfield _ | .putfield _ | .invokevirtual _ | .invokespecial _ | .invokestatic _ | .new _ | .anewarray _ | .checkcast _ | .instanceof _ => 3
  | .tableswitch _ _ _ offs => 1 + (3 - pc % 4) + 12 + 4 * offs.size
  | .lookupswitch _ ps => 1 + (3 - pc % 4) + 8 + 8 * ps.size
  | _ => 1
end
section
/-- the words that a method may carry along -/
def px_tbl : List Cond := lw_tbl.filter goodWord
theorem px_mem (i : Nat) {w : Cond} (h : lw_tbl[i]? = some w) (hg : goodWord w = true) : w ∈ px_tbl := List.mem_filter.mpr ⟨List.mem_of_getElem? h, hg⟩
theorem px_w142 : (Jvm.Cond.laysFinal "CheckDaemon$Circles" "CheckDaemon$Circles" "hangs" "[LCheckDaemon$SymbolSet;") ∈ px_tbl := px_mem 142 (by decide +kernel) rfl
theorem px_w144 : (Jvm.Cond.laysFinal "CheckDaemon$Circles" "CheckDaemon$Circles" "least" "[I") ∈ px_tbl := px_mem 144 (by decide +kernel) rfl
theorem px_w146 : (Jvm.Cond.laysFinal "CheckDaemon$Circles" "CheckDaemon$Circles" "defined" "[I") ∈ px_tbl := px_mem 146 (by decide +kernel) rfl
theorem px_w148 : (Jvm.Cond.lays "CheckDaemon$Circles" "CheckDaemon$Circles" "definedSize" "I") ∈ px_tbl := px_mem 148 (by decide +kernel) rfl
theorem px_w150 : (Jvm.Cond.lays "CheckDaemon$Circles" "CheckDaemon$Circles" "circleCount" "I") ∈ px_tbl := px_mem 150 (by decide +kernel) rfl
theorem px_w152 : (Jvm.Cond.lays "CheckDaemon$Circles" "CheckDaemon$Circles" "selfCount" "I") ∈ px_tbl := px_mem 152 (by decide +kernel) rfl
theorem px_w359 : (Jvm.Cond.laysFinal "CheckDaemon$Expression" "CheckDaemon$Expression" "kinds" "[I") ∈ px_tbl := px_mem 359 (by decide +kernel) rfl
theorem px_w361 : (Jvm.Cond.laysFinal "CheckDaemon$Expression" "CheckDaemon$Expression" "firsts" "[I") ∈ px_tbl := px_mem 361 (by decide +kernel) rfl
theorem px_w363 : (Jvm.Cond.laysFinal "CheckDaemon$Expression" "CheckDaemon$Expression" "seconds" "[I") ∈ px_tbl := px_mem 363 (by decide +kernel) rfl
theorem px_w365 : (Jvm.Cond.laysFinal "CheckDaemon$Expression" "CheckDaemon$Expression" "places" "[I") ∈ px_tbl := px_mem 365 (by decide +kernel) rfl
theorem px_w367 : (Jvm.Cond.laysFinal "CheckDaemon$Expression" "CheckDaemon$Expression" "values" "[I") ∈ px_tbl := px_mem 367 (by decide +kernel) rfl
theorem px_w369 : (Jvm.Cond.lays "CheckDaemon$Expression" "CheckDaemon$Expression" "size" "I") ∈ px_tbl := px_mem 369 (by decide +kernel) rfl
theorem px_w371 : (Jvm.Cond.laysFinal "CheckDaemon$Expression" "CheckDaemon$Expression" "reads" "LCheckDaemon$SymbolSet;") ∈ px_tbl := px_mem 371 (by decide +kernel) rfl
theorem px_w474 : (Jvm.Cond.laysFinal "CheckDaemon$Faults" "CheckDaemon$Faults" "codes" "[I") ∈ px_tbl := px_mem 474 (by decide +kernel) rfl
theorem px_w476 : (Jvm.Cond.lays "CheckDaemon$Faults" "CheckDaemon$Faults" "size" "I") ∈ px_tbl := px_mem 476 (by decide +kernel) rfl
theorem px_w193 : (Jvm.Cond.laysFinal "CheckDaemon$History" "CheckDaemon$History" "places" "[I") ∈ px_tbl := px_mem 193 (by decide +kernel) rfl
theorem px_w195 : (Jvm.Cond.laysFinal "CheckDaemon$History" "CheckDaemon$History" "lines" "[LCheckDaemon$Line;") ∈ px_tbl := px_mem 195 (by decide +kernel) rfl
theorem px_w197 : (Jvm.Cond.lays "CheckDaemon$History" "CheckDaemon$History" "size" "I") ∈ px_tbl := px_mem 197 (by decide +kernel) rfl
theorem px_w487 : (Jvm.Cond.laysFinal "CheckDaemon$Line" "CheckDaemon$Line" "length" "I") ∈ px_tbl := px_mem 487 (by decide +kernel) rfl
theorem px_w489 : (Jvm.Cond.laysFinal "CheckDaemon$Line" "CheckDaemon$Line" "defines" "I") ∈ px_tbl := px_mem 489 (by decide +kernel) rfl
theorem px_w491 : (Jvm.Cond.laysFinal "CheckDaemon$Line" "CheckDaemon$Line" "declares" "I") ∈ px_tbl := px_mem 491 (by decide +kernel) rfl
theorem px_w493 : (Jvm.Cond.laysFinal "CheckDaemon$Line" "CheckDaemon$Line" "equalsAt" "I") ∈ px_tbl := px_mem 493 (by decide +kernel) rfl
theorem px_w495 : (Jvm.Cond.laysFinal "CheckDaemon$Line" "CheckDaemon$Line" "wrongAt" "I") ∈ px_tbl := px_mem 495 (by decide +kernel) rfl
theorem px_w497 : (Jvm.Cond.laysFinal "CheckDaemon$Line" "CheckDaemon$Line" "expression" "LCheckDaemon$Expression;") ∈ px_tbl := px_mem 497 (by decide +kernel) rfl
theorem px_w499 : (Jvm.Cond.laysFinal "CheckDaemon$Line" "CheckDaemon$Line" "faults" "LCheckDaemon$Faults;") ∈ px_tbl := px_mem 499 (by decide +kernel) rfl
theorem px_w501 : (Jvm.Cond.lays "CheckDaemon$Line" "CheckDaemon$Line" "expressionType" "I") ∈ px_tbl := px_mem 501 (by decide +kernel) rfl
theorem px_w382 : (Jvm.Cond.laysFinal "CheckDaemon$Parser" "CheckDaemon$Parser" "text" "[I") ∈ px_tbl := px_mem 382 (by decide +kernel) rfl
theorem px_w384 : (Jvm.Cond.laysFinal "CheckDaemon$Parser" "CheckDaemon$Parser" "length" "I") ∈ px_tbl := px_mem 384 (by decide +kernel) rfl
theorem px_w386 : (Jvm.Cond.laysFinal "CheckDaemon$Parser" "CheckDaemon$Parser" "module" "I") ∈ px_tbl := px_mem 386 (by decide +kernel) rfl
theorem px_w388 : (Jvm.Cond.laysFinal "CheckDaemon$Parser" "CheckDaemon$Parser" "made" "LCheckDaemon$Expression;") ∈ px_tbl := px_mem 388 (by decide +kernel) rfl
theorem px_w390 : (Jvm.Cond.lays "CheckDaemon$Parser" "CheckDaemon$Parser" "at" "I") ∈ px_tbl := px_mem 390 (by decide +kernel) rfl
theorem px_w392 : (Jvm.Cond.lays "CheckDaemon$Parser" "CheckDaemon$Parser" "defines" "I") ∈ px_tbl := px_mem 392 (by decide +kernel) rfl
theorem px_w394 : (Jvm.Cond.lays "CheckDaemon$Parser" "CheckDaemon$Parser" "declares" "I") ∈ px_tbl := px_mem 394 (by decide +kernel) rfl
theorem px_w396 : (Jvm.Cond.lays "CheckDaemon$Parser" "CheckDaemon$Parser" "equalsAt" "I") ∈ px_tbl := px_mem 396 (by decide +kernel) rfl
theorem px_w122 : (Jvm.Cond.laysFinal "CheckDaemon$SymbolSet" "CheckDaemon$SymbolSet" "words" "[J") ∈ px_tbl := px_mem 122 (by decide +kernel) rfl
theorem px_w109 : (Jvm.Cond.laysFinal "CheckDaemon$Symbols" "CheckDaemon$Symbols" "types" "[I") ∈ px_tbl := px_mem 109 (by decide +kernel) rfl
theorem px_w111 : (Jvm.Cond.laysFinal "CheckDaemon$Symbols" "CheckDaemon$Symbols" "definers" "[I") ∈ px_tbl := px_mem 111 (by decide +kernel) rfl
theorem px_w164 : (Jvm.Cond.laysFinal "CheckDaemon$Workspace" "CheckDaemon$Workspace" "lines" "[LCheckDaemon$Line;") ∈ px_tbl := px_mem 164 (by decide +kernel) rfl
theorem px_w166 : (Jvm.Cond.laysFinal "CheckDaemon$Workspace" "CheckDaemon$Workspace" "symbols" "LCheckDaemon$Symbols;") ∈ px_tbl := px_mem 166 (by decide +kernel) rfl
theorem px_w168 : (Jvm.Cond.laysFinal "CheckDaemon$Workspace" "CheckDaemon$Workspace" "looked" "[Z") ∈ px_tbl := px_mem 168 (by decide +kernel) rfl
theorem px_w170 : (Jvm.Cond.laysFinal "CheckDaemon$Workspace" "CheckDaemon$Workspace" "waiting" "[Z") ∈ px_tbl := px_mem 170 (by decide +kernel) rfl
theorem px_w172 : (Jvm.Cond.laysFinal "CheckDaemon$Workspace" "CheckDaemon$Workspace" "touched" "LCheckDaemon$SymbolSet;") ∈ px_tbl := px_mem 172 (by decide +kernel) rfl
theorem px_w174 : (Jvm.Cond.laysFinal "CheckDaemon$Workspace" "CheckDaemon$Workspace" "touchedInOrder" "[I") ∈ px_tbl := px_mem 174 (by decide +kernel) rfl
theorem px_w176 : (Jvm.Cond.lays "CheckDaemon$Workspace" "CheckDaemon$Workspace" "touchedSize" "I") ∈ px_tbl := px_mem 176 (by decide +kernel) rfl
theorem px_w178 : (Jvm.Cond.laysFinal "CheckDaemon$Workspace" "CheckDaemon$Workspace" "circles" "LCheckDaemon$Circles;") ∈ px_tbl := px_mem 178 (by decide +kernel) rfl
theorem px_w180 : (Jvm.Cond.lays "CheckDaemon$Workspace" "CheckDaemon$Workspace" "circlesAreOld" "Z") ∈ px_tbl := px_mem 180 (by decide +kernel) rfl
theorem px_w204 : (Jvm.Cond.laysFinal "CheckDaemon" "CheckDaemon" "typed" "[I") ∈ px_tbl := px_mem 204 (by decide +kernel) rfl
theorem px_w206 : (Jvm.Cond.lays "CheckDaemon" "CheckDaemon" "typedLength" "I") ∈ px_tbl := px_mem 206 (by decide +kernel) rfl
theorem px_w208 : (Jvm.Cond.laysFinal "CheckDaemon" "CheckDaemon" "workspace" "LCheckDaemon$Workspace;") ∈ px_tbl := px_mem 208 (by decide +kernel) rfl
theorem px_w210 : (Jvm.Cond.laysFinal "CheckDaemon" "CheckDaemon" "history" "LCheckDaemon$History;") ∈ px_tbl := px_mem 210 (by decide +kernel) rfl
theorem px_w900 : (Jvm.Cond.lays "CheckDaemonModel" "CheckDaemonModel" "fault" "I") ∈ px_tbl := px_mem 900 (by decide +kernel) rfl
theorem px_w902 : (Jvm.Cond.laysFinal "CheckDaemonModel" "CheckDaemonModel" "typed" "[C") ∈ px_tbl := px_mem 902 (by decide +kernel) rfl
theorem px_w904 : (Jvm.Cond.lays "CheckDaemonModel" "CheckDaemonModel" "typedSize" "I") ∈ px_tbl := px_mem 904 (by decide +kernel) rfl
theorem px_w906 : (Jvm.Cond.laysFinal "CheckDaemonModel" "CheckDaemonModel" "sizes" "[I") ∈ px_tbl := px_mem 906 (by decide +kernel) rfl
theorem px_w908 : (Jvm.Cond.laysFinal "CheckDaemonModel" "CheckDaemonModel" "texts" "[C") ∈ px_tbl := px_mem 908 (by decide +kernel) rfl
theorem px_w910 : (Jvm.Cond.laysFinal "CheckDaemonModel" "CheckDaemonModel" "wrongAt" "[I") ∈ px_tbl := px_mem 910 (by decide +kernel) rfl
theorem px_w912 : (Jvm.Cond.laysFinal "CheckDaemonModel" "CheckDaemonModel" "defines" "[I") ∈ px_tbl := px_mem 912 (by decide +kernel) rfl
theorem px_w914 : (Jvm.Cond.laysFinal "CheckDaemonModel" "CheckDaemonModel" "words" "[I") ∈ px_tbl := px_mem 914 (by decide +kernel) rfl
theorem px_w916 : (Jvm.Cond.laysFinal "CheckDaemonModel" "CheckDaemonModel" "equalAt" "[I") ∈ px_tbl := px_mem 916 (by decide +kernel) rfl
theorem px_w918 : (Jvm.Cond.laysFinal "CheckDaemonModel" "CheckDaemonModel" "stepCount" "[I") ∈ px_tbl := px_mem 918 (by decide +kernel) rfl
theorem px_w920 : (Jvm.Cond.laysFinal "CheckDaemonModel" "CheckDaemonModel" "stepKind" "[I") ∈ px_tbl := px_mem 920 (by decide +kernel) rfl
theorem px_w922 : (Jvm.Cond.laysFinal "CheckDaemonModel" "CheckDaemonModel" "stepWith" "[I") ∈ px_tbl := px_mem 922 (by decide +kernel) rfl
theorem px_w924 : (Jvm.Cond.laysFinal "CheckDaemonModel" "CheckDaemonModel" "stepAt" "[I") ∈ px_tbl := px_mem 924 (by decide +kernel) rfl
theorem px_w926 : (Jvm.Cond.laysFinal "CheckDaemonModel" "CheckDaemonModel" "typeOf" "[I") ∈ px_tbl := px_mem 926 (by decide +kernel) rfl
theorem px_w928 : (Jvm.Cond.laysFinal "CheckDaemonModel" "CheckDaemonModel" "types" "[I") ∈ px_tbl := px_mem 928 (by decide +kernel) rfl
theorem px_w930 : (Jvm.Cond.laysFinal "CheckDaemonModel" "CheckDaemonModel" "isDefined" "[Z") ∈ px_tbl := px_mem 930 (by decide +kernel) rfl
theorem px_w932 : (Jvm.Cond.lays "CheckDaemonModel" "CheckDaemonModel" "found" "I") ∈ px_tbl := px_mem 932 (by decide +kernel) rfl
theorem px_w934 : (Jvm.Cond.laysFinal "CheckDaemonModel" "CheckDaemonModel" "foundLine" "[I") ∈ px_tbl := px_mem 934 (by decide +kernel) rfl
theorem px_w936 : (Jvm.Cond.laysFinal "CheckDaemonModel" "CheckDaemonModel" "foundAt" "[I") ∈ px_tbl := px_mem 936 (by decide +kernel) rfl
theorem px_w938 : (Jvm.Cond.laysFinal "CheckDaemonModel" "CheckDaemonModel" "foundCode" "[I") ∈ px_tbl := px_mem 938 (by decide +kernel) rfl
theorem px_w940 : (Jvm.Cond.lays "CheckDaemonModel" "CheckDaemonModel" "undos" "I") ∈ px_tbl := px_mem 940 (by decide +kernel) rfl
theorem px_w942 : (Jvm.Cond.laysFinal "CheckDaemonModel" "CheckDaemonModel" "undoLine" "[I") ∈ px_tbl := px_mem 942 (by decide +kernel) rfl
theorem px_w944 : (Jvm.Cond.laysFinal "CheckDaemonModel" "CheckDaemonModel" "undoSize" "[I") ∈ px_tbl := px_mem 944 (by decide +kernel) rfl
theorem px_w946 : (Jvm.Cond.laysFinal "CheckDaemonModel" "CheckDaemonModel" "undoText" "[C") ∈ px_tbl := px_mem 946 (by decide +kernel) rfl
theorem px_w948 : (Jvm.Cond.lays "CheckDaemonModel" "CheckDaemonModel" "isKnown" "Z") ∈ px_tbl := px_mem 948 (by decide +kernel) rfl
theorem px_w950 : (Jvm.Cond.laysFinal "CheckDaemonModel" "CheckDaemonModel" "hangs" "[Z") ∈ px_tbl := px_mem 950 (by decide +kernel) rfl
theorem px_w952 : (Jvm.Cond.laysFinal "CheckDaemonModel" "CheckDaemonModel" "isLooked" "[Z") ∈ px_tbl := px_mem 952 (by decide +kernel) rfl
theorem px_w954 : (Jvm.Cond.laysFinal "CheckDaemonModel" "CheckDaemonModel" "isStale" "[Z") ∈ px_tbl := px_mem 954 (by decide +kernel) rfl
theorem px_w956 : (Jvm.Cond.lays "CheckDaemonModel" "CheckDaemonModel" "at" "I") ∈ px_tbl := px_mem 956 (by decide +kernel) rfl
theorem px_w958 : (Jvm.Cond.lays "CheckDaemonModel" "CheckDaemonModel" "line" "I") ∈ px_tbl := px_mem 958 (by decide +kernel) rfl
theorem px_w960 : (Jvm.Cond.lays "CheckDaemonModel" "CheckDaemonModel" "depth" "I") ∈ px_tbl := px_mem 960 (by decide +kernel) rfl
theorem px_w962 : (Jvm.Cond.laysFinal "CheckDaemonModel" "CheckDaemonModel" "open" "[I") ∈ px_tbl := px_mem 962 (by decide +kernel) rfl
theorem px_w964 : (Jvm.Cond.laysFinal "CheckDaemonModel" "CheckDaemonModel" "pile" "[I") ∈ px_tbl := px_mem 964 (by decide +kernel) rfl
theorem px_w966 : (Jvm.Cond.lays "CheckDaemonModel" "CheckDaemonModel" "top" "I") ∈ px_tbl := px_mem 966 (by decide +kernel) rfl
theorem px_w136 : (Jvm.Cond.fieldLink "CheckDaemon$Circles" (11 : Nat) "CheckDaemon$Circles" "hangs" "[LCheckDaemon$SymbolSet;") ∈ px_tbl := px_mem 136 (by decide +kernel) rfl
theorem px_w137 : (Jvm.Cond.fieldLink "CheckDaemon$Circles" (17 : Nat) "CheckDaemon$Circles" "least" "[I") ∈ px_tbl := px_mem 137 (by decide +kernel) rfl
theorem px_w138 : (Jvm.Cond.fieldLink "CheckDaemon$Circles" (21 : Nat) "CheckDaemon$Circles" "defined" "[I") ∈ px_tbl := px_mem 138 (by decide +kernel) rfl
theorem px_w139 : (Jvm.Cond.fieldLink "CheckDaemon$Circles" (24 : Nat) "CheckDaemon$Circles" "definedSize" "I") ∈ px_tbl := px_mem 139 (by decide +kernel) rfl
theorem px_w140 : (Jvm.Cond.fieldLink "CheckDaemon$Circles" (28 : Nat) "CheckDaemon$Circles" "circleCount" "I") ∈ px_tbl := px_mem 140 (by decide +kernel) rfl
theorem px_w141 : (Jvm.Cond.fieldLink "CheckDaemon$Circles" (31 : Nat) "CheckDaemon$Circles" "selfCount" "I") ∈ px_tbl := px_mem 141 (by decide +kernel) rfl
theorem px_w350 : (Jvm.Cond.fieldLink "CheckDaemon$Expression" (22 : Nat) "CheckDaemon$Expression" "kinds" "[I") ∈ px_tbl := px_mem 350 (by decide +kernel) rfl
theorem px_w351 : (Jvm.Cond.fieldLink "CheckDaemon$Expression" (26 : Nat) "CheckDaemon$Expression" "firsts" "[I") ∈ px_tbl := px_mem 351 (by decide +kernel) rfl
theorem px_w352 : (Jvm.Cond.fieldLink "CheckDaemon$Expression" (29 : Nat) "CheckDaemon$Expression" "seconds" "[I") ∈ px_tbl := px_mem 352 (by decide +kernel) rfl
theorem px_w353 : (Jvm.Cond.fieldLink "CheckDaemon$Expression" (32 : Nat) "CheckDaemon$Expression" "places" "[I") ∈ px_tbl := px_mem 353 (by decide +kernel) rfl
theorem px_w354 : (Jvm.Cond.fieldLink "CheckDaemon$Expression" (35 : Nat) "CheckDaemon$Expression" "values" "[I") ∈ px_tbl := px_mem 354 (by decide +kernel) rfl
theorem px_w355 : (Jvm.Cond.fieldLink "CheckDaemon$Expression" (9 : Nat) "CheckDaemon$Expression" "size" "I") ∈ px_tbl := px_mem 355 (by decide +kernel) rfl
theorem px_w356 : (Jvm.Cond.fieldLink "CheckDaemon$Expression" (18 : Nat) "CheckDaemon$Expression" "reads" "LCheckDaemon$SymbolSet;") ∈ px_tbl := px_mem 356 (by decide +kernel) rfl
theorem px_w472 : (Jvm.Cond.fieldLink "CheckDaemon$Faults" (15 : Nat) "CheckDaemon$Faults" "codes" "[I") ∈ px_tbl := px_mem 472 (by decide +kernel) rfl
theorem px_w473 : (Jvm.Cond.fieldLink "CheckDaemon$Faults" (9 : Nat) "CheckDaemon$Faults" "size" "I") ∈ px_tbl := px_mem 473 (by decide +kernel) rfl
theorem px_w190 : (Jvm.Cond.fieldLink "CheckDaemon$History" (9 : Nat) "CheckDaemon$History" "places" "[I") ∈ px_tbl := px_mem 190 (by decide +kernel) rfl
theorem px_w191 : (Jvm.Cond.fieldLink "CheckDaemon$History" (17 : Nat) "CheckDaemon$History" "lines" "[LCheckDaemon$Line;") ∈ px_tbl := px_mem 191 (by decide +kernel) rfl
theorem px_w192 : (Jvm.Cond.fieldLink "CheckDaemon$History" (21 : Nat) "CheckDaemon$History" "size" "I") ∈ px_tbl := px_mem 192 (by decide +kernel) rfl
theorem px_w479 : (Jvm.Cond.fieldLink "CheckDaemon$Line" (15 : Nat) "CheckDaemon$Line" "length" "I") ∈ px_tbl := px_mem 479 (by decide +kernel) rfl
theorem px_w480 : (Jvm.Cond.fieldLink "CheckDaemon$Line" (18 : Nat) "CheckDaemon$Line" "defines" "I") ∈ px_tbl := px_mem 480 (by decide +kernel) rfl
theorem px_w481 : (Jvm.Cond.fieldLink "CheckDaemon$Line" (21 : Nat) "CheckDaemon$Line" "declares" "I") ∈ px_tbl := px_mem 481 (by decide +kernel) rfl
theorem px_w482 : (Jvm.Cond.fieldLink "CheckDaemon$Line" (24 : Nat) "CheckDaemon$Line" "equalsAt" "I") ∈ px_tbl := px_mem 482 (by decide +kernel) rfl
theorem px_w483 : (Jvm.Cond.fieldLink "CheckDaemon$Line" (27 : Nat) "CheckDaemon$Line" "wrongAt" "I") ∈ px_tbl := px_mem 483 (by decide +kernel) rfl
theorem px_w484 : (Jvm.Cond.fieldLink "CheckDaemon$Line" (30 : Nat) "CheckDaemon$Line" "expression" "LCheckDaemon$Expression;") ∈ px_tbl := px_mem 484 (by decide +kernel) rfl
theorem px_w485 : (Jvm.Cond.fieldLink "CheckDaemon$Line" (39 : Nat) "CheckDaemon$Line" "faults" "LCheckDaemon$Faults;") ∈ px_tbl := px_mem 485 (by decide +kernel) rfl
theorem px_w486 : (Jvm.Cond.fieldLink "CheckDaemon$Line" (9 : Nat) "CheckDaemon$Line" "expressionType" "I") ∈ px_tbl := px_mem 486 (by decide +kernel) rfl
theorem px_w374 : (Jvm.Cond.fieldLink "CheckDaemon$Parser" (24 : Nat) "CheckDaemon$Parser" "text" "[I") ∈ px_tbl := px_mem 374 (by decide +kernel) rfl
theorem px_w375 : (Jvm.Cond.fieldLink "CheckDaemon$Parser" (37 : Nat) "CheckDaemon$Parser" "length" "I") ∈ px_tbl := px_mem 375 (by decide +kernel) rfl
theorem px_w376 : (Jvm.Cond.fieldLink "CheckDaemon$Parser" (40 : Nat) "CheckDaemon$Parser" "module" "I") ∈ px_tbl := px_mem 376 (by decide +kernel) rfl
theorem px_w377 : (Jvm.Cond.fieldLink "CheckDaemon$Parser" (48 : Nat) "CheckDaemon$Parser" "made" "LCheckDaemon$Expression;") ∈ px_tbl := px_mem 377 (by decide +kernel) rfl
theorem px_w378 : (Jvm.Cond.fieldLink "CheckDaemon$Parser" (9 : Nat) "CheckDaemon$Parser" "at" "I") ∈ px_tbl := px_mem 378 (by decide +kernel) rfl
theorem px_w379 : (Jvm.Cond.fieldLink "CheckDaemon$Parser" (15 : Nat) "CheckDaemon$Parser" "defines" "I") ∈ px_tbl := px_mem 379 (by decide +kernel) rfl
theorem px_w380 : (Jvm.Cond.fieldLink "CheckDaemon$Parser" (18 : Nat) "CheckDaemon$Parser" "declares" "I") ∈ px_tbl := px_mem 380 (by decide +kernel) rfl
theorem px_w381 : (Jvm.Cond.fieldLink "CheckDaemon$Parser" (21 : Nat) "CheckDaemon$Parser" "equalsAt" "I") ∈ px_tbl := px_mem 381 (by decide +kernel) rfl
theorem px_w121 : (Jvm.Cond.fieldLink "CheckDaemon$SymbolSet" (11 : Nat) "CheckDaemon$SymbolSet" "words" "[J") ∈ px_tbl := px_mem 121 (by decide +kernel) rfl
theorem px_w107 : (Jvm.Cond.fieldLink "CheckDaemon$Symbols" (9 : Nat) "CheckDaemon$Symbols" "types" "[I") ∈ px_tbl := px_mem 107 (by decide +kernel) rfl
theorem px_w108 : (Jvm.Cond.fieldLink "CheckDaemon$Symbols" (15 : Nat) "CheckDaemon$Symbols" "definers" "[I") ∈ px_tbl := px_mem 108 (by decide +kernel) rfl
theorem px_w155 : (Jvm.Cond.fieldLink "CheckDaemon$Workspace" (13 : Nat) "CheckDaemon$Workspace" "lines" "[LCheckDaemon$Line;") ∈ px_tbl := px_mem 155 (by decide +kernel) rfl
theorem px_w156 : (Jvm.Cond.fieldLink "CheckDaemon$Workspace" (22 : Nat) "CheckDaemon$Workspace" "symbols" "LCheckDaemon$Symbols;") ∈ px_tbl := px_mem 156 (by decide +kernel) rfl
theorem px_w157 : (Jvm.Cond.fieldLink "CheckDaemon$Workspace" (26 : Nat) "CheckDaemon$Workspace" "looked" "[Z") ∈ px_tbl := px_mem 157 (by decide +kernel) rfl
theorem px_w158 : (Jvm.Cond.fieldLink "CheckDaemon$Workspace" (30 : Nat) "CheckDaemon$Workspace" "waiting" "[Z") ∈ px_tbl := px_mem 158 (by decide +kernel) rfl
theorem px_w159 : (Jvm.Cond.fieldLink "CheckDaemon$Workspace" (36 : Nat) "CheckDaemon$Workspace" "touched" "LCheckDaemon$SymbolSet;") ∈ px_tbl := px_mem 159 (by decide +kernel) rfl
theorem px_w160 : (Jvm.Cond.fieldLink "CheckDaemon$Workspace" (40 : Nat) "CheckDaemon$Workspace" "touchedInOrder" "[I") ∈ px_tbl := px_mem 160 (by decide +kernel) rfl
theorem px_w161 : (Jvm.Cond.fieldLink "CheckDaemon$Workspace" (44 : Nat) "CheckDaemon$Workspace" "touchedSize" "I") ∈ px_tbl := px_mem 161 (by decide +kernel) rfl
theorem px_w162 : (Jvm.Cond.fieldLink "CheckDaemon$Workspace" (51 : Nat) "CheckDaemon$Workspace" "circles" "LCheckDaemon$Circles;") ∈ px_tbl := px_mem 162 (by decide +kernel) rfl
theorem px_w163 : (Jvm.Cond.fieldLink "CheckDaemon$Workspace" (55 : Nat) "CheckDaemon$Workspace" "circlesAreOld" "Z") ∈ px_tbl := px_mem 163 (by decide +kernel) rfl
theorem px_w200 : (Jvm.Cond.fieldLink "CheckDaemon" (9 : Nat) "CheckDaemon" "typed" "[I") ∈ px_tbl := px_mem 200 (by decide +kernel) rfl
theorem px_w201 : (Jvm.Cond.fieldLink "CheckDaemon" (13 : Nat) "CheckDaemon" "typedLength" "I") ∈ px_tbl := px_mem 201 (by decide +kernel) rfl
theorem px_w202 : (Jvm.Cond.fieldLink "CheckDaemon" (20 : Nat) "CheckDaemon" "workspace" "LCheckDaemon$Workspace;") ∈ px_tbl := px_mem 202 (by decide +kernel) rfl
theorem px_w203 : (Jvm.Cond.fieldLink "CheckDaemon" (27 : Nat) "CheckDaemon" "history" "LCheckDaemon$History;") ∈ px_tbl := px_mem 203 (by decide +kernel) rfl
theorem px_w866 : (Jvm.Cond.fieldLink "CheckDaemonModel" (88 : Nat) "CheckDaemonModel" "fault" "I") ∈ px_tbl := px_mem 866 (by decide +kernel) rfl
theorem px_w867 : (Jvm.Cond.fieldLink "CheckDaemonModel" (7 : Nat) "CheckDaemonModel" "typed" "[C") ∈ px_tbl := px_mem 867 (by decide +kernel) rfl
theorem px_w868 : (Jvm.Cond.fieldLink "CheckDaemonModel" (92 : Nat) "CheckDaemonModel" "typedSize" "I") ∈ px_tbl := px_mem 868 (by decide +kernel) rfl
theorem px_w869 : (Jvm.Cond.fieldLink "CheckDaemonModel" (13 : Nat) "CheckDaemonModel" "sizes" "[I") ∈ px_tbl := px_mem 869 (by decide +kernel) rfl
theorem px_w870 : (Jvm.Cond.fieldLink "CheckDaemonModel" (17 : Nat) "CheckDaemonModel" "texts" "[C") ∈ px_tbl := px_mem 870 (by decide +kernel) rfl
theorem px_w871 : (Jvm.Cond.fieldLink "CheckDaemonModel" (20 : Nat) "CheckDaemonModel" "wrongAt" "[I") ∈ px_tbl := px_mem 871 (by decide +kernel) rfl
theorem px_w872 : (Jvm.Cond.fieldLink "CheckDaemonModel" (23 : Nat) "CheckDaemonModel" "defines" "[I") ∈ px_tbl := px_mem 872 (by decide +kernel) rfl
theorem px_w873 : (Jvm.Cond.fieldLink "CheckDaemonModel" (26 : Nat) "CheckDaemonModel" "words" "[I") ∈ px_tbl := px_mem 873 (by decide +kernel) rfl
theorem px_w874 : (Jvm.Cond.fieldLink "CheckDaemonModel" (29 : Nat) "CheckDaemonModel" "equalAt" "[I") ∈ px_tbl := px_mem 874 (by decide +kernel) rfl
theorem px_w875 : (Jvm.Cond.fieldLink "CheckDaemonModel" (32 : Nat) "CheckDaemonModel" "stepCount" "[I") ∈ px_tbl := px_mem 875 (by decide +kernel) rfl
theorem px_w876 : (Jvm.Cond.fieldLink "CheckDaemonModel" (35 : Nat) "CheckDaemonModel" "stepKind" "[I") ∈ px_tbl := px_mem 876 (by decide +kernel) rfl
theorem px_w877 : (Jvm.Cond.fieldLink "CheckDaemonModel" (38 : Nat) "CheckDaemonModel" "stepWith" "[I") ∈ px_tbl := px_mem 877 (by decide +kernel) rfl
theorem px_w878 : (Jvm.Cond.fieldLink "CheckDaemonModel" (41 : Nat) "CheckDaemonModel" "stepAt" "[I") ∈ px_tbl := px_mem 878 (by decide +kernel) rfl
theorem px_w879 : (Jvm.Cond.fieldLink "CheckDaemonModel" (44 : Nat) "CheckDaemonModel" "typeOf" "[I") ∈ px_tbl := px_mem 879 (by decide +kernel) rfl
theorem px_w880 : (Jvm.Cond.fieldLink "CheckDaemonModel" (47 : Nat) "CheckDaemonModel" "types" "[I") ∈ px_tbl := px_mem 880 (by decide +kernel) rfl
theorem px_w881 : (Jvm.Cond.fieldLink "CheckDaemonModel" (50 : Nat) "CheckDaemonModel" "isDefined" "[Z") ∈ px_tbl := px_mem 881 (by decide +kernel) rfl
theorem px_w882 : (Jvm.Cond.fieldLink "CheckDaemonModel" (164 : Nat) "CheckDaemonModel" "found" "I") ∈ px_tbl := px_mem 882 (by decide +kernel) rfl
theorem px_w883 : (Jvm.Cond.fieldLink "CheckDaemonModel" (54 : Nat) "CheckDaemonModel" "foundLine" "[I") ∈ px_tbl := px_mem 883 (by decide +kernel) rfl
theorem px_w884 : (Jvm.Cond.fieldLink "CheckDaemonModel" (57 : Nat) "CheckDaemonModel" "foundAt" "[I") ∈ px_tbl := px_mem 884 (by decide +kernel) rfl
theorem px_w885 : (Jvm.Cond.fieldLink "CheckDaemonModel" (60 : Nat) "CheckDaemonModel" "foundCode" "[I") ∈ px_tbl := px_mem 885 (by decide +kernel) rfl
theorem px_w886 : (Jvm.Cond.fieldLink "CheckDaemonModel" (199 : Nat) "CheckDaemonModel" "undos" "I") ∈ px_tbl := px_mem 886 (by decide +kernel) rfl
theorem px_w887 : (Jvm.Cond.fieldLink "CheckDaemonModel" (63 : Nat) "CheckDaemonModel" "undoLine" "[I") ∈ px_tbl := px_mem 887 (by decide +kernel) rfl
theorem px_w888 : (Jvm.Cond.fieldLink "CheckDaemonModel" (66 : Nat) "CheckDaemonModel" "undoSize" "[I") ∈ px_tbl := px_mem 888 (by decide +kernel) rfl
theorem px_w889 : (Jvm.Cond.fieldLink "CheckDaemonModel" (69 : Nat) "CheckDaemonModel" "undoText" "[C") ∈ px_tbl := px_mem 889 (by decide +kernel) rfl
theorem px_w890 : (Jvm.Cond.fieldLink "CheckDaemonModel" (205 : Nat) "CheckDaemonModel" "isKnown" "Z") ∈ px_tbl := px_mem 890 (by decide +kernel) rfl
theorem px_w891 : (Jvm.Cond.fieldLink "CheckDaemonModel" (73 : Nat) "CheckDaemonModel" "hangs" "[Z") ∈ px_tbl := px_mem 891 (by decide +kernel) rfl
theorem px_w892 : (Jvm.Cond.fieldLink "CheckDaemonModel" (76 : Nat) "CheckDaemonModel" "isLooked" "[Z") ∈ px_tbl := px_mem 892 (by decide +kernel) rfl
theorem px_w893 : (Jvm.Cond.fieldLink "CheckDaemonModel" (79 : Nat) "CheckDaemonModel" "isStale" "[Z") ∈ px_tbl := px_mem 893 (by decide +kernel) rfl
theorem px_w894 : (Jvm.Cond.fieldLink "CheckDaemonModel" (106 : Nat) "CheckDaemonModel" "at" "I") ∈ px_tbl := px_mem 894 (by decide +kernel) rfl
theorem px_w895 : (Jvm.Cond.fieldLink "CheckDaemonModel" (103 : Nat) "CheckDaemonModel" "line" "I") ∈ px_tbl := px_mem 895 (by decide +kernel) rfl
theorem px_w896 : (Jvm.Cond.fieldLink "CheckDaemonModel" (125 : Nat) "CheckDaemonModel" "depth" "I") ∈ px_tbl := px_mem 896 (by decide +kernel) rfl
theorem px_w897 : (Jvm.Cond.fieldLink "CheckDaemonModel" (82 : Nat) "CheckDaemonModel" "open" "[I") ∈ px_tbl := px_mem 897 (by decide +kernel) rfl
theorem px_w898 : (Jvm.Cond.fieldLink "CheckDaemonModel" (85 : Nat) "CheckDaemonModel" "pile" "[I") ∈ px_tbl := px_mem 898 (by decide +kernel) rfl
theorem px_w899 : (Jvm.Cond.fieldLink "CheckDaemonModel" (167 : Nat) "CheckDaemonModel" "top" "I") ∈ px_tbl := px_mem 899 (by decide +kernel) rfl
theorem px_w118 : (Jvm.Cond.instanceMethod ({ cls := "CheckDaemon$SymbolSet", name := "<init>", desc := "()V" } : Jvm.MethodName)) ∈ px_tbl := px_mem 118 (by decide +kernel) rfl
set_option maxRecDepth 20000 in
theorem px_w119 : (Jvm.Cond.code ({ cls := "CheckDaemon$SymbolSet", name := "<init>", desc := "()V" } : Jvm.MethodName) prog_9_method_1_code (1 : Nat) (Option.none : Option Jvm.ClassFile.FieldType)) ∈ px_tbl := px_mem 119 rfl rfl
theorem px_w69 : (Jvm.Cond.initialized "CheckDaemon$SymbolSet") ∈ px_tbl := px_mem 69 (by decide +kernel) rfl
theorem px_w737 : (Jvm.Cond.methodLink "CheckDaemon$Circles" (35 : Nat) ({ cls := "CheckDaemon$Circles", name := "listDefined", desc := "(LCheckDaemon$Symbols;)V" } : Jvm.MethodName)) ∈ px_tbl := px_mem 737 (by decide +kernel) rfl
theorem px_w739 : (Jvm.Cond.instanceMethod ({ cls := "CheckDaemon$Circles", name := "listDefined", desc := "(LCheckDaemon$Symbols;)V" } : Jvm.MethodName)) ∈ px_tbl := px_mem 739 (by decide +kernel) rfl
theorem px_w29 : Cond.selects "CheckDaemon$Circles" ⟨"CheckDaemon$Circles", "listDefined", "(LCheckDaemon$Symbols;)V"⟩ ⟨"CheckDaemon$Circles", "listDefined", "(LCheckDaemon$Symbols;)V"⟩ ∈ px_tbl := px_mem 29 (by decide +kernel) rfl
set_option maxRecDepth 20000 in
theorem px_w740 : (Jvm.Cond.code ({ cls := "CheckDaemon$Circles", name := "listDefined", desc := "(LCheckDaemon$Symbols;)V" } : Jvm.MethodName) prog_2_method_6_code (3 : Nat) (Option.none : Option Jvm.ClassFile.FieldType)) ∈ px_tbl := px_mem 740 rfl rfl
theorem px_w70 : (Jvm.Cond.initialized "CheckDaemon$Circles") ∈ px_tbl := px_mem 70 (by decide +kernel) rfl
theorem px_w741 : (Jvm.Cond.methodLink "CheckDaemon$Circles" (49 : Nat) ({ cls := "CheckDaemon$SymbolSet", name := "clear", desc := "()V" } : Jvm.MethodName)) ∈ px_tbl := px_mem 741 (by decide +kernel) rfl
theorem px_w530 : (Jvm.Cond.instanceMethod ({ cls := "CheckDaemon$SymbolSet", name := "clear", desc := "()V" } : Jvm.MethodName)) ∈ px_tbl := px_mem 530 (by decide +kernel) rfl
theorem px_w531 : (Jvm.Cond.selects "CheckDaemon$SymbolSet" ({ cls := "CheckDaemon$SymbolSet", name := "clear", desc := "()V" } : Jvm.MethodName) ({ cls := "CheckDaemon$SymbolSet", name := "clear", desc := "()V" } : Jvm.MethodName)) ∈ px_tbl := px_mem 531 (by decide +kernel) rfl
set_option maxRecDepth 20000 in
theorem px_w532 : (Jvm.Cond.code ({ cls := "CheckDaemon$SymbolSet", name := "clear", desc := "()V" } : Jvm.MethodName) prog_9_method_5_code (2 : Nat) (Option.none : Option Jvm.ClassFile.FieldType)) ∈ px_tbl := px_mem 532 rfl rfl
theorem px_w742 : (Jvm.Cond.methodLink "CheckDaemon$Circles" (52 : Nat) ({ cls := "CheckDaemon$Symbols", name := "definersOf", desc := "(I)I" } : Jvm.MethodName)) ∈ px_tbl := px_mem 742 (by decide +kernel) rfl
theorem px_w661 : (Jvm.Cond.instanceMethod ({ cls := "CheckDaemon$Symbols", name := "definersOf", desc := "(I)I" } : Jvm.MethodName)) ∈ px_tbl := px_mem 661 (by decide +kernel) rfl
theorem px_w662 : (Jvm.Cond.selects "CheckDaemon$Symbols" ({ cls := "CheckDaemon$Symbols", name := "definersOf", desc := "(I)I" } : Jvm.MethodName) ({ cls := "CheckDaemon$Symbols", name := "definersOf", desc := "(I)I" } : Jvm.MethodName)) ∈ px_tbl := px_mem 662 (by decide +kernel) rfl
set_option maxRecDepth 20000 in
theorem px_w663 : (Jvm.Cond.code ({ cls := "CheckDaemon$Symbols", name := "definersOf", desc := "(I)I" } : Jvm.MethodName) prog_10_method_4_code (2 : Nat) (Option.some Jvm.ClassFile.FieldType.int)) ∈ px_tbl := px_mem 663 rfl rfl
theorem px_w68 : (Jvm.Cond.initialized "CheckDaemon$Symbols") ∈ px_tbl := px_mem 68 (by decide +kernel) rfl
theorem px_w743 : (Jvm.Cond.methodLink "CheckDaemon$Circles" (39 : Nat) ({ cls := "CheckDaemon$Circles", name := "gatherReads", desc := "([LCheckDaemon$Line;)V" } : Jvm.MethodName)) ∈ px_tbl := px_mem 743 (by decide +kernel) rfl
theorem px_w745 : (Jvm.Cond.instanceMethod ({ cls := "CheckDaemon$Circles", name := "gatherReads", desc := "([LCheckDaemon$Line;)V" } : Jvm.MethodName)) ∈ px_tbl := px_mem 745 (by decide +kernel) rfl
theorem px_w30 : Cond.selects "CheckDaemon$Circles" ⟨"CheckDaemon$Circles", "gatherReads", "([LCheckDaemon$Line;)V"⟩ ⟨"CheckDaemon$Circles", "gatherReads", "([LCheckDaemon$Line;)V"⟩ ∈ px_tbl := px_mem 30 (by decide +kernel) rfl
set_option maxRecDepth 20000 in
theorem px_w746 : (Jvm.Cond.code ({ cls := "CheckDaemon$Circles", name := "gatherReads", desc := "([LCheckDaemon$Line;)V" } : Jvm.MethodName) prog_2_method_7_code (5 : Nat) (Option.none : Option Jvm.ClassFile.FieldType)) ∈ px_tbl := px_mem 746 rfl rfl
theorem px_w747 : (Jvm.Cond.methodLink "CheckDaemon$Circles" (58 : Nat) ({ cls := "CheckDaemon$Line", name := "defined", desc := "()I" } : Jvm.MethodName)) ∈ px_tbl := px_mem 747 (by decide +kernel) rfl
theorem px_w538 : (Jvm.Cond.instanceMethod ({ cls := "CheckDaemon$Line", name := "defined", desc := "()I" } : Jvm.MethodName)) ∈ px_tbl := px_mem 538 (by decide +kernel) rfl
theorem px_w539 : (Jvm.Cond.selects "CheckDaemon$Line" ({ cls := "CheckDaemon$Line", name := "defined", desc := "()I" } : Jvm.MethodName) ({ cls := "CheckDaemon$Line", name := "defined", desc := "()I" } : Jvm.MethodName)) ∈ px_tbl := px_mem 539 (by decide +kernel) rfl
set_option maxRecDepth 20000 in
theorem px_w540 : (Jvm.Cond.code ({ cls := "CheckDaemon$Line", name := "defined", desc := "()I" } : Jvm.MethodName) prog_7_method_3_code (1 : Nat) (Option.some Jvm.ClassFile.FieldType.int)) ∈ px_tbl := px_mem 540 rfl rfl
theorem px_w82 : (Jvm.Cond.initialized "CheckDaemon$Line") ∈ px_tbl := px_mem 82 (by decide +kernel) rfl
theorem px_w748 : (Jvm.Cond.methodLink "CheckDaemon$Circles" (63 : Nat) ({ cls := "CheckDaemon$Line", name := "symbolsRead", desc := "()LCheckDaemon$SymbolSet;" } : Jvm.MethodName)) ∈ px_tbl := px_mem 748 (by decide +kernel) rfl
theorem px_w749 : (Jvm.Cond.instanceMethod ({ cls := "CheckDaemon$Line", name := "symbolsRead", desc := "()LCheckDaemon$SymbolSet;" } : Jvm.MethodName)) ∈ px_tbl := px_mem 749 (by decide +kernel) rfl
theorem px_w750 : (Jvm.Cond.selects "CheckDaemon$Line" ({ cls := "CheckDaemon$Line", name := "symbolsRead", desc := "()LCheckDaemon$SymbolSet;" } : Jvm.MethodName) ({ cls := "CheckDaemon$Line", name := "symbolsRead", desc := "()LCheckDaemon$SymbolSet;" } : Jvm.MethodName)) ∈ px_tbl := px_mem 750 (by decide +kernel) rfl
set_option maxRecDepth 20000 in
theorem px_w751 : (Jvm.Cond.code ({ cls := "CheckDaemon$Line", name := "symbolsRead", desc := "()LCheckDaemon$SymbolSet;" } : Jvm.MethodName) prog_7_method_5_code (1 : Nat) (Option.some (Jvm.ClassFile.FieldType.object "CheckDaemon$SymbolSet"))) ∈ px_tbl := px_mem 751 rfl rfl
theorem px_w752 : (Jvm.Cond.methodLink "CheckDaemon$Circles" (67 : Nat) ({ cls := "CheckDaemon$SymbolSet", name := "addAll", desc := "(LCheckDaemon$SymbolSet;)V" } : Jvm.MethodName)) ∈ px_tbl := px_mem 752 (by decide +kernel) rfl
theorem px_w753 : (Jvm.Cond.instanceMethod ({ cls := "CheckDaemon$SymbolSet", name := "addAll", desc := "(LCheckDaemon$SymbolSet;)V" } : Jvm.MethodName)) ∈ px_tbl := px_mem 753 (by decide +kernel) rfl
theorem px_w754 : (Jvm.Cond.selects "CheckDaemon$SymbolSet" ({ cls := "CheckDaemon$SymbolSet", name := "addAll", desc := "(LCheckDaemon$SymbolSet;)V" } : Jvm.MethodName) ({ cls := "CheckDaemon$SymbolSet", name := "addAll", desc := "(LCheckDaemon$SymbolSet;)V" } : Jvm.MethodName)) ∈ px_tbl := px_mem 754 (by decide +kernel) rfl
set_option maxRecDepth 20000 in
theorem px_w755 : (Jvm.Cond.code ({ cls := "CheckDaemon$SymbolSet", name := "addAll", desc := "(LCheckDaemon$SymbolSet;)V" } : Jvm.MethodName) prog_9_method_4_code (3 : Nat) (Option.none : Option Jvm.ClassFile.FieldType)) ∈ px_tbl := px_mem 755 rfl rfl
theorem px_w756 : (Jvm.Cond.methodLink "CheckDaemon$Circles" (43 : Nat) ({ cls := "CheckDaemon$Circles", name := "followOn", desc := "()V" } : Jvm.MethodName)) ∈ px_tbl := px_mem 756 (by decide +kernel) rfl
theorem px_w758 : (Jvm.Cond.instanceMethod ({ cls := "CheckDaemon$Circles", name := "followOn", desc := "()V" } : Jvm.MethodName)) ∈ px_tbl := px_mem 758 (by decide +kernel) rfl
theorem px_w31 : Cond.selects "CheckDaemon$Circles" ⟨"CheckDaemon$Circles", "followOn", "()V"⟩ ⟨"CheckDaemon$Circles", "followOn", "()V"⟩ ∈ px_tbl := px_mem 31 (by decide +kernel) rfl
set_option maxRecDepth 20000 in
theorem px_w759 : (Jvm.Cond.code ({ cls := "CheckDaemon$Circles", name := "followOn", desc := "()V" } : Jvm.MethodName) prog_2_method_8_code (5 : Nat) (Option.none : Option Jvm.ClassFile.FieldType)) ∈ px_tbl := px_mem 759 rfl rfl
theorem px_w760 : (Jvm.Cond.methodLink "CheckDaemon$Circles" (71 : Nat) ({ cls := "CheckDaemon$SymbolSet", name := "has", desc := "(I)Z" } : Jvm.MethodName)) ∈ px_tbl := px_mem 760 (by decide +kernel) rfl
theorem px_w553 : (Jvm.Cond.instanceMethod ({ cls := "CheckDaemon$SymbolSet", name := "has", desc := "(I)Z" } : Jvm.MethodName)) ∈ px_tbl := px_mem 553 (by decide +kernel) rfl
theorem px_w554 : (Jvm.Cond.selects "CheckDaemon$SymbolSet" ({ cls := "CheckDaemon$SymbolSet", name := "has", desc := "(I)Z" } : Jvm.MethodName) ({ cls := "CheckDaemon$SymbolSet", name := "has", desc := "(I)Z" } : Jvm.MethodName)) ∈ px_tbl := px_mem 554 (by decide +kernel) rfl
set_option maxRecDepth 20000 in
theorem px_w555 : (Jvm.Cond.code ({ cls := "CheckDaemon$SymbolSet", name := "has", desc := "(I)Z" } : Jvm.MethodName) prog_9_method_3_code (2 : Nat) (Option.some Jvm.ClassFile.FieldType.boolean)) ∈ px_tbl := px_mem 555 rfl rfl
theorem px_w761 : (Jvm.Cond.methodLink "CheckDaemon$Circles" (46 : Nat) ({ cls := "CheckDaemon$Circles", name := "group", desc := "()V" } : Jvm.MethodName)) ∈ px_tbl := px_mem 761 (by decide +kernel) rfl
theorem px_w763 : (Jvm.Cond.instanceMethod ({ cls := "CheckDaemon$Circles", name := "group", desc := "()V" } : Jvm.MethodName)) ∈ px_tbl := px_mem 763 (by decide +kernel) rfl
theorem px_w32 : Cond.selects "CheckDaemon$Circles" ⟨"CheckDaemon$Circles", "group", "()V"⟩ ⟨"CheckDaemon$Circles", "group", "()V"⟩ ∈ px_tbl := px_mem 32 (by decide +kernel) rfl
set_option maxRecDepth 20000 in
theorem px_w764 : (Jvm.Cond.code ({ cls := "CheckDaemon$Circles", name := "group", desc := "()V" } : Jvm.MethodName) prog_2_method_9_code (3 : Nat) (Option.none : Option Jvm.ClassFile.FieldType)) ∈ px_tbl := px_mem 764 rfl rfl
theorem px_w765 : (Jvm.Cond.methodLink "CheckDaemon$Circles" (75 : Nat) ({ cls := "CheckDaemon$Circles", name := "findLeast", desc := "(II)I" } : Jvm.MethodName)) ∈ px_tbl := px_mem 765 (by decide +kernel) rfl
theorem px_w767 : (Jvm.Cond.instanceMethod ({ cls := "CheckDaemon$Circles", name := "findLeast", desc := "(II)I" } : Jvm.MethodName)) ∈ px_tbl := px_mem 767 (by decide +kernel) rfl
theorem px_w33 : Cond.selects "CheckDaemon$Circles" ⟨"CheckDaemon$Circles", "findLeast", "(II)I"⟩ ⟨"CheckDaemon$Circles", "findLeast", "(II)I"⟩ ∈ px_tbl := px_mem 33 (by decide +kernel) rfl
set_option maxRecDepth 20000 in
theorem px_w768 : (Jvm.Cond.code ({ cls := "CheckDaemon$Circles", name := "findLeast", desc := "(II)I" } : Jvm.MethodName) prog_2_method_10_code (6 : Nat) (Option.some Jvm.ClassFile.FieldType.int)) ∈ px_tbl := px_mem 768 rfl rfl
theorem px_w598 : (Jvm.Cond.methodLink "CheckDaemon$Expression" (38 : Nat) ({ cls := "CheckDaemon$Expression", name := "valueOf", desc := "(ILCheckDaemon$Symbols;)I" } : Jvm.MethodName)) ∈ px_tbl := px_mem 598 (by decide +kernel) rfl
theorem px_w600 : (Jvm.Cond.instanceMethod ({ cls := "CheckDaemon$Expression", name := "valueOf", desc := "(ILCheckDaemon$Symbols;)I" } : Jvm.MethodName)) ∈ px_tbl := px_mem 600 (by decide +kernel) rfl
theorem px_w21 : Cond.selects "CheckDaemon$Expression" ⟨"CheckDaemon$Expression", "valueOf", "(ILCheckDaemon$Symbols;)I"⟩ ⟨"CheckDaemon$Expression", "valueOf", "(ILCheckDaemon$Symbols;)I"⟩ ∈ px_tbl := px_mem 21 (by decide +kernel) rfl
set_option maxRecDepth 20000 in
theorem px_w601 : (Jvm.Cond.code ({ cls := "CheckDaemon$Expression", name := "valueOf", desc := "(ILCheckDaemon$Symbols;)I" } : Jvm.MethodName) prog_3_method_5_code (5 : Nat) (Option.some Jvm.ClassFile.FieldType.int)) ∈ px_tbl := px_mem 601 rfl rfl
theorem px_w80 : (Jvm.Cond.initialized "CheckDaemon$Expression") ∈ px_tbl := px_mem 80 (by decide +kernel) rfl
theorem px_w602 : (Jvm.Cond.methodLink "CheckDaemon$Expression" (46 : Nat) ({ cls := "CheckDaemon$Symbols", name := "typeOf", desc := "(I)I" } : Jvm.MethodName)) ∈ px_tbl := px_mem 602 (by decide +kernel) rfl
theorem px_w603 : (Jvm.Cond.instanceMethod ({ cls := "CheckDaemon$Symbols", name := "typeOf", desc := "(I)I" } : Jvm.MethodName)) ∈ px_tbl := px_mem 603 (by decide +kernel) rfl
theorem px_w604 : (Jvm.Cond.selects "CheckDaemon$Symbols" ({ cls := "CheckDaemon$Symbols", name := "typeOf", desc := "(I)I" } : Jvm.MethodName) ({ cls := "CheckDaemon$Symbols", name := "typeOf", desc := "(I)I" } : Jvm.MethodName)) ∈ px_tbl := px_mem 604 (by decide +kernel) rfl
set_option maxRecDepth 20000 in
theorem px_w605 : (Jvm.Cond.code ({ cls := "CheckDaemon$Symbols", name := "typeOf", desc := "(I)I" } : Jvm.MethodName) prog_10_method_3_code (2 : Nat) (Option.some Jvm.ClassFile.FieldType.int)) ∈ px_tbl := px_mem 605 rfl rfl
theorem px_w606 : (Jvm.Cond.methodLink "CheckDaemon$Expression" (42 : Nat) ({ cls := "CheckDaemon$Expression", name := "valueAt", desc := "(I)I" } : Jvm.MethodName)) ∈ px_tbl := px_mem 606 (by decide +kernel) rfl
theorem px_w608 : (Jvm.Cond.instanceMethod ({ cls := "CheckDaemon$Expression", name := "valueAt", desc := "(I)I" } : Jvm.MethodName)) ∈ px_tbl := px_mem 608 (by decide +kernel) rfl
theorem px_w22 : Cond.selects "CheckDaemon$Expression" ⟨"CheckDaemon$Expression", "valueAt", "(I)I"⟩ ⟨"CheckDaemon$Expression", "valueAt", "(I)I"⟩ ∈ px_tbl := px_mem 22 (by decide +kernel) rfl
set_option maxRecDepth 20000 in
theorem px_w609 : (Jvm.Cond.code ({ cls := "CheckDaemon$Expression", name := "valueAt", desc := "(I)I" } : Jvm.MethodName) prog_3_method_4_code (2 : Nat) (Option.some Jvm.ClassFile.FieldType.int)) ∈ px_tbl := px_mem 609 rfl rfl
theorem px_w610 : (Jvm.Cond.methodLink "CheckDaemon$Expression" (51 : Nat) ({ cls := "CheckDaemon$Forms", name := "listed", desc := "(I)I" } : Jvm.MethodName)) ∈ px_tbl := px_mem 610 (by decide +kernel) rfl
theorem px_w611 : (Jvm.Cond.static ({ cls := "CheckDaemon$Forms", name := "listed", desc := "(I)I" } : Jvm.MethodName)) ∈ px_tbl := px_mem 611 (by decide +kernel) rfl
set_option maxRecDepth 20000 in
theorem px_w612 : (Jvm.Cond.code ({ cls := "CheckDaemon$Forms", name := "listed", desc := "(I)I" } : Jvm.MethodName) prog_5_method_4_code (3 : Nat) (Option.some Jvm.ClassFile.FieldType.int)) ∈ px_tbl := px_mem 612 rfl rfl
theorem px_w81 : (Jvm.Cond.initialized "CheckDaemon$Forms") ∈ px_tbl := px_mem 81 (by decide +kernel) rfl
theorem px_w617 : (Jvm.Cond.methodLink "CheckDaemon$Expression" (56 : Nat) ({ cls := "CheckDaemon$Forms", name := "unlisted", desc := "(I)I" } : Jvm.MethodName)) ∈ px_tbl := px_mem 617 (by decide +kernel) rfl
theorem px_w618 : (Jvm.Cond.static ({ cls := "CheckDaemon$Forms", name := "unlisted", desc := "(I)I" } : Jvm.MethodName)) ∈ px_tbl := px_mem 618 (by decide +kernel) rfl
set_option maxRecDepth 20000 in
theorem px_w619 : (Jvm.Cond.code ({ cls := "CheckDaemon$Forms", name := "unlisted", desc := "(I)I" } : Jvm.MethodName) prog_5_method_5_code (1 : Nat) (Option.some Jvm.ClassFile.FieldType.int)) ∈ px_tbl := px_mem 619 rfl rfl
theorem px_w620 : (Jvm.Cond.methodLink "CheckDaemon$Expression" (59 : Nat) ({ cls := "CheckDaemon$Forms", name := "withoutNil", desc := "(I)I" } : Jvm.MethodName)) ∈ px_tbl := px_mem 620 (by decide +kernel) rfl
theorem px_w621 : (Jvm.Cond.static ({ cls := "CheckDaemon$Forms", name := "withoutNil", desc := "(I)I" } : Jvm.MethodName)) ∈ px_tbl := px_mem 621 (by decide +kernel) rfl
set_option maxRecDepth 20000 in
theorem px_w622 : (Jvm.Cond.code ({ cls := "CheckDaemon$Forms", name := "withoutNil", desc := "(I)I" } : Jvm.MethodName) prog_5_method_7_code (1 : Nat) (Option.some Jvm.ClassFile.FieldType.int)) ∈ px_tbl := px_mem 622 rfl rfl
theorem px_w623 : (Jvm.Cond.methodLink "CheckDaemon$Expression" (62 : Nat) ({ cls := "CheckDaemon$Forms", name := "narrowed", desc := "(II)I" } : Jvm.MethodName)) ∈ px_tbl := px_mem 623 (by decide +kernel) rfl
theorem px_w624 : (Jvm.Cond.static ({ cls := "CheckDaemon$Forms", name := "narrowed", desc := "(II)I" } : Jvm.MethodName)) ∈ px_tbl := px_mem 624 (by decide +kernel) rfl
set_option maxRecDepth 20000 in
theorem px_w625 : (Jvm.Cond.code ({ cls := "CheckDaemon$Forms", name := "narrowed", desc := "(II)I" } : Jvm.MethodName) prog_5_method_8_code (3 : Nat) (Option.some Jvm.ClassFile.FieldType.int)) ∈ px_tbl := px_mem 625 rfl rfl
theorem px_w626 : (Jvm.Cond.methodLink "CheckDaemon$Expression" (66 : Nat) ({ cls := "CheckDaemon$Forms", name := "sum", desc := "(II)I" } : Jvm.MethodName)) ∈ px_tbl := px_mem 626 (by decide +kernel) rfl
theorem px_w627 : (Jvm.Cond.static ({ cls := "CheckDaemon$Forms", name := "sum", desc := "(II)I" } : Jvm.MethodName)) ∈ px_tbl := px_mem 627 (by decide +kernel) rfl
set_option maxRecDepth 20000 in
theorem px_w628 : (Jvm.Cond.code ({ cls := "CheckDaemon$Forms", name := "sum", desc := "(II)I" } : Jvm.MethodName) prog_5_method_9_code (6 : Nat) (Option.some Jvm.ClassFile.FieldType.int)) ∈ px_tbl := px_mem 628 rfl rfl
theorem px_w656 : (Jvm.Cond.methodLink "CheckDaemon$Expression" (69 : Nat) ({ cls := "CheckDaemon$Expression", name := "faultOf", desc := "(ILCheckDaemon$Symbols;)I" } : Jvm.MethodName)) ∈ px_tbl := px_mem 656 (by decide +kernel) rfl
theorem px_w658 : (Jvm.Cond.instanceMethod ({ cls := "CheckDaemon$Expression", name := "faultOf", desc := "(ILCheckDaemon$Symbols;)I" } : Jvm.MethodName)) ∈ px_tbl := px_mem 658 (by decide +kernel) rfl
theorem px_w25 : Cond.selects "CheckDaemon$Expression" ⟨"CheckDaemon$Expression", "faultOf", "(ILCheckDaemon$Symbols;)I"⟩ ⟨"CheckDaemon$Expression", "faultOf", "(ILCheckDaemon$Symbols;)I"⟩ ∈ px_tbl := px_mem 25 (by decide +kernel) rfl
set_option maxRecDepth 20000 in
theorem px_w659 : (Jvm.Cond.code ({ cls := "CheckDaemon$Expression", name := "faultOf", desc := "(ILCheckDaemon$Symbols;)I" } : Jvm.MethodName) prog_3_method_7_code (3 : Nat) (Option.some Jvm.ClassFile.FieldType.int)) ∈ px_tbl := px_mem 659 rfl rfl
theorem px_w660 : (Jvm.Cond.methodLink "CheckDaemon$Expression" (78 : Nat) ({ cls := "CheckDaemon$Symbols", name := "definersOf", desc := "(I)I" } : Jvm.MethodName)) ∈ px_tbl := px_mem 660 (by decide +kernel) rfl
theorem px_w664 : (Jvm.Cond.methodLink "CheckDaemon$Expression" (81 : Nat) ({ cls := "CheckDaemon$Forms", name := "unlistingLoses", desc := "(I)Z" } : Jvm.MethodName)) ∈ px_tbl := px_mem 664 (by decide +kernel) rfl
theorem px_w665 : (Jvm.Cond.static ({ cls := "CheckDaemon$Forms", name := "unlistingLoses", desc := "(I)Z" } : Jvm.MethodName)) ∈ px_tbl := px_mem 665 (by decide +kernel) rfl
set_option maxRecDepth 20000 in
theorem px_w666 : (Jvm.Cond.code ({ cls := "CheckDaemon$Forms", name := "unlistingLoses", desc := "(I)Z" } : Jvm.MethodName) prog_5_method_6_code (1 : Nat) (Option.some Jvm.ClassFile.FieldType.boolean)) ∈ px_tbl := px_mem 666 rfl rfl
theorem px_w667 : (Jvm.Cond.methodLink "CheckDaemon$Expression" (85 : Nat) ({ cls := "CheckDaemon$Forms", name := "summingLoses", desc := "(II)Z" } : Jvm.MethodName)) ∈ px_tbl := px_mem 667 (by decide +kernel) rfl
theorem px_w668 : (Jvm.Cond.static ({ cls := "CheckDaemon$Forms", name := "summingLoses", desc := "(II)Z" } : Jvm.MethodName)) ∈ px_tbl := px_mem 668 (by decide +kernel) rfl
set_option maxRecDepth 20000 in
theorem px_w669 : (Jvm.Cond.code ({ cls := "CheckDaemon$Forms", name := "summingLoses", desc := "(II)Z" } : Jvm.MethodName) prog_5_method_11_code (7 : Nat) (Option.some Jvm.ClassFile.FieldType.boolean)) ∈ px_tbl := px_mem 669 rfl rfl
theorem px_w670 : (Jvm.Cond.methodLink "CheckDaemon$Expression" (72 : Nat) ({ cls := "CheckDaemon$Faults", name := "add", desc := "(II)V" } : Jvm.MethodName)) ∈ px_tbl := px_mem 670 (by decide +kernel) rfl
theorem px_w649 : (Jvm.Cond.instanceMethod ({ cls := "CheckDaemon$Faults", name := "add", desc := "(II)V" } : Jvm.MethodName)) ∈ px_tbl := px_mem 649 (by decide +kernel) rfl
theorem px_w650 : (Jvm.Cond.selects "CheckDaemon$Faults" ({ cls := "CheckDaemon$Faults", name := "add", desc := "(II)V" } : Jvm.MethodName) ({ cls := "CheckDaemon$Faults", name := "add", desc := "(II)V" } : Jvm.MethodName)) ∈ px_tbl := px_mem 650 (by decide +kernel) rfl
set_option maxRecDepth 20000 in
theorem px_w651 : (Jvm.Cond.code ({ cls := "CheckDaemon$Faults", name := "add", desc := "(II)V" } : Jvm.MethodName) prog_4_method_3_code (3 : Nat) (Option.none : Option Jvm.ClassFile.FieldType)) ∈ px_tbl := px_mem 651 rfl rfl
theorem px_w83 : (Jvm.Cond.initialized "CheckDaemon$Faults") ∈ px_tbl := px_mem 83 (by decide +kernel) rfl
theorem px_w827 : (Jvm.Cond.methodLink "CheckDaemon$Faults" (19 : Nat) ({ cls := "CheckDaemon$Faults", name := "placeOf", desc := "(I)I" } : Jvm.MethodName)) ∈ px_tbl := px_mem 827 (by decide +kernel) rfl
theorem px_w820 : (Jvm.Cond.instanceMethod ({ cls := "CheckDaemon$Faults", name := "placeOf", desc := "(I)I" } : Jvm.MethodName)) ∈ px_tbl := px_mem 820 (by decide +kernel) rfl
theorem px_w821 : (Jvm.Cond.selects "CheckDaemon$Faults" ({ cls := "CheckDaemon$Faults", name := "placeOf", desc := "(I)I" } : Jvm.MethodName) ({ cls := "CheckDaemon$Faults", name := "placeOf", desc := "(I)I" } : Jvm.MethodName)) ∈ px_tbl := px_mem 821 (by decide +kernel) rfl
set_option maxRecDepth 20000 in
theorem px_w822 : (Jvm.Cond.code ({ cls := "CheckDaemon$Faults", name := "placeOf", desc := "(I)I" } : Jvm.MethodName) prog_4_method_5_code (4 : Nat) (Option.some Jvm.ClassFile.FieldType.int)) ∈ px_tbl := px_mem 822 rfl rfl
theorem px_w517 : (Jvm.Cond.methodLink "CheckDaemon$History" (25 : Nat) ({ cls := "CheckDaemon$History", name := "loseOldest", desc := "()V" } : Jvm.MethodName)) ∈ px_tbl := px_mem 517 (by decide +kernel) rfl
theorem px_w519 : (Jvm.Cond.instanceMethod ({ cls := "CheckDaemon$History", name := "loseOldest", desc := "()V" } : Jvm.MethodName)) ∈ px_tbl := px_mem 519 (by decide +kernel) rfl
theorem px_w13 : Cond.selects "CheckDaemon$History" ⟨"CheckDaemon$History", "loseOldest", "()V"⟩ ⟨"CheckDaemon$History", "loseOldest", "()V"⟩ ∈ px_tbl := px_mem 13 (by decide +kernel) rfl
set_option maxRecDepth 20000 in
theorem px_w520 : (Jvm.Cond.code ({ cls := "CheckDaemon$History", name := "loseOldest", desc := "()V" } : Jvm.MethodName) prog_6_method_4_code (2 : Nat) (Option.none : Option Jvm.ClassFile.FieldType)) ∈ px_tbl := px_mem 520 rfl rfl
theorem px_w71 : (Jvm.Cond.initialized "CheckDaemon$History") ∈ px_tbl := px_mem 71 (by decide +kernel) rfl
theorem px_w468 : (Jvm.Cond.methodLink "CheckDaemon$Line" (36 : Nat) ({ cls := "CheckDaemon$Faults", name := "<init>", desc := "(I)V" } : Jvm.MethodName)) ∈ px_tbl := px_mem 468 (by decide +kernel) rfl
theorem px_w469 : (Jvm.Cond.instanceMethod ({ cls := "CheckDaemon$Faults", name := "<init>", desc := "(I)V" } : Jvm.MethodName)) ∈ px_tbl := px_mem 469 (by decide +kernel) rfl
set_option maxRecDepth 20000 in
theorem px_w470 : (Jvm.Cond.code ({ cls := "CheckDaemon$Faults", name := "<init>", desc := "(I)V" } : Jvm.MethodName) prog_4_method_1_code (2 : Nat) (Option.none : Option Jvm.ClassFile.FieldType)) ∈ px_tbl := px_mem 470 rfl rfl
theorem px_w508 : (Jvm.Cond.methodLink "CheckDaemon$Line" (45 : Nat) ({ cls := "CheckDaemon$Expression", name := "<init>", desc := "(I)V" } : Jvm.MethodName)) ∈ px_tbl := px_mem 508 (by decide +kernel) rfl
theorem px_w345 : (Jvm.Cond.instanceMethod ({ cls := "CheckDaemon$Expression", name := "<init>", desc := "(I)V" } : Jvm.MethodName)) ∈ px_tbl := px_mem 345 (by decide +kernel) rfl
set_option maxRecDepth 20000 in
theorem px_w346 : (Jvm.Cond.code ({ cls := "CheckDaemon$Expression", name := "<init>", desc := "(I)V" } : Jvm.MethodName) prog_3_method_1_code (3 : Nat) (Option.none : Option Jvm.ClassFile.FieldType)) ∈ px_tbl := px_mem 346 rfl rfl
theorem px_w569 : (Jvm.Cond.methodLink "CheckDaemon$Line" (50 : Nat) ({ cls := "CheckDaemon$SymbolSet", name := "has", desc := "(I)Z" } : Jvm.MethodName)) ∈ px_tbl := px_mem 569 (by decide +kernel) rfl
theorem px_w594 : (Jvm.Cond.methodLink "CheckDaemon$Line" (56 : Nat) ({ cls := "CheckDaemon$Expression", name := "workOut", desc := "(LCheckDaemon$Symbols;)I" } : Jvm.MethodName)) ∈ px_tbl := px_mem 594 (by decide +kernel) rfl
theorem px_w595 : (Jvm.Cond.instanceMethod ({ cls := "CheckDaemon$Expression", name := "workOut", desc := "(LCheckDaemon$Symbols;)I" } : Jvm.MethodName)) ∈ px_tbl := px_mem 595 (by decide +kernel) rfl
theorem px_w596 : (Jvm.Cond.selects "CheckDaemon$Expression" ({ cls := "CheckDaemon$Expression", name := "workOut", desc := "(LCheckDaemon$Symbols;)I" } : Jvm.MethodName) ({ cls := "CheckDaemon$Expression", name := "workOut", desc := "(LCheckDaemon$Symbols;)I" } : Jvm.MethodName)) ∈ px_tbl := px_mem 596 (by decide +kernel) rfl
set_option maxRecDepth 20000 in
theorem px_w597 : (Jvm.Cond.code ({ cls := "CheckDaemon$Expression", name := "workOut", desc := "(LCheckDaemon$Symbols;)I" } : Jvm.MethodName) prog_3_method_3_code (3 : Nat) (Option.some Jvm.ClassFile.FieldType.int)) ∈ px_tbl := px_mem 597 rfl rfl
theorem px_w644 : (Jvm.Cond.methodLink "CheckDaemon$Line" (60 : Nat) ({ cls := "CheckDaemon$Faults", name := "clear", desc := "()V" } : Jvm.MethodName)) ∈ px_tbl := px_mem 644 (by decide +kernel) rfl
theorem px_w645 : (Jvm.Cond.instanceMethod ({ cls := "CheckDaemon$Faults", name := "clear", desc := "()V" } : Jvm.MethodName)) ∈ px_tbl := px_mem 645 (by decide +kernel) rfl
theorem px_w646 : (Jvm.Cond.selects "CheckDaemon$Faults" ({ cls := "CheckDaemon$Faults", name := "clear", desc := "()V" } : Jvm.MethodName) ({ cls := "CheckDaemon$Faults", name := "clear", desc := "()V" } : Jvm.MethodName)) ∈ px_tbl := px_mem 646 (by decide +kernel) rfl
set_option maxRecDepth 20000 in
theorem px_w647 : (Jvm.Cond.code ({ cls := "CheckDaemon$Faults", name := "clear", desc := "()V" } : Jvm.MethodName) prog_4_method_2_code (2 : Nat) (Option.none : Option Jvm.ClassFile.FieldType)) ∈ px_tbl := px_mem 647 rfl rfl
theorem px_w648 : (Jvm.Cond.methodLink "CheckDaemon$Line" (63 : Nat) ({ cls := "CheckDaemon$Faults", name := "add", desc := "(II)V" } : Jvm.MethodName)) ∈ px_tbl := px_mem 648 (by decide +kernel) rfl
theorem px_w652 : (Jvm.Cond.methodLink "CheckDaemon$Line" (67 : Nat) ({ cls := "CheckDaemon$Expression", name := "findFaults", desc := "(LCheckDaemon$Symbols;LCheckDaemon$Faults;)V" } : Jvm.MethodName)) ∈ px_tbl := px_mem 652 (by decide +kernel) rfl
theorem px_w653 : (Jvm.Cond.instanceMethod ({ cls := "CheckDaemon$Expression", name := "findFaults", desc := "(LCheckDaemon$Symbols;LCheckDaemon$Faults;)V" } : Jvm.MethodName)) ∈ px_tbl := px_mem 653 (by decide +kernel) rfl
theorem px_w654 : (Jvm.Cond.selects "CheckDaemon$Expression" ({ cls := "CheckDaemon$Expression", name := "findFaults", desc := "(LCheckDaemon$Symbols;LCheckDaemon$Faults;)V" } : Jvm.MethodName) ({ cls := "CheckDaemon$Expression", name := "findFaults", desc := "(LCheckDaemon$Symbols;LCheckDaemon$Faults;)V" } : Jvm.MethodName)) ∈ px_tbl := px_mem 654 (by decide +kernel) rfl
set_option maxRecDepth 20000 in
theorem px_w655 : (Jvm.Cond.code ({ cls := "CheckDaemon$Expression", name := "findFaults", desc := "(LCheckDaemon$Symbols;LCheckDaemon$Faults;)V" } : Jvm.MethodName) prog_3_method_6_code (5 : Nat) (Option.none : Option Jvm.ClassFile.FieldType)) ∈ px_tbl := px_mem 655 rfl rfl
theorem px_w671 : (Jvm.Cond.methodLink "CheckDaemon$Line" (71 : Nat) ({ cls := "CheckDaemon$Line", name := "isMismatch", desc := "()Z" } : Jvm.MethodName)) ∈ px_tbl := px_mem 671 (by decide +kernel) rfl
theorem px_w673 : (Jvm.Cond.instanceMethod ({ cls := "CheckDaemon$Line", name := "isMismatch", desc := "()Z" } : Jvm.MethodName)) ∈ px_tbl := px_mem 673 (by decide +kernel) rfl
theorem px_w26 : Cond.selects "CheckDaemon$Line" ⟨"CheckDaemon$Line", "isMismatch", "()Z"⟩ ⟨"CheckDaemon$Line", "isMismatch", "()Z"⟩ ∈ px_tbl := px_mem 26 (by decide +kernel) rfl
set_option maxRecDepth 20000 in
theorem px_w674 : (Jvm.Cond.code ({ cls := "CheckDaemon$Line", name := "isMismatch", desc := "()Z" } : Jvm.MethodName) prog_7_method_10_code (1 : Nat) (Option.some Jvm.ClassFile.FieldType.boolean)) ∈ px_tbl := px_mem 674 rfl rfl
theorem px_w785 : (Jvm.Cond.methodLink "CheckDaemon$Line" (77 : Nat) ({ cls := "CheckDaemon$Faults", name := "size", desc := "()I" } : Jvm.MethodName)) ∈ px_tbl := px_mem 785 (by decide +kernel) rfl
theorem px_w786 : (Jvm.Cond.instanceMethod ({ cls := "CheckDaemon$Faults", name := "size", desc := "()I" } : Jvm.MethodName)) ∈ px_tbl := px_mem 786 (by decide +kernel) rfl
theorem px_w787 : (Jvm.Cond.selects "CheckDaemon$Faults" ({ cls := "CheckDaemon$Faults", name := "size", desc := "()I" } : Jvm.MethodName) ({ cls := "CheckDaemon$Faults", name := "size", desc := "()I" } : Jvm.MethodName)) ∈ px_tbl := px_mem 787 (by decide +kernel) rfl
set_option maxRecDepth 20000 in
theorem px_w788 : (Jvm.Cond.code ({ cls := "CheckDaemon$Faults", name := "size", desc := "()I" } : Jvm.MethodName) prog_4_method_4_code (1 : Nat) (Option.some Jvm.ClassFile.FieldType.int)) ∈ px_tbl := px_mem 788 rfl rfl
theorem px_w789 : (Jvm.Cond.methodLink "CheckDaemon$Line" (81 : Nat) ({ cls := "CheckDaemon$SymbolSet", name := "size", desc := "()I" } : Jvm.MethodName)) ∈ px_tbl := px_mem 789 (by decide +kernel) rfl
theorem px_w790 : (Jvm.Cond.instanceMethod ({ cls := "CheckDaemon$SymbolSet", name := "size", desc := "()I" } : Jvm.MethodName)) ∈ px_tbl := px_mem 790 (by decide +kernel) rfl
theorem px_w791 : (Jvm.Cond.selects "CheckDaemon$SymbolSet" ({ cls := "CheckDaemon$SymbolSet", name := "size", desc := "()I" } : Jvm.MethodName) ({ cls := "CheckDaemon$SymbolSet", name := "size", desc := "()I" } : Jvm.MethodName)) ∈ px_tbl := px_mem 791 (by decide +kernel) rfl
set_option maxRecDepth 20000 in
theorem px_w792 : (Jvm.Cond.code ({ cls := "CheckDaemon$SymbolSet", name := "size", desc := "()I" } : Jvm.MethodName) prog_9_method_6_code (3 : Nat) (Option.some Jvm.ClassFile.FieldType.int)) ∈ px_tbl := px_mem 792 rfl rfl
theorem px_w336 : (Jvm.Cond.methodLink "CheckDaemon$Parser" (28 : Nat) ({ cls := "java/lang/Math", name := "min", desc := "(II)I" } : Jvm.MethodName)) ∈ px_tbl := px_mem 336 (by decide +kernel) rfl
theorem px_w337 : (Jvm.Cond.static ({ cls := "java/lang/Math", name := "min", desc := "(II)I" } : Jvm.MethodName)) ∈ px_tbl := px_mem 337 (by decide +kernel) rfl
set_option maxRecDepth 20000 in
theorem px_w338 : (Jvm.Cond.code ({ cls := "java/lang/Math", name := "min", desc := "(II)I" } : Jvm.MethodName) prog_18_method_69_code (2 : Nat) (Option.some Jvm.ClassFile.FieldType.int)) ∈ px_tbl := px_mem 338 rfl rfl
theorem px_w79 : (Jvm.Cond.initialized "java/lang/Math") ∈ px_tbl := px_mem 79 (by decide +kernel) rfl
theorem px_w339 : (Jvm.Cond.methodLink "CheckDaemon$Parser" (34 : Nat) ({ cls := "java/lang/Math", name := "max", desc := "(II)I" } : Jvm.MethodName)) ∈ px_tbl := px_mem 339 (by decide +kernel) rfl
theorem px_w340 : (Jvm.Cond.static ({ cls := "java/lang/Math", name := "max", desc := "(II)I" } : Jvm.MethodName)) ∈ px_tbl := px_mem 340 (by decide +kernel) rfl
set_option maxRecDepth 20000 in
theorem px_w341 : (Jvm.Cond.code ({ cls := "java/lang/Math", name := "max", desc := "(II)I" } : Jvm.MethodName) prog_18_method_65_code (2 : Nat) (Option.some Jvm.ClassFile.FieldType.int)) ∈ px_tbl := px_mem 341 rfl rfl
theorem px_w344 : (Jvm.Cond.methodLink "CheckDaemon$Parser" (45 : Nat) ({ cls := "CheckDaemon$Expression", name := "<init>", desc := "(I)V" } : Jvm.MethodName)) ∈ px_tbl := px_mem 344 (by decide +kernel) rfl
theorem px_w403 : (Jvm.Cond.methodLink "CheckDaemon$Parser" (52 : Nat) ({ cls := "CheckDaemon$Parser", name := "readHead", desc := "()Z" } : Jvm.MethodName)) ∈ px_tbl := px_mem 403 (by decide +kernel) rfl
theorem px_w405 : (Jvm.Cond.instanceMethod ({ cls := "CheckDaemon$Parser", name := "readHead", desc := "()Z" } : Jvm.MethodName)) ∈ px_tbl := px_mem 405 (by decide +kernel) rfl
theorem px_w3 : Cond.selects "CheckDaemon$Parser" ⟨"CheckDaemon$Parser", "readHead", "()Z"⟩ ⟨"CheckDaemon$Parser", "readHead", "()Z"⟩ ∈ px_tbl := px_mem 3 (by decide +kernel) rfl
set_option maxRecDepth 20000 in
theorem px_w406 : (Jvm.Cond.code ({ cls := "CheckDaemon$Parser", name := "readHead", desc := "()Z" } : Jvm.MethodName) prog_8_method_6_code (3 : Nat) (Option.some Jvm.ClassFile.FieldType.boolean)) ∈ px_tbl := px_mem 406 rfl rfl
theorem px_w78 : (Jvm.Cond.initialized "CheckDaemon$Parser") ∈ px_tbl := px_mem 78 (by decide +kernel) rfl
theorem px_w407 : (Jvm.Cond.methodLink "CheckDaemon$Parser" (60 : Nat) ({ cls := "CheckDaemon$Parser", name := "next", desc := "()I" } : Jvm.MethodName)) ∈ px_tbl := px_mem 407 (by decide +kernel) rfl
theorem px_w409 : (Jvm.Cond.instanceMethod ({ cls := "CheckDaemon$Parser", name := "next", desc := "()I" } : Jvm.MethodName)) ∈ px_tbl := px_mem 409 (by decide +kernel) rfl
theorem px_w4 : Cond.selects "CheckDaemon$Parser" ⟨"CheckDaemon$Parser", "next", "()I"⟩ ⟨"CheckDaemon$Parser", "next", "()I"⟩ ∈ px_tbl := px_mem 4 (by decide +kernel) rfl
set_option maxRecDepth 20000 in
theorem px_w410 : (Jvm.Cond.code ({ cls := "CheckDaemon$Parser", name := "next", desc := "()I" } : Jvm.MethodName) prog_8_method_3_code (1 : Nat) (Option.some Jvm.ClassFile.FieldType.int)) ∈ px_tbl := px_mem 410 rfl rfl
theorem px_w411 : (Jvm.Cond.methodLink "CheckDaemon$Parser" (72 : Nat) ({ cls := "CheckDaemon$Parser", name := "isName", desc := "(I)Z" } : Jvm.MethodName)) ∈ px_tbl := px_mem 411 (by decide +kernel) rfl
theorem px_w412 : (Jvm.Cond.static ({ cls := "CheckDaemon$Parser", name := "isName", desc := "(I)Z" } : Jvm.MethodName)) ∈ px_tbl := px_mem 412 (by decide +kernel) rfl
set_option maxRecDepth 20000 in
theorem px_w413 : (Jvm.Cond.code ({ cls := "CheckDaemon$Parser", name := "isName", desc := "(I)Z" } : Jvm.MethodName) prog_8_method_5_code (1 : Nat) (Option.some Jvm.ClassFile.FieldType.boolean)) ∈ px_tbl := px_mem 413 rfl rfl
theorem px_w414 : (Jvm.Cond.methodLink "CheckDaemon$Parser" (76 : Nat) ({ cls := "CheckDaemon$Parser", name := "take", desc := "(I)Z" } : Jvm.MethodName)) ∈ px_tbl := px_mem 414 (by decide +kernel) rfl
theorem px_w416 : (Jvm.Cond.instanceMethod ({ cls := "CheckDaemon$Parser", name := "take", desc := "(I)Z" } : Jvm.MethodName)) ∈ px_tbl := px_mem 416 (by decide +kernel) rfl
theorem px_w5 : Cond.selects "CheckDaemon$Parser" ⟨"CheckDaemon$Parser", "take", "(I)Z"⟩ ⟨"CheckDaemon$Parser", "take", "(I)Z"⟩ ∈ px_tbl := px_mem 5 (by decide +kernel) rfl
set_option maxRecDepth 20000 in
theorem px_w417 : (Jvm.Cond.code ({ cls := "CheckDaemon$Parser", name := "take", desc := "(I)Z" } : Jvm.MethodName) prog_8_method_4_code (2 : Nat) (Option.some Jvm.ClassFile.FieldType.boolean)) ∈ px_tbl := px_mem 417 rfl rfl
theorem px_w418 : (Jvm.Cond.methodLink "CheckDaemon$Parser" (79 : Nat) ({ cls := "CheckDaemon$Parser", name := "readTypeWord", desc := "()Z" } : Jvm.MethodName)) ∈ px_tbl := px_mem 418 (by decide +kernel) rfl
theorem px_w420 : (Jvm.Cond.instanceMethod ({ cls := "CheckDaemon$Parser", name := "readTypeWord", desc := "()Z" } : Jvm.MethodName)) ∈ px_tbl := px_mem 420 (by decide +kernel) rfl
theorem px_w6 : Cond.selects "CheckDaemon$Parser" ⟨"CheckDaemon$Parser", "readTypeWord", "()Z"⟩ ⟨"CheckDaemon$Parser", "readTypeWord", "()Z"⟩ ∈ px_tbl := px_mem 6 (by decide +kernel) rfl
set_option maxRecDepth 20000 in
theorem px_w421 : (Jvm.Cond.code ({ cls := "CheckDaemon$Parser", name := "readTypeWord", desc := "()Z" } : Jvm.MethodName) prog_8_method_7_code (4 : Nat) (Option.some Jvm.ClassFile.FieldType.boolean)) ∈ px_tbl := px_mem 421 rfl rfl
theorem px_w422 : (Jvm.Cond.methodLink "CheckDaemon$Parser" (82 : Nat) ({ cls := "CheckDaemon$Forms", name := "letterOf", desc := "(I)I" } : Jvm.MethodName)) ∈ px_tbl := px_mem 422 (by decide +kernel) rfl
theorem px_w423 : (Jvm.Cond.static ({ cls := "CheckDaemon$Forms", name := "letterOf", desc := "(I)I" } : Jvm.MethodName)) ∈ px_tbl := px_mem 423 (by decide +kernel) rfl
set_option maxRecDepth 20000 in
theorem px_w424 : (Jvm.Cond.code ({ cls := "CheckDaemon$Forms", name := "letterOf", desc := "(I)I" } : Jvm.MethodName) prog_5_method_2_code (1 : Nat) (Option.some Jvm.ClassFile.FieldType.int)) ∈ px_tbl := px_mem 424 rfl rfl
theorem px_w425 : (Jvm.Cond.methodLink "CheckDaemon$Parser" (56 : Nat) ({ cls := "CheckDaemon$Parser", name := "readSum", desc := "(I)I" } : Jvm.MethodName)) ∈ px_tbl := px_mem 425 (by decide +kernel) rfl
theorem px_w427 : (Jvm.Cond.instanceMethod ({ cls := "CheckDaemon$Parser", name := "readSum", desc := "(I)I" } : Jvm.MethodName)) ∈ px_tbl := px_mem 427 (by decide +kernel) rfl
theorem px_w7 : Cond.selects "CheckDaemon$Parser" ⟨"CheckDaemon$Parser", "readSum", "(I)I"⟩ ⟨"CheckDaemon$Parser", "readSum", "(I)I"⟩ ∈ px_tbl := px_mem 7 (by decide +kernel) rfl
set_option maxRecDepth 20000 in
theorem px_w428 : (Jvm.Cond.code ({ cls := "CheckDaemon$Parser", name := "readSum", desc := "(I)I" } : Jvm.MethodName) prog_8_method_8_code (6 : Nat) (Option.some Jvm.ClassFile.FieldType.int)) ∈ px_tbl := px_mem 428 rfl rfl
theorem px_w429 : (Jvm.Cond.methodLink "CheckDaemon$Parser" (87 : Nat) ({ cls := "CheckDaemon$Parser", name := "readOr", desc := "(I)I" } : Jvm.MethodName)) ∈ px_tbl := px_mem 429 (by decide +kernel) rfl
theorem px_w431 : (Jvm.Cond.instanceMethod ({ cls := "CheckDaemon$Parser", name := "readOr", desc := "(I)I" } : Jvm.MethodName)) ∈ px_tbl := px_mem 431 (by decide +kernel) rfl
theorem px_w8 : Cond.selects "CheckDaemon$Parser" ⟨"CheckDaemon$Parser", "readOr", "(I)I"⟩ ⟨"CheckDaemon$Parser", "readOr", "(I)I"⟩ ∈ px_tbl := px_mem 8 (by decide +kernel) rfl
set_option maxRecDepth 20000 in
theorem px_w432 : (Jvm.Cond.code ({ cls := "CheckDaemon$Parser", name := "readOr", desc := "(I)I" } : Jvm.MethodName) prog_8_method_9_code (6 : Nat) (Option.some Jvm.ClassFile.FieldType.int)) ∈ px_tbl := px_mem 432 rfl rfl
theorem px_w433 : (Jvm.Cond.methodLink "CheckDaemon$Parser" (94 : Nat) ({ cls := "CheckDaemon$Parser", name := "readPart", desc := "(I)I" } : Jvm.MethodName)) ∈ px_tbl := px_mem 433 (by decide +kernel) rfl
theorem px_w435 : (Jvm.Cond.instanceMethod ({ cls := "CheckDaemon$Parser", name := "readPart", desc := "(I)I" } : Jvm.MethodName)) ∈ px_tbl := px_mem 435 (by decide +kernel) rfl
theorem px_w9 : Cond.selects "CheckDaemon$Parser" ⟨"CheckDaemon$Parser", "readPart", "(I)I"⟩ ⟨"CheckDaemon$Parser", "readPart", "(I)I"⟩ ∈ px_tbl := px_mem 9 (by decide +kernel) rfl
set_option maxRecDepth 20000 in
theorem px_w436 : (Jvm.Cond.code ({ cls := "CheckDaemon$Parser", name := "readPart", desc := "(I)I" } : Jvm.MethodName) prog_8_method_10_code (4 : Nat) (Option.some Jvm.ClassFile.FieldType.int)) ∈ px_tbl := px_mem 436 rfl rfl
theorem px_w437 : (Jvm.Cond.methodLink "CheckDaemon$Parser" (97 : Nat) ({ cls := "CheckDaemon$Parser", name := "readAtom", desc := "(I)I" } : Jvm.MethodName)) ∈ px_tbl := px_mem 437 (by decide +kernel) rfl
theorem px_w439 : (Jvm.Cond.instanceMethod ({ cls := "CheckDaemon$Parser", name := "readAtom", desc := "(I)I" } : Jvm.MethodName)) ∈ px_tbl := px_mem 439 (by decide +kernel) rfl
theorem px_w10 : Cond.selects "CheckDaemon$Parser" ⟨"CheckDaemon$Parser", "readAtom", "(I)I"⟩ ⟨"CheckDaemon$Parser", "readAtom", "(I)I"⟩ ∈ px_tbl := px_mem 10 (by decide +kernel) rfl
set_option maxRecDepth 20000 in
theorem px_w440 : (Jvm.Cond.code ({ cls := "CheckDaemon$Parser", name := "readAtom", desc := "(I)I" } : Jvm.MethodName) prog_8_method_13_code (7 : Nat) (Option.some Jvm.ClassFile.FieldType.int)) ∈ px_tbl := px_mem 440 rfl rfl
theorem px_w441 : (Jvm.Cond.methodLink "CheckDaemon$Parser" (90 : Nat) ({ cls := "CheckDaemon$Expression", name := "add", desc := "(IIII)I" } : Jvm.MethodName)) ∈ px_tbl := px_mem 441 (by decide +kernel) rfl
theorem px_w442 : (Jvm.Cond.instanceMethod ({ cls := "CheckDaemon$Expression", name := "add", desc := "(IIII)I" } : Jvm.MethodName)) ∈ px_tbl := px_mem 442 (by decide +kernel) rfl
theorem px_w443 : (Jvm.Cond.selects "CheckDaemon$Expression" ({ cls := "CheckDaemon$Expression", name := "add", desc := "(IIII)I" } : Jvm.MethodName) ({ cls := "CheckDaemon$Expression", name := "add", desc := "(IIII)I" } : Jvm.MethodName)) ∈ px_tbl := px_mem 443 (by decide +kernel) rfl
set_option maxRecDepth 20000 in
theorem px_w444 : (Jvm.Cond.code ({ cls := "CheckDaemon$Expression", name := "add", desc := "(IIII)I" } : Jvm.MethodName) prog_3_method_2_code (5 : Nat) (Option.some Jvm.ClassFile.FieldType.int)) ∈ px_tbl := px_mem 444 rfl rfl
theorem px_w445 : (Jvm.Cond.methodLink "CheckDaemon$Parser" (106 : Nat) ({ cls := "CheckDaemon$Parser", name := "readName", desc := "(II)I" } : Jvm.MethodName)) ∈ px_tbl := px_mem 445 (by decide +kernel) rfl
theorem px_w447 : (Jvm.Cond.instanceMethod ({ cls := "CheckDaemon$Parser", name := "readName", desc := "(II)I" } : Jvm.MethodName)) ∈ px_tbl := px_mem 447 (by decide +kernel) rfl
theorem px_w11 : Cond.selects "CheckDaemon$Parser" ⟨"CheckDaemon$Parser", "readName", "(II)I"⟩ ⟨"CheckDaemon$Parser", "readName", "(II)I"⟩ ∈ px_tbl := px_mem 11 (by decide +kernel) rfl
set_option maxRecDepth 20000 in
theorem px_w448 : (Jvm.Cond.code ({ cls := "CheckDaemon$Parser", name := "readName", desc := "(II)I" } : Jvm.MethodName) prog_8_method_14_code (5 : Nat) (Option.some Jvm.ClassFile.FieldType.int)) ∈ px_tbl := px_mem 448 rfl rfl
theorem px_w449 : (Jvm.Cond.methodLink "CheckDaemon$Parser" (113 : Nat) ({ cls := "CheckDaemon$SymbolSet", name := "add", desc := "(I)V" } : Jvm.MethodName)) ∈ px_tbl := px_mem 449 (by decide +kernel) rfl
theorem px_w450 : (Jvm.Cond.instanceMethod ({ cls := "CheckDaemon$SymbolSet", name := "add", desc := "(I)V" } : Jvm.MethodName)) ∈ px_tbl := px_mem 450 (by decide +kernel) rfl
theorem px_w451 : (Jvm.Cond.selects "CheckDaemon$SymbolSet" ({ cls := "CheckDaemon$SymbolSet", name := "add", desc := "(I)V" } : Jvm.MethodName) ({ cls := "CheckDaemon$SymbolSet", name := "add", desc := "(I)V" } : Jvm.MethodName)) ∈ px_tbl := px_mem 451 (by decide +kernel) rfl
set_option maxRecDepth 20000 in
theorem px_w452 : (Jvm.Cond.code ({ cls := "CheckDaemon$SymbolSet", name := "add", desc := "(I)V" } : Jvm.MethodName) prog_9_method_2_code (2 : Nat) (Option.none : Option Jvm.ClassFile.FieldType)) ∈ px_tbl := px_mem 452 rfl rfl
theorem px_w453 : (Jvm.Cond.methodLink "CheckDaemon$Parser" (100 : Nat) ({ cls := "CheckDaemon$Parser", name := "isEnding", desc := "(I)Z" } : Jvm.MethodName)) ∈ px_tbl := px_mem 453 (by decide +kernel) rfl
theorem px_w454 : (Jvm.Cond.static ({ cls := "CheckDaemon$Parser", name := "isEnding", desc := "(I)Z" } : Jvm.MethodName)) ∈ px_tbl := px_mem 454 (by decide +kernel) rfl
set_option maxRecDepth 20000 in
theorem px_w455 : (Jvm.Cond.code ({ cls := "CheckDaemon$Parser", name := "isEnding", desc := "(I)Z" } : Jvm.MethodName) prog_8_method_11_code (1 : Nat) (Option.some Jvm.ClassFile.FieldType.boolean)) ∈ px_tbl := px_mem 455 rfl rfl
theorem px_w456 : (Jvm.Cond.methodLink "CheckDaemon$Parser" (103 : Nat) ({ cls := "CheckDaemon$Parser", name := "readEnding", desc := "(I)I" } : Jvm.MethodName)) ∈ px_tbl := px_mem 456 (by decide +kernel) rfl
theorem px_w458 : (Jvm.Cond.instanceMethod ({ cls := "CheckDaemon$Parser", name := "readEnding", desc := "(I)I" } : Jvm.MethodName)) ∈ px_tbl := px_mem 458 (by decide +kernel) rfl
theorem px_w12 : Cond.selects "CheckDaemon$Parser" ⟨"CheckDaemon$Parser", "readEnding", "(I)I"⟩ ⟨"CheckDaemon$Parser", "readEnding", "(I)I"⟩ ∈ px_tbl := px_mem 12 (by decide +kernel) rfl
set_option maxRecDepth 20000 in
theorem px_w459 : (Jvm.Cond.code ({ cls := "CheckDaemon$Parser", name := "readEnding", desc := "(I)I" } : Jvm.MethodName) prog_8_method_12_code (5 : Nat) (Option.some Jvm.ClassFile.FieldType.int)) ∈ px_tbl := px_mem 459 rfl rfl
theorem px_w462 : (Jvm.Cond.methodLink "CheckDaemon$Parser" (66 : Nat) ({ cls := "CheckDaemon$Line", name := "<init>", desc := "(IIIILCheckDaemon$Expression;)V" } : Jvm.MethodName)) ∈ px_tbl := px_mem 462 (by decide +kernel) rfl
theorem px_w463 : (Jvm.Cond.instanceMethod ({ cls := "CheckDaemon$Line", name := "<init>", desc := "(IIIILCheckDaemon$Expression;)V" } : Jvm.MethodName)) ∈ px_tbl := px_mem 463 (by decide +kernel) rfl
set_option maxRecDepth 20000 in
theorem px_w464 : (Jvm.Cond.code ({ cls := "CheckDaemon$Line", name := "<init>", desc := "(IIIILCheckDaemon$Expression;)V" } : Jvm.MethodName) prog_7_method_1_code (6 : Nat) (Option.none : Option Jvm.ClassFile.FieldType)) ∈ px_tbl := px_mem 464 rfl rfl
theorem px_w504 : (Jvm.Cond.methodLink "CheckDaemon$Parser" (69 : Nat) ({ cls := "CheckDaemon$Line", name := "<init>", desc := "(II)V" } : Jvm.MethodName)) ∈ px_tbl := px_mem 504 (by decide +kernel) rfl
theorem px_w505 : (Jvm.Cond.instanceMethod ({ cls := "CheckDaemon$Line", name := "<init>", desc := "(II)V" } : Jvm.MethodName)) ∈ px_tbl := px_mem 505 (by decide +kernel) rfl
set_option maxRecDepth 20000 in
theorem px_w506 : (Jvm.Cond.code ({ cls := "CheckDaemon$Line", name := "<init>", desc := "(II)V" } : Jvm.MethodName) prog_7_method_2_code (3 : Nat) (Option.none : Option Jvm.ClassFile.FieldType)) ∈ px_tbl := px_mem 506 rfl rfl
theorem px_w793 : (Jvm.Cond.methodLink "CheckDaemon$SymbolSet" (15 : Nat) ({ cls := "java/lang/Long", name := "bitCount", desc := "(J)I" } : Jvm.MethodName)) ∈ px_tbl := px_mem 793 (by decide +kernel) rfl
theorem px_w794 : (Jvm.Cond.static ({ cls := "java/lang/Long", name := "bitCount", desc := "(J)I" } : Jvm.MethodName)) ∈ px_tbl := px_mem 794 (by decide +kernel) rfl
set_option maxRecDepth 20000 in
theorem px_w795 : (Jvm.Cond.code ({ cls := "java/lang/Long", name := "bitCount", desc := "(J)I" } : Jvm.MethodName) prog_17_method_50_code (2 : Nat) (Option.some Jvm.ClassFile.FieldType.int)) ∈ px_tbl := px_mem 795 rfl rfl
theorem px_w84 : (Jvm.Cond.initialized "java/lang/Long") ∈ px_tbl := px_mem 84 (by decide +kernel) rfl
theorem px_w545 : (Jvm.Cond.methodLink "CheckDaemon$Symbols" (20 : Nat) ({ cls := "CheckDaemon$Symbols", name := "isSymbol", desc := "(I)Z" } : Jvm.MethodName)) ∈ px_tbl := px_mem 545 (by decide +kernel) rfl
theorem px_w546 : (Jvm.Cond.static ({ cls := "CheckDaemon$Symbols", name := "isSymbol", desc := "(I)Z" } : Jvm.MethodName)) ∈ px_tbl := px_mem 546 (by decide +kernel) rfl
set_option maxRecDepth 20000 in
theorem px_w547 : (Jvm.Cond.code ({ cls := "CheckDaemon$Symbols", name := "isSymbol", desc := "(I)Z" } : Jvm.MethodName) prog_10_method_2_code (1 : Nat) (Option.some Jvm.ClassFile.FieldType.boolean)) ∈ px_tbl := px_mem 547 rfl rfl
theorem px_w103 : (Jvm.Cond.methodLink "CheckDaemon$Workspace" (21 : Nat) ({ cls := "CheckDaemon$Symbols", name := "<init>", desc := "()V" } : Jvm.MethodName)) ∈ px_tbl := px_mem 103 (by decide +kernel) rfl
theorem px_w104 : (Jvm.Cond.instanceMethod ({ cls := "CheckDaemon$Symbols", name := "<init>", desc := "()V" } : Jvm.MethodName)) ∈ px_tbl := px_mem 104 (by decide +kernel) rfl
set_option maxRecDepth 20000 in
theorem px_w105 : (Jvm.Cond.code ({ cls := "CheckDaemon$Symbols", name := "<init>", desc := "()V" } : Jvm.MethodName) prog_10_method_1_code (2 : Nat) (Option.none : Option Jvm.ClassFile.FieldType)) ∈ px_tbl := px_mem 105 rfl rfl
theorem px_w129 : (Jvm.Cond.methodLink "CheckDaemon$Workspace" (50 : Nat) ({ cls := "CheckDaemon$Circles", name := "<init>", desc := "()V" } : Jvm.MethodName)) ∈ px_tbl := px_mem 129 (by decide +kernel) rfl
theorem px_w130 : (Jvm.Cond.instanceMethod ({ cls := "CheckDaemon$Circles", name := "<init>", desc := "()V" } : Jvm.MethodName)) ∈ px_tbl := px_mem 130 (by decide +kernel) rfl
set_option maxRecDepth 20000 in
theorem px_w131 : (Jvm.Cond.code ({ cls := "CheckDaemon$Circles", name := "<init>", desc := "()V" } : Jvm.MethodName) prog_2_method_1_code (2 : Nat) (Option.none : Option Jvm.ClassFile.FieldType)) ∈ px_tbl := px_mem 131 rfl rfl
theorem px_w525 : (Jvm.Cond.methodLink "CheckDaemon$Workspace" (59 : Nat) ({ cls := "CheckDaemon$Workspace", name := "startLooking", desc := "()V" } : Jvm.MethodName)) ∈ px_tbl := px_mem 525 (by decide +kernel) rfl
theorem px_w527 : (Jvm.Cond.instanceMethod ({ cls := "CheckDaemon$Workspace", name := "startLooking", desc := "()V" } : Jvm.MethodName)) ∈ px_tbl := px_mem 527 (by decide +kernel) rfl
theorem px_w14 : Cond.selects "CheckDaemon$Workspace" ⟨"CheckDaemon$Workspace", "startLooking", "()V"⟩ ⟨"CheckDaemon$Workspace", "startLooking", "()V"⟩ ∈ px_tbl := px_mem 14 (by decide +kernel) rfl
set_option maxRecDepth 20000 in
theorem px_w528 : (Jvm.Cond.code ({ cls := "CheckDaemon$Workspace", name := "startLooking", desc := "()V" } : Jvm.MethodName) prog_11_method_4_code (2 : Nat) (Option.none : Option Jvm.ClassFile.FieldType)) ∈ px_tbl := px_mem 528 rfl rfl
theorem px_w67 : (Jvm.Cond.initialized "CheckDaemon$Workspace") ∈ px_tbl := px_mem 67 (by decide +kernel) rfl
theorem px_w529 : (Jvm.Cond.methodLink "CheckDaemon$Workspace" (83 : Nat) ({ cls := "CheckDaemon$SymbolSet", name := "clear", desc := "()V" } : Jvm.MethodName)) ∈ px_tbl := px_mem 529 (by decide +kernel) rfl
theorem px_w533 : (Jvm.Cond.methodLink "CheckDaemon$Workspace" (62 : Nat) ({ cls := "CheckDaemon$Workspace", name := "leave", desc := "(LCheckDaemon$Line;)V" } : Jvm.MethodName)) ∈ px_tbl := px_mem 533 (by decide +kernel) rfl
theorem px_w535 : (Jvm.Cond.instanceMethod ({ cls := "CheckDaemon$Workspace", name := "leave", desc := "(LCheckDaemon$Line;)V" } : Jvm.MethodName)) ∈ px_tbl := px_mem 535 (by decide +kernel) rfl
theorem px_w15 : Cond.selects "CheckDaemon$Workspace" ⟨"CheckDaemon$Workspace", "leave", "(LCheckDaemon$Line;)V"⟩ ⟨"CheckDaemon$Workspace", "leave", "(LCheckDaemon$Line;)V"⟩ ∈ px_tbl := px_mem 15 (by decide +kernel) rfl
set_option maxRecDepth 20000 in
theorem px_w536 : (Jvm.Cond.code ({ cls := "CheckDaemon$Workspace", name := "leave", desc := "(LCheckDaemon$Line;)V" } : Jvm.MethodName) prog_11_method_5_code (2 : Nat) (Option.none : Option Jvm.ClassFile.FieldType)) ∈ px_tbl := px_mem 536 rfl rfl
theorem px_w537 : (Jvm.Cond.methodLink "CheckDaemon$Workspace" (86 : Nat) ({ cls := "CheckDaemon$Line", name := "defined", desc := "()I" } : Jvm.MethodName)) ∈ px_tbl := px_mem 537 (by decide +kernel) rfl
theorem px_w541 : (Jvm.Cond.methodLink "CheckDaemon$Workspace" (89 : Nat) ({ cls := "CheckDaemon$Symbols", name := "addDefiners", desc := "(II)V" } : Jvm.MethodName)) ∈ px_tbl := px_mem 541 (by decide +kernel) rfl
theorem px_w542 : (Jvm.Cond.instanceMethod ({ cls := "CheckDaemon$Symbols", name := "addDefiners", desc := "(II)V" } : Jvm.MethodName)) ∈ px_tbl := px_mem 542 (by decide +kernel) rfl
theorem px_w543 : (Jvm.Cond.selects "CheckDaemon$Symbols" ({ cls := "CheckDaemon$Symbols", name := "addDefiners", desc := "(II)V" } : Jvm.MethodName) ({ cls := "CheckDaemon$Symbols", name := "addDefiners", desc := "(II)V" } : Jvm.MethodName)) ∈ px_tbl := px_mem 543 (by decide +kernel) rfl
set_option maxRecDepth 20000 in
theorem px_w544 : (Jvm.Cond.code ({ cls := "CheckDaemon$Symbols", name := "addDefiners", desc := "(II)V" } : Jvm.MethodName) prog_10_method_5_code (3 : Nat) (Option.none : Option Jvm.ClassFile.FieldType)) ∈ px_tbl := px_mem 544 rfl rfl
theorem px_w548 : (Jvm.Cond.methodLink "CheckDaemon$Workspace" (93 : Nat) ({ cls := "CheckDaemon$Workspace", name := "touch", desc := "(I)V" } : Jvm.MethodName)) ∈ px_tbl := px_mem 548 (by decide +kernel) rfl
theorem px_w550 : (Jvm.Cond.instanceMethod ({ cls := "CheckDaemon$Workspace", name := "touch", desc := "(I)V" } : Jvm.MethodName)) ∈ px_tbl := px_mem 550 (by decide +kernel) rfl
theorem px_w16 : Cond.selects "CheckDaemon$Workspace" ⟨"CheckDaemon$Workspace", "touch", "(I)V"⟩ ⟨"CheckDaemon$Workspace", "touch", "(I)V"⟩ ∈ px_tbl := px_mem 16 (by decide +kernel) rfl
set_option maxRecDepth 20000 in
theorem px_w551 : (Jvm.Cond.code ({ cls := "CheckDaemon$Workspace", name := "touch", desc := "(I)V" } : Jvm.MethodName) prog_11_method_7_code (2 : Nat) (Option.none : Option Jvm.ClassFile.FieldType)) ∈ px_tbl := px_mem 551 rfl rfl
theorem px_w552 : (Jvm.Cond.methodLink "CheckDaemon$Workspace" (97 : Nat) ({ cls := "CheckDaemon$SymbolSet", name := "has", desc := "(I)Z" } : Jvm.MethodName)) ∈ px_tbl := px_mem 552 (by decide +kernel) rfl
theorem px_w556 : (Jvm.Cond.methodLink "CheckDaemon$Workspace" (101 : Nat) ({ cls := "CheckDaemon$SymbolSet", name := "add", desc := "(I)V" } : Jvm.MethodName)) ∈ px_tbl := px_mem 556 (by decide +kernel) rfl
theorem px_w557 : (Jvm.Cond.methodLink "CheckDaemon$Workspace" (66 : Nat) ({ cls := "CheckDaemon$Workspace", name := "enter", desc := "(LCheckDaemon$Line;)V" } : Jvm.MethodName)) ∈ px_tbl := px_mem 557 (by decide +kernel) rfl
theorem px_w559 : (Jvm.Cond.instanceMethod ({ cls := "CheckDaemon$Workspace", name := "enter", desc := "(LCheckDaemon$Line;)V" } : Jvm.MethodName)) ∈ px_tbl := px_mem 559 (by decide +kernel) rfl
theorem px_w17 : Cond.selects "CheckDaemon$Workspace" ⟨"CheckDaemon$Workspace", "enter", "(LCheckDaemon$Line;)V"⟩ ⟨"CheckDaemon$Workspace", "enter", "(LCheckDaemon$Line;)V"⟩ ∈ px_tbl := px_mem 17 (by decide +kernel) rfl
set_option maxRecDepth 20000 in
theorem px_w560 : (Jvm.Cond.code ({ cls := "CheckDaemon$Workspace", name := "enter", desc := "(LCheckDaemon$Line;)V" } : Jvm.MethodName) prog_11_method_6_code (2 : Nat) (Option.none : Option Jvm.ClassFile.FieldType)) ∈ px_tbl := px_mem 560 rfl rfl
theorem px_w561 : (Jvm.Cond.methodLink "CheckDaemon$Workspace" (69 : Nat) ({ cls := "CheckDaemon$Workspace", name := "lookOn", desc := "()I" } : Jvm.MethodName)) ∈ px_tbl := px_mem 561 (by decide +kernel) rfl
theorem px_w563 : (Jvm.Cond.instanceMethod ({ cls := "CheckDaemon$Workspace", name := "lookOn", desc := "()I" } : Jvm.MethodName)) ∈ px_tbl := px_mem 563 (by decide +kernel) rfl
theorem px_w18 : Cond.selects "CheckDaemon$Workspace" ⟨"CheckDaemon$Workspace", "lookOn", "()I"⟩ ⟨"CheckDaemon$Workspace", "lookOn", "()I"⟩ ∈ px_tbl := px_mem 18 (by decide +kernel) rfl
set_option maxRecDepth 20000 in
theorem px_w564 : (Jvm.Cond.code ({ cls := "CheckDaemon$Workspace", name := "lookOn", desc := "()I" } : Jvm.MethodName) prog_11_method_8_code (5 : Nat) (Option.some Jvm.ClassFile.FieldType.int)) ∈ px_tbl := px_mem 564 rfl rfl
theorem px_w565 : (Jvm.Cond.methodLink "CheckDaemon$Workspace" (104 : Nat) ({ cls := "CheckDaemon$Line", name := "reads", desc := "(I)Z" } : Jvm.MethodName)) ∈ px_tbl := px_mem 565 (by decide +kernel) rfl
theorem px_w566 : (Jvm.Cond.instanceMethod ({ cls := "CheckDaemon$Line", name := "reads", desc := "(I)Z" } : Jvm.MethodName)) ∈ px_tbl := px_mem 566 (by decide +kernel) rfl
theorem px_w567 : (Jvm.Cond.selects "CheckDaemon$Line" ({ cls := "CheckDaemon$Line", name := "reads", desc := "(I)Z" } : Jvm.MethodName) ({ cls := "CheckDaemon$Line", name := "reads", desc := "(I)Z" } : Jvm.MethodName)) ∈ px_tbl := px_mem 567 (by decide +kernel) rfl
set_option maxRecDepth 20000 in
theorem px_w568 : (Jvm.Cond.code ({ cls := "CheckDaemon$Line", name := "reads", desc := "(I)Z" } : Jvm.MethodName) prog_7_method_4_code (2 : Nat) (Option.some Jvm.ClassFile.FieldType.boolean)) ∈ px_tbl := px_mem 568 rfl rfl
theorem px_w570 : (Jvm.Cond.methodLink "CheckDaemon$Workspace" (73 : Nat) ({ cls := "CheckDaemon$Workspace", name := "restartTypes", desc := "()V" } : Jvm.MethodName)) ∈ px_tbl := px_mem 570 (by decide +kernel) rfl
theorem px_w572 : (Jvm.Cond.instanceMethod ({ cls := "CheckDaemon$Workspace", name := "restartTypes", desc := "()V" } : Jvm.MethodName)) ∈ px_tbl := px_mem 572 (by decide +kernel) rfl
theorem px_w19 : Cond.selects "CheckDaemon$Workspace" ⟨"CheckDaemon$Workspace", "restartTypes", "()V"⟩ ⟨"CheckDaemon$Workspace", "restartTypes", "()V"⟩ ∈ px_tbl := px_mem 19 (by decide +kernel) rfl
set_option maxRecDepth 20000 in
theorem px_w573 : (Jvm.Cond.code ({ cls := "CheckDaemon$Workspace", name := "restartTypes", desc := "()V" } : Jvm.MethodName) prog_11_method_9_code (3 : Nat) (Option.none : Option Jvm.ClassFile.FieldType)) ∈ px_tbl := px_mem 573 rfl rfl
theorem px_w574 : (Jvm.Cond.methodLink "CheckDaemon$Workspace" (107 : Nat) ({ cls := "CheckDaemon$Symbols", name := "restart", desc := "(I)V" } : Jvm.MethodName)) ∈ px_tbl := px_mem 574 (by decide +kernel) rfl
theorem px_w575 : (Jvm.Cond.instanceMethod ({ cls := "CheckDaemon$Symbols", name := "restart", desc := "(I)V" } : Jvm.MethodName)) ∈ px_tbl := px_mem 575 (by decide +kernel) rfl
theorem px_w576 : (Jvm.Cond.selects "CheckDaemon$Symbols" ({ cls := "CheckDaemon$Symbols", name := "restart", desc := "(I)V" } : Jvm.MethodName) ({ cls := "CheckDaemon$Symbols", name := "restart", desc := "(I)V" } : Jvm.MethodName)) ∈ px_tbl := px_mem 576 (by decide +kernel) rfl
set_option maxRecDepth 20000 in
theorem px_w577 : (Jvm.Cond.code ({ cls := "CheckDaemon$Symbols", name := "restart", desc := "(I)V" } : Jvm.MethodName) prog_10_method_6_code (2 : Nat) (Option.none : Option Jvm.ClassFile.FieldType)) ∈ px_tbl := px_mem 577 rfl rfl
theorem px_w578 : (Jvm.Cond.methodLink "CheckDaemon$Workspace" (110 : Nat) ({ cls := "CheckDaemon$Line", name := "says", desc := "()I" } : Jvm.MethodName)) ∈ px_tbl := px_mem 578 (by decide +kernel) rfl
theorem px_w579 : (Jvm.Cond.instanceMethod ({ cls := "CheckDaemon$Line", name := "says", desc := "()I" } : Jvm.MethodName)) ∈ px_tbl := px_mem 579 (by decide +kernel) rfl
theorem px_w580 : (Jvm.Cond.selects "CheckDaemon$Line" ({ cls := "CheckDaemon$Line", name := "says", desc := "()I" } : Jvm.MethodName) ({ cls := "CheckDaemon$Line", name := "says", desc := "()I" } : Jvm.MethodName)) ∈ px_tbl := px_mem 580 (by decide +kernel) rfl
set_option maxRecDepth 20000 in
theorem px_w581 : (Jvm.Cond.code ({ cls := "CheckDaemon$Line", name := "says", desc := "()I" } : Jvm.MethodName) prog_7_method_7_code (1 : Nat) (Option.some Jvm.ClassFile.FieldType.int)) ∈ px_tbl := px_mem 581 rfl rfl
theorem px_w582 : (Jvm.Cond.methodLink "CheckDaemon$Workspace" (113 : Nat) ({ cls := "CheckDaemon$Symbols", name := "grow", desc := "(II)Z" } : Jvm.MethodName)) ∈ px_tbl := px_mem 582 (by decide +kernel) rfl
theorem px_w583 : (Jvm.Cond.instanceMethod ({ cls := "CheckDaemon$Symbols", name := "grow", desc := "(II)Z" } : Jvm.MethodName)) ∈ px_tbl := px_mem 583 (by decide +kernel) rfl
theorem px_w584 : (Jvm.Cond.selects "CheckDaemon$Symbols" ({ cls := "CheckDaemon$Symbols", name := "grow", desc := "(II)Z" } : Jvm.MethodName) ({ cls := "CheckDaemon$Symbols", name := "grow", desc := "(II)Z" } : Jvm.MethodName)) ∈ px_tbl := px_mem 584 (by decide +kernel) rfl
set_option maxRecDepth 20000 in
theorem px_w585 : (Jvm.Cond.code ({ cls := "CheckDaemon$Symbols", name := "grow", desc := "(II)Z" } : Jvm.MethodName) prog_10_method_7_code (3 : Nat) (Option.some Jvm.ClassFile.FieldType.boolean)) ∈ px_tbl := px_mem 585 rfl rfl
theorem px_w586 : (Jvm.Cond.methodLink "CheckDaemon$Workspace" (76 : Nat) ({ cls := "CheckDaemon$Workspace", name := "workOutWaiting", desc := "()Z" } : Jvm.MethodName)) ∈ px_tbl := px_mem 586 (by decide +kernel) rfl
theorem px_w588 : (Jvm.Cond.instanceMethod ({ cls := "CheckDaemon$Workspace", name := "workOutWaiting", desc := "()Z" } : Jvm.MethodName)) ∈ px_tbl := px_mem 588 (by decide +kernel) rfl
theorem px_w20 : Cond.selects "CheckDaemon$Workspace" ⟨"CheckDaemon$Workspace", "workOutWaiting", "()Z"⟩ ⟨"CheckDaemon$Workspace", "workOutWaiting", "()Z"⟩ ∈ px_tbl := px_mem 20 (by decide +kernel) rfl
set_option maxRecDepth 20000 in
theorem px_w589 : (Jvm.Cond.code ({ cls := "CheckDaemon$Workspace", name := "workOutWaiting", desc := "()Z" } : Jvm.MethodName) prog_11_method_10_code (4 : Nat) (Option.some Jvm.ClassFile.FieldType.boolean)) ∈ px_tbl := px_mem 589 rfl rfl
theorem px_w590 : (Jvm.Cond.methodLink "CheckDaemon$Workspace" (117 : Nat) ({ cls := "CheckDaemon$Line", name := "workOut", desc := "(LCheckDaemon$Symbols;)V" } : Jvm.MethodName)) ∈ px_tbl := px_mem 590 (by decide +kernel) rfl
theorem px_w591 : (Jvm.Cond.instanceMethod ({ cls := "CheckDaemon$Line", name := "workOut", desc := "(LCheckDaemon$Symbols;)V" } : Jvm.MethodName)) ∈ px_tbl := px_mem 591 (by decide +kernel) rfl
theorem px_w592 : (Jvm.Cond.selects "CheckDaemon$Line" ({ cls := "CheckDaemon$Line", name := "workOut", desc := "(LCheckDaemon$Symbols;)V" } : Jvm.MethodName) ({ cls := "CheckDaemon$Line", name := "workOut", desc := "(LCheckDaemon$Symbols;)V" } : Jvm.MethodName)) ∈ px_tbl := px_mem 592 (by decide +kernel) rfl
set_option maxRecDepth 20000 in
theorem px_w593 : (Jvm.Cond.code ({ cls := "CheckDaemon$Line", name := "workOut", desc := "(LCheckDaemon$Symbols;)V" } : Jvm.MethodName) prog_7_method_8_code (2 : Nat) (Option.none : Option Jvm.ClassFile.FieldType)) ∈ px_tbl := px_mem 593 rfl rfl
theorem px_w632 : (Jvm.Cond.methodLink "CheckDaemon$Workspace" (121 : Nat) ({ cls := "CheckDaemon$Workspace", name := "wakeReaders", desc := "(I)V" } : Jvm.MethodName)) ∈ px_tbl := px_mem 632 (by decide +kernel) rfl
theorem px_w634 : (Jvm.Cond.instanceMethod ({ cls := "CheckDaemon$Workspace", name := "wakeReaders", desc := "(I)V" } : Jvm.MethodName)) ∈ px_tbl := px_mem 634 (by decide +kernel) rfl
theorem px_w23 : Cond.selects "CheckDaemon$Workspace" ⟨"CheckDaemon$Workspace", "wakeReaders", "(I)V"⟩ ⟨"CheckDaemon$Workspace", "wakeReaders", "(I)V"⟩ ∈ px_tbl := px_mem 23 (by decide +kernel) rfl
set_option maxRecDepth 20000 in
theorem px_w635 : (Jvm.Cond.code ({ cls := "CheckDaemon$Workspace", name := "wakeReaders", desc := "(I)V" } : Jvm.MethodName) prog_11_method_11_code (4 : Nat) (Option.none : Option Jvm.ClassFile.FieldType)) ∈ px_tbl := px_mem 635 rfl rfl
theorem px_w636 : (Jvm.Cond.methodLink "CheckDaemon$Workspace" (80 : Nat) ({ cls := "CheckDaemon$Workspace", name := "findFaults", desc := "()V" } : Jvm.MethodName)) ∈ px_tbl := px_mem 636 (by decide +kernel) rfl
theorem px_w638 : (Jvm.Cond.instanceMethod ({ cls := "CheckDaemon$Workspace", name := "findFaults", desc := "()V" } : Jvm.MethodName)) ∈ px_tbl := px_mem 638 (by decide +kernel) rfl
theorem px_w24 : Cond.selects "CheckDaemon$Workspace" ⟨"CheckDaemon$Workspace", "findFaults", "()V"⟩ ⟨"CheckDaemon$Workspace", "findFaults", "()V"⟩ ∈ px_tbl := px_mem 24 (by decide +kernel) rfl
set_option maxRecDepth 20000 in
theorem px_w639 : (Jvm.Cond.code ({ cls := "CheckDaemon$Workspace", name := "findFaults", desc := "()V" } : Jvm.MethodName) prog_11_method_12_code (3 : Nat) (Option.none : Option Jvm.ClassFile.FieldType)) ∈ px_tbl := px_mem 639 rfl rfl
theorem px_w640 : (Jvm.Cond.methodLink "CheckDaemon$Workspace" (124 : Nat) ({ cls := "CheckDaemon$Line", name := "findFaults", desc := "(LCheckDaemon$Symbols;)V" } : Jvm.MethodName)) ∈ px_tbl := px_mem 640 (by decide +kernel) rfl
theorem px_w641 : (Jvm.Cond.instanceMethod ({ cls := "CheckDaemon$Line", name := "findFaults", desc := "(LCheckDaemon$Symbols;)V" } : Jvm.MethodName)) ∈ px_tbl := px_mem 641 (by decide +kernel) rfl
theorem px_w642 : (Jvm.Cond.selects "CheckDaemon$Line" ({ cls := "CheckDaemon$Line", name := "findFaults", desc := "(LCheckDaemon$Symbols;)V" } : Jvm.MethodName) ({ cls := "CheckDaemon$Line", name := "findFaults", desc := "(LCheckDaemon$Symbols;)V" } : Jvm.MethodName)) ∈ px_tbl := px_mem 642 (by decide +kernel) rfl
set_option maxRecDepth 20000 in
theorem px_w643 : (Jvm.Cond.code ({ cls := "CheckDaemon$Line", name := "findFaults", desc := "(LCheckDaemon$Symbols;)V" } : Jvm.MethodName) prog_7_method_9_code (2 : Nat) (Option.none : Option Jvm.ClassFile.FieldType)) ∈ px_tbl := px_mem 643 rfl rfl
theorem px_w723 : (Jvm.Cond.methodLink "CheckDaemon$Workspace" (126 : Nat) ({ cls := "CheckDaemon$Symbols", name := "definersOf", desc := "(I)I" } : Jvm.MethodName)) ∈ px_tbl := px_mem 723 (by decide +kernel) rfl
theorem px_w724 : (Jvm.Cond.methodLink "CheckDaemon$Workspace" (130 : Nat) ({ cls := "CheckDaemon$Symbols", name := "typeOf", desc := "(I)I" } : Jvm.MethodName)) ∈ px_tbl := px_mem 724 (by decide +kernel) rfl
theorem px_w725 : (Jvm.Cond.methodLink "CheckDaemon$Workspace" (133 : Nat) ({ cls := "CheckDaemon$Workspace", name := "readersOf", desc := "(I)I" } : Jvm.MethodName)) ∈ px_tbl := px_mem 725 (by decide +kernel) rfl
theorem px_w727 : (Jvm.Cond.instanceMethod ({ cls := "CheckDaemon$Workspace", name := "readersOf", desc := "(I)I" } : Jvm.MethodName)) ∈ px_tbl := px_mem 727 (by decide +kernel) rfl
theorem px_w27 : Cond.selects "CheckDaemon$Workspace" ⟨"CheckDaemon$Workspace", "readersOf", "(I)I"⟩ ⟨"CheckDaemon$Workspace", "readersOf", "(I)I"⟩ ∈ px_tbl := px_mem 27 (by decide +kernel) rfl
set_option maxRecDepth 20000 in
theorem px_w728 : (Jvm.Cond.code ({ cls := "CheckDaemon$Workspace", name := "readersOf", desc := "(I)I" } : Jvm.MethodName) prog_11_method_14_code (5 : Nat) (Option.some Jvm.ClassFile.FieldType.int)) ∈ px_tbl := px_mem 728 rfl rfl
theorem px_w729 : (Jvm.Cond.methodLink "CheckDaemon$Workspace" (136 : Nat) ({ cls := "CheckDaemon$Workspace", name := "freshCircles", desc := "()LCheckDaemon$Circles;" } : Jvm.MethodName)) ∈ px_tbl := px_mem 729 (by decide +kernel) rfl
theorem px_w731 : (Jvm.Cond.instanceMethod ({ cls := "CheckDaemon$Workspace", name := "freshCircles", desc := "()LCheckDaemon$Circles;" } : Jvm.MethodName)) ∈ px_tbl := px_mem 731 (by decide +kernel) rfl
theorem px_w28 : Cond.selects "CheckDaemon$Workspace" ⟨"CheckDaemon$Workspace", "freshCircles", "()LCheckDaemon$Circles;"⟩ ⟨"CheckDaemon$Workspace", "freshCircles", "()LCheckDaemon$Circles;"⟩ ∈ px_tbl := px_mem 28 (by decide +kernel) rfl
set_option maxRecDepth 20000 in
theorem px_w732 : (Jvm.Cond.code ({ cls := "CheckDaemon$Workspace", name := "freshCircles", desc := "()LCheckDaemon$Circles;" } : Jvm.MethodName) prog_11_method_15_code (1 : Nat) (Option.some (Jvm.ClassFile.FieldType.object "CheckDaemon$Circles"))) ∈ px_tbl := px_mem 732 rfl rfl
theorem px_w733 : (Jvm.Cond.methodLink "CheckDaemon$Workspace" (143 : Nat) ({ cls := "CheckDaemon$Circles", name := "find", desc := "([LCheckDaemon$Line;LCheckDaemon$Symbols;)V" } : Jvm.MethodName)) ∈ px_tbl := px_mem 733 (by decide +kernel) rfl
theorem px_w734 : (Jvm.Cond.instanceMethod ({ cls := "CheckDaemon$Circles", name := "find", desc := "([LCheckDaemon$Line;LCheckDaemon$Symbols;)V" } : Jvm.MethodName)) ∈ px_tbl := px_mem 734 (by decide +kernel) rfl
theorem px_w735 : (Jvm.Cond.selects "CheckDaemon$Circles" ({ cls := "CheckDaemon$Circles", name := "find", desc := "([LCheckDaemon$Line;LCheckDaemon$Symbols;)V" } : Jvm.MethodName) ({ cls := "CheckDaemon$Circles", name := "find", desc := "([LCheckDaemon$Line;LCheckDaemon$Symbols;)V" } : Jvm.MethodName)) ∈ px_tbl := px_mem 735 (by decide +kernel) rfl
set_option maxRecDepth 20000 in
theorem px_w736 : (Jvm.Cond.code ({ cls := "CheckDaemon$Circles", name := "find", desc := "([LCheckDaemon$Line;LCheckDaemon$Symbols;)V" } : Jvm.MethodName) prog_2_method_5_code (3 : Nat) (Option.none : Option Jvm.ClassFile.FieldType)) ∈ px_tbl := px_mem 736 rfl rfl
theorem px_w769 : (Jvm.Cond.methodLink "CheckDaemon$Workspace" (140 : Nat) ({ cls := "CheckDaemon$Circles", name := "leastOf", desc := "(I)I" } : Jvm.MethodName)) ∈ px_tbl := px_mem 769 (by decide +kernel) rfl
theorem px_w770 : (Jvm.Cond.instanceMethod ({ cls := "CheckDaemon$Circles", name := "leastOf", desc := "(I)I" } : Jvm.MethodName)) ∈ px_tbl := px_mem 770 (by decide +kernel) rfl
theorem px_w771 : (Jvm.Cond.selects "CheckDaemon$Circles" ({ cls := "CheckDaemon$Circles", name := "leastOf", desc := "(I)I" } : Jvm.MethodName) ({ cls := "CheckDaemon$Circles", name := "leastOf", desc := "(I)I" } : Jvm.MethodName)) ∈ px_tbl := px_mem 771 (by decide +kernel) rfl
set_option maxRecDepth 20000 in
theorem px_w772 : (Jvm.Cond.code ({ cls := "CheckDaemon$Circles", name := "leastOf", desc := "(I)I" } : Jvm.MethodName) prog_2_method_2_code (2 : Nat) (Option.some Jvm.ClassFile.FieldType.int)) ∈ px_tbl := px_mem 772 rfl rfl
theorem px_w811 : (Jvm.Cond.methodLink "CheckDaemon$Workspace" (147 : Nat) ({ cls := "CheckDaemon$Line", name := "faults", desc := "()LCheckDaemon$Faults;" } : Jvm.MethodName)) ∈ px_tbl := px_mem 811 (by decide +kernel) rfl
theorem px_w812 : (Jvm.Cond.instanceMethod ({ cls := "CheckDaemon$Line", name := "faults", desc := "()LCheckDaemon$Faults;" } : Jvm.MethodName)) ∈ px_tbl := px_mem 812 (by decide +kernel) rfl
theorem px_w813 : (Jvm.Cond.selects "CheckDaemon$Line" ({ cls := "CheckDaemon$Line", name := "faults", desc := "()LCheckDaemon$Faults;" } : Jvm.MethodName) ({ cls := "CheckDaemon$Line", name := "faults", desc := "()LCheckDaemon$Faults;" } : Jvm.MethodName)) ∈ px_tbl := px_mem 813 (by decide +kernel) rfl
set_option maxRecDepth 20000 in
theorem px_w814 : (Jvm.Cond.code ({ cls := "CheckDaemon$Line", name := "faults", desc := "()LCheckDaemon$Faults;" } : Jvm.MethodName) prog_7_method_6_code (1 : Nat) (Option.some (Jvm.ClassFile.FieldType.object "CheckDaemon$Faults"))) ∈ px_tbl := px_mem 814 rfl rfl
theorem px_w815 : (Jvm.Cond.methodLink "CheckDaemon$Workspace" (151 : Nat) ({ cls := "CheckDaemon$Faults", name := "size", desc := "()I" } : Jvm.MethodName)) ∈ px_tbl := px_mem 815 (by decide +kernel) rfl
theorem px_w816 : (Jvm.Cond.methodLink "CheckDaemon$Workspace" (156 : Nat) ({ cls := "CheckDaemon$Workspace", name := "tellFaultAt", desc := "(ILCheckDaemon$Faults;II)I" } : Jvm.MethodName)) ∈ px_tbl := px_mem 816 (by decide +kernel) rfl
theorem px_w817 : (Jvm.Cond.static ({ cls := "CheckDaemon$Workspace", name := "tellFaultAt", desc := "(ILCheckDaemon$Faults;II)I" } : Jvm.MethodName)) ∈ px_tbl := px_mem 817 (by decide +kernel) rfl
set_option maxRecDepth 20000 in
theorem px_w818 : (Jvm.Cond.code ({ cls := "CheckDaemon$Workspace", name := "tellFaultAt", desc := "(ILCheckDaemon$Faults;II)I" } : Jvm.MethodName) prog_11_method_17_code (4 : Nat) (Option.some Jvm.ClassFile.FieldType.int)) ∈ px_tbl := px_mem 818 rfl rfl
theorem px_w819 : (Jvm.Cond.methodLink "CheckDaemon$Workspace" (160 : Nat) ({ cls := "CheckDaemon$Faults", name := "placeOf", desc := "(I)I" } : Jvm.MethodName)) ∈ px_tbl := px_mem 819 (by decide +kernel) rfl
theorem px_w823 : (Jvm.Cond.methodLink "CheckDaemon$Workspace" (163 : Nat) ({ cls := "CheckDaemon$Faults", name := "codeOf", desc := "(I)I" } : Jvm.MethodName)) ∈ px_tbl := px_mem 823 (by decide +kernel) rfl
theorem px_w824 : (Jvm.Cond.instanceMethod ({ cls := "CheckDaemon$Faults", name := "codeOf", desc := "(I)I" } : Jvm.MethodName)) ∈ px_tbl := px_mem 824 (by decide +kernel) rfl
theorem px_w825 : (Jvm.Cond.selects "CheckDaemon$Faults" ({ cls := "CheckDaemon$Faults", name := "codeOf", desc := "(I)I" } : Jvm.MethodName) ({ cls := "CheckDaemon$Faults", name := "codeOf", desc := "(I)I" } : Jvm.MethodName)) ∈ px_tbl := px_mem 825 (by decide +kernel) rfl
set_option maxRecDepth 20000 in
theorem px_w826 : (Jvm.Cond.code ({ cls := "CheckDaemon$Faults", name := "codeOf", desc := "(I)I" } : Jvm.MethodName) prog_4_method_6_code (3 : Nat) (Option.some Jvm.ClassFile.FieldType.int)) ∈ px_tbl := px_mem 826 rfl rfl
theorem px_w839 : (Jvm.Cond.methodLink "CheckDaemon$Workspace" (166 : Nat) ({ cls := "CheckDaemon$Workspace", name := "faultCount", desc := "()I" } : Jvm.MethodName)) ∈ px_tbl := px_mem 839 (by decide +kernel) rfl
theorem px_w841 : (Jvm.Cond.instanceMethod ({ cls := "CheckDaemon$Workspace", name := "faultCount", desc := "()I" } : Jvm.MethodName)) ∈ px_tbl := px_mem 841 (by decide +kernel) rfl
theorem px_w34 : Cond.selects "CheckDaemon$Workspace" ⟨"CheckDaemon$Workspace", "faultCount", "()I"⟩ ⟨"CheckDaemon$Workspace", "faultCount", "()I"⟩ ∈ px_tbl := px_mem 34 (by decide +kernel) rfl
set_option maxRecDepth 20000 in
theorem px_w842 : (Jvm.Cond.code ({ cls := "CheckDaemon$Workspace", name := "faultCount", desc := "()I" } : Jvm.MethodName) prog_11_method_19_code (4 : Nat) (Option.some Jvm.ClassFile.FieldType.int)) ∈ px_tbl := px_mem 842 rfl rfl
theorem px_w843 : (Jvm.Cond.methodLink "CheckDaemon$Workspace" (169 : Nat) ({ cls := "CheckDaemon$Symbols", name := "definedCount", desc := "()I" } : Jvm.MethodName)) ∈ px_tbl := px_mem 843 (by decide +kernel) rfl
theorem px_w844 : (Jvm.Cond.instanceMethod ({ cls := "CheckDaemon$Symbols", name := "definedCount", desc := "()I" } : Jvm.MethodName)) ∈ px_tbl := px_mem 844 (by decide +kernel) rfl
theorem px_w845 : (Jvm.Cond.selects "CheckDaemon$Symbols" ({ cls := "CheckDaemon$Symbols", name := "definedCount", desc := "()I" } : Jvm.MethodName) ({ cls := "CheckDaemon$Symbols", name := "definedCount", desc := "()I" } : Jvm.MethodName)) ∈ px_tbl := px_mem 845 (by decide +kernel) rfl
set_option maxRecDepth 20000 in
theorem px_w846 : (Jvm.Cond.code ({ cls := "CheckDaemon$Symbols", name := "definedCount", desc := "()I" } : Jvm.MethodName) prog_10_method_8_code (3 : Nat) (Option.some Jvm.ClassFile.FieldType.int)) ∈ px_tbl := px_mem 846 rfl rfl
theorem px_w847 : (Jvm.Cond.methodLink "CheckDaemon$Workspace" (172 : Nat) ({ cls := "CheckDaemon$Circles", name := "circleCount", desc := "()I" } : Jvm.MethodName)) ∈ px_tbl := px_mem 847 (by decide +kernel) rfl
theorem px_w848 : (Jvm.Cond.instanceMethod ({ cls := "CheckDaemon$Circles", name := "circleCount", desc := "()I" } : Jvm.MethodName)) ∈ px_tbl := px_mem 848 (by decide +kernel) rfl
theorem px_w849 : (Jvm.Cond.selects "CheckDaemon$Circles" ({ cls := "CheckDaemon$Circles", name := "circleCount", desc := "()I" } : Jvm.MethodName) ({ cls := "CheckDaemon$Circles", name := "circleCount", desc := "()I" } : Jvm.MethodName)) ∈ px_tbl := px_mem 849 (by decide +kernel) rfl
set_option maxRecDepth 20000 in
theorem px_w850 : (Jvm.Cond.code ({ cls := "CheckDaemon$Circles", name := "circleCount", desc := "()I" } : Jvm.MethodName) prog_2_method_3_code (1 : Nat) (Option.some Jvm.ClassFile.FieldType.int)) ∈ px_tbl := px_mem 850 rfl rfl
theorem px_w851 : (Jvm.Cond.methodLink "CheckDaemon$Workspace" (175 : Nat) ({ cls := "CheckDaemon$Circles", name := "selfCount", desc := "()I" } : Jvm.MethodName)) ∈ px_tbl := px_mem 851 (by decide +kernel) rfl
theorem px_w852 : (Jvm.Cond.instanceMethod ({ cls := "CheckDaemon$Circles", name := "selfCount", desc := "()I" } : Jvm.MethodName)) ∈ px_tbl := px_mem 852 (by decide +kernel) rfl
theorem px_w853 : (Jvm.Cond.selects "CheckDaemon$Circles" ({ cls := "CheckDaemon$Circles", name := "selfCount", desc := "()I" } : Jvm.MethodName) ({ cls := "CheckDaemon$Circles", name := "selfCount", desc := "()I" } : Jvm.MethodName)) ∈ px_tbl := px_mem 853 (by decide +kernel) rfl
set_option maxRecDepth 20000 in
theorem px_w854 : (Jvm.Cond.code ({ cls := "CheckDaemon$Circles", name := "selfCount", desc := "()I" } : Jvm.MethodName) prog_2_method_4_code (1 : Nat) (Option.some Jvm.ClassFile.FieldType.int)) ∈ px_tbl := px_mem 854 rfl rfl
theorem px_w855 : (Jvm.Cond.methodLink "CheckDaemon$Workspace" (178 : Nat) ({ cls := "CheckDaemon$Workspace", name := "lineCount", desc := "()I" } : Jvm.MethodName)) ∈ px_tbl := px_mem 855 (by decide +kernel) rfl
theorem px_w857 : (Jvm.Cond.instanceMethod ({ cls := "CheckDaemon$Workspace", name := "lineCount", desc := "()I" } : Jvm.MethodName)) ∈ px_tbl := px_mem 857 (by decide +kernel) rfl
theorem px_w35 : Cond.selects "CheckDaemon$Workspace" ⟨"CheckDaemon$Workspace", "lineCount", "()I"⟩ ⟨"CheckDaemon$Workspace", "lineCount", "()I"⟩ ∈ px_tbl := px_mem 35 (by decide +kernel) rfl
set_option maxRecDepth 20000 in
theorem px_w858 : (Jvm.Cond.code ({ cls := "CheckDaemon$Workspace", name := "lineCount", desc := "()I" } : Jvm.MethodName) prog_11_method_20_code (3 : Nat) (Option.some Jvm.ClassFile.FieldType.int)) ∈ px_tbl := px_mem 858 rfl rfl
theorem px_w96 : (Jvm.Cond.instanceMethod ({ cls := "CheckDaemon$Workspace", name := "<init>", desc := "()V" } : Jvm.MethodName)) ∈ px_tbl := px_mem 96 (by decide +kernel) rfl
set_option maxRecDepth 20000 in
theorem px_w97 : (Jvm.Cond.code ({ cls := "CheckDaemon$Workspace", name := "<init>", desc := "()V" } : Jvm.MethodName) prog_11_method_1_code (1 : Nat) (Option.none : Option Jvm.ClassFile.FieldType)) ∈ px_tbl := px_mem 97 rfl rfl
theorem px_w186 : (Jvm.Cond.instanceMethod ({ cls := "CheckDaemon$History", name := "<init>", desc := "()V" } : Jvm.MethodName)) ∈ px_tbl := px_mem 186 (by decide +kernel) rfl
set_option maxRecDepth 20000 in
theorem px_w187 : (Jvm.Cond.code ({ cls := "CheckDaemon$History", name := "<init>", desc := "()V" } : Jvm.MethodName) prog_6_method_1_code (1 : Nat) (Option.none : Option Jvm.ClassFile.FieldType)) ∈ px_tbl := px_mem 187 rfl rfl
theorem px_w225 : (Jvm.Cond.methodLink "CheckDaemon" (31 : Nat) ({ cls := "CheckDaemon", name := "charactersIn", desc := "(I)I" } : Jvm.MethodName)) ∈ px_tbl := px_mem 225 (by decide +kernel) rfl
theorem px_w226 : (Jvm.Cond.static ({ cls := "CheckDaemon", name := "charactersIn", desc := "(I)I" } : Jvm.MethodName)) ∈ px_tbl := px_mem 226 (by decide +kernel) rfl
set_option maxRecDepth 20000 in
theorem px_w227 : (Jvm.Cond.code ({ cls := "CheckDaemon", name := "charactersIn", desc := "(I)I" } : Jvm.MethodName) prog_1_method_12_code (3 : Nat) (Option.some Jvm.ClassFile.FieldType.int)) ∈ px_tbl := px_mem 227 rfl rfl
theorem px_w66 : (Jvm.Cond.initialized "CheckDaemon") ∈ px_tbl := px_mem 66 (by decide +kernel) rfl
theorem px_w295 : (Jvm.Cond.methodLink "CheckDaemon" (42 : Nat) ({ cls := "CheckDaemon", name := "append", desc := "(I)V" } : Jvm.MethodName)) ∈ px_tbl := px_mem 295 (by decide +kernel) rfl
theorem px_w297 : (Jvm.Cond.instanceMethod ({ cls := "CheckDaemon", name := "append", desc := "(I)V" } : Jvm.MethodName)) ∈ px_tbl := px_mem 297 (by decide +kernel) rfl
theorem px_w1 : Cond.selects "CheckDaemon" ⟨"CheckDaemon", "append", "(I)V"⟩ ⟨"CheckDaemon", "append", "(I)V"⟩ ∈ px_tbl := px_mem 1 (by decide +kernel) rfl
set_option maxRecDepth 20000 in
theorem px_w298 : (Jvm.Cond.code ({ cls := "CheckDaemon", name := "append", desc := "(I)V" } : Jvm.MethodName) prog_1_method_13_code (4 : Nat) (Option.none : Option Jvm.ClassFile.FieldType)) ∈ px_tbl := px_mem 298 rfl rfl
theorem px_w307 : (Jvm.Cond.methodLink "CheckDaemon" (46 : Nat) ({ cls := "CheckDaemon", name := "isPlace", desc := "(II)Z" } : Jvm.MethodName)) ∈ px_tbl := px_mem 307 (by decide +kernel) rfl
theorem px_w308 : (Jvm.Cond.static ({ cls := "CheckDaemon", name := "isPlace", desc := "(II)Z" } : Jvm.MethodName)) ∈ px_tbl := px_mem 308 (by decide +kernel) rfl
set_option maxRecDepth 20000 in
theorem px_w309 : (Jvm.Cond.code ({ cls := "CheckDaemon", name := "isPlace", desc := "(II)Z" } : Jvm.MethodName) prog_1_method_11_code (2 : Nat) (Option.some Jvm.ClassFile.FieldType.boolean)) ∈ px_tbl := px_mem 309 rfl rfl
theorem px_w326 : (Jvm.Cond.methodLink "CheckDaemon" (55 : Nat) ({ cls := "CheckDaemon", name := "isBlank", desc := "()Z" } : Jvm.MethodName)) ∈ px_tbl := px_mem 326 (by decide +kernel) rfl
theorem px_w328 : (Jvm.Cond.instanceMethod ({ cls := "CheckDaemon", name := "isBlank", desc := "()Z" } : Jvm.MethodName)) ∈ px_tbl := px_mem 328 (by decide +kernel) rfl
theorem px_w2 : Cond.selects "CheckDaemon" ⟨"CheckDaemon", "isBlank", "()Z"⟩ ⟨"CheckDaemon", "isBlank", "()Z"⟩ ∈ px_tbl := px_mem 2 (by decide +kernel) rfl
set_option maxRecDepth 20000 in
theorem px_w329 : (Jvm.Cond.code ({ cls := "CheckDaemon", name := "isBlank", desc := "()Z" } : Jvm.MethodName) prog_1_method_14_code (2 : Nat) (Option.some Jvm.ClassFile.FieldType.boolean)) ∈ px_tbl := px_mem 329 rfl rfl
theorem px_w332 : (Jvm.Cond.methodLink "CheckDaemon" (61 : Nat) ({ cls := "CheckDaemon$Parser", name := "<init>", desc := "([III)V" } : Jvm.MethodName)) ∈ px_tbl := px_mem 332 (by decide +kernel) rfl
theorem px_w333 : (Jvm.Cond.instanceMethod ({ cls := "CheckDaemon$Parser", name := "<init>", desc := "([III)V" } : Jvm.MethodName)) ∈ px_tbl := px_mem 333 (by decide +kernel) rfl
set_option maxRecDepth 20000 in
theorem px_w334 : (Jvm.Cond.code ({ cls := "CheckDaemon$Parser", name := "<init>", desc := "([III)V" } : Jvm.MethodName) prog_8_method_1_code (4 : Nat) (Option.none : Option Jvm.ClassFile.FieldType)) ∈ px_tbl := px_mem 334 rfl rfl
theorem px_w399 : (Jvm.Cond.methodLink "CheckDaemon" (64 : Nat) ({ cls := "CheckDaemon$Parser", name := "read", desc := "()LCheckDaemon$Line;" } : Jvm.MethodName)) ∈ px_tbl := px_mem 399 (by decide +kernel) rfl
theorem px_w400 : (Jvm.Cond.instanceMethod ({ cls := "CheckDaemon$Parser", name := "read", desc := "()LCheckDaemon$Line;" } : Jvm.MethodName)) ∈ px_tbl := px_mem 400 (by decide +kernel) rfl
theorem px_w401 : (Jvm.Cond.selects "CheckDaemon$Parser" ({ cls := "CheckDaemon$Parser", name := "read", desc := "()LCheckDaemon$Line;" } : Jvm.MethodName) ({ cls := "CheckDaemon$Parser", name := "read", desc := "()LCheckDaemon$Line;" } : Jvm.MethodName)) ∈ px_tbl := px_mem 401 (by decide +kernel) rfl
set_option maxRecDepth 20000 in
theorem px_w402 : (Jvm.Cond.code ({ cls := "CheckDaemon$Parser", name := "read", desc := "()LCheckDaemon$Line;" } : Jvm.MethodName) prog_8_method_2_code (2 : Nat) (Option.some (Jvm.ClassFile.FieldType.object "CheckDaemon$Line"))) ∈ px_tbl := px_mem 402 rfl rfl
theorem px_w509 : (Jvm.Cond.methodLink "CheckDaemon" (68 : Nat) ({ cls := "CheckDaemon$Workspace", name := "lineAt", desc := "(I)LCheckDaemon$Line;" } : Jvm.MethodName)) ∈ px_tbl := px_mem 509 (by decide +kernel) rfl
theorem px_w510 : (Jvm.Cond.instanceMethod ({ cls := "CheckDaemon$Workspace", name := "lineAt", desc := "(I)LCheckDaemon$Line;" } : Jvm.MethodName)) ∈ px_tbl := px_mem 510 (by decide +kernel) rfl
theorem px_w511 : (Jvm.Cond.selects "CheckDaemon$Workspace" ({ cls := "CheckDaemon$Workspace", name := "lineAt", desc := "(I)LCheckDaemon$Line;" } : Jvm.MethodName) ({ cls := "CheckDaemon$Workspace", name := "lineAt", desc := "(I)LCheckDaemon$Line;" } : Jvm.MethodName)) ∈ px_tbl := px_mem 511 (by decide +kernel) rfl
set_option maxRecDepth 20000 in
theorem px_w512 : (Jvm.Cond.code ({ cls := "CheckDaemon$Workspace", name := "lineAt", desc := "(I)LCheckDaemon$Line;" } : Jvm.MethodName) prog_11_method_2_code (2 : Nat) (Option.some (Jvm.ClassFile.FieldType.object "CheckDaemon$Line"))) ∈ px_tbl := px_mem 512 rfl rfl
theorem px_w513 : (Jvm.Cond.methodLink "CheckDaemon" (72 : Nat) ({ cls := "CheckDaemon$History", name := "keep", desc := "(ILCheckDaemon$Line;)V" } : Jvm.MethodName)) ∈ px_tbl := px_mem 513 (by decide +kernel) rfl
theorem px_w514 : (Jvm.Cond.instanceMethod ({ cls := "CheckDaemon$History", name := "keep", desc := "(ILCheckDaemon$Line;)V" } : Jvm.MethodName)) ∈ px_tbl := px_mem 514 (by decide +kernel) rfl
theorem px_w515 : (Jvm.Cond.selects "CheckDaemon$History" ({ cls := "CheckDaemon$History", name := "keep", desc := "(ILCheckDaemon$Line;)V" } : Jvm.MethodName) ({ cls := "CheckDaemon$History", name := "keep", desc := "(ILCheckDaemon$Line;)V" } : Jvm.MethodName)) ∈ px_tbl := px_mem 515 (by decide +kernel) rfl
set_option maxRecDepth 20000 in
theorem px_w516 : (Jvm.Cond.code ({ cls := "CheckDaemon$History", name := "keep", desc := "(ILCheckDaemon$Line;)V" } : Jvm.MethodName) prog_6_method_3_code (3 : Nat) (Option.none : Option Jvm.ClassFile.FieldType)) ∈ px_tbl := px_mem 516 rfl rfl
theorem px_w521 : (Jvm.Cond.methodLink "CheckDaemon" (76 : Nat) ({ cls := "CheckDaemon$Workspace", name := "edit", desc := "(ILCheckDaemon$Line;)I" } : Jvm.MethodName)) ∈ px_tbl := px_mem 521 (by decide +kernel) rfl
theorem px_w522 : (Jvm.Cond.instanceMethod ({ cls := "CheckDaemon$Workspace", name := "edit", desc := "(ILCheckDaemon$Line;)I" } : Jvm.MethodName)) ∈ px_tbl := px_mem 522 (by decide +kernel) rfl
theorem px_w523 : (Jvm.Cond.selects "CheckDaemon$Workspace" ({ cls := "CheckDaemon$Workspace", name := "edit", desc := "(ILCheckDaemon$Line;)I" } : Jvm.MethodName) ({ cls := "CheckDaemon$Workspace", name := "edit", desc := "(ILCheckDaemon$Line;)I" } : Jvm.MethodName)) ∈ px_tbl := px_mem 523 (by decide +kernel) rfl
set_option maxRecDepth 20000 in
theorem px_w524 : (Jvm.Cond.code ({ cls := "CheckDaemon$Workspace", name := "edit", desc := "(ILCheckDaemon$Line;)I" } : Jvm.MethodName) prog_11_method_3_code (6 : Nat) (Option.some Jvm.ClassFile.FieldType.int)) ∈ px_tbl := px_mem 524 rfl rfl
theorem px_w683 : (Jvm.Cond.methodLink "CheckDaemon" (82 : Nat) ({ cls := "CheckDaemon$History", name := "forget", desc := "()V" } : Jvm.MethodName)) ∈ px_tbl := px_mem 683 (by decide +kernel) rfl
theorem px_w684 : (Jvm.Cond.instanceMethod ({ cls := "CheckDaemon$History", name := "forget", desc := "()V" } : Jvm.MethodName)) ∈ px_tbl := px_mem 684 (by decide +kernel) rfl
theorem px_w685 : (Jvm.Cond.selects "CheckDaemon$History" ({ cls := "CheckDaemon$History", name := "forget", desc := "()V" } : Jvm.MethodName) ({ cls := "CheckDaemon$History", name := "forget", desc := "()V" } : Jvm.MethodName)) ∈ px_tbl := px_mem 685 (by decide +kernel) rfl
set_option maxRecDepth 20000 in
theorem px_w686 : (Jvm.Cond.code ({ cls := "CheckDaemon$History", name := "forget", desc := "()V" } : Jvm.MethodName) prog_6_method_8_code (2 : Nat) (Option.none : Option Jvm.ClassFile.FieldType)) ∈ px_tbl := px_mem 686 rfl rfl
theorem px_w694 : (Jvm.Cond.methodLink "CheckDaemon" (85 : Nat) ({ cls := "CheckDaemon$History", name := "size", desc := "()I" } : Jvm.MethodName)) ∈ px_tbl := px_mem 694 (by decide +kernel) rfl
theorem px_w695 : (Jvm.Cond.instanceMethod ({ cls := "CheckDaemon$History", name := "size", desc := "()I" } : Jvm.MethodName)) ∈ px_tbl := px_mem 695 (by decide +kernel) rfl
theorem px_w696 : (Jvm.Cond.selects "CheckDaemon$History" ({ cls := "CheckDaemon$History", name := "size", desc := "()I" } : Jvm.MethodName) ({ cls := "CheckDaemon$History", name := "size", desc := "()I" } : Jvm.MethodName)) ∈ px_tbl := px_mem 696 (by decide +kernel) rfl
set_option maxRecDepth 20000 in
theorem px_w697 : (Jvm.Cond.code ({ cls := "CheckDaemon$History", name := "size", desc := "()I" } : Jvm.MethodName) prog_6_method_2_code (1 : Nat) (Option.some Jvm.ClassFile.FieldType.int)) ∈ px_tbl := px_mem 697 rfl rfl
theorem px_w699 : (Jvm.Cond.methodLink "CheckDaemon" (91 : Nat) ({ cls := "CheckDaemon$History", name := "lastPlace", desc := "()I" } : Jvm.MethodName)) ∈ px_tbl := px_mem 699 (by decide +kernel) rfl
theorem px_w700 : (Jvm.Cond.instanceMethod ({ cls := "CheckDaemon$History", name := "lastPlace", desc := "()I" } : Jvm.MethodName)) ∈ px_tbl := px_mem 700 (by decide +kernel) rfl
theorem px_w701 : (Jvm.Cond.selects "CheckDaemon$History" ({ cls := "CheckDaemon$History", name := "lastPlace", desc := "()I" } : Jvm.MethodName) ({ cls := "CheckDaemon$History", name := "lastPlace", desc := "()I" } : Jvm.MethodName)) ∈ px_tbl := px_mem 701 (by decide +kernel) rfl
set_option maxRecDepth 20000 in
theorem px_w702 : (Jvm.Cond.code ({ cls := "CheckDaemon$History", name := "lastPlace", desc := "()I" } : Jvm.MethodName) prog_6_method_5_code (1 : Nat) (Option.some Jvm.ClassFile.FieldType.int)) ∈ px_tbl := px_mem 702 rfl rfl
theorem px_w703 : (Jvm.Cond.methodLink "CheckDaemon" (94 : Nat) ({ cls := "CheckDaemon$History", name := "lastLine", desc := "()LCheckDaemon$Line;" } : Jvm.MethodName)) ∈ px_tbl := px_mem 703 (by decide +kernel) rfl
theorem px_w704 : (Jvm.Cond.instanceMethod ({ cls := "CheckDaemon$History", name := "lastLine", desc := "()LCheckDaemon$Line;" } : Jvm.MethodName)) ∈ px_tbl := px_mem 704 (by decide +kernel) rfl
theorem px_w705 : (Jvm.Cond.selects "CheckDaemon$History" ({ cls := "CheckDaemon$History", name := "lastLine", desc := "()LCheckDaemon$Line;" } : Jvm.MethodName) ({ cls := "CheckDaemon$History", name := "lastLine", desc := "()LCheckDaemon$Line;" } : Jvm.MethodName)) ∈ px_tbl := px_mem 705 (by decide +kernel) rfl
set_option maxRecDepth 20000 in
theorem px_w706 : (Jvm.Cond.code ({ cls := "CheckDaemon$History", name := "lastLine", desc := "()LCheckDaemon$Line;" } : Jvm.MethodName) prog_6_method_6_code (1 : Nat) (Option.some (Jvm.ClassFile.FieldType.object "CheckDaemon$Line"))) ∈ px_tbl := px_mem 706 rfl rfl
theorem px_w707 : (Jvm.Cond.methodLink "CheckDaemon" (97 : Nat) ({ cls := "CheckDaemon$History", name := "removeLast", desc := "()V" } : Jvm.MethodName)) ∈ px_tbl := px_mem 707 (by decide +kernel) rfl
theorem px_w708 : (Jvm.Cond.instanceMethod ({ cls := "CheckDaemon$History", name := "removeLast", desc := "()V" } : Jvm.MethodName)) ∈ px_tbl := px_mem 708 (by decide +kernel) rfl
theorem px_w709 : (Jvm.Cond.selects "CheckDaemon$History" ({ cls := "CheckDaemon$History", name := "removeLast", desc := "()V" } : Jvm.MethodName) ({ cls := "CheckDaemon$History", name := "removeLast", desc := "()V" } : Jvm.MethodName)) ∈ px_tbl := px_mem 709 (by decide +kernel) rfl
set_option maxRecDepth 20000 in
theorem px_w710 : (Jvm.Cond.code ({ cls := "CheckDaemon$History", name := "removeLast", desc := "()V" } : Jvm.MethodName) prog_6_method_7_code (1 : Nat) (Option.none : Option Jvm.ClassFile.FieldType)) ∈ px_tbl := px_mem 710 rfl rfl
theorem px_w719 : (Jvm.Cond.methodLink "CheckDaemon" (102 : Nat) ({ cls := "CheckDaemon$Workspace", name := "tellSymbol", desc := "(II)I" } : Jvm.MethodName)) ∈ px_tbl := px_mem 719 (by decide +kernel) rfl
theorem px_w720 : (Jvm.Cond.instanceMethod ({ cls := "CheckDaemon$Workspace", name := "tellSymbol", desc := "(II)I" } : Jvm.MethodName)) ∈ px_tbl := px_mem 720 (by decide +kernel) rfl
theorem px_w721 : (Jvm.Cond.selects "CheckDaemon$Workspace" ({ cls := "CheckDaemon$Workspace", name := "tellSymbol", desc := "(II)I" } : Jvm.MethodName) ({ cls := "CheckDaemon$Workspace", name := "tellSymbol", desc := "(II)I" } : Jvm.MethodName)) ∈ px_tbl := px_mem 721 (by decide +kernel) rfl
set_option maxRecDepth 20000 in
theorem px_w722 : (Jvm.Cond.code ({ cls := "CheckDaemon$Workspace", name := "tellSymbol", desc := "(II)I" } : Jvm.MethodName) prog_11_method_13_code (4 : Nat) (Option.some Jvm.ClassFile.FieldType.int)) ∈ px_tbl := px_mem 722 rfl rfl
theorem px_w781 : (Jvm.Cond.methodLink "CheckDaemon" (108 : Nat) ({ cls := "CheckDaemon$Line", name := "tellAbout", desc := "(I)I" } : Jvm.MethodName)) ∈ px_tbl := px_mem 781 (by decide +kernel) rfl
theorem px_w782 : (Jvm.Cond.instanceMethod ({ cls := "CheckDaemon$Line", name := "tellAbout", desc := "(I)I" } : Jvm.MethodName)) ∈ px_tbl := px_mem 782 (by decide +kernel) rfl
theorem px_w783 : (Jvm.Cond.selects "CheckDaemon$Line" ({ cls := "CheckDaemon$Line", name := "tellAbout", desc := "(I)I" } : Jvm.MethodName) ({ cls := "CheckDaemon$Line", name := "tellAbout", desc := "(I)I" } : Jvm.MethodName)) ∈ px_tbl := px_mem 783 (by decide +kernel) rfl
set_option maxRecDepth 20000 in
theorem px_w784 : (Jvm.Cond.code ({ cls := "CheckDaemon$Line", name := "tellAbout", desc := "(I)I" } : Jvm.MethodName) prog_7_method_11_code (2 : Nat) (Option.some Jvm.ClassFile.FieldType.int)) ∈ px_tbl := px_mem 784 rfl rfl
theorem px_w807 : (Jvm.Cond.methodLink "CheckDaemon" (115 : Nat) ({ cls := "CheckDaemon$Workspace", name := "tellFault", desc := "(II)I" } : Jvm.MethodName)) ∈ px_tbl := px_mem 807 (by decide +kernel) rfl
theorem px_w808 : (Jvm.Cond.instanceMethod ({ cls := "CheckDaemon$Workspace", name := "tellFault", desc := "(II)I" } : Jvm.MethodName)) ∈ px_tbl := px_mem 808 (by decide +kernel) rfl
theorem px_w809 : (Jvm.Cond.selects "CheckDaemon$Workspace" ({ cls := "CheckDaemon$Workspace", name := "tellFault", desc := "(II)I" } : Jvm.MethodName) ({ cls := "CheckDaemon$Workspace", name := "tellFault", desc := "(II)I" } : Jvm.MethodName)) ∈ px_tbl := px_mem 809 (by decide +kernel) rfl
set_option maxRecDepth 20000 in
theorem px_w810 : (Jvm.Cond.code ({ cls := "CheckDaemon$Workspace", name := "tellFault", desc := "(II)I" } : Jvm.MethodName) prog_11_method_16_code (7 : Nat) (Option.some Jvm.ClassFile.FieldType.int)) ∈ px_tbl := px_mem 810 rfl rfl
theorem px_w835 : (Jvm.Cond.methodLink "CheckDaemon" (118 : Nat) ({ cls := "CheckDaemon$Workspace", name := "howMany", desc := "(I)I" } : Jvm.MethodName)) ∈ px_tbl := px_mem 835 (by decide +kernel) rfl
theorem px_w836 : (Jvm.Cond.instanceMethod ({ cls := "CheckDaemon$Workspace", name := "howMany", desc := "(I)I" } : Jvm.MethodName)) ∈ px_tbl := px_mem 836 (by decide +kernel) rfl
theorem px_w837 : (Jvm.Cond.selects "CheckDaemon$Workspace" ({ cls := "CheckDaemon$Workspace", name := "howMany", desc := "(I)I" } : Jvm.MethodName) ({ cls := "CheckDaemon$Workspace", name := "howMany", desc := "(I)I" } : Jvm.MethodName)) ∈ px_tbl := px_mem 837 (by decide +kernel) rfl
set_option maxRecDepth 20000 in
theorem px_w838 : (Jvm.Cond.code ({ cls := "CheckDaemon$Workspace", name := "howMany", desc := "(I)I" } : Jvm.MethodName) prog_11_method_18_code (2 : Nat) (Option.some Jvm.ClassFile.FieldType.int)) ∈ px_tbl := px_mem 838 rfl rfl
theorem px_w978 : (Jvm.Cond.methodLink "CheckDaemonModel" (95 : Nat) ({ cls := "CheckDaemonModel", name := "feed", desc := "(II)I" } : Jvm.MethodName)) ∈ px_tbl := px_mem 978 (by decide +kernel) rfl
theorem px_w980 : (Jvm.Cond.instanceMethod ({ cls := "CheckDaemonModel", name := "feed", desc := "(II)I" } : Jvm.MethodName)) ∈ px_tbl := px_mem 980 (by decide +kernel) rfl
theorem px_w36 : Cond.selects "CheckDaemonModel" ⟨"CheckDaemonModel", "feed", "(II)I"⟩ ⟨"CheckDaemonModel", "feed", "(II)I"⟩ ∈ px_tbl := px_mem 36 (by decide +kernel) rfl
set_option maxRecDepth 20000 in
theorem px_w981 : (Jvm.Cond.code ({ cls := "CheckDaemonModel", name := "feed", desc := "(II)I" } : Jvm.MethodName) prog_13_method_5_code (6 : Nat) (Option.some Jvm.ClassFile.FieldType.int)) ∈ px_tbl := px_mem 981 rfl rfl
theorem px_w72 : (Jvm.Cond.initialized "CheckDaemonModel") ∈ px_tbl := px_mem 72 (by decide +kernel) rfl
theorem px_w982 : (Jvm.Cond.methodLink "CheckDaemonModel" (99 : Nat) ({ cls := "CheckDaemonModel", name := "refused", desc := "(I)Z" } : Jvm.MethodName)) ∈ px_tbl := px_mem 982 (by decide +kernel) rfl
theorem px_w984 : (Jvm.Cond.instanceMethod ({ cls := "CheckDaemonModel", name := "refused", desc := "(I)Z" } : Jvm.MethodName)) ∈ px_tbl := px_mem 984 (by decide +kernel) rfl
theorem px_w37 : Cond.selects "CheckDaemonModel" ⟨"CheckDaemonModel", "refused", "(I)Z"⟩ ⟨"CheckDaemonModel", "refused", "(I)Z"⟩ ∈ px_tbl := px_mem 37 (by decide +kernel) rfl
set_option maxRecDepth 20000 in
theorem px_w985 : (Jvm.Cond.code ({ cls := "CheckDaemonModel", name := "refused", desc := "(I)Z" } : Jvm.MethodName) prog_13_method_3_code (2 : Nat) (Option.some Jvm.ClassFile.FieldType.boolean)) ∈ px_tbl := px_mem 985 rfl rfl
theorem px_w994 : (Jvm.Cond.methodLink "CheckDaemonModel" (218 : Nat) ({ cls := "CheckDaemonModel", name := "isIn", desc := "(III)Z" } : Jvm.MethodName)) ∈ px_tbl := px_mem 994 (by decide +kernel) rfl
theorem px_w995 : (Jvm.Cond.static ({ cls := "CheckDaemonModel", name := "isIn", desc := "(III)Z" } : Jvm.MethodName)) ∈ px_tbl := px_mem 995 (by decide +kernel) rfl
set_option maxRecDepth 20000 in
theorem px_w996 : (Jvm.Cond.code ({ cls := "CheckDaemonModel", name := "isIn", desc := "(III)Z" } : Jvm.MethodName) prog_13_method_4_code (3 : Nat) (Option.some Jvm.ClassFile.FieldType.boolean)) ∈ px_tbl := px_mem 996 rfl rfl
theorem px_w997 : (Jvm.Cond.methodLink "CheckDaemonModel" (222 : Nat) ({ cls := "CheckDaemonModel", name := "remember", desc := "(I)V" } : Jvm.MethodName)) ∈ px_tbl := px_mem 997 (by decide +kernel) rfl
theorem px_w999 : (Jvm.Cond.instanceMethod ({ cls := "CheckDaemonModel", name := "remember", desc := "(I)V" } : Jvm.MethodName)) ∈ px_tbl := px_mem 999 (by decide +kernel) rfl
theorem px_w38 : Cond.selects "CheckDaemonModel" ⟨"CheckDaemonModel", "remember", "(I)V"⟩ ⟨"CheckDaemonModel", "remember", "(I)V"⟩ ∈ px_tbl := px_mem 38 (by decide +kernel) rfl
set_option maxRecDepth 20000 in
theorem px_w1000 : (Jvm.Cond.code ({ cls := "CheckDaemonModel", name := "remember", desc := "(I)V" } : Jvm.MethodName) prog_13_method_37_code (3 : Nat) (Option.none : Option Jvm.ClassFile.FieldType)) ∈ px_tbl := px_mem 1000 rfl rfl
theorem px_w1001 : (Jvm.Cond.methodLink "CheckDaemonModel" (225 : Nat) ({ cls := "CheckDaemonModel", name := "isBlank", desc := "()Z" } : Jvm.MethodName)) ∈ px_tbl := px_mem 1001 (by decide +kernel) rfl
theorem px_w1003 : (Jvm.Cond.instanceMethod ({ cls := "CheckDaemonModel", name := "isBlank", desc := "()Z" } : Jvm.MethodName)) ∈ px_tbl := px_mem 1003 (by decide +kernel) rfl
theorem px_w39 : Cond.selects "CheckDaemonModel" ⟨"CheckDaemonModel", "isBlank", "()Z"⟩ ⟨"CheckDaemonModel", "isBlank", "()Z"⟩ ∈ px_tbl := px_mem 39 (by decide +kernel) rfl
set_option maxRecDepth 20000 in
theorem px_w1004 : (Jvm.Cond.code ({ cls := "CheckDaemonModel", name := "isBlank", desc := "()Z" } : Jvm.MethodName) prog_13_method_36_code (3 : Nat) (Option.some Jvm.ClassFile.FieldType.boolean)) ∈ px_tbl := px_mem 1004 rfl rfl
theorem px_w1005 : (Jvm.Cond.methodLink "CheckDaemonModel" (228 : Nat) ({ cls := "CheckDaemonModel", name := "edit", desc := "(IZ)I" } : Jvm.MethodName)) ∈ px_tbl := px_mem 1005 (by decide +kernel) rfl
theorem px_w1007 : (Jvm.Cond.instanceMethod ({ cls := "CheckDaemonModel", name := "edit", desc := "(IZ)I" } : Jvm.MethodName)) ∈ px_tbl := px_mem 1007 (by decide +kernel) rfl
theorem px_w40 : Cond.selects "CheckDaemonModel" ⟨"CheckDaemonModel", "edit", "(IZ)I"⟩ ⟨"CheckDaemonModel", "edit", "(IZ)I"⟩ ∈ px_tbl := px_mem 40 (by decide +kernel) rfl
set_option maxRecDepth 20000 in
theorem px_w1008 : (Jvm.Cond.code ({ cls := "CheckDaemonModel", name := "edit", desc := "(IZ)I" } : Jvm.MethodName) prog_13_method_34_code (6 : Nat) (Option.some Jvm.ClassFile.FieldType.int)) ∈ px_tbl := px_mem 1008 rfl rfl
theorem px_w1009 : (Jvm.Cond.methodLink "CheckDaemonModel" (202 : Nat) ({ cls := "CheckDaemonModel", name := "read", desc := "(I)V" } : Jvm.MethodName)) ∈ px_tbl := px_mem 1009 (by decide +kernel) rfl
theorem px_w1011 : (Jvm.Cond.instanceMethod ({ cls := "CheckDaemonModel", name := "read", desc := "(I)V" } : Jvm.MethodName)) ∈ px_tbl := px_mem 1011 (by decide +kernel) rfl
theorem px_w41 : Cond.selects "CheckDaemonModel" ⟨"CheckDaemonModel", "read", "(I)V"⟩ ⟨"CheckDaemonModel", "read", "(I)V"⟩ ∈ px_tbl := px_mem 41 (by decide +kernel) rfl
set_option maxRecDepth 20000 in
theorem px_w1012 : (Jvm.Cond.code ({ cls := "CheckDaemonModel", name := "read", desc := "(I)V" } : Jvm.MethodName) prog_13_method_20_code (3 : Nat) (Option.none : Option Jvm.ClassFile.FieldType)) ∈ px_tbl := px_mem 1012 rfl rfl
theorem px_w1013 : (Jvm.Cond.methodLink "CheckDaemonModel" (113 : Nat) ({ cls := "CheckDaemonModel", name := "look", desc := "()C" } : Jvm.MethodName)) ∈ px_tbl := px_mem 1013 (by decide +kernel) rfl
theorem px_w1015 : (Jvm.Cond.instanceMethod ({ cls := "CheckDaemonModel", name := "look", desc := "()C" } : Jvm.MethodName)) ∈ px_tbl := px_mem 1015 (by decide +kernel) rfl
theorem px_w42 : Cond.selects "CheckDaemonModel" ⟨"CheckDaemonModel", "look", "()C"⟩ ⟨"CheckDaemonModel", "look", "()C"⟩ ∈ px_tbl := px_mem 42 (by decide +kernel) rfl
set_option maxRecDepth 20000 in
theorem px_w1016 : (Jvm.Cond.code ({ cls := "CheckDaemonModel", name := "look", desc := "()C" } : Jvm.MethodName) prog_13_method_9_code (1 : Nat) (Option.some Jvm.ClassFile.FieldType.char)) ∈ px_tbl := px_mem 1016 rfl rfl
theorem px_w1017 : (Jvm.Cond.methodLink "CheckDaemonModel" (109 : Nat) ({ cls := "CheckDaemonModel", name := "charAt", desc := "(I)C" } : Jvm.MethodName)) ∈ px_tbl := px_mem 1017 (by decide +kernel) rfl
theorem px_w1019 : (Jvm.Cond.instanceMethod ({ cls := "CheckDaemonModel", name := "charAt", desc := "(I)C" } : Jvm.MethodName)) ∈ px_tbl := px_mem 1019 (by decide +kernel) rfl
theorem px_w43 : Cond.selects "CheckDaemonModel" ⟨"CheckDaemonModel", "charAt", "(I)C"⟩ ⟨"CheckDaemonModel", "charAt", "(I)C"⟩ ∈ px_tbl := px_mem 43 (by decide +kernel) rfl
set_option maxRecDepth 20000 in
theorem px_w1020 : (Jvm.Cond.code ({ cls := "CheckDaemonModel", name := "charAt", desc := "(I)C" } : Jvm.MethodName) prog_13_method_8_code (2 : Nat) (Option.some Jvm.ClassFile.FieldType.char)) ∈ px_tbl := px_mem 1020 rfl rfl
theorem px_w1021 : (Jvm.Cond.methodLink "CheckDaemonModel" (132 : Nat) ({ cls := "CheckDaemonModel", name := "isSymbol", desc := "(C)Z" } : Jvm.MethodName)) ∈ px_tbl := px_mem 1021 (by decide +kernel) rfl
theorem px_w1022 : (Jvm.Cond.static ({ cls := "CheckDaemonModel", name := "isSymbol", desc := "(C)Z" } : Jvm.MethodName)) ∈ px_tbl := px_mem 1022 (by decide +kernel) rfl
set_option maxRecDepth 20000 in
theorem px_w1023 : (Jvm.Cond.code ({ cls := "CheckDaemonModel", name := "isSymbol", desc := "(C)Z" } : Jvm.MethodName) prog_13_method_12_code (1 : Nat) (Option.some Jvm.ClassFile.FieldType.boolean)) ∈ px_tbl := px_mem 1023 rfl rfl
theorem px_w1024 : (Jvm.Cond.methodLink "CheckDaemonModel" (150 : Nat) ({ cls := "CheckDaemonModel", name := "readWord", desc := "()Z" } : Jvm.MethodName)) ∈ px_tbl := px_mem 1024 (by decide +kernel) rfl
theorem px_w1026 : (Jvm.Cond.instanceMethod ({ cls := "CheckDaemonModel", name := "readWord", desc := "()Z" } : Jvm.MethodName)) ∈ px_tbl := px_mem 1026 (by decide +kernel) rfl
theorem px_w44 : Cond.selects "CheckDaemonModel" ⟨"CheckDaemonModel", "readWord", "()Z"⟩ ⟨"CheckDaemonModel", "readWord", "()Z"⟩ ∈ px_tbl := px_mem 44 (by decide +kernel) rfl
set_option maxRecDepth 20000 in
theorem px_w1027 : (Jvm.Cond.code ({ cls := "CheckDaemonModel", name := "readWord", desc := "()Z" } : Jvm.MethodName) prog_13_method_14_code (5 : Nat) (Option.some Jvm.ClassFile.FieldType.boolean)) ∈ px_tbl := px_mem 1027 rfl rfl
theorem px_w1028 : (Jvm.Cond.methodLink "CheckDaemonModel" (117 : Nat) ({ cls := "CheckDaemonModel", name := "letterOf", desc := "(C)I" } : Jvm.MethodName)) ∈ px_tbl := px_mem 1028 (by decide +kernel) rfl
theorem px_w1029 : (Jvm.Cond.static ({ cls := "CheckDaemonModel", name := "letterOf", desc := "(C)I" } : Jvm.MethodName)) ∈ px_tbl := px_mem 1029 (by decide +kernel) rfl
set_option maxRecDepth 20000 in
theorem px_w1030 : (Jvm.Cond.code ({ cls := "CheckDaemonModel", name := "letterOf", desc := "(C)I" } : Jvm.MethodName) prog_13_method_11_code (1 : Nat) (Option.some Jvm.ClassFile.FieldType.int)) ∈ px_tbl := px_mem 1030 rfl rfl
theorem px_w1031 : (Jvm.Cond.methodLink "CheckDaemonModel" (121 : Nat) ({ cls := "CheckDaemonModel", name := "wrong", desc := "()Z" } : Jvm.MethodName)) ∈ px_tbl := px_mem 1031 (by decide +kernel) rfl
theorem px_w1033 : (Jvm.Cond.instanceMethod ({ cls := "CheckDaemonModel", name := "wrong", desc := "()Z" } : Jvm.MethodName)) ∈ px_tbl := px_mem 1033 (by decide +kernel) rfl
theorem px_w45 : Cond.selects "CheckDaemonModel" ⟨"CheckDaemonModel", "wrong", "()Z"⟩ ⟨"CheckDaemonModel", "wrong", "()Z"⟩ ∈ px_tbl := px_mem 45 (by decide +kernel) rfl
set_option maxRecDepth 20000 in
theorem px_w1034 : (Jvm.Cond.code ({ cls := "CheckDaemonModel", name := "wrong", desc := "()Z" } : Jvm.MethodName) prog_13_method_10_code (1 : Nat) (Option.some Jvm.ClassFile.FieldType.boolean)) ∈ px_tbl := px_mem 1034 rfl rfl
theorem px_w1035 : (Jvm.Cond.methodLink "CheckDaemonModel" (153 : Nat) ({ cls := "CheckDaemonModel", name := "readExpression", desc := "()Z" } : Jvm.MethodName)) ∈ px_tbl := px_mem 1035 (by decide +kernel) rfl
theorem px_w1037 : (Jvm.Cond.instanceMethod ({ cls := "CheckDaemonModel", name := "readExpression", desc := "()Z" } : Jvm.MethodName)) ∈ px_tbl := px_mem 1037 (by decide +kernel) rfl
theorem px_w46 : Cond.selects "CheckDaemonModel" ⟨"CheckDaemonModel", "readExpression", "()Z"⟩ ⟨"CheckDaemonModel", "readExpression", "()Z"⟩ ∈ px_tbl := px_mem 46 (by decide +kernel) rfl
set_option maxRecDepth 20000 in
theorem px_w1038 : (Jvm.Cond.code ({ cls := "CheckDaemonModel", name := "readExpression", desc := "()Z" } : Jvm.MethodName) prog_13_method_19_code (3 : Nat) (Option.some Jvm.ClassFile.FieldType.boolean)) ∈ px_tbl := px_mem 1038 rfl rfl
theorem px_w1039 : (Jvm.Cond.methodLink "CheckDaemonModel" (140 : Nat) ({ cls := "CheckDaemonModel", name := "readAtom", desc := "()I" } : Jvm.MethodName)) ∈ px_tbl := px_mem 1039 (by decide +kernel) rfl
theorem px_w1041 : (Jvm.Cond.instanceMethod ({ cls := "CheckDaemonModel", name := "readAtom", desc := "()I" } : Jvm.MethodName)) ∈ px_tbl := px_mem 1041 (by decide +kernel) rfl
theorem px_w47 : Cond.selects "CheckDaemonModel" ⟨"CheckDaemonModel", "readAtom", "()I"⟩ ⟨"CheckDaemonModel", "readAtom", "()I"⟩ ∈ px_tbl := px_mem 47 (by decide +kernel) rfl
set_option maxRecDepth 20000 in
theorem px_w1042 : (Jvm.Cond.code ({ cls := "CheckDaemonModel", name := "readAtom", desc := "()I" } : Jvm.MethodName) prog_13_method_17_code (3 : Nat) (Option.some Jvm.ClassFile.FieldType.int)) ∈ px_tbl := px_mem 1042 rfl rfl
theorem px_w1043 : (Jvm.Cond.methodLink "CheckDaemonModel" (128 : Nat) ({ cls := "CheckDaemonModel", name := "step", desc := "(III)V" } : Jvm.MethodName)) ∈ px_tbl := px_mem 1043 (by decide +kernel) rfl
theorem px_w1045 : (Jvm.Cond.instanceMethod ({ cls := "CheckDaemonModel", name := "step", desc := "(III)V" } : Jvm.MethodName)) ∈ px_tbl := px_mem 1045 (by decide +kernel) rfl
theorem px_w48 : Cond.selects "CheckDaemonModel" ⟨"CheckDaemonModel", "step", "(III)V"⟩ ⟨"CheckDaemonModel", "step", "(III)V"⟩ ∈ px_tbl := px_mem 48 (by decide +kernel) rfl
set_option maxRecDepth 20000 in
theorem px_w1046 : (Jvm.Cond.code ({ cls := "CheckDaemonModel", name := "step", desc := "(III)V" } : Jvm.MethodName) prog_13_method_13_code (5 : Nat) (Option.none : Option Jvm.ClassFile.FieldType)) ∈ px_tbl := px_mem 1046 rfl rfl
theorem px_w1047 : (Jvm.Cond.methodLink "CheckDaemonModel" (136 : Nat) ({ cls := "CheckDaemonModel", name := "brackets", desc := "()I" } : Jvm.MethodName)) ∈ px_tbl := px_mem 1047 (by decide +kernel) rfl
theorem px_w1049 : (Jvm.Cond.instanceMethod ({ cls := "CheckDaemonModel", name := "brackets", desc := "()I" } : Jvm.MethodName)) ∈ px_tbl := px_mem 1049 (by decide +kernel) rfl
theorem px_w49 : Cond.selects "CheckDaemonModel" ⟨"CheckDaemonModel", "brackets", "()I"⟩ ⟨"CheckDaemonModel", "brackets", "()I"⟩ ∈ px_tbl := px_mem 49 (by decide +kernel) rfl
set_option maxRecDepth 20000 in
theorem px_w1050 : (Jvm.Cond.code ({ cls := "CheckDaemonModel", name := "brackets", desc := "()I" } : Jvm.MethodName) prog_13_method_16_code (4 : Nat) (Option.some Jvm.ClassFile.FieldType.int)) ∈ px_tbl := px_mem 1050 rfl rfl
theorem px_w1051 : (Jvm.Cond.methodLink "CheckDaemonModel" (143 : Nat) ({ cls := "CheckDaemonModel", name := "readBehind", desc := "()Z" } : Jvm.MethodName)) ∈ px_tbl := px_mem 1051 (by decide +kernel) rfl
theorem px_w1053 : (Jvm.Cond.instanceMethod ({ cls := "CheckDaemonModel", name := "readBehind", desc := "()Z" } : Jvm.MethodName)) ∈ px_tbl := px_mem 1053 (by decide +kernel) rfl
theorem px_w50 : Cond.selects "CheckDaemonModel" ⟨"CheckDaemonModel", "readBehind", "()Z"⟩ ⟨"CheckDaemonModel", "readBehind", "()Z"⟩ ∈ px_tbl := px_mem 50 (by decide +kernel) rfl
set_option maxRecDepth 20000 in
theorem px_w1054 : (Jvm.Cond.code ({ cls := "CheckDaemonModel", name := "readBehind", desc := "()Z" } : Jvm.MethodName) prog_13_method_18_code (4 : Nat) (Option.some Jvm.ClassFile.FieldType.boolean)) ∈ px_tbl := px_mem 1054 rfl rfl
theorem px_w1055 : (Jvm.Cond.methodLink "CheckDaemonModel" (146 : Nat) ({ cls := "CheckDaemonModel", name := "join", desc := "(Z)V" } : Jvm.MethodName)) ∈ px_tbl := px_mem 1055 (by decide +kernel) rfl
theorem px_w1057 : (Jvm.Cond.instanceMethod ({ cls := "CheckDaemonModel", name := "join", desc := "(Z)V" } : Jvm.MethodName)) ∈ px_tbl := px_mem 1057 (by decide +kernel) rfl
theorem px_w51 : Cond.selects "CheckDaemonModel" ⟨"CheckDaemonModel", "join", "(Z)V"⟩ ⟨"CheckDaemonModel", "join", "(Z)V"⟩ ∈ px_tbl := px_mem 51 (by decide +kernel) rfl
set_option maxRecDepth 20000 in
theorem px_w1058 : (Jvm.Cond.code ({ cls := "CheckDaemonModel", name := "join", desc := "(Z)V" } : Jvm.MethodName) prog_13_method_15_code (2 : Nat) (Option.none : Option Jvm.ClassFile.FieldType)) ∈ px_tbl := px_mem 1058 rfl rfl
theorem px_w1059 : (Jvm.Cond.methodLink "CheckDaemonModel" (209 : Nat) ({ cls := "CheckDaemonModel", name := "grow", desc := "()V" } : Jvm.MethodName)) ∈ px_tbl := px_mem 1059 (by decide +kernel) rfl
theorem px_w1061 : (Jvm.Cond.instanceMethod ({ cls := "CheckDaemonModel", name := "grow", desc := "()V" } : Jvm.MethodName)) ∈ px_tbl := px_mem 1061 (by decide +kernel) rfl
theorem px_w52 : Cond.selects "CheckDaemonModel" ⟨"CheckDaemonModel", "grow", "()V"⟩ ⟨"CheckDaemonModel", "grow", "()V"⟩ ∈ px_tbl := px_mem 52 (by decide +kernel) rfl
set_option maxRecDepth 20000 in
theorem px_w1062 : (Jvm.Cond.code ({ cls := "CheckDaemonModel", name := "grow", desc := "()V" } : Jvm.MethodName) prog_13_method_31_code (4 : Nat) (Option.none : Option Jvm.ClassFile.FieldType)) ∈ px_tbl := px_mem 1062 rfl rfl
theorem px_w1063 : (Jvm.Cond.methodLink "CheckDaemonModel" (156 : Nat) ({ cls := "CheckDaemonModel", name := "isRead", desc := "(I)Z" } : Jvm.MethodName)) ∈ px_tbl := px_mem 1063 (by decide +kernel) rfl
theorem px_w1065 : (Jvm.Cond.instanceMethod ({ cls := "CheckDaemonModel", name := "isRead", desc := "(I)Z" } : Jvm.MethodName)) ∈ px_tbl := px_mem 1065 (by decide +kernel) rfl
theorem px_w53 : Cond.selects "CheckDaemonModel" ⟨"CheckDaemonModel", "isRead", "(I)Z"⟩ ⟨"CheckDaemonModel", "isRead", "(I)Z"⟩ ∈ px_tbl := px_mem 53 (by decide +kernel) rfl
set_option maxRecDepth 20000 in
theorem px_w1066 : (Jvm.Cond.code ({ cls := "CheckDaemonModel", name := "isRead", desc := "(I)Z" } : Jvm.MethodName) prog_13_method_21_code (2 : Nat) (Option.some Jvm.ClassFile.FieldType.boolean)) ∈ px_tbl := px_mem 1066 rfl rfl
theorem px_w1067 : (Jvm.Cond.methodLink "CheckDaemonModel" (191 : Nat) ({ cls := "CheckDaemonModel", name := "value", desc := "(IZ)I" } : Jvm.MethodName)) ∈ px_tbl := px_mem 1067 (by decide +kernel) rfl
theorem px_w1069 : (Jvm.Cond.instanceMethod ({ cls := "CheckDaemonModel", name := "value", desc := "(IZ)I" } : Jvm.MethodName)) ∈ px_tbl := px_mem 1069 (by decide +kernel) rfl
theorem px_w54 : Cond.selects "CheckDaemonModel" ⟨"CheckDaemonModel", "value", "(IZ)I"⟩ ⟨"CheckDaemonModel", "value", "(IZ)I"⟩ ∈ px_tbl := px_mem 54 (by decide +kernel) rfl
set_option maxRecDepth 20000 in
theorem px_w1070 : (Jvm.Cond.code ({ cls := "CheckDaemonModel", name := "value", desc := "(IZ)I" } : Jvm.MethodName) prog_13_method_29_code (6 : Nat) (Option.some Jvm.ClassFile.FieldType.int)) ∈ px_tbl := px_mem 1070 rfl rfl
theorem px_w1071 : (Jvm.Cond.methodLink "CheckDaemonModel" (170 : Nat) ({ cls := "CheckDaemonModel", name := "note", desc := "(III)V" } : Jvm.MethodName)) ∈ px_tbl := px_mem 1071 (by decide +kernel) rfl
theorem px_w1073 : (Jvm.Cond.instanceMethod ({ cls := "CheckDaemonModel", name := "note", desc := "(III)V" } : Jvm.MethodName)) ∈ px_tbl := px_mem 1073 (by decide +kernel) rfl
theorem px_w55 : Cond.selects "CheckDaemonModel" ⟨"CheckDaemonModel", "note", "(III)V"⟩ ⟨"CheckDaemonModel", "note", "(III)V"⟩ ∈ px_tbl := px_mem 55 (by decide +kernel) rfl
set_option maxRecDepth 20000 in
theorem px_w1074 : (Jvm.Cond.code ({ cls := "CheckDaemonModel", name := "note", desc := "(III)V" } : Jvm.MethodName) prog_13_method_28_code (4 : Nat) (Option.none : Option Jvm.ClassFile.FieldType)) ∈ px_tbl := px_mem 1074 rfl rfl
theorem px_w1075 : (Jvm.Cond.methodLink "CheckDaemonModel" (173 : Nat) ({ cls := "CheckDaemonModel", name := "lacksSum", desc := "(II)Z" } : Jvm.MethodName)) ∈ px_tbl := px_mem 1075 (by decide +kernel) rfl
theorem px_w1076 : (Jvm.Cond.static ({ cls := "CheckDaemonModel", name := "lacksSum", desc := "(II)Z" } : Jvm.MethodName)) ∈ px_tbl := px_mem 1076 (by decide +kernel) rfl
set_option maxRecDepth 20000 in
theorem px_w1077 : (Jvm.Cond.code ({ cls := "CheckDaemonModel", name := "lacksSum", desc := "(II)Z" } : Jvm.MethodName) prog_13_method_27_code (5 : Nat) (Option.some Jvm.ClassFile.FieldType.boolean)) ∈ px_tbl := px_mem 1077 rfl rfl
theorem px_w1078 : (Jvm.Cond.methodLink "CheckDaemonModel" (161 : Nat) ({ cls := "CheckDaemonModel", name := "sumOf", desc := "(II)I" } : Jvm.MethodName)) ∈ px_tbl := px_mem 1078 (by decide +kernel) rfl
theorem px_w1079 : (Jvm.Cond.static ({ cls := "CheckDaemonModel", name := "sumOf", desc := "(II)I" } : Jvm.MethodName)) ∈ px_tbl := px_mem 1079 (by decide +kernel) rfl
set_option maxRecDepth 20000 in
theorem px_w1080 : (Jvm.Cond.code ({ cls := "CheckDaemonModel", name := "sumOf", desc := "(II)I" } : Jvm.MethodName) prog_13_method_26_code (2 : Nat) (Option.some Jvm.ClassFile.FieldType.int)) ∈ px_tbl := px_mem 1080 rfl rfl
theorem px_w1081 : (Jvm.Cond.methodLink "CheckDaemonModel" (177 : Nat) ({ cls := "CheckDaemonModel", name := "sum", desc := "(II)I" } : Jvm.MethodName)) ∈ px_tbl := px_mem 1081 (by decide +kernel) rfl
theorem px_w1082 : (Jvm.Cond.static ({ cls := "CheckDaemonModel", name := "sum", desc := "(II)I" } : Jvm.MethodName)) ∈ px_tbl := px_mem 1082 (by decide +kernel) rfl
set_option maxRecDepth 20000 in
theorem px_w1083 : (Jvm.Cond.code ({ cls := "CheckDaemonModel", name := "sum", desc := "(II)I" } : Jvm.MethodName) prog_13_method_25_code (6 : Nat) (Option.some Jvm.ClassFile.FieldType.int)) ∈ px_tbl := px_mem 1083 rfl rfl
theorem px_w1084 : (Jvm.Cond.methodLink "CheckDaemonModel" (180 : Nat) ({ cls := "CheckDaemonModel", name := "isFirst", desc := "(I)Z" } : Jvm.MethodName)) ∈ px_tbl := px_mem 1084 (by decide +kernel) rfl
theorem px_w1085 : (Jvm.Cond.static ({ cls := "CheckDaemonModel", name := "isFirst", desc := "(I)Z" } : Jvm.MethodName)) ∈ px_tbl := px_mem 1085 (by decide +kernel) rfl
set_option maxRecDepth 20000 in
theorem px_w1086 : (Jvm.Cond.code ({ cls := "CheckDaemonModel", name := "isFirst", desc := "(I)Z" } : Jvm.MethodName) prog_13_method_24_code (1 : Nat) (Option.some Jvm.ClassFile.FieldType.boolean)) ∈ px_tbl := px_mem 1086 rfl rfl
theorem px_w1087 : (Jvm.Cond.methodLink "CheckDaemonModel" (183 : Nat) ({ cls := "CheckDaemonModel", name := "changed", desc := "(III)I" } : Jvm.MethodName)) ∈ px_tbl := px_mem 1087 (by decide +kernel) rfl
theorem px_w1088 : (Jvm.Cond.static ({ cls := "CheckDaemonModel", name := "changed", desc := "(III)I" } : Jvm.MethodName)) ∈ px_tbl := px_mem 1088 (by decide +kernel) rfl
set_option maxRecDepth 20000 in
theorem px_w1089 : (Jvm.Cond.code ({ cls := "CheckDaemonModel", name := "changed", desc := "(III)I" } : Jvm.MethodName) prog_13_method_30_code (3 : Nat) (Option.some Jvm.ClassFile.FieldType.int)) ∈ px_tbl := px_mem 1089 rfl rfl
theorem px_w1090 : (Jvm.Cond.methodLink "CheckDaemonModel" (187 : Nat) ({ cls := "CheckDaemonModel", name := "wrapped", desc := "(I)I" } : Jvm.MethodName)) ∈ px_tbl := px_mem 1090 (by decide +kernel) rfl
theorem px_w1091 : (Jvm.Cond.static ({ cls := "CheckDaemonModel", name := "wrapped", desc := "(I)I" } : Jvm.MethodName)) ∈ px_tbl := px_mem 1091 (by decide +kernel) rfl
set_option maxRecDepth 20000 in
theorem px_w1092 : (Jvm.Cond.code ({ cls := "CheckDaemonModel", name := "wrapped", desc := "(I)I" } : Jvm.MethodName) prog_13_method_23_code (2 : Nat) (Option.some Jvm.ClassFile.FieldType.int)) ∈ px_tbl := px_mem 1092 rfl rfl
theorem px_w1095 : (Jvm.Cond.methodLink "CheckDaemonModel" (212 : Nat) ({ cls := "CheckDaemonModel", name := "judgeAll", desc := "()V" } : Jvm.MethodName)) ∈ px_tbl := px_mem 1095 (by decide +kernel) rfl
theorem px_w1097 : (Jvm.Cond.instanceMethod ({ cls := "CheckDaemonModel", name := "judgeAll", desc := "()V" } : Jvm.MethodName)) ∈ px_tbl := px_mem 1097 (by decide +kernel) rfl
theorem px_w56 : Cond.selects "CheckDaemonModel" ⟨"CheckDaemonModel", "judgeAll", "()V"⟩ ⟨"CheckDaemonModel", "judgeAll", "()V"⟩ ∈ px_tbl := px_mem 56 (by decide +kernel) rfl
set_option maxRecDepth 20000 in
theorem px_w1098 : (Jvm.Cond.code ({ cls := "CheckDaemonModel", name := "judgeAll", desc := "()V" } : Jvm.MethodName) prog_13_method_33_code (2 : Nat) (Option.none : Option Jvm.ClassFile.FieldType)) ∈ px_tbl := px_mem 1098 rfl rfl
theorem px_w1099 : (Jvm.Cond.methodLink "CheckDaemonModel" (195 : Nat) ({ cls := "CheckDaemonModel", name := "judge", desc := "(I)V" } : Jvm.MethodName)) ∈ px_tbl := px_mem 1099 (by decide +kernel) rfl
theorem px_w1101 : (Jvm.Cond.instanceMethod ({ cls := "CheckDaemonModel", name := "judge", desc := "(I)V" } : Jvm.MethodName)) ∈ px_tbl := px_mem 1101 (by decide +kernel) rfl
theorem px_w57 : Cond.selects "CheckDaemonModel" ⟨"CheckDaemonModel", "judge", "(I)V"⟩ ⟨"CheckDaemonModel", "judge", "(I)V"⟩ ∈ px_tbl := px_mem 57 (by decide +kernel) rfl
set_option maxRecDepth 20000 in
theorem px_w1102 : (Jvm.Cond.code ({ cls := "CheckDaemonModel", name := "judge", desc := "(I)V" } : Jvm.MethodName) prog_13_method_32_code (8 : Nat) (Option.none : Option Jvm.ClassFile.FieldType)) ∈ px_tbl := px_mem 1102 rfl rfl
theorem px_w1103 : (Jvm.Cond.methodLink "CheckDaemonModel" (215 : Nat) ({ cls := "CheckDaemonModel", name := "readsStale", desc := "(I)Z" } : Jvm.MethodName)) ∈ px_tbl := px_mem 1103 (by decide +kernel) rfl
theorem px_w1105 : (Jvm.Cond.instanceMethod ({ cls := "CheckDaemonModel", name := "readsStale", desc := "(I)Z" } : Jvm.MethodName)) ∈ px_tbl := px_mem 1105 (by decide +kernel) rfl
theorem px_w58 : Cond.selects "CheckDaemonModel" ⟨"CheckDaemonModel", "readsStale", "(I)Z"⟩ ⟨"CheckDaemonModel", "readsStale", "(I)Z"⟩ ∈ px_tbl := px_mem 58 (by decide +kernel) rfl
set_option maxRecDepth 20000 in
theorem px_w1106 : (Jvm.Cond.code ({ cls := "CheckDaemonModel", name := "readsStale", desc := "(I)Z" } : Jvm.MethodName) prog_13_method_35_code (4 : Nat) (Option.some Jvm.ClassFile.FieldType.boolean)) ∈ px_tbl := px_mem 1106 rfl rfl
theorem px_w1119 : (Jvm.Cond.methodLink "CheckDaemonModel" (234 : Nat) ({ cls := "CheckDaemonModel", name := "know", desc := "()V" } : Jvm.MethodName)) ∈ px_tbl := px_mem 1119 (by decide +kernel) rfl
theorem px_w1121 : (Jvm.Cond.instanceMethod ({ cls := "CheckDaemonModel", name := "know", desc := "()V" } : Jvm.MethodName)) ∈ px_tbl := px_mem 1121 (by decide +kernel) rfl
theorem px_w59 : Cond.selects "CheckDaemonModel" ⟨"CheckDaemonModel", "know", "()V"⟩ ⟨"CheckDaemonModel", "know", "()V"⟩ ∈ px_tbl := px_mem 59 (by decide +kernel) rfl
set_option maxRecDepth 20000 in
theorem px_w1122 : (Jvm.Cond.code ({ cls := "CheckDaemonModel", name := "know", desc := "()V" } : Jvm.MethodName) prog_13_method_41_code (7 : Nat) (Option.none : Option Jvm.ClassFile.FieldType)) ∈ px_tbl := px_mem 1122 rfl rfl
theorem px_w1123 : (Jvm.Cond.methodLink "CheckDaemonModel" (237 : Nat) ({ cls := "CheckDaemonModel", name := "leastOf", desc := "(I)I" } : Jvm.MethodName)) ∈ px_tbl := px_mem 1123 (by decide +kernel) rfl
theorem px_w1125 : (Jvm.Cond.instanceMethod ({ cls := "CheckDaemonModel", name := "leastOf", desc := "(I)I" } : Jvm.MethodName)) ∈ px_tbl := px_mem 1125 (by decide +kernel) rfl
theorem px_w60 : Cond.selects "CheckDaemonModel" ⟨"CheckDaemonModel", "leastOf", "(I)I"⟩ ⟨"CheckDaemonModel", "leastOf", "(I)I"⟩ ∈ px_tbl := px_mem 60 (by decide +kernel) rfl
set_option maxRecDepth 20000 in
theorem px_w1126 : (Jvm.Cond.code ({ cls := "CheckDaemonModel", name := "leastOf", desc := "(I)I" } : Jvm.MethodName) prog_13_method_43_code (4 : Nat) (Option.some Jvm.ClassFile.FieldType.int)) ∈ px_tbl := px_mem 1126 rfl rfl
theorem px_w1127 : (Jvm.Cond.methodLink "CheckDaemonModel" (231 : Nat) ({ cls := "CheckDaemonModel", name := "areOne", desc := "(II)Z" } : Jvm.MethodName)) ∈ px_tbl := px_mem 1127 (by decide +kernel) rfl
theorem px_w1129 : (Jvm.Cond.instanceMethod ({ cls := "CheckDaemonModel", name := "areOne", desc := "(II)Z" } : Jvm.MethodName)) ∈ px_tbl := px_mem 1129 (by decide +kernel) rfl
theorem px_w61 : Cond.selects "CheckDaemonModel" ⟨"CheckDaemonModel", "areOne", "(II)Z"⟩ ⟨"CheckDaemonModel", "areOne", "(II)Z"⟩ ∈ px_tbl := px_mem 61 (by decide +kernel) rfl
set_option maxRecDepth 20000 in
theorem px_w1130 : (Jvm.Cond.code ({ cls := "CheckDaemonModel", name := "areOne", desc := "(II)Z" } : Jvm.MethodName) prog_13_method_42_code (3 : Nat) (Option.some Jvm.ClassFile.FieldType.boolean)) ∈ px_tbl := px_mem 1130 rfl rfl
theorem px_w1131 : (Jvm.Cond.methodLink "CheckDaemonModel" (240 : Nat) ({ cls := "CheckDaemonModel", name := "reads", desc := "(II)Z" } : Jvm.MethodName)) ∈ px_tbl := px_mem 1131 (by decide +kernel) rfl
theorem px_w1133 : (Jvm.Cond.instanceMethod ({ cls := "CheckDaemonModel", name := "reads", desc := "(II)Z" } : Jvm.MethodName)) ∈ px_tbl := px_mem 1133 (by decide +kernel) rfl
theorem px_w62 : Cond.selects "CheckDaemonModel" ⟨"CheckDaemonModel", "reads", "(II)Z"⟩ ⟨"CheckDaemonModel", "reads", "(II)Z"⟩ ∈ px_tbl := px_mem 62 (by decide +kernel) rfl
set_option maxRecDepth 20000 in
theorem px_w1134 : (Jvm.Cond.code ({ cls := "CheckDaemonModel", name := "reads", desc := "(II)Z" } : Jvm.MethodName) prog_13_method_22_code (5 : Nat) (Option.some Jvm.ClassFile.FieldType.boolean)) ∈ px_tbl := px_mem 1134 rfl rfl
theorem px_w1139 : (Jvm.Cond.methodLink "CheckDaemonModel" (243 : Nat) ({ cls := "CheckDaemonModel", name := "readCount", desc := "(I)I" } : Jvm.MethodName)) ∈ px_tbl := px_mem 1139 (by decide +kernel) rfl
theorem px_w1141 : (Jvm.Cond.instanceMethod ({ cls := "CheckDaemonModel", name := "readCount", desc := "(I)I" } : Jvm.MethodName)) ∈ px_tbl := px_mem 1141 (by decide +kernel) rfl
theorem px_w63 : Cond.selects "CheckDaemonModel" ⟨"CheckDaemonModel", "readCount", "(I)I"⟩ ⟨"CheckDaemonModel", "readCount", "(I)I"⟩ ∈ px_tbl := px_mem 63 (by decide +kernel) rfl
set_option maxRecDepth 20000 in
theorem px_w1142 : (Jvm.Cond.code ({ cls := "CheckDaemonModel", name := "readCount", desc := "(I)I" } : Jvm.MethodName) prog_13_method_46_code (4 : Nat) (Option.some Jvm.ClassFile.FieldType.int)) ∈ px_tbl := px_mem 1142 rfl rfl
theorem px_w1151 : (Jvm.Cond.methodLink "CheckDaemonModel" (246 : Nat) ({ cls := "CheckDaemonModel", name := "sizeOf", desc := "(I)I" } : Jvm.MethodName)) ∈ px_tbl := px_mem 1151 (by decide +kernel) rfl
theorem px_w1153 : (Jvm.Cond.instanceMethod ({ cls := "CheckDaemonModel", name := "sizeOf", desc := "(I)I" } : Jvm.MethodName)) ∈ px_tbl := px_mem 1153 (by decide +kernel) rfl
theorem px_w64 : Cond.selects "CheckDaemonModel" ⟨"CheckDaemonModel", "sizeOf", "(I)I"⟩ ⟨"CheckDaemonModel", "sizeOf", "(I)I"⟩ ∈ px_tbl := px_mem 64 (by decide +kernel) rfl
set_option maxRecDepth 20000 in
theorem px_w1154 : (Jvm.Cond.code ({ cls := "CheckDaemonModel", name := "sizeOf", desc := "(I)I" } : Jvm.MethodName) prog_13_method_44_code (4 : Nat) (Option.some Jvm.ClassFile.FieldType.int)) ∈ px_tbl := px_mem 1154 rfl rfl
theorem px_w613 : (Jvm.Cond.methodLink "CheckDaemon$Forms" (11 : Nat) ({ cls := "CheckDaemon$Forms", name := "inLists", desc := "(I)I" } : Jvm.MethodName)) ∈ px_tbl := px_mem 613 (by decide +kernel) rfl
theorem px_w614 : (Jvm.Cond.static ({ cls := "CheckDaemon$Forms", name := "inLists", desc := "(I)I" } : Jvm.MethodName)) ∈ px_tbl := px_mem 614 (by decide +kernel) rfl
set_option maxRecDepth 20000 in
theorem px_w615 : (Jvm.Cond.code ({ cls := "CheckDaemon$Forms", name := "inLists", desc := "(I)I" } : Jvm.MethodName) prog_5_method_3_code (1 : Nat) (Option.some Jvm.ClassFile.FieldType.int)) ∈ px_tbl := px_mem 615 rfl rfl
theorem px_w629 : (Jvm.Cond.methodLink "CheckDaemon$Forms" (16 : Nat) ({ cls := "CheckDaemon$Forms", name := "makesFloat", desc := "(II)Z" } : Jvm.MethodName)) ∈ px_tbl := px_mem 629 (by decide +kernel) rfl
theorem px_w630 : (Jvm.Cond.static ({ cls := "CheckDaemon$Forms", name := "makesFloat", desc := "(II)Z" } : Jvm.MethodName)) ∈ px_tbl := px_mem 630 (by decide +kernel) rfl
set_option maxRecDepth 20000 in
theorem px_w631 : (Jvm.Cond.code ({ cls := "CheckDaemon$Forms", name := "makesFloat", desc := "(II)Z" } : Jvm.MethodName) prog_5_method_10_code (2 : Nat) (Option.some Jvm.ClassFile.FieldType.boolean)) ∈ px_tbl := px_mem 631 rfl rfl
theorem px_w133 : (Jvm.Cond.classLink "CheckDaemon$Circles" (9 : Nat) "CheckDaemon$SymbolSet") ∈ px_tbl := px_mem 133 (by decide +kernel) rfl
theorem px_w116 : (Jvm.Cond.instantiable "CheckDaemon$SymbolSet" (1 : Nat)) ∈ px_tbl := px_mem 116 (by decide +kernel) rfl
theorem px_w348 : (Jvm.Cond.classLink "CheckDaemon$Expression" (15 : Nat) "CheckDaemon$SymbolSet") ∈ px_tbl := px_mem 348 (by decide +kernel) rfl
theorem px_w466 : (Jvm.Cond.classLink "CheckDaemon$Line" (34 : Nat) "CheckDaemon$Faults") ∈ px_tbl := px_mem 466 (by decide +kernel) rfl
theorem px_w467 : (Jvm.Cond.instantiable "CheckDaemon$Faults" (2 : Nat)) ∈ px_tbl := px_mem 467 (by decide +kernel) rfl
theorem px_w507 : (Jvm.Cond.classLink "CheckDaemon$Line" (43 : Nat) "CheckDaemon$Expression") ∈ px_tbl := px_mem 507 (by decide +kernel) rfl
theorem px_w343 : (Jvm.Cond.instantiable "CheckDaemon$Expression" (7 : Nat)) ∈ px_tbl := px_mem 343 (by decide +kernel) rfl
theorem px_w342 : (Jvm.Cond.classLink "CheckDaemon$Parser" (43 : Nat) "CheckDaemon$Expression") ∈ px_tbl := px_mem 342 (by decide +kernel) rfl
theorem px_w460 : (Jvm.Cond.classLink "CheckDaemon$Parser" (64 : Nat) "CheckDaemon$Line") ∈ px_tbl := px_mem 460 (by decide +kernel) rfl
theorem px_w461 : (Jvm.Cond.instantiable "CheckDaemon$Line" (8 : Nat)) ∈ px_tbl := px_mem 461 (by decide +kernel) rfl
theorem px_w101 : (Jvm.Cond.classLink "CheckDaemon$Workspace" (19 : Nat) "CheckDaemon$Symbols") ∈ px_tbl := px_mem 101 (by decide +kernel) rfl
theorem px_w102 : (Jvm.Cond.instantiable "CheckDaemon$Symbols" (2 : Nat)) ∈ px_tbl := px_mem 102 (by decide +kernel) rfl
theorem px_w115 : (Jvm.Cond.classLink "CheckDaemon$Workspace" (33 : Nat) "CheckDaemon$SymbolSet") ∈ px_tbl := px_mem 115 (by decide +kernel) rfl
theorem px_w127 : (Jvm.Cond.classLink "CheckDaemon$Workspace" (48 : Nat) "CheckDaemon$Circles") ∈ px_tbl := px_mem 127 (by decide +kernel) rfl
theorem px_w128 : (Jvm.Cond.instantiable "CheckDaemon$Circles" (6 : Nat)) ∈ px_tbl := px_mem 128 (by decide +kernel) rfl
theorem px_w93 : (Jvm.Cond.classLink "CheckDaemon" (17 : Nat) "CheckDaemon$Workspace") ∈ px_tbl := px_mem 93 (by decide +kernel) rfl
theorem px_w94 : (Jvm.Cond.instantiable "CheckDaemon$Workspace" (9 : Nat)) ∈ px_tbl := px_mem 94 (by decide +kernel) rfl
theorem px_w183 : (Jvm.Cond.classLink "CheckDaemon" (24 : Nat) "CheckDaemon$History") ∈ px_tbl := px_mem 183 (by decide +kernel) rfl
theorem px_w184 : (Jvm.Cond.instantiable "CheckDaemon$History" (3 : Nat)) ∈ px_tbl := px_mem 184 (by decide +kernel) rfl
theorem px_w330 : (Jvm.Cond.classLink "CheckDaemon" (59 : Nat) "CheckDaemon$Parser") ∈ px_tbl := px_mem 330 (by decide +kernel) rfl
theorem px_w331 : (Jvm.Cond.instantiable "CheckDaemon$Parser" (8 : Nat)) ∈ px_tbl := px_mem 331 (by decide +kernel) rfl
theorem px_w189 : (Jvm.Cond.classLink "CheckDaemon$History" (15 : Nat) "CheckDaemon$Line") ∈ px_tbl := px_mem 189 (by decide +kernel) rfl
theorem px_w99 : (Jvm.Cond.classLink "CheckDaemon$Workspace" (11 : Nat) "CheckDaemon$Line") ∈ px_tbl := px_mem 99 (by decide +kernel) rfl
theorem px_w865 : (Jvm.Cond.constant "CheckDaemonModel" (72 : Nat) (43264 : Int32)) ∈ px_tbl := px_mem 865 (by decide +kernel) rfl
theorem px_w1093 : (Jvm.Cond.constant "CheckDaemonModel" (159 : Nat) (1048575 : Int32)) ∈ px_tbl := px_mem 1093 (by decide +kernel) rfl
theorem px_w1094 : (Jvm.Cond.constant "CheckDaemonModel" (160 : Nat) (524288 : Int32)) ∈ px_tbl := px_mem 1094 (by decide +kernel) rfl
theorem px_w616 : (Jvm.Cond.constant "CheckDaemon$Forms" (15 : Nat) (524288 : Int32)) ∈ px_tbl := px_mem 616 (by decide +kernel) rfl
theorem px_w796 : (Jvm.Cond.constantLong "java/lang/Long" (314 : Nat) (6148914691236517205 : Int64)) ∈ px_tbl := px_mem 796 (by decide +kernel) rfl
theorem px_w797 : (Jvm.Cond.constantLong "java/lang/Long" (316 : Nat) (3689348814741910323 : Int64)) ∈ px_tbl := px_mem 797 (by decide +kernel) rfl
theorem px_w798 : (Jvm.Cond.constantLong "java/lang/Long" (318 : Nat) (1085102592571150095 : Int64)) ∈ px_tbl := px_mem 798 (by decide +kernel) rfl
theorem px_w132 : (Jvm.Cond.methodLink "CheckDaemon$Circles" (3 : Nat) ({ cls := "java/lang/Object", name := "<init>", desc := "()V" } : Jvm.MethodName)) ∈ px_tbl := px_mem 132 (by decide +kernel) rfl
theorem px_w347 : (Jvm.Cond.methodLink "CheckDaemon$Expression" (3 : Nat) ({ cls := "java/lang/Object", name := "<init>", desc := "()V" } : Jvm.MethodName)) ∈ px_tbl := px_mem 347 (by decide +kernel) rfl
theorem px_w471 : (Jvm.Cond.methodLink "CheckDaemon$Faults" (3 : Nat) ({ cls := "java/lang/Object", name := "<init>", desc := "()V" } : Jvm.MethodName)) ∈ px_tbl := px_mem 471 (by decide +kernel) rfl
theorem px_w188 : (Jvm.Cond.methodLink "CheckDaemon$History" (3 : Nat) ({ cls := "java/lang/Object", name := "<init>", desc := "()V" } : Jvm.MethodName)) ∈ px_tbl := px_mem 188 (by decide +kernel) rfl
theorem px_w465 : (Jvm.Cond.methodLink "CheckDaemon$Line" (3 : Nat) ({ cls := "java/lang/Object", name := "<init>", desc := "()V" } : Jvm.MethodName)) ∈ px_tbl := px_mem 465 (by decide +kernel) rfl
theorem px_w335 : (Jvm.Cond.methodLink "CheckDaemon$Parser" (3 : Nat) ({ cls := "java/lang/Object", name := "<init>", desc := "()V" } : Jvm.MethodName)) ∈ px_tbl := px_mem 335 (by decide +kernel) rfl
theorem px_w120 : (Jvm.Cond.methodLink "CheckDaemon$SymbolSet" (3 : Nat) ({ cls := "java/lang/Object", name := "<init>", desc := "()V" } : Jvm.MethodName)) ∈ px_tbl := px_mem 120 (by decide +kernel) rfl
theorem px_w106 : (Jvm.Cond.methodLink "CheckDaemon$Symbols" (3 : Nat) ({ cls := "java/lang/Object", name := "<init>", desc := "()V" } : Jvm.MethodName)) ∈ px_tbl := px_mem 106 (by decide +kernel) rfl
theorem px_w98 : (Jvm.Cond.methodLink "CheckDaemon$Workspace" (5 : Nat) ({ cls := "java/lang/Object", name := "<init>", desc := "()V" } : Jvm.MethodName)) ∈ px_tbl := px_mem 98 (by decide +kernel) rfl
theorem px_w90 : (Jvm.Cond.methodLink "CheckDaemon" (3 : Nat) ({ cls := "java/lang/Object", name := "<init>", desc := "()V" } : Jvm.MethodName)) ∈ px_tbl := px_mem 90 (by decide +kernel) rfl
theorem px_w864 : (Jvm.Cond.methodLink "CheckDaemonModel" (1 : Nat) ({ cls := "java/lang/Object", name := "<init>", desc := "()V" } : Jvm.MethodName)) ∈ px_tbl := px_mem 864 (by decide +kernel) rfl
theorem px_w91 : (Jvm.Cond.instanceMethod ({ cls := "java/lang/Object", name := "<init>", desc := "()V" } : Jvm.MethodName)) ∈ px_tbl := px_mem 91 (by decide +kernel) rfl
set_option maxRecDepth 20000 in
theorem px_w92 : (Jvm.Cond.code ({ cls := "java/lang/Object", name := "<init>", desc := "()V" } : Jvm.MethodName) object_method_1_code (1 : Nat) (Option.none : Option Jvm.ClassFile.FieldType)) ∈ px_tbl := px_mem 92 rfl rfl
theorem px_w114 : (Jvm.Cond.arrayClass Jvm.ClassFile.FieldType.int) ∈ px_tbl := px_mem 114 (by decide +kernel) rfl
theorem px_w126 : (Jvm.Cond.arrayClass Jvm.ClassFile.FieldType.long) ∈ px_tbl := px_mem 126 (by decide +kernel) rfl
theorem px_w125 : (Jvm.Cond.arrayClass Jvm.ClassFile.FieldType.boolean) ∈ px_tbl := px_mem 125 (by decide +kernel) rfl
theorem px_w969 : (Jvm.Cond.arrayClass Jvm.ClassFile.FieldType.char) ∈ px_tbl := px_mem 969 (by decide +kernel) rfl
theorem px_in0 : ∀ w ∈ u_ws px_R0 px_T0 6, w ∈ px_tbl := by
  show ∀ w ∈ [u_lay px_R0 px_T0 0, u_lay px_R0 px_T0 1, u_lay px_R0 px_T0 2, u_lay px_R0 px_T0 3, u_lay px_R0 px_T0 4, u_lay px_R0 px_T0 5], w ∈ px_tbl
  exact List.forall_mem_cons.mpr ⟨px_w142, List.forall_mem_cons.mpr ⟨px_w144, List.forall_mem_cons.mpr ⟨px_w146, List.forall_mem_cons.mpr ⟨px_w148, List.forall_mem_cons.mpr ⟨px_w150, List.forall_mem_cons.mpr ⟨px_w152, fun _ h => absurd h List.not_mem_nil⟩⟩⟩⟩⟩⟩
theorem px_ty0_ok : ∀ k, k < 6 → parseFieldDescriptor (px_T0 k).2.2.1 = some (px_Y0 k) := by decide +kernel
theorem px_nm0 : ∀ a, a < 6 → ∀ b, b < 6 → a ≠ b → (px_T0 a).2.1 ≠ (px_T0 b).2.1 := by decide +kernel
theorem px_in1 : ∀ w ∈ u_ws px_R1 px_T1 7, w ∈ px_tbl := by
  show ∀ w ∈ [u_lay px_R1 px_T1 0, u_lay px_R1 px_T1 1, u_lay px_R1 px_T1 2, u_lay px_R1 px_T1 3, u_lay px_R1 px_T1 4, u_lay px_R1 px_T1 5, u_lay px_R1 px_T1 6], w ∈ px_tbl
  exact List.forall_mem_cons.mpr ⟨px_w359, List.forall_mem_cons.mpr ⟨px_w361, List.forall_mem_cons.mpr ⟨px_w363, List.forall_mem_cons.mpr ⟨px_w365, List.forall_mem_cons.mpr ⟨px_w367, List.forall_mem_cons.mpr ⟨px_w369, List.forall_mem_cons.mpr ⟨px_w371, fun _ h => absurd h List.not_mem_nil⟩⟩⟩⟩⟩⟩⟩
theorem px_ty1_ok : ∀ k, k < 7 → parseFieldDescriptor (px_T1 k).2.2.1 = some (px_Y1 k) := by decide +kernel
theorem px_nm1 : ∀ a, a < 7 → ∀ b, b < 7 → a ≠ b → (px_T1 a).2.1 ≠ (px_T1 b).2.1 := by decide +kernel
theorem px_in2 : ∀ w ∈ u_ws px_R2 px_T2 2, w ∈ px_tbl := by
  show ∀ w ∈ [u_lay px_R2 px_T2 0, u_lay px_R2 px_T2 1], w ∈ px_tbl
  exact List.forall_mem_cons.mpr ⟨px_w474, List.forall_mem_cons.mpr ⟨px_w476, fun _ h => absurd h List.not_mem_nil⟩⟩
theorem px_ty2_ok : ∀ k, k < 2 → parseFieldDescriptor (px_T2 k).2.2.1 = some (px_Y2 k) := by decide +kernel
theorem px_nm2 : ∀ a, a < 2 → ∀ b, b < 2 → a ≠ b → (px_T2 a).2.1 ≠ (px_T2 b).2.1 := by decide +kernel
theorem px_in3 : ∀ w ∈ u_ws px_R3 px_T3 3, w ∈ px_tbl := by
  show ∀ w ∈ [u_lay px_R3 px_T3 0, u_lay px_R3 px_T3 1, u_lay px_R3 px_T3 2], w ∈ px_tbl
  exact List.forall_mem_cons.mpr ⟨px_w193, List.forall_mem_cons.mpr ⟨px_w195, List.forall_mem_cons.mpr ⟨px_w197, fun _ h => absurd h List.not_mem_nil⟩⟩⟩
theorem px_ty3_ok : ∀ k, k < 3 → parseFieldDescriptor (px_T3 k).2.2.1 = some (px_Y3 k) := by decide +kernel
theorem px_nm3 : ∀ a, a < 3 → ∀ b, b < 3 → a ≠ b → (px_T3 a).2.1 ≠ (px_T3 b).2.1 := by decide +kernel
theorem px_in4 : ∀ w ∈ u_ws px_R4 px_T4 8, w ∈ px_tbl := by
  show ∀ w ∈ [u_lay px_R4 px_T4 0, u_lay px_R4 px_T4 1, u_lay px_R4 px_T4 2, u_lay px_R4 px_T4 3, u_lay px_R4 px_T4 4, u_lay px_R4 px_T4 5, u_lay px_R4 px_T4 6, u_lay px_R4 px_T4 7], w ∈ px_tbl
  exact List.forall_mem_cons.mpr ⟨px_w487, List.forall_mem_cons.mpr ⟨px_w489, List.forall_mem_cons.mpr ⟨px_w491, List.forall_mem_cons.mpr ⟨px_w493, List.forall_mem_cons.mpr ⟨px_w495, List.forall_mem_cons.mpr ⟨px_w497, List.forall_mem_cons.mpr ⟨px_w499, List.forall_mem_cons.mpr ⟨px_w501, fun _ h => absurd h List.not_mem_nil⟩⟩⟩⟩⟩⟩⟩⟩
theorem px_ty4_ok : ∀ k, k < 8 → parseFieldDescriptor (px_T4 k).2.2.1 = some (px_Y4 k) := by decide +kernel
theorem px_nm4 : ∀ a, a < 8 → ∀ b, b < 8 → a ≠ b → (px_T4 a).2.1 ≠ (px_T4 b).2.1 := by decide +kernel
theorem px_in5 : ∀ w ∈ u_ws px_R5 px_T5 8, w ∈ px_tbl := by
  show ∀ w ∈ [u_lay px_R5 px_T5 0, u_lay px_R5 px_T5 1, u_lay px_R5 px_T5 2, u_lay px_R5 px_T5 3, u_lay px_R5 px_T5 4, u_lay px_R5 px_T5 5, u_lay px_R5 px_T5 6, u_lay px_R5 px_T5 7], w ∈ px_tbl
  exact List.forall_mem_cons.mpr ⟨px_w382, List.forall_mem_cons.mpr ⟨px_w384, List.forall_mem_cons.mpr ⟨px_w386, List.forall_mem_cons.mpr ⟨px_w388, List.forall_mem_cons.mpr ⟨px_w390, List.forall_mem_cons.mpr ⟨px_w392, List.forall_mem_cons.mpr ⟨px_w394, List.forall_mem_cons.mpr ⟨px_w396, fun _ h => absurd h List.not_mem_nil⟩⟩⟩⟩⟩⟩⟩⟩
theorem px_ty5_ok : ∀ k, k < 8 → parseFieldDescriptor (px_T5 k).2.2.1 = some (px_Y5 k) := by decide +kernel
theorem px_nm5 : ∀ a, a < 8 → ∀ b, b < 8 → a ≠ b → (px_T5 a).2.1 ≠ (px_T5 b).2.1 := by decide +kernel
theorem px_in6 : ∀ w ∈ u_ws px_R6 px_T6 1, w ∈ px_tbl := by
  show ∀ w ∈ [u_lay px_R6 px_T6 0], w ∈ px_tbl
  exact List.forall_mem_cons.mpr ⟨px_w122, fun _ h => absurd h List.not_mem_nil⟩
theorem px_ty6_ok : ∀ k, k < 1 → parseFieldDescriptor (px_T6 k).2.2.1 = some (px_Y6 k) := by decide +kernel
theorem px_nm6 : ∀ a, a < 1 → ∀ b, b < 1 → a ≠ b → (px_T6 a).2.1 ≠ (px_T6 b).2.1 := by decide +kernel
theorem px_in7 : ∀ w ∈ u_ws px_R7 px_T7 2, w ∈ px_tbl := by
  show ∀ w ∈ [u_lay px_R7 px_T7 0, u_lay px_R7 px_T7 1], w ∈ px_tbl
  exact List.forall_mem_cons.mpr ⟨px_w109, List.forall_mem_cons.mpr ⟨px_w111, fun _ h => absurd h List.not_mem_nil⟩⟩
theorem px_ty7_ok : ∀ k, k < 2 → parseFieldDescriptor (px_T7 k).2.2.1 = some (px_Y7 k) := by decide +kernel
theorem px_nm7 : ∀ a, a < 2 → ∀ b, b < 2 → a ≠ b → (px_T7 a).2.1 ≠ (px_T7 b).2.1 := by decide +kernel
theorem px_in8 : ∀ w ∈ u_ws px_R8 px_T8 9, w ∈ px_tbl := by
  show ∀ w ∈ [u_lay px_R8 px_T8 0, u_lay px_R8 px_T8 1, u_lay px_R8 px_T8 2, u_lay px_R8 px_T8 3, u_lay px_R8 px_T8 4, u_lay px_R8 px_T8 5, u_lay px_R8 px_T8 6, u_lay px_R8 px_T8 7, u_lay px_R8 px_T8 8], w ∈ px_tbl
  exact List.forall_mem_cons.mpr ⟨px_w164, List.forall_mem_cons.mpr ⟨px_w166, List.forall_mem_cons.mpr ⟨px_w168, List.forall_mem_cons.mpr ⟨px_w170, List.forall_mem_cons.mpr ⟨px_w172, List.forall_mem_cons.mpr ⟨px_w174, List.forall_mem_cons.mpr ⟨px_w176, List.forall_mem_cons.mpr ⟨px_w178, List.forall_mem_cons.mpr ⟨px_w180, fun _ h => absurd h List.not_mem_nil⟩⟩⟩⟩⟩⟩⟩⟩⟩
theorem px_ty8_ok : ∀ k, k < 9 → parseFieldDescriptor (px_T8 k).2.2.1 = some (px_Y8 k) := by decide +kernel
theorem px_nm8 : ∀ a, a < 9 → ∀ b, b < 9 → a ≠ b → (px_T8 a).2.1 ≠ (px_T8 b).2.1 := by decide +kernel
theorem px_in9 : ∀ w ∈ u_ws px_R9 px_T9 4, w ∈ px_tbl := by
  show ∀ w ∈ [u_lay px_R9 px_T9 0, u_lay px_R9 px_T9 1, u_lay px_R9 px_T9 2, u_lay px_R9 px_T9 3], w ∈ px_tbl
  exact List.forall_mem_cons.mpr ⟨px_w204, List.forall_mem_cons.mpr ⟨px_w206, List.forall_mem_cons.mpr ⟨px_w208, List.forall_mem_cons.mpr ⟨px_w210, fun _ h => absurd h List.not_mem_nil⟩⟩⟩⟩
theorem px_ty9_ok : ∀ k, k < 4 → parseFieldDescriptor (px_T9 k).2.2.1 = some (px_Y9 k) := by decide +kernel
theorem px_nm9 : ∀ a, a < 4 → ∀ b, b < 4 → a ≠ b → (px_T9 a).2.1 ≠ (px_T9 b).2.1 := by decide +kernel
theorem px_in10 : ∀ w ∈ u_ws px_R10 px_T10 34, w ∈ px_tbl := by
  show ∀ w ∈ [u_lay px_R10 px_T10 0, u_lay px_R10 px_T10 1, u_lay px_R10 px_T10 2, u_lay px_R10 px_T10 3, u_lay px_R10 px_T10 4, u_lay px_R10 px_T10 5, u_lay px_R10 px_T10 6, u_lay px_R10 px_T10 7, u_lay px_R10 px_T10 8, u_lay px_R10 px_T10 9, u_lay px_R10 px_T10 10, u_lay px_R10 px_T10 11, u_lay px_R10 px_T10 12, u_lay px_R10 px_T10 13, u_lay px_R10 px_T10 14, u_lay px_R10 px_T10 15, u_lay px_R10 px_T10 16, u_lay px_R10 px_T10 17, u_lay px_R10 px_T10 18, u_lay px_R10 px_T10 19, u_lay px_R10 px_T10 20, u_lay px_R10 px_T10 21, u_lay px_R10 px_T10 22, u_lay px_R10 px_T10 23, u_lay px_R10 px_T10 24, u_lay px_R10 px_T10 25, u_lay px_R10 px_T10 26, u_lay px_R10 px_T10 27, u_lay px_R10 px_T10 28, u_lay px_R10 px_T10 29, u_lay px_R10 px_T10 30, u_lay px_R10 px_T10 31, u_lay px_R10 px_T10 32, u_lay px_R10 px_T10 33], w ∈ px_tbl
  exact List.forall_mem_cons.mpr ⟨px_w900, List.forall_mem_cons.mpr ⟨px_w902, List.forall_mem_cons.mpr ⟨px_w904, List.forall_mem_cons.mpr ⟨px_w906, List.forall_mem_cons.mpr ⟨px_w908, List.forall_mem_cons.mpr ⟨px_w910, List.forall_mem_cons.mpr ⟨px_w912, List.forall_mem_cons.mpr ⟨px_w914, List.forall_mem_cons.mpr ⟨px_w916, List.forall_mem_cons.mpr ⟨px_w918, List.forall_mem_cons.mpr ⟨px_w920, List.forall_mem_cons.mpr ⟨px_w922, List.forall_mem_cons.mpr ⟨px_w924, List.forall_mem_cons.mpr ⟨px_w926, List.forall_mem_cons.mpr ⟨px_w928, List.forall_mem_cons.mpr ⟨px_w930, List.forall_mem_cons.mpr ⟨px_w932, List.forall_mem_cons.mpr ⟨px_w934, List.forall_mem_cons.mpr ⟨px_w936, List.forall_mem_cons.mpr ⟨px_w938, List.forall_mem_cons.mpr ⟨px_w940, List.forall_mem_cons.mpr ⟨px_w942, List.forall_mem_cons.mpr ⟨px_w944, List.forall_mem_cons.mpr ⟨px_w946, List.forall_mem_cons.mpr ⟨px_w948, List.forall_mem_cons.mpr ⟨px_w950, List.forall_mem_cons.mpr ⟨px_w952, List.forall_mem_cons.mpr ⟨px_w954, List.forall_mem_cons.mpr ⟨px_w956, List.forall_mem_cons.mpr ⟨px_w958, List.forall_mem_cons.mpr ⟨px_w960, List.forall_mem_cons.mpr ⟨px_w962, List.forall_mem_cons.mpr ⟨px_w964, List.forall_mem_cons.mpr ⟨px_w966, fun _ h => absurd h List.not_mem_nil⟩⟩⟩⟩⟩⟩⟩⟩⟩⟩⟩⟩⟩⟩⟩⟩⟩⟩⟩⟩⟩⟩⟩⟩⟩⟩⟩⟩⟩⟩⟩⟩⟩⟩
theorem px_ty10_ok : ∀ k, k < 34 → parseFieldDescriptor (px_T10 k).2.2.1 = some (px_Y10 k) := by decide +kernel
theorem px_nm10 : ∀ a, a < 34 → ∀ b, b < 34 → a ≠ b → (px_T10 a).2.1 ≠ (px_T10 b).2.1 := by decide +kernel
def px_CF (ci : Nat) (r : vw_C) : Prop := px_cl[ci]? = some r ∧ (∀ w ∈ u_ws r.1 r.2.1 r.2.2, w ∈ px_tbl) ∧ (∃ ty0 : Nat → FieldType, (∀ k, k < r.2.2 → parseFieldDescriptor (r.2.1 k).2.2.1 = some (ty0 k)) ∧ (∀ k, k < r.2.2 → ty0 k = px_ft ci k) ∧ ∀ k, k < r.2.2 → defaultValue (ty0 k) = vp_V (px_def ci) k) ∧ (∀ a, a < r.2.2 → ∀ b, b < r.2.2 → a ≠ b → (r.2.1 a).2.1 ≠ (r.2.1 b).2.1) ∧ px_nf ci = r.2.2
theorem px_CF0 : px_CF 0 (px_R0, px_T0, 6) := ⟨rfl, px_in0, ⟨px_Y0, px_ty0_ok, fun _ _ => rfl, by decide +kernel⟩, px_nm0, rfl⟩
theorem px_CF1 : px_CF 1 (px_R1, px_T1, 7) := ⟨rfl, px_in1, ⟨px_Y1, px_ty1_ok, fun _ _ => rfl, by decide +kernel⟩, px_nm1, rfl⟩
theorem px_CF2 : px_CF 2 (px_R2, px_T2, 2) := ⟨rfl, px_in2, ⟨px_Y2, px_ty2_ok, fun _ _ => rfl, by decide +kernel⟩, px_nm2, rfl⟩
theorem px_CF3 : px_CF 3 (px_R3, px_T3, 3) := ⟨rfl, px_in3, ⟨px_Y3, px_ty3_ok, fun _ _ => rfl, by decide +kernel⟩, px_nm3, rfl⟩
theorem px_CF4 : px_CF 4 (px_R4, px_T4, 8) := ⟨rfl, px_in4, ⟨px_Y4, px_ty4_ok, fun _ _ => rfl, by decide +kernel⟩, px_nm4, rfl⟩
theorem px_CF5 : px_CF 5 (px_R5, px_T5, 8) := ⟨rfl, px_in5, ⟨px_Y5, px_ty5_ok, fun _ _ => rfl, by decide +kernel⟩, px_nm5, rfl⟩
theorem px_CF6 : px_CF 6 (px_R6, px_T6, 1) := ⟨rfl, px_in6, ⟨px_Y6, px_ty6_ok, fun _ _ => rfl, by decide +kernel⟩, px_nm6, rfl⟩
theorem px_CF7 : px_CF 7 (px_R7, px_T7, 2) := ⟨rfl, px_in7, ⟨px_Y7, px_ty7_ok, fun _ _ => rfl, by decide +kernel⟩, px_nm7, rfl⟩
theorem px_CF8 : px_CF 8 (px_R8, px_T8, 9) := ⟨rfl, px_in8, ⟨px_Y8, px_ty8_ok, fun _ _ => rfl, by decide +kernel⟩, px_nm8, rfl⟩
theorem px_CF9 : px_CF 9 (px_R9, px_T9, 4) := ⟨rfl, px_in9, ⟨px_Y9, px_ty9_ok, fun _ _ => rfl, by decide +kernel⟩, px_nm9, rfl⟩
theorem px_CF10 : px_CF 10 (px_R10, px_T10, 34) := ⟨rfl, px_in10, ⟨px_Y10, px_ty10_ok, fun _ _ => rfl, by decide +kernel⟩, px_nm10, rfl⟩
def px_flP (cn : Nat) (q : Nat × Nat × Nat) : Prop := ∃ r : vw_C, px_CF q.2.1 r ∧ q.2.2 < r.2.2 ∧ (Cond.fieldLink (px_on cn) q.1 (r.2.1 q.2.2).1 (r.2.1 q.2.2).2.1 (r.2.1 q.2.2).2.2.1 ∈ px_tbl ∨ ∃ host, Cond.fieldLinkNest (px_on cn) q.1 (r.2.1 q.2.2).1 (r.2.1 q.2.2).2.1 (r.2.1 q.2.2).2.2.1 host ∈ px_nw)
theorem px_fl_c0 : ∀ q ∈ px_flL0, px_flP 0 q := List.forall_mem_cons.mpr ⟨⟨_, px_CF0, by decide, Or.inl px_w136⟩, List.forall_mem_cons.mpr ⟨⟨_, px_CF0, by decide, Or.inl px_w137⟩, List.forall_mem_cons.mpr ⟨⟨_, px_CF0, by decide, Or.inl px_w138⟩, List.forall_mem_cons.mpr ⟨⟨_, px_CF0, by decide, Or.inl px_w139⟩, List.forall_mem_cons.mpr ⟨⟨_, px_CF0, by decide, Or.inl px_w140⟩, List.forall_mem_cons.mpr ⟨⟨_, px_CF0, by decide, Or.inl px_w141⟩, fun _ h => absurd h List.not_mem_nil⟩⟩⟩⟩⟩⟩
theorem px_fl_c1 : ∀ q ∈ px_flL1, px_flP 1 q := List.forall_mem_cons.mpr ⟨⟨_, px_CF1, by decide, Or.inl px_w350⟩, List.forall_mem_cons.mpr ⟨⟨_, px_CF1, by decide, Or.inl px_w351⟩, List.forall_mem_cons.mpr ⟨⟨_, px_CF1, by decide, Or.inl px_w352⟩, List.forall_mem_cons.mpr ⟨⟨_, px_CF1, by decide, Or.inl px_w353⟩, List.forall_mem_cons.mpr ⟨⟨_, px_CF1, by decide, Or.inl px_w354⟩, List.forall_mem_cons.mpr ⟨⟨_, px_CF1, by decide, Or.inl px_w355⟩, List.forall_mem_cons.mpr ⟨⟨_, px_CF1, by decide, Or.inl px_w356⟩, fun _ h => absurd h List.not_mem_nil⟩⟩⟩⟩⟩⟩⟩
theorem px_fl_c2 : ∀ q ∈ px_flL2, px_flP 2 q := List.forall_mem_cons.mpr ⟨⟨_, px_CF2, by decide, Or.inl px_w472⟩, List.forall_mem_cons.mpr ⟨⟨_, px_CF2, by decide, Or.inl px_w473⟩, fun _ h => absurd h List.not_mem_nil⟩⟩
theorem px_fl_c3 : ∀ q ∈ px_flL3, px_flP 3 q := List.forall_mem_cons.mpr ⟨⟨_, px_CF3, by decide, Or.inl px_w190⟩, List.forall_mem_cons.mpr ⟨⟨_, px_CF3, by decide, Or.inl px_w191⟩, List.forall_mem_cons.mpr ⟨⟨_, px_CF3, by decide, Or.inl px_w192⟩, fun _ h => absurd h List.not_mem_nil⟩⟩⟩
theorem px_fl_c4 : ∀ q ∈ px_flL4, px_flP 4 q := List.forall_mem_cons.mpr ⟨⟨_, px_CF1, by decide, Or.inr ⟨"CheckDaemon", List.mem_append_left _ (List.mem_map.mpr ⟨_, List.mem_of_getElem? (i := 0) rfl, rfl⟩)⟩⟩, List.forall_mem_cons.mpr ⟨⟨_, px_CF4, by decide, Or.inl px_w479⟩, List.forall_mem_cons.mpr ⟨⟨_, px_CF4, by decide, Or.inl px_w480⟩, List.forall_mem_cons.mpr ⟨⟨_, px_CF4, by decide, Or.inl px_w481⟩, List.forall_mem_cons.mpr ⟨⟨_, px_CF4, by decide, Or.inl px_w482⟩, List.forall_mem_cons.mpr ⟨⟨_, px_CF4, by decide, Or.inl px_w483⟩, List.forall_mem_cons.mpr ⟨⟨_, px_CF4, by decide, Or.inl px_w484⟩, List.forall_mem_cons.mpr ⟨⟨_, px_CF4, by decide, Or.inl px_w485⟩, List.forall_mem_cons.mpr ⟨⟨_, px_CF4, by decide, Or.inl px_w486⟩, fun _ h => absurd h List.not_mem_nil⟩⟩⟩⟩⟩⟩⟩⟩⟩
theorem px_fl_c5 : ∀ q ∈ px_flL5, px_flP 5 q := List.forall_mem_cons.mpr ⟨⟨_, px_CF1, by decide, Or.inr ⟨"CheckDaemon", List.mem_append_left _ (List.mem_map.mpr ⟨_, List.mem_of_getElem? (i := 1) rfl, rfl⟩)⟩⟩, List.forall_mem_cons.mpr ⟨⟨_, px_CF5, by decide, Or.inl px_w374⟩, List.forall_mem_cons.mpr ⟨⟨_, px_CF5, by decide, Or.inl px_w375⟩, List.forall_mem_cons.mpr ⟨⟨_, px_CF5, by decide, Or.inl px_w376⟩, List.forall_mem_cons.mpr ⟨⟨_, px_CF5, by decide, Or.inl px_w377⟩, List.forall_mem_cons.mpr ⟨⟨_, px_CF5, by decide, Or.inl px_w378⟩, List.forall_mem_cons.mpr ⟨⟨_, px_CF5, by decide, Or.inl px_w379⟩, List.forall_mem_cons.mpr ⟨⟨_, px_CF5, by decide, Or.inl px_w380⟩, List.forall_mem_cons.mpr ⟨⟨_, px_CF5, by decide, Or.inl px_w381⟩, fun _ h => absurd h List.not_mem_nil⟩⟩⟩⟩⟩⟩⟩⟩⟩
theorem px_fl_c6 : ∀ q ∈ px_flL6, px_flP 6 q := List.forall_mem_cons.mpr ⟨⟨_, px_CF6, by decide, Or.inl px_w121⟩, fun _ h => absurd h List.not_mem_nil⟩
theorem px_fl_c7 : ∀ q ∈ px_flL7, px_flP 7 q := List.forall_mem_cons.mpr ⟨⟨_, px_CF7, by decide, Or.inl px_w107⟩, List.forall_mem_cons.mpr ⟨⟨_, px_CF7, by decide, Or.inl px_w108⟩, fun _ h => absurd h List.not_mem_nil⟩⟩
theorem px_fl_c8 : ∀ q ∈ px_flL8, px_flP 8 q := List.forall_mem_cons.mpr ⟨⟨_, px_CF8, by decide, Or.inl px_w155⟩, List.forall_mem_cons.mpr ⟨⟨_, px_CF8, by decide, Or.inl px_w156⟩, List.forall_mem_cons.mpr ⟨⟨_, px_CF8, by decide, Or.inl px_w157⟩, List.forall_mem_cons.mpr ⟨⟨_, px_CF8, by decide, Or.inl px_w158⟩, List.forall_mem_cons.mpr ⟨⟨_, px_CF8, by decide, Or.inl px_w159⟩, List.forall_mem_cons.mpr ⟨⟨_, px_CF8, by decide, Or.inl px_w160⟩, List.forall_mem_cons.mpr ⟨⟨_, px_CF8, by decide, Or.inl px_w161⟩, List.forall_mem_cons.mpr ⟨⟨_, px_CF8, by decide, Or.inl px_w162⟩, List.forall_mem_cons.mpr ⟨⟨_, px_CF8, by decide, Or.inl px_w163⟩, fun _ h => absurd h List.not_mem_nil⟩⟩⟩⟩⟩⟩⟩⟩⟩
theorem px_fl_c9 : ∀ q ∈ px_flL9, px_flP 9 q := List.forall_mem_cons.mpr ⟨⟨_, px_CF9, by decide, Or.inl px_w200⟩, List.forall_mem_cons.mpr ⟨⟨_, px_CF9, by decide, Or.inl px_w201⟩, List.forall_mem_cons.mpr ⟨⟨_, px_CF9, by decide, Or.inl px_w202⟩, List.forall_mem_cons.mpr ⟨⟨_, px_CF9, by decide, Or.inl px_w203⟩, fun _ h => absurd h List.not_mem_nil⟩⟩⟩⟩
theorem px_fl_c10 : ∀ q ∈ px_flL10, px_flP 10 q := List.forall_mem_cons.mpr ⟨⟨_, px_CF10, by decide, Or.inl px_w866⟩, List.forall_mem_cons.mpr ⟨⟨_, px_CF10, by decide, Or.inl px_w867⟩, List.forall_mem_cons.mpr ⟨⟨_, px_CF10, by decide, Or.inl px_w868⟩, List.forall_mem_cons.mpr ⟨⟨_, px_CF10, by decide, Or.inl px_w869⟩, List.forall_mem_cons.mpr ⟨⟨_, px_CF10, by decide, Or.inl px_w870⟩, List.forall_mem_cons.mpr ⟨⟨_, px_CF10, by decide, Or.inl px_w871⟩, List.forall_mem_cons.mpr ⟨⟨_, px_CF10, by decide, Or.inl px_w872⟩, List.forall_mem_cons.mpr ⟨⟨_, px_CF10, by decide, Or.inl px_w873⟩, List.forall_mem_cons.mpr ⟨⟨_, px_CF10, by decide, Or.inl px_w874⟩, List.forall_mem_cons.mpr ⟨⟨_, px_CF10, by decide, Or.inl px_w875⟩, List.forall_mem_cons.mpr ⟨⟨_, px_CF10, by decide, Or.inl px_w876⟩, List.forall_mem_cons.mpr ⟨⟨_, px_CF10, by decide, Or.inl px_w877⟩, List.forall_mem_cons.mpr ⟨⟨_, px_CF10, by decide, Or.inl px_w878⟩, List.forall_mem_cons.mpr ⟨⟨_, px_CF10, by decide, Or.inl px_w879⟩, List.forall_mem_cons.mpr ⟨⟨_, px_CF10, by decide, Or.inl px_w880⟩, List.forall_mem_cons.mpr ⟨⟨_, px_CF10, by decide, Or.inl px_w881⟩, List.forall_mem_cons.mpr ⟨⟨_, px_CF10, by decide, Or.inl px_w882⟩, List.forall_mem_cons.mpr ⟨⟨_, px_CF10, by decide, Or.inl px_w883⟩, List.forall_mem_cons.mpr ⟨⟨_, px_CF10, by decide, Or.inl px_w884⟩, List.forall_mem_cons.mpr ⟨⟨_, px_CF10, by decide, Or.inl px_w885⟩, List.forall_mem_cons.mpr ⟨⟨_, px_CF10, by decide, Or.inl px_w886⟩, List.forall_mem_cons.mpr ⟨⟨_, px_CF10, by decide, Or.inl px_w887⟩, List.forall_mem_cons.mpr ⟨⟨_, px_CF10, by decide, Or.inl px_w888⟩, List.forall_mem_cons.mpr ⟨⟨_, px_CF10, by decide, Or.inl px_w889⟩, List.forall_mem_cons.mpr ⟨⟨_, px_CF10, by decide, Or.inl px_w890⟩, List.forall_mem_cons.mpr ⟨⟨_, px_CF10, by decide, Or.inl px_w891⟩, List.forall_mem_cons.mpr ⟨⟨_, px_CF10, by decide, Or.inl px_w892⟩, List.forall_mem_cons.mpr ⟨⟨_, px_CF10, by decide, Or.inl px_w893⟩, List.forall_mem_cons.mpr ⟨⟨_, px_CF10, by decide, Or.inl px_w894⟩, List.forall_mem_cons.mpr ⟨⟨_, px_CF10, by decide, Or.inl px_w895⟩, List.forall_mem_cons.mpr ⟨⟨_, px_CF10, by decide, Or.inl px_w896⟩, List.forall_mem_cons.mpr ⟨⟨_, px_CF10, by decide, Or.inl px_w897⟩, List.forall_mem_cons.mpr ⟨⟨_, px_CF10, by decide, Or.inl px_w898⟩, List.forall_mem_cons.mpr ⟨⟨_, px_CF10, by decide, Or.inl px_w899⟩, fun _ h => absurd h List.not_mem_nil⟩⟩⟩⟩⟩⟩⟩⟩⟩⟩⟩⟩⟩⟩⟩⟩⟩⟩⟩⟩⟩⟩⟩⟩⟩⟩⟩⟩⟩⟩⟩⟩⟩⟩
theorem px_fl_all {cn : Nat} : ∀ q ∈ px_flT.getD cn [], px_flP cn q := by
  rcases Nat.lt_or_ge cn 14 with h | h
  · match cn, h with
    | 0, _ => exact px_fl_c0
    | 1, _ => exact px_fl_c1
    | 2, _ => exact px_fl_c2
    | 3, _ => exact px_fl_c3
    | 4, _ => exact px_fl_c4
    | 5, _ => exact px_fl_c5
    | 6, _ => exact px_fl_c6
    | 7, _ => exact px_fl_c7
    | 8, _ => exact px_fl_c8
    | 9, _ => exact px_fl_c9
    | 10, _ => exact px_fl_c10
    | 11, _ => exact fun _ h => absurd h List.not_mem_nil
    | 12, _ => exact fun _ h => absurd h List.not_mem_nil
    | 13, _ => exact fun _ h => absurd h List.not_mem_nil
  · intro q hq
    rw [List.getD_eq_getElem?_getD, List.getElem?_eq_none (by show 14 ≤ cn; exact h)] at hq
    exact absurd hq List.not_mem_nil
def px_caP (cn : Nat) (q : Nat × Nat × Nat × Nat) : Prop := Cond.code (px_y q.2.2.1) (px_b q.2.2.1) (px_ml q.2.2.1) (px_rt q.2.2.1) ∈ px_tbl ∧ Cond.initialized (px_y q.2.2.1).cls ∈ px_tbl ∧ ((px_y q.2.2.1).cls ≠ "java/lang/invoke/MethodHandle" ∧ (px_y q.2.2.1).cls ≠ "java/lang/invoke/VarHandle") ∧
  (parseMethodDescriptor (px_y q.2.2.1).desc).map (fun d => d.parameters.length) = some q.2.2.2 ∧ px_ml q.2.2.1 ≤ 80 ∧ (Cond.methodLink (px_on cn) q.1 (px_y q.2.2.1) ∈ px_tbl ∨ ∃ host, Cond.methodLinkNest (px_on cn) q.1 (px_y q.2.2.1) host ∈ px_nw) ∧
  (q.2.1 = 0 → Cond.static (px_y q.2.2.1) ∈ px_tbl) ∧ (q.2.1 = 1 → Cond.instanceMethod (px_y q.2.2.1) ∈ px_tbl ∧ Cond.selects (px_y q.2.2.1).cls (px_y q.2.2.1) (px_y q.2.2.1) ∈ px_tbl ∧ ∃ rc, px_cl[px_yc q.2.2.1]? = some rc ∧ rc.1 = (px_y q.2.2.1).cls) ∧
  (q.2.1 = 2 → (px_y q.2.2.1).name = "<init>" ∧ Cond.instanceMethod (px_y q.2.2.1) ∈ px_tbl ∧ px_rt q.2.2.1 = none)
theorem px_ca_c0 : ∀ q ∈ px_caL0, px_caP 0 q := List.forall_mem_cons.mpr ⟨⟨px_w119, px_w69, ⟨by decide, by decide⟩, by decide +kernel, by decide, Or.inr ⟨"CheckDaemon", List.mem_append_right _ (List.mem_map.mpr ⟨_, List.mem_of_getElem? (i := 2) rfl, rfl⟩)⟩, fun h => absurd h (by decide), fun h => absurd h (by decide), fun _ => ⟨rfl, px_w118, rfl⟩⟩, List.forall_mem_cons.mpr ⟨⟨px_w740, px_w70, ⟨by decide, by decide⟩, by decide +kernel, by decide, Or.inl px_w737, fun h => absurd h (by decide), fun _ => ⟨px_w739, px_w29, _, rfl, rfl⟩, fun h => absurd h (by decide)⟩, List.forall_mem_cons.mpr ⟨⟨px_w532, px_w69, ⟨by decide, by decide⟩, by decide +kernel, by decide, Or.inl px_w741, fun h => absurd h (by decide), fun _ => ⟨px_w530, px_w531, _, rfl, rfl⟩, fun h => absurd h (by decide)⟩, List.forall_mem_cons.mpr ⟨⟨px_w663, px_w68, ⟨by decide, by decide⟩, by decide +kernel, by decide, Or.inl px_w742, fun h => absurd h (by decide), fun _ => ⟨px_w661, px_w662, _, rfl, rfl⟩, fun h => absurd h (by decide)⟩, List.forall_mem_cons.mpr ⟨⟨px_w746, px_w70, ⟨by decide, by decide⟩, by decide +kernel, by decide, Or.inl px_w743, fun h => absurd h (by decide), fun _ => ⟨px_w745, px_w30, _, rfl, rfl⟩, fun h => absurd h (by decide)⟩, List.forall_mem_cons.mpr ⟨⟨px_w540, px_w82, ⟨by decide, by decide⟩, by decide +kernel, by decide, Or.inl px_w747, fun h => absurd h (by decide), fun _ => ⟨px_w538, px_w539, _, rfl, rfl⟩, fun h => absurd h (by decide)⟩, List.forall_mem_cons.mpr ⟨⟨px_w751, px_w82, ⟨by decide, by decide⟩, by decide +kernel, by decide, Or.inl px_w748, fun h => absurd h (by decide), fun _ => ⟨px_w749, px_w750, _, rfl, rfl⟩, fun h => absurd h (by decide)⟩, List.forall_mem_cons.mpr ⟨⟨px_w755, px_w69, ⟨by decide, by decide⟩, by decide +kernel, by decide, Or.inl px_w752, fun h => absurd h (by decide), fun _ => ⟨px_w753, px_w754, _, rfl, rfl⟩, fun h => absurd h (by decide)⟩, List.forall_mem_cons.mpr ⟨⟨px_w759, px_w70, ⟨by decide, by decide⟩, by decide +kernel, by decide, Or.inl px_w756, fun h => absurd h (by decide), fun _ => ⟨px_w758, px_w31, _, rfl, rfl⟩, fun h => absurd h (by decide)⟩, List.forall_mem_cons.mpr ⟨⟨px_w555, px_w69, ⟨by decide, by decide⟩, by decide +kernel, by decide, Or.inl px_w760, fun h => absurd h (by decide), fun _ => ⟨px_w553, px_w554, _, rfl, rfl⟩, fun h => absurd h (by decide)⟩, List.forall_mem_cons.mpr ⟨⟨px_w764, px_w70, ⟨by decide, by decide⟩, by decide +kernel, by decide, Or.inl px_w761, fun h => absurd h (by decide), fun _ => ⟨px_w763, px_w32, _, rfl, rfl⟩, fun h => absurd h (by decide)⟩, List.forall_mem_cons.mpr ⟨⟨px_w768, px_w70, ⟨by decide, by decide⟩, by decide +kernel, by decide, Or.inl px_w765, fun h => absurd h (by decide), fun _ => ⟨px_w767, px_w33, _, rfl, rfl⟩, fun h => absurd h (by decide)⟩, fun _ h => absurd h List.not_mem_nil⟩⟩⟩⟩⟩⟩⟩⟩⟩⟩⟩⟩
theorem px_ca_c1 : ∀ q ∈ px_caL1, px_caP 1 q := List.forall_mem_cons.mpr ⟨⟨px_w119, px_w69, ⟨by decide, by decide⟩, by decide +kernel, by decide, Or.inr ⟨"CheckDaemon", List.mem_append_right _ (List.mem_map.mpr ⟨_, List.mem_of_getElem? (i := 4) rfl, rfl⟩)⟩, fun h => absurd h (by decide), fun h => absurd h (by decide), fun _ => ⟨rfl, px_w118, rfl⟩⟩, List.forall_mem_cons.mpr ⟨⟨px_w601, px_w80, ⟨by decide, by decide⟩, by decide +kernel, by decide, Or.inl px_w598, fun h => absurd h (by decide), fun _ => ⟨px_w600, px_w21, _, rfl, rfl⟩, fun h => absurd h (by decide)⟩, List.forall_mem_cons.mpr ⟨⟨px_w605, px_w68, ⟨by decide, by decide⟩, by decide +kernel, by decide, Or.inl px_w602, fun h => absurd h (by decide), fun _ => ⟨px_w603, px_w604, _, rfl, rfl⟩, fun h => absurd h (by decide)⟩, List.forall_mem_cons.mpr ⟨⟨px_w609, px_w80, ⟨by decide, by decide⟩, by decide +kernel, by decide, Or.inl px_w606, fun h => absurd h (by decide), fun _ => ⟨px_w608, px_w22, _, rfl, rfl⟩, fun h => absurd h (by decide)⟩, List.forall_mem_cons.mpr ⟨⟨px_w612, px_w81, ⟨by decide, by decide⟩, by decide +kernel, by decide, Or.inl px_w610, fun _ => px_w611, fun h => absurd h (by decide), fun h => absurd h (by decide)⟩, List.forall_mem_cons.mpr ⟨⟨px_w619, px_w81, ⟨by decide, by decide⟩, by decide +kernel, by decide, Or.inl px_w617, fun _ => px_w618, fun h => absurd h (by decide), fun h => absurd h (by decide)⟩, List.forall_mem_cons.mpr ⟨⟨px_w622, px_w81, ⟨by decide, by decide⟩, by decide +kernel, by decide, Or.inl px_w620, fun _ => px_w621, fun h => absurd h (by decide), fun h => absurd h (by decide)⟩, List.forall_mem_cons.mpr ⟨⟨px_w625, px_w81, ⟨by decide, by decide⟩, by decide +kernel, by decide, Or.inl px_w623, fun _ => px_w624, fun h => absurd h (by decide), fun h => absurd h (by decide)⟩, List.forall_mem_cons.mpr ⟨⟨px_w628, px_w81, ⟨by decide, by decide⟩, by decide +kernel, by decide, Or.inl px_w626, fun _ => px_w627, fun h => absurd h (by decide), fun h => absurd h (by decide)⟩, List.forall_mem_cons.mpr ⟨⟨px_w659, px_w80, ⟨by decide, by decide⟩, by decide +kernel, by decide, Or.inl px_w656, fun h => absurd h (by decide), fun _ => ⟨px_w658, px_w25, _, rfl, rfl⟩, fun h => absurd h (by decide)⟩, List.forall_mem_cons.mpr ⟨⟨px_w663, px_w68, ⟨by decide, by decide⟩, by decide +kernel, by decide, Or.inl px_w660, fun h => absurd h (by decide), fun _ => ⟨px_w661, px_w662, _, rfl, rfl⟩, fun h => absurd h (by decide)⟩, List.forall_mem_cons.mpr ⟨⟨px_w666, px_w81, ⟨by decide, by decide⟩, by decide +kernel, by decide, Or.inl px_w664, fun _ => px_w665, fun h => absurd h (by decide), fun h => absurd h (by decide)⟩, List.forall_mem_cons.mpr ⟨⟨px_w669, px_w81, ⟨by decide, by decide⟩, by decide +kernel, by decide, Or.inl px_w667, fun _ => px_w668, fun h => absurd h (by decide), fun h => absurd h (by decide)⟩, List.forall_mem_cons.mpr ⟨⟨px_w651, px_w83, ⟨by decide, by decide⟩, by decide +kernel, by decide, Or.inl px_w670, fun h => absurd h (by decide), fun _ => ⟨px_w649, px_w650, _, rfl, rfl⟩, fun h => absurd h (by decide)⟩, fun _ h => absurd h List.not_mem_nil⟩⟩⟩⟩⟩⟩⟩⟩⟩⟩⟩⟩⟩⟩
theorem px_ca_c2 : ∀ q ∈ px_caL2, px_caP 2 q := List.forall_mem_cons.mpr ⟨⟨px_w822, px_w83, ⟨by decide, by decide⟩, by decide +kernel, by decide, Or.inl px_w827, fun h => absurd h (by decide), fun _ => ⟨px_w820, px_w821, _, rfl, rfl⟩, fun h => absurd h (by decide)⟩, fun _ h => absurd h List.not_mem_nil⟩
theorem px_ca_c3 : ∀ q ∈ px_caL3, px_caP 3 q := List.forall_mem_cons.mpr ⟨⟨px_w520, px_w71, ⟨by decide, by decide⟩, by decide +kernel, by decide, Or.inl px_w517, fun h => absurd h (by decide), fun _ => ⟨px_w519, px_w13, _, rfl, rfl⟩, fun h => absurd h (by decide)⟩, fun _ h => absurd h List.not_mem_nil⟩
theorem px_ca_c4 : ∀ q ∈ px_caL4, px_caP 4 q := List.forall_mem_cons.mpr ⟨⟨px_w470, px_w83, ⟨by decide, by decide⟩, by decide +kernel, by decide, Or.inl px_w468, fun h => absurd h (by decide), fun h => absurd h (by decide), fun _ => ⟨rfl, px_w469, rfl⟩⟩, List.forall_mem_cons.mpr ⟨⟨px_w346, px_w80, ⟨by decide, by decide⟩, by decide +kernel, by decide, Or.inl px_w508, fun h => absurd h (by decide), fun h => absurd h (by decide), fun _ => ⟨rfl, px_w345, rfl⟩⟩, List.forall_mem_cons.mpr ⟨⟨px_w555, px_w69, ⟨by decide, by decide⟩, by decide +kernel, by decide, Or.inl px_w569, fun h => absurd h (by decide), fun _ => ⟨px_w553, px_w554, _, rfl, rfl⟩, fun h => absurd h (by decide)⟩, List.forall_mem_cons.mpr ⟨⟨px_w597, px_w80, ⟨by decide, by decide⟩, by decide +kernel, by decide, Or.inl px_w594, fun h => absurd h (by decide), fun _ => ⟨px_w595, px_w596, _, rfl, rfl⟩, fun h => absurd h (by decide)⟩, List.forall_mem_cons.mpr ⟨⟨px_w647, px_w83, ⟨by decide, by decide⟩, by decide +kernel, by decide, Or.inl px_w644, fun h => absurd h (by decide), fun _ => ⟨px_w645, px_w646, _, rfl, rfl⟩, fun h => absurd h (by decide)⟩, List.forall_mem_cons.mpr ⟨⟨px_w651, px_w83, ⟨by decide, by decide⟩, by decide +kernel, by decide, Or.inl px_w648, fun h => absurd h (by decide), fun _ => ⟨px_w649, px_w650, _, rfl, rfl⟩, fun h => absurd h (by decide)⟩, List.forall_mem_cons.mpr ⟨⟨px_w655, px_w80, ⟨by decide, by decide⟩, by decide +kernel, by decide, Or.inl px_w652, fun h => absurd h (by decide), fun _ => ⟨px_w653, px_w654, _, rfl, rfl⟩, fun h => absurd h (by decide)⟩, List.forall_mem_cons.mpr ⟨⟨px_w674, px_w82, ⟨by decide, by decide⟩, by decide +kernel, by decide, Or.inl px_w671, fun h => absurd h (by decide), fun _ => ⟨px_w673, px_w26, _, rfl, rfl⟩, fun h => absurd h (by decide)⟩, List.forall_mem_cons.mpr ⟨⟨px_w788, px_w83, ⟨by decide, by decide⟩, by decide +kernel, by decide, Or.inl px_w785, fun h => absurd h (by decide), fun _ => ⟨px_w786, px_w787, _, rfl, rfl⟩, fun h => absurd h (by decide)⟩, List.forall_mem_cons.mpr ⟨⟨px_w792, px_w69, ⟨by decide, by decide⟩, by decide +kernel, by decide, Or.inl px_w789, fun h => absurd h (by decide), fun _ => ⟨px_w790, px_w791, _, rfl, rfl⟩, fun h => absurd h (by decide)⟩, fun _ h => absurd h List.not_mem_nil⟩⟩⟩⟩⟩⟩⟩⟩⟩⟩
theorem px_ca_c5 : ∀ q ∈ px_caL5, px_caP 5 q := List.forall_mem_cons.mpr ⟨⟨px_w338, px_w79, ⟨by decide, by decide⟩, by decide +kernel, by decide, Or.inl px_w336, fun _ => px_w337, fun h => absurd h (by decide), fun h => absurd h (by decide)⟩, List.forall_mem_cons.mpr ⟨⟨px_w341, px_w79, ⟨by decide, by decide⟩, by decide +kernel, by decide, Or.inl px_w339, fun _ => px_w340, fun h => absurd h (by decide), fun h => absurd h (by decide)⟩, List.forall_mem_cons.mpr ⟨⟨px_w346, px_w80, ⟨by decide, by decide⟩, by decide +kernel, by decide, Or.inl px_w344, fun h => absurd h (by decide), fun h => absurd h (by decide), fun _ => ⟨rfl, px_w345, rfl⟩⟩, List.forall_mem_cons.mpr ⟨⟨px_w406, px_w78, ⟨by decide, by decide⟩, by decide +kernel, by decide, Or.inl px_w403, fun h => absurd h (by decide), fun _ => ⟨px_w405, px_w3, _, rfl, rfl⟩, fun h => absurd h (by decide)⟩, List.forall_mem_cons.mpr ⟨⟨px_w410, px_w78, ⟨by decide, by decide⟩, by decide +kernel, by decide, Or.inl px_w407, fun h => absurd h (by decide), fun _ => ⟨px_w409, px_w4, _, rfl, rfl⟩, fun h => absurd h (by decide)⟩, List.forall_mem_cons.mpr ⟨⟨px_w413, px_w78, ⟨by decide, by decide⟩, by decide +kernel, by decide, Or.inl px_w411, fun _ => px_w412, fun h => absurd h (by decide), fun h => absurd h (by decide)⟩, List.forall_mem_cons.mpr ⟨⟨px_w417, px_w78, ⟨by decide, by decide⟩, by decide +kernel, by decide, Or.inl px_w414, fun h => absurd h (by decide), fun _ => ⟨px_w416, px_w5, _, rfl, rfl⟩, fun h => absurd h (by decide)⟩, List.forall_mem_cons.mpr ⟨⟨px_w421, px_w78, ⟨by decide, by decide⟩, by decide +kernel, by decide, Or.inl px_w418, fun h => absurd h (by decide), fun _ => ⟨px_w420, px_w6, _, rfl, rfl⟩, fun h => absurd h (by decide)⟩, List.forall_mem_cons.mpr ⟨⟨px_w424, px_w81, ⟨by decide, by decide⟩, by decide +kernel, by decide, Or.inl px_w422, fun _ => px_w423, fun h => absurd h (by decide), fun h => absurd h (by decide)⟩, List.forall_mem_cons.mpr ⟨⟨px_w428, px_w78, ⟨by decide, by decide⟩, by decide +kernel, by decide, Or.inl px_w425, fun h => absurd h (by decide), fun _ => ⟨px_w427, px_w7, _, rfl, rfl⟩, fun h => absurd h (by decide)⟩, List.forall_mem_cons.mpr ⟨⟨px_w432, px_w78, ⟨by decide, by decide⟩, by decide +kernel, by decide, Or.inl px_w429, fun h => absurd h (by decide), fun _ => ⟨px_w431, px_w8, _, rfl, rfl⟩, fun h => absurd h (by decide)⟩, List.forall_mem_cons.mpr ⟨⟨px_w436, px_w78, ⟨by decide, by decide⟩, by decide +kernel, by decide, Or.inl px_w433, fun h => absurd h (by decide), fun _ => ⟨px_w435, px_w9, _, rfl, rfl⟩, fun h => absurd h (by decide)⟩, List.forall_mem_cons.mpr ⟨⟨px_w440, px_w78, ⟨by decide, by decide⟩, by decide +kernel, by decide, Or.inl px_w437, fun h => absurd h (by decide), fun _ => ⟨px_w439, px_w10, _, rfl, rfl⟩, fun h => absurd h (by decide)⟩, List.forall_mem_cons.mpr ⟨⟨px_w444, px_w80, ⟨by decide, by decide⟩, by decide +kernel, by decide, Or.inl px_w441, fun h => absurd h (by decide), fun _ => ⟨px_w442, px_w443, _, rfl, rfl⟩, fun h => absurd h (by decide)⟩, List.forall_mem_cons.mpr ⟨⟨px_w448, px_w78, ⟨by decide, by decide⟩, by decide +kernel, by decide, Or.inl px_w445, fun h => absurd h (by decide), fun _ => ⟨px_w447, px_w11, _, rfl, rfl⟩, fun h => absurd h (by decide)⟩, List.forall_mem_cons.mpr ⟨⟨px_w452, px_w69, ⟨by decide, by decide⟩, by decide +kernel, by decide, Or.inl px_w449, fun h => absurd h (by decide), fun _ => ⟨px_w450, px_w451, _, rfl, rfl⟩, fun h => absurd h (by decide)⟩, List.forall_mem_cons.mpr ⟨⟨px_w455, px_w78, ⟨by decide, by decide⟩, by decide +kernel, by decide, Or.inl px_w453, fun _ => px_w454, fun h => absurd h (by decide), fun h => absurd h (by decide)⟩, List.forall_mem_cons.mpr ⟨⟨px_w459, px_w78, ⟨by decide, by decide⟩, by decide +kernel, by decide, Or.inl px_w456, fun h => absurd h (by decide), fun _ => ⟨px_w458, px_w12, _, rfl, rfl⟩, fun h => absurd h (by decide)⟩, List.forall_mem_cons.mpr ⟨⟨px_w464, px_w82, ⟨by decide, by decide⟩, by decide +kernel, by decide, Or.inl px_w462, fun h => absurd h (by decide), fun h => absurd h (by decide), fun _ => ⟨rfl, px_w463, rfl⟩⟩, List.forall_mem_cons.mpr ⟨⟨px_w506, px_w82, ⟨by decide, by decide⟩, by decide +kernel, by decide, Or.inl px_w504, fun h => absurd h (by decide), fun h => absurd h (by decide), fun _ => ⟨rfl, px_w505, rfl⟩⟩, fun _ h => absurd h List.not_mem_nil⟩⟩⟩⟩⟩⟩⟩⟩⟩⟩⟩⟩⟩⟩⟩⟩⟩⟩⟩⟩
theorem px_ca_c6 : ∀ q ∈ px_caL6, px_caP 6 q := List.forall_mem_cons.mpr ⟨⟨px_w795, px_w84, ⟨by decide, by decide⟩, by decide +kernel, by decide, Or.inl px_w793, fun _ => px_w794, fun h => absurd h (by decide), fun h => absurd h (by decide)⟩, fun _ h => absurd h List.not_mem_nil⟩
theorem px_ca_c7 : ∀ q ∈ px_caL7, px_caP 7 q := List.forall_mem_cons.mpr ⟨⟨px_w547, px_w68, ⟨by decide, by decide⟩, by decide +kernel, by decide, Or.inl px_w545, fun _ => px_w546, fun h => absurd h (by decide), fun h => absurd h (by decide)⟩, fun _ h => absurd h List.not_mem_nil⟩
theorem px_ca_c8 : ∀ q ∈ px_caL8, px_caP 8 q := List.forall_mem_cons.mpr ⟨⟨px_w105, px_w68, ⟨by decide, by decide⟩, by decide +kernel, by decide, Or.inl px_w103, fun h => absurd h (by decide), fun h => absurd h (by decide), fun _ => ⟨rfl, px_w104, rfl⟩⟩, List.forall_mem_cons.mpr ⟨⟨px_w119, px_w69, ⟨by decide, by decide⟩, by decide +kernel, by decide, Or.inr ⟨"CheckDaemon", List.mem_append_right _ (List.mem_map.mpr ⟨_, List.mem_of_getElem? (i := 1) rfl, rfl⟩)⟩, fun h => absurd h (by decide), fun h => absurd h (by decide), fun _ => ⟨rfl, px_w118, rfl⟩⟩, List.forall_mem_cons.mpr ⟨⟨px_w131, px_w70, ⟨by decide, by decide⟩, by decide +kernel, by decide, Or.inl px_w129, fun h => absurd h (by decide), fun h => absurd h (by decide), fun _ => ⟨rfl, px_w130, rfl⟩⟩, List.forall_mem_cons.mpr ⟨⟨px_w528, px_w67, ⟨by decide, by decide⟩, by decide +kernel, by decide, Or.inl px_w525, fun h => absurd h (by decide), fun _ => ⟨px_w527, px_w14, _, rfl, rfl⟩, fun h => absurd h (by decide)⟩, List.forall_mem_cons.mpr ⟨⟨px_w532, px_w69, ⟨by decide, by decide⟩, by decide +kernel, by decide, Or.inl px_w529, fun h => absurd h (by decide), fun _ => ⟨px_w530, px_w531, _, rfl, rfl⟩, fun h => absurd h (by decide)⟩, List.forall_mem_cons.mpr ⟨⟨px_w536, px_w67, ⟨by decide, by decide⟩, by decide +kernel, by decide, Or.inl px_w533, fun h => absurd h (by decide), fun _ => ⟨px_w535, px_w15, _, rfl, rfl⟩, fun h => absurd h (by decide)⟩, List.forall_mem_cons.mpr ⟨⟨px_w540, px_w82, ⟨by decide, by decide⟩, by decide +kernel, by decide, Or.inl px_w537, fun h => absurd h (by decide), fun _ => ⟨px_w538, px_w539, _, rfl, rfl⟩, fun h => absurd h (by decide)⟩, List.forall_mem_cons.mpr ⟨⟨px_w544, px_w68, ⟨by decide, by decide⟩, by decide +kernel, by decide, Or.inl px_w541, fun h => absurd h (by decide), fun _ => ⟨px_w542, px_w543, _, rfl, rfl⟩, fun h => absurd h (by decide)⟩, List.forall_mem_cons.mpr ⟨⟨px_w551, px_w67, ⟨by decide, by decide⟩, by decide +kernel, by decide, Or.inl px_w548, fun h => absurd h (by decide), fun _ => ⟨px_w550, px_w16, _, rfl, rfl⟩, fun h => absurd h (by decide)⟩, List.forall_mem_cons.mpr ⟨⟨px_w555, px_w69, ⟨by decide, by decide⟩, by decide +kernel, by decide, Or.inl px_w552, fun h => absurd h (by decide), fun _ => ⟨px_w553, px_w554, _, rfl, rfl⟩, fun h => absurd h (by decide)⟩, List.forall_mem_cons.mpr ⟨⟨px_w452, px_w69, ⟨by decide, by decide⟩, by decide +kernel, by decide, Or.inl px_w556, fun h => absurd h (by decide), fun _ => ⟨px_w450, px_w451, _, rfl, rfl⟩, fun h => absurd h (by decide)⟩, List.forall_mem_cons.mpr ⟨⟨px_w560, px_w67, ⟨by decide, by decide⟩, by decide +kernel, by decide, Or.inl px_w557, fun h => absurd h (by decide), fun _ => ⟨px_w559, px_w17, _, rfl, rfl⟩, fun h => absurd h (by decide)⟩, List.forall_mem_cons.mpr ⟨⟨px_w564, px_w67, ⟨by decide, by decide⟩, by decide +kernel, by decide, Or.inl px_w561, fun h => absurd h (by decide), fun _ => ⟨px_w563, px_w18, _, rfl, rfl⟩, fun h => absurd h (by decide)⟩, List.forall_mem_cons.mpr ⟨⟨px_w568, px_w82, ⟨by decide, by decide⟩, by decide +kernel, by decide, Or.inl px_w565, fun h => absurd h (by decide), fun _ => ⟨px_w566, px_w567, _, rfl, rfl⟩, fun h => absurd h (by decide)⟩, List.forall_mem_cons.mpr ⟨⟨px_w573, px_w67, ⟨by decide, by decide⟩, by decide +kernel, by decide, Or.inl px_w570, fun h => absurd h (by decide), fun _ => ⟨px_w572, px_w19, _, rfl, rfl⟩, fun h => absurd h (by decide)⟩, List.forall_mem_cons.mpr ⟨⟨px_w577, px_w68, ⟨by decide, by decide⟩, by decide +kernel, by decide, Or.inl px_w574, fun h => absurd h (by decide), fun _ => ⟨px_w575, px_w576, _, rfl, rfl⟩, fun h => absurd h (by decide)⟩, List.forall_mem_cons.mpr ⟨⟨px_w581, px_w82, ⟨by decide, by decide⟩, by decide +kernel, by decide, Or.inl px_w578, fun h => absurd h (by decide), fun _ => ⟨px_w579, px_w580, _, rfl, rfl⟩, fun h => absurd h (by decide)⟩, List.forall_mem_cons.mpr ⟨⟨px_w585, px_w68, ⟨by decide, by decide⟩, by decide +kernel, by decide, Or.inl px_w582, fun h => absurd h (by decide), fun _ => ⟨px_w583, px_w584, _, rfl, rfl⟩, fun h => absurd h (by decide)⟩, List.forall_mem_cons.mpr ⟨⟨px_w589, px_w67, ⟨by decide, by decide⟩, by decide +kernel, by decide, Or.inl px_w586, fun h => absurd h (by decide), fun _ => ⟨px_w588, px_w20, _, rfl, rfl⟩, fun h => absurd h (by decide)⟩, List.forall_mem_cons.mpr ⟨⟨px_w593, px_w82, ⟨by decide, by decide⟩, by decide +kernel, by decide, Or.inl px_w590, fun h => absurd h (by decide), fun _ => ⟨px_w591, px_w592, _, rfl, rfl⟩, fun h => absurd h (by decide)⟩, List.forall_mem_cons.mpr ⟨⟨px_w635, px_w67, ⟨by decide, by decide⟩, by decide +kernel, by decide, Or.inl px_w632, fun h => absurd h (by decide), fun _ => ⟨px_w634, px_w23, _, rfl, rfl⟩, fun h => absurd h (by decide)⟩, List.forall_mem_cons.mpr ⟨⟨px_w639, px_w67, ⟨by decide, by decide⟩, by decide +kernel, by decide, Or.inl px_w636, fun h => absurd h (by decide), fun _ => ⟨px_w638, px_w24, _, rfl, rfl⟩, fun h => absurd h (by decide)⟩, List.forall_mem_cons.mpr ⟨⟨px_w643, px_w82, ⟨by decide, by decide⟩, by decide +kernel, by decide, Or.inl px_w640, fun h => absurd h (by decide), fun _ => ⟨px_w641, px_w642, _, rfl, rfl⟩, fun h => absurd h (by decide)⟩, List.forall_mem_cons.mpr ⟨⟨px_w663, px_w68, ⟨by decide, by decide⟩, by decide +kernel, by decide, Or.inl px_w723, fun h => absurd h (by decide), fun _ => ⟨px_w661, px_w662, _, rfl, rfl⟩, fun h => absurd h (by decide)⟩, List.forall_mem_cons.mpr ⟨⟨px_w605, px_w68, ⟨by decide, by decide⟩, by decide +kernel, by decide, Or.inl px_w724, fun h => absurd h (by decide), fun _ => ⟨px_w603, px_w604, _, rfl, rfl⟩, fun h => absurd h (by decide)⟩, List.forall_mem_cons.mpr ⟨⟨px_w728, px_w67, ⟨by decide, by decide⟩, by decide +kernel, by decide, Or.inl px_w725, fun h => absurd h (by decide), fun _ => ⟨px_w727, px_w27, _, rfl, rfl⟩, fun h => absurd h (by decide)⟩, List.forall_mem_cons.mpr ⟨⟨px_w732, px_w67, ⟨by decide, by decide⟩, by decide +kernel, by decide, Or.inl px_w729, fun h => absurd h (by decide), fun _ => ⟨px_w731, px_w28, _, rfl, rfl⟩, fun h => absurd h (by decide)⟩, List.forall_mem_cons.mpr ⟨⟨px_w736, px_w70, ⟨by decide, by decide⟩, by decide +kernel, by decide, Or.inl px_w733, fun h => absurd h (by decide), fun _ => ⟨px_w734, px_w735, _, rfl, rfl⟩, fun h => absurd h (by decide)⟩, List.forall_mem_cons.mpr ⟨⟨px_w772, px_w70, ⟨by decide, by decide⟩, by decide +kernel, by decide, Or.inl px_w769, fun h => absurd h (by decide), fun _ => ⟨px_w770, px_w771, _, rfl, rfl⟩, fun h => absurd h (by decide)⟩, List.forall_mem_cons.mpr ⟨⟨px_w814, px_w82, ⟨by decide, by decide⟩, by decide +kernel, by decide, Or.inl px_w811, fun h => absurd h (by decide), fun _ => ⟨px_w812, px_w813, _, rfl, rfl⟩, fun h => absurd h (by decide)⟩, List.forall_mem_cons.mpr ⟨⟨px_w788, px_w83, ⟨by decide, by decide⟩, by decide +kernel, by decide, Or.inl px_w815, fun h => absurd h (by decide), fun _ => ⟨px_w786, px_w787, _, rfl, rfl⟩, fun h => absurd h (by decide)⟩, List.forall_mem_cons.mpr ⟨⟨px_w818, px_w67, ⟨by decide, by decide⟩, by decide +kernel, by decide, Or.inl px_w816, fun _ => px_w817, fun h => absurd h (by decide), fun h => absurd h (by decide)⟩, List.forall_mem_cons.mpr ⟨⟨px_w822, px_w83, ⟨by decide, by decide⟩, by decide +kernel, by decide, Or.inl px_w819, fun h => absurd h (by decide), fun _ => ⟨px_w820, px_w821, _, rfl, rfl⟩, fun h => absurd h (by decide)⟩, List.forall_mem_cons.mpr ⟨⟨px_w826, px_w83, ⟨by decide, by decide⟩, by decide +kernel, by decide, Or.inl px_w823, fun h => absurd h (by decide), fun _ => ⟨px_w824, px_w825, _, rfl, rfl⟩, fun h => absurd h (by decide)⟩, List.forall_mem_cons.mpr ⟨⟨px_w842, px_w67, ⟨by decide, by decide⟩, by decide +kernel, by decide, Or.inl px_w839, fun h => absurd h (by decide), fun _ => ⟨px_w841, px_w34, _, rfl, rfl⟩, fun h => absurd h (by decide)⟩, List.forall_mem_cons.mpr ⟨⟨px_w846, px_w68, ⟨by decide, by decide⟩, by decide +kernel, by decide, Or.inl px_w843, fun h => absurd h (by decide), fun _ => ⟨px_w844, px_w845, _, rfl, rfl⟩, fun h => absurd h (by decide)⟩, List.forall_mem_cons.mpr ⟨⟨px_w850, px_w70, ⟨by decide, by decide⟩, by decide +kernel, by decide, Or.inl px_w847, fun h => absurd h (by decide), fun _ => ⟨px_w848, px_w849, _, rfl, rfl⟩, fun h => absurd h (by decide)⟩, List.forall_mem_cons.mpr ⟨⟨px_w854, px_w70, ⟨by decide, by decide⟩, by decide +kernel, by decide, Or.inl px_w851, fun h => absurd h (by decide), fun _ => ⟨px_w852, px_w853, _, rfl, rfl⟩, fun h => absurd h (by decide)⟩, List.forall_mem_cons.mpr ⟨⟨px_w858, px_w67, ⟨by decide, by decide⟩, by decide +kernel, by decide, Or.inl px_w855, fun h => absurd h (by decide), fun _ => ⟨px_w857, px_w35, _, rfl, rfl⟩, fun h => absurd h (by decide)⟩, fun _ h => absurd h List.not_mem_nil⟩⟩⟩⟩⟩⟩⟩⟩⟩⟩⟩⟩⟩⟩⟩⟩⟩⟩⟩⟩⟩⟩⟩⟩⟩⟩⟩⟩⟩⟩⟩⟩⟩⟩⟩⟩⟩⟩⟩
theorem px_ca_c9 : ∀ q ∈ px_caL9, px_caP 9 q := List.forall_mem_cons.mpr ⟨⟨px_w97, px_w67, ⟨by decide, by decide⟩, by decide +kernel, by decide, Or.inr ⟨"CheckDaemon", List.mem_append_right _ (List.mem_map.mpr ⟨_, List.mem_of_getElem? (i := 0) rfl, rfl⟩)⟩, fun h => absurd h (by decide), fun h => absurd h (by decide), fun _ => ⟨rfl, px_w96, rfl⟩⟩, List.forall_mem_cons.mpr ⟨⟨px_w187, px_w71, ⟨by decide, by decide⟩, by decide +kernel, by decide, Or.inr ⟨"CheckDaemon", List.mem_append_right _ (List.mem_map.mpr ⟨_, List.mem_of_getElem? (i := 3) rfl, rfl⟩)⟩, fun h => absurd h (by decide), fun h => absurd h (by decide), fun _ => ⟨rfl, px_w186, rfl⟩⟩, List.forall_mem_cons.mpr ⟨⟨px_w227, px_w66, ⟨by decide, by decide⟩, by decide +kernel, by decide, Or.inl px_w225, fun _ => px_w226, fun h => absurd h (by decide), fun h => absurd h (by decide)⟩, List.forall_mem_cons.mpr ⟨⟨px_w298, px_w66, ⟨by decide, by decide⟩, by decide +kernel, by decide, Or.inl px_w295, fun h => absurd h (by decide), fun _ => ⟨px_w297, px_w1, _, rfl, rfl⟩, fun h => absurd h (by decide)⟩, List.forall_mem_cons.mpr ⟨⟨px_w309, px_w66, ⟨by decide, by decide⟩, by decide +kernel, by decide, Or.inl px_w307, fun _ => px_w308, fun h => absurd h (by decide), fun h => absurd h (by decide)⟩, List.forall_mem_cons.mpr ⟨⟨px_w329, px_w66, ⟨by decide, by decide⟩, by decide +kernel, by decide, Or.inl px_w326, fun h => absurd h (by decide), fun _ => ⟨px_w328, px_w2, _, rfl, rfl⟩, fun h => absurd h (by decide)⟩, List.forall_mem_cons.mpr ⟨⟨px_w334, px_w78, ⟨by decide, by decide⟩, by decide +kernel, by decide, Or.inl px_w332, fun h => absurd h (by decide), fun h => absurd h (by decide), fun _ => ⟨rfl, px_w333, rfl⟩⟩, List.forall_mem_cons.mpr ⟨⟨px_w402, px_w78, ⟨by decide, by decide⟩, by decide +kernel, by decide, Or.inl px_w399, fun h => absurd h (by decide), fun _ => ⟨px_w400, px_w401, _, rfl, rfl⟩, fun h => absurd h (by decide)⟩, List.forall_mem_cons.mpr ⟨⟨px_w512, px_w67, ⟨by decide, by decide⟩, by decide +kernel, by decide, Or.inl px_w509, fun h => absurd h (by decide), fun _ => ⟨px_w510, px_w511, _, rfl, rfl⟩, fun h => absurd h (by decide)⟩, List.forall_mem_cons.mpr ⟨⟨px_w516, px_w71, ⟨by decide, by decide⟩, by decide +kernel, by decide, Or.inl px_w513, fun h => absurd h (by decide), fun _ => ⟨px_w514, px_w515, _, rfl, rfl⟩, fun h => absurd h (by decide)⟩, List.forall_mem_cons.mpr ⟨⟨px_w524, px_w67, ⟨by decide, by decide⟩, by decide +kernel, by decide, Or.inl px_w521, fun h => absurd h (by decide), fun _ => ⟨px_w522, px_w523, _, rfl, rfl⟩, fun h => absurd h (by decide)⟩, List.forall_mem_cons.mpr ⟨⟨px_w686, px_w71, ⟨by decide, by decide⟩, by decide +kernel, by decide, Or.inl px_w683, fun h => absurd h (by decide), fun _ => ⟨px_w684, px_w685, _, rfl, rfl⟩, fun h => absurd h (by decide)⟩, List.forall_mem_cons.mpr ⟨⟨px_w697, px_w71, ⟨by decide, by decide⟩, by decide +kernel, by decide, Or.inl px_w694, fun h => absurd h (by decide), fun _ => ⟨px_w695, px_w696, _, rfl, rfl⟩, fun h => absurd h (by decide)⟩, List.forall_mem_cons.mpr ⟨⟨px_w702, px_w71, ⟨by decide, by decide⟩, by decide +kernel, by decide, Or.inl px_w699, fun h => absurd h (by decide), fun _ => ⟨px_w700, px_w701, _, rfl, rfl⟩, fun h => absurd h (by decide)⟩, List.forall_mem_cons.mpr ⟨⟨px_w706, px_w71, ⟨by decide, by decide⟩, by decide +kernel, by decide, Or.inl px_w703, fun h => absurd h (by decide), fun _ => ⟨px_w704, px_w705, _, rfl, rfl⟩, fun h => absurd h (by decide)⟩, List.forall_mem_cons.mpr ⟨⟨px_w710, px_w71, ⟨by decide, by decide⟩, by decide +kernel, by decide, Or.inl px_w707, fun h => absurd h (by decide), fun _ => ⟨px_w708, px_w709, _, rfl, rfl⟩, fun h => absurd h (by decide)⟩, List.forall_mem_cons.mpr ⟨⟨px_w722, px_w67, ⟨by decide, by decide⟩, by decide +kernel, by decide, Or.inl px_w719, fun h => absurd h (by decide), fun _ => ⟨px_w720, px_w721, _, rfl, rfl⟩, fun h => absurd h (by decide)⟩, List.forall_mem_cons.mpr ⟨⟨px_w784, px_w82, ⟨by decide, by decide⟩, by decide +kernel, by decide, Or.inl px_w781, fun h => absurd h (by decide), fun _ => ⟨px_w782, px_w783, _, rfl, rfl⟩, fun h => absurd h (by decide)⟩, List.forall_mem_cons.mpr ⟨⟨px_w810, px_w67, ⟨by decide, by decide⟩, by decide +kernel, by decide, Or.inl px_w807, fun h => absurd h (by decide), fun _ => ⟨px_w808, px_w809, _, rfl, rfl⟩, fun h => absurd h (by decide)⟩, List.forall_mem_cons.mpr ⟨⟨px_w838, px_w67, ⟨by decide, by decide⟩, by decide +kernel, by decide, Or.inl px_w835, fun h => absurd h (by decide), fun _ => ⟨px_w836, px_w837, _, rfl, rfl⟩, fun h => absurd h (by decide)⟩, fun _ h => absurd h List.not_mem_nil⟩⟩⟩⟩⟩⟩⟩⟩⟩⟩⟩⟩⟩⟩⟩⟩⟩⟩⟩⟩
theorem px_ca_c10 : ∀ q ∈ px_caL10, px_caP 10 q := List.forall_mem_cons.mpr ⟨⟨px_w981, px_w72, ⟨by decide, by decide⟩, by decide +kernel, by decide, Or.inl px_w978, fun h => absurd h (by decide), fun _ => ⟨px_w980, px_w36, _, rfl, rfl⟩, fun h => absurd h (by decide)⟩, List.forall_mem_cons.mpr ⟨⟨px_w985, px_w72, ⟨by decide, by decide⟩, by decide +kernel, by decide, Or.inl px_w982, fun h => absurd h (by decide), fun _ => ⟨px_w984, px_w37, _, rfl, rfl⟩, fun h => absurd h (by decide)⟩, List.forall_mem_cons.mpr ⟨⟨px_w996, px_w72, ⟨by decide, by decide⟩, by decide +kernel, by decide, Or.inl px_w994, fun _ => px_w995, fun h => absurd h (by decide), fun h => absurd h (by decide)⟩, List.forall_mem_cons.mpr ⟨⟨px_w1000, px_w72, ⟨by decide, by decide⟩, by decide +kernel, by decide, Or.inl px_w997, fun h => absurd h (by decide), fun _ => ⟨px_w999, px_w38, _, rfl, rfl⟩, fun h => absurd h (by decide)⟩, List.forall_mem_cons.mpr ⟨⟨px_w1004, px_w72, ⟨by decide, by decide⟩, by decide +kernel, by decide, Or.inl px_w1001, fun h => absurd h (by decide), fun _ => ⟨px_w1003, px_w39, _, rfl, rfl⟩, fun h => absurd h (by decide)⟩, List.forall_mem_cons.mpr ⟨⟨px_w1008, px_w72, ⟨by decide, by decide⟩, by decide +kernel, by decide, Or.inl px_w1005, fun h => absurd h (by decide), fun _ => ⟨px_w1007, px_w40, _, rfl, rfl⟩, fun h => absurd h (by decide)⟩, List.forall_mem_cons.mpr ⟨⟨px_w1012, px_w72, ⟨by decide, by decide⟩, by decide +kernel, by decide, Or.inl px_w1009, fun h => absurd h (by decide), fun _ => ⟨px_w1011, px_w41, _, rfl, rfl⟩, fun h => absurd h (by decide)⟩, List.forall_mem_cons.mpr ⟨⟨px_w1016, px_w72, ⟨by decide, by decide⟩, by decide +kernel, by decide, Or.inl px_w1013, fun h => absurd h (by decide), fun _ => ⟨px_w1015, px_w42, _, rfl, rfl⟩, fun h => absurd h (by decide)⟩, List.forall_mem_cons.mpr ⟨⟨px_w1020, px_w72, ⟨by decide, by decide⟩, by decide +kernel, by decide, Or.inl px_w1017, fun h => absurd h (by decide), fun _ => ⟨px_w1019, px_w43, _, rfl, rfl⟩, fun h => absurd h (by decide)⟩, List.forall_mem_cons.mpr ⟨⟨px_w1023, px_w72, ⟨by decide, by decide⟩, by decide +kernel, by decide, Or.inl px_w1021, fun _ => px_w1022, fun h => absurd h (by decide), fun h => absurd h (by decide)⟩, List.forall_mem_cons.mpr ⟨⟨px_w1027, px_w72, ⟨by decide, by decide⟩, by decide +kernel, by decide, Or.inl px_w1024, fun h => absurd h (by decide), fun _ => ⟨px_w1026, px_w44, _, rfl, rfl⟩, fun h => absurd h (by decide)⟩, List.forall_mem_cons.mpr ⟨⟨px_w1030, px_w72, ⟨by decide, by decide⟩, by decide +kernel, by decide, Or.inl px_w1028, fun _ => px_w1029, fun h => absurd h (by decide), fun h => absurd h (by decide)⟩, List.forall_mem_cons.mpr ⟨⟨px_w1034, px_w72, ⟨by decide, by decide⟩, by decide +kernel, by decide, Or.inl px_w1031, fun h => absurd h (by decide), fun _ => ⟨px_w1033, px_w45, _, rfl, rfl⟩, fun h => absurd h (by decide)⟩, List.forall_mem_cons.mpr ⟨⟨px_w1038, px_w72, ⟨by decide, by decide⟩, by decide +kernel, by decide, Or.inl px_w1035, fun h => absurd h (by decide), fun _ => ⟨px_w1037, px_w46, _, rfl, rfl⟩, fun h => absurd h (by decide)⟩, List.forall_mem_cons.mpr ⟨⟨px_w1042, px_w72, ⟨by decide, by decide⟩, by decide +kernel, by decide, Or.inl px_w1039, fun h => absurd h (by decide), fun _ => ⟨px_w1041, px_w47, _, rfl, rfl⟩, fun h => absurd h (by decide)⟩, List.forall_mem_cons.mpr ⟨⟨px_w1046, px_w72, ⟨by decide, by decide⟩, by decide +kernel, by decide, Or.inl px_w1043, fun h => absurd h (by decide), fun _ => ⟨px_w1045, px_w48, _, rfl, rfl⟩, fun h => absurd h (by decide)⟩, List.forall_mem_cons.mpr ⟨⟨px_w1050, px_w72, ⟨by decide, by decide⟩, by decide +kernel, by decide, Or.inl px_w1047, fun h => absurd h (by decide), fun _ => ⟨px_w1049, px_w49, _, rfl, rfl⟩, fun h => absurd h (by decide)⟩, List.forall_mem_cons.mpr ⟨⟨px_w1054, px_w72, ⟨by decide, by decide⟩, by decide +kernel, by decide, Or.inl px_w1051, fun h => absurd h (by decide), fun _ => ⟨px_w1053, px_w50, _, rfl, rfl⟩, fun h => absurd h (by decide)⟩, List.forall_mem_cons.mpr ⟨⟨px_w1058, px_w72, ⟨by decide, by decide⟩, by decide +kernel, by decide, Or.inl px_w1055, fun h => absurd h (by decide), fun _ => ⟨px_w1057, px_w51, _, rfl, rfl⟩, fun h => absurd h (by decide)⟩, List.forall_mem_cons.mpr ⟨⟨px_w1062, px_w72, ⟨by decide, by decide⟩, by decide +kernel, by decide, Or.inl px_w1059, fun h => absurd h (by decide), fun _ => ⟨px_w1061, px_w52, _, rfl, rfl⟩, fun h => absurd h (by decide)⟩, List.forall_mem_cons.mpr ⟨⟨px_w1066, px_w72, ⟨by decide, by decide⟩, by decide +kernel, by decide, Or.inl px_w1063, fun h => absurd h (by decide), fun _ => ⟨px_w1065, px_w53, _, rfl, rfl⟩, fun h => absurd h (by decide)⟩, List.forall_mem_cons.mpr ⟨⟨px_w1070, px_w72, ⟨by decide, by decide⟩, by decide +kernel, by decide, Or.inl px_w1067, fun h => absurd h (by decide), fun _ => ⟨px_w1069, px_w54, _, rfl, rfl⟩, fun h => absurd h (by decide)⟩, List.forall_mem_cons.mpr ⟨⟨px_w1074, px_w72, ⟨by decide, by decide⟩, by decide +kernel, by decide, Or.inl px_w1071, fun h => absurd h (by decide), fun _ => ⟨px_w1073, px_w55, _, rfl, rfl⟩, fun h => absurd h (by decide)⟩, List.forall_mem_cons.mpr ⟨⟨px_w1077, px_w72, ⟨by decide, by decide⟩, by decide +kernel, by decide, Or.inl px_w1075, fun _ => px_w1076, fun h => absurd h (by decide), fun h => absurd h (by decide)⟩, List.forall_mem_cons.mpr ⟨⟨px_w1080, px_w72, ⟨by decide, by decide⟩, by decide +kernel, by decide, Or.inl px_w1078, fun _ => px_w1079, fun h => absurd h (by decide), fun h => absurd h (by decide)⟩, List.forall_mem_cons.mpr ⟨⟨px_w1083, px_w72, ⟨by decide, by decide⟩, by decide +kernel, by decide, Or.inl px_w1081, fun _ => px_w1082, fun h => absurd h (by decide), fun h => absurd h (by decide)⟩, List.forall_mem_cons.mpr ⟨⟨px_w1086, px_w72, ⟨by decide, by decide⟩, by decide +kernel, by decide, Or.inl px_w1084, fun _ => px_w1085, fun h => absurd h (by decide), fun h => absurd h (by decide)⟩, List.forall_mem_cons.mpr ⟨⟨px_w1089, px_w72, ⟨by decide, by decide⟩, by decide +kernel, by decide, Or.inl px_w1087, fun _ => px_w1088, fun h => absurd h (by decide), fun h => absurd h (by decide)⟩, List.forall_mem_cons.mpr ⟨⟨px_w1092, px_w72, ⟨by decide, by decide⟩, by decide +kernel, by decide, Or.inl px_w1090, fun _ => px_w1091, fun h => absurd h (by decide), fun h => absurd h (by decide)⟩, List.forall_mem_cons.mpr ⟨⟨px_w1098, px_w72, ⟨by decide, by decide⟩, by decide +kernel, by decide, Or.inl px_w1095, fun h => absurd h (by decide), fun _ => ⟨px_w1097, px_w56, _, rfl, rfl⟩, fun h => absurd h (by decide)⟩, List.forall_mem_cons.mpr ⟨⟨px_w1102, px_w72, ⟨by decide, by decide⟩, by decide +kernel, by decide, Or.inl px_w1099, fun h => absurd h (by decide), fun _ => ⟨px_w1101, px_w57, _, rfl, rfl⟩, fun h => absurd h (by decide)⟩, List.forall_mem_cons.mpr ⟨⟨px_w1106, px_w72, ⟨by decide, by decide⟩, by decide +kernel, by decide, Or.inl px_w1103, fun h => absurd h (by decide), fun _ => ⟨px_w1105, px_w58, _, rfl, rfl⟩, fun h => absurd h (by decide)⟩, List.forall_mem_cons.mpr ⟨⟨px_w1122, px_w72, ⟨by decide, by decide⟩, by decide +kernel, by decide, Or.inl px_w1119, fun h => absurd h (by decide), fun _ => ⟨px_w1121, px_w59, _, rfl, rfl⟩, fun h => absurd h (by decide)⟩, List.forall_mem_cons.mpr ⟨⟨px_w1126, px_w72, ⟨by decide, by decide⟩, by decide +kernel, by decide, Or.inl px_w1123, fun h => absurd h (by decide), fun _ => ⟨px_w1125, px_w60, _, rfl, rfl⟩, fun h => absurd h (by decide)⟩, List.forall_mem_cons.mpr ⟨⟨px_w1130, px_w72, ⟨by decide, by decide⟩, by decide +kernel, by decide, Or.inl px_w1127, fun h => absurd h (by decide), fun _ => ⟨px_w1129, px_w61, _, rfl, rfl⟩, fun h => absurd h (by decide)⟩, List.forall_mem_cons.mpr ⟨⟨px_w1134, px_w72, ⟨by decide, by decide⟩, by decide +kernel, by decide, Or.inl px_w1131, fun h => absurd h (by decide), fun _ => ⟨px_w1133, px_w62, _, rfl, rfl⟩, fun h => absurd h (by decide)⟩, List.forall_mem_cons.mpr ⟨⟨px_w1142, px_w72, ⟨by decide, by decide⟩, by decide +kernel, by decide, Or.inl px_w1139, fun h => absurd h (by decide), fun _ => ⟨px_w1141, px_w63, _, rfl, rfl⟩, fun h => absurd h (by decide)⟩, List.forall_mem_cons.mpr ⟨⟨px_w1154, px_w72, ⟨by decide, by decide⟩, by decide +kernel, by decide, Or.inl px_w1151, fun h => absurd h (by decide), fun _ => ⟨px_w1153, px_w64, _, rfl, rfl⟩, fun h => absurd h (by decide)⟩, fun _ h => absurd h List.not_mem_nil⟩⟩⟩⟩⟩⟩⟩⟩⟩⟩⟩⟩⟩⟩⟩⟩⟩⟩⟩⟩⟩⟩⟩⟩⟩⟩⟩⟩⟩⟩⟩⟩⟩⟩⟩⟩⟩⟩
theorem px_ca_c11 : ∀ q ∈ px_caL11, px_caP 11 q := List.forall_mem_cons.mpr ⟨⟨px_w615, px_w81, ⟨by decide, by decide⟩, by decide +kernel, by decide, Or.inl px_w613, fun _ => px_w614, fun h => absurd h (by decide), fun h => absurd h (by decide)⟩, List.forall_mem_cons.mpr ⟨⟨px_w631, px_w81, ⟨by decide, by decide⟩, by decide +kernel, by decide, Or.inl px_w629, fun _ => px_w630, fun h => absurd h (by decide), fun h => absurd h (by decide)⟩, fun _ h => absurd h List.not_mem_nil⟩⟩
theorem px_ca_all {cn : Nat} : ∀ q ∈ px_caT.getD cn [], px_caP cn q := by
  rcases Nat.lt_or_ge cn 14 with h | h
  · match cn, h with
    | 0, _ => exact px_ca_c0
    | 1, _ => exact px_ca_c1
    | 2, _ => exact px_ca_c2
    | 3, _ => exact px_ca_c3
    | 4, _ => exact px_ca_c4
    | 5, _ => exact px_ca_c5
    | 6, _ => exact px_ca_c6
    | 7, _ => exact px_ca_c7
    | 8, _ => exact px_ca_c8
    | 9, _ => exact px_ca_c9
    | 10, _ => exact px_ca_c10
    | 11, _ => exact px_ca_c11
    | 12, _ => exact fun _ h => absurd h List.not_mem_nil
    | 13, _ => exact fun _ h => absurd h List.not_mem_nil
  · intro q hq
    rw [List.getD_eq_getElem?_getD, List.getElem?_eq_none (by show 14 ≤ cn; exact h)] at hq
    exact absurd hq List.not_mem_nil
def px_ncP (cn : Nat) (q : Nat × Nat) : Prop := ∃ r : vw_C, px_CF q.2 r ∧ Cond.classLink (px_on cn) q.1 r.1 ∈ px_tbl ∧ Cond.instantiable r.1 r.2.2 ∈ px_tbl ∧ Cond.initialized r.1 ∈ px_tbl
theorem px_nc_c0 : ∀ q ∈ px_ncL0, px_ncP 0 q := List.forall_mem_cons.mpr ⟨⟨_, px_CF6, px_w133, px_w116, px_w69⟩, fun _ h => absurd h List.not_mem_nil⟩
theorem px_nc_c1 : ∀ q ∈ px_ncL1, px_ncP 1 q := List.forall_mem_cons.mpr ⟨⟨_, px_CF6, px_w348, px_w116, px_w69⟩, fun _ h => absurd h List.not_mem_nil⟩
theorem px_nc_c4 : ∀ q ∈ px_ncL4, px_ncP 4 q := List.forall_mem_cons.mpr ⟨⟨_, px_CF2, px_w466, px_w467, px_w83⟩, List.forall_mem_cons.mpr ⟨⟨_, px_CF1, px_w507, px_w343, px_w80⟩, fun _ h => absurd h List.not_mem_nil⟩⟩
theorem px_nc_c5 : ∀ q ∈ px_ncL5, px_ncP 5 q := List.forall_mem_cons.mpr ⟨⟨_, px_CF1, px_w342, px_w343, px_w80⟩, List.forall_mem_cons.mpr ⟨⟨_, px_CF4, px_w460, px_w461, px_w82⟩, fun _ h => absurd h List.not_mem_nil⟩⟩
theorem px_nc_c8 : ∀ q ∈ px_ncL8, px_ncP 8 q := List.forall_mem_cons.mpr ⟨⟨_, px_CF7, px_w101, px_w102, px_w68⟩, List.forall_mem_cons.mpr ⟨⟨_, px_CF6, px_w115, px_w116, px_w69⟩, List.forall_mem_cons.mpr ⟨⟨_, px_CF0, px_w127, px_w128, px_w70⟩, fun _ h => absurd h List.not_mem_nil⟩⟩⟩
theorem px_nc_c9 : ∀ q ∈ px_ncL9, px_ncP 9 q := List.forall_mem_cons.mpr ⟨⟨_, px_CF8, px_w93, px_w94, px_w67⟩, List.forall_mem_cons.mpr ⟨⟨_, px_CF3, px_w183, px_w184, px_w71⟩, List.forall_mem_cons.mpr ⟨⟨_, px_CF5, px_w330, px_w331, px_w78⟩, fun _ h => absurd h List.not_mem_nil⟩⟩⟩
theorem px_nc_all {cn : Nat} : ∀ q ∈ px_ncT.getD cn [], px_ncP cn q := by
  rcases Nat.lt_or_ge cn 14 with h | h
  · match cn, h with
    | 0, _ => exact px_nc_c0
    | 1, _ => exact px_nc_c1
    | 2, _ => exact fun _ h => absurd h List.not_mem_nil
    | 3, _ => exact fun _ h => absurd h List.not_mem_nil
    | 4, _ => exact px_nc_c4
    | 5, _ => exact px_nc_c5
    | 6, _ => exact fun _ h => absurd h List.not_mem_nil
    | 7, _ => exact fun _ h => absurd h List.not_mem_nil
    | 8, _ => exact px_nc_c8
    | 9, _ => exact px_nc_c9
    | 10, _ => exact fun _ h => absurd h List.not_mem_nil
    | 11, _ => exact fun _ h => absurd h List.not_mem_nil
    | 12, _ => exact fun _ h => absurd h List.not_mem_nil
    | 13, _ => exact fun _ h => absurd h List.not_mem_nil
  · intro q hq
    rw [List.getD_eq_getElem?_getD, List.getElem?_eq_none (by show 14 ≤ cn; exact h)] at hq
    exact absurd hq List.not_mem_nil
def px_anP (cn : Nat) (q : Nat × Nat) : Prop := ∃ C, q.2 < px_nty ∧ px_ty q.2 = .object C ∧ Cond.classLink (px_on cn) q.1 C ∈ px_tbl
theorem px_an_c0 : ∀ q ∈ px_anL0, px_anP 0 q := List.forall_mem_cons.mpr ⟨⟨_, by decide, rfl, px_w133⟩, fun _ h => absurd h List.not_mem_nil⟩
theorem px_an_c3 : ∀ q ∈ px_anL3, px_anP 3 q := List.forall_mem_cons.mpr ⟨⟨_, by decide, rfl, px_w189⟩, fun _ h => absurd h List.not_mem_nil⟩
theorem px_an_c8 : ∀ q ∈ px_anL8, px_anP 8 q := List.forall_mem_cons.mpr ⟨⟨_, by decide, rfl, px_w99⟩, fun _ h => absurd h List.not_mem_nil⟩
theorem px_an_all {cn : Nat} : ∀ q ∈ px_anT.getD cn [], px_anP cn q := by
  rcases Nat.lt_or_ge cn 14 with h | h
  · match cn, h with
    | 0, _ => exact px_an_c0
    | 1, _ => exact fun _ h => absurd h List.not_mem_nil
    | 2, _ => exact fun _ h => absurd h List.not_mem_nil
    | 3, _ => exact px_an_c3
    | 4, _ => exact fun _ h => absurd h List.not_mem_nil
    | 5, _ => exact fun _ h => absurd h List.not_mem_nil
    | 6, _ => exact fun _ h => absurd h List.not_mem_nil
    | 7, _ => exact fun _ h => absurd h List.not_mem_nil
    | 8, _ => exact px_an_c8
    | 9, _ => exact fun _ h => absurd h List.not_mem_nil
    | 10, _ => exact fun _ h => absurd h List.not_mem_nil
    | 11, _ => exact fun _ h => absurd h List.not_mem_nil
    | 12, _ => exact fun _ h => absurd h List.not_mem_nil
    | 13, _ => exact fun _ h => absurd h List.not_mem_nil
  · intro q hq
    rw [List.getD_eq_getElem?_getD, List.getElem?_eq_none (by show 14 ≤ cn; exact h)] at hq
    exact absurd hq List.not_mem_nil
def px_kcP (cn : Nat) (q : Nat × Int32) : Prop := Cond.constant (px_on cn) q.1 q.2 ∈ px_tbl
theorem px_kc_c10 : ∀ q ∈ px_kcL10, px_kcP 10 q := List.forall_mem_cons.mpr ⟨px_w865, List.forall_mem_cons.mpr ⟨px_w1093, List.forall_mem_cons.mpr ⟨px_w1094, fun _ h => absurd h List.not_mem_nil⟩⟩⟩
theorem px_kc_c11 : ∀ q ∈ px_kcL11, px_kcP 11 q := List.forall_mem_cons.mpr ⟨px_w616, fun _ h => absurd h List.not_mem_nil⟩
theorem px_kc_all {cn : Nat} : ∀ q ∈ px_kcT.getD cn [], px_kcP cn q := by
  rcases Nat.lt_or_ge cn 14 with h | h
  · match cn, h with
    | 0, _ => exact fun _ h => absurd h List.not_mem_nil
    | 1, _ => exact fun _ h => absurd h List.not_mem_nil
    | 2, _ => exact fun _ h => absurd h List.not_mem_nil
    | 3, _ => exact fun _ h => absurd h List.not_mem_nil
    | 4, _ => exact fun _ h => absurd h List.not_mem_nil
    | 5, _ => exact fun _ h => absurd h List.not_mem_nil
    | 6, _ => exact fun _ h => absurd h List.not_mem_nil
    | 7, _ => exact fun _ h => absurd h List.not_mem_nil
    | 8, _ => exact fun _ h => absurd h List.not_mem_nil
    | 9, _ => exact fun _ h => absurd h List.not_mem_nil
    | 10, _ => exact px_kc_c10
    | 11, _ => exact px_kc_c11
    | 12, _ => exact fun _ h => absurd h List.not_mem_nil
    | 13, _ => exact fun _ h => absurd h List.not_mem_nil
  · intro q hq
    rw [List.getD_eq_getElem?_getD, List.getElem?_eq_none (by show 14 ≤ cn; exact h)] at hq
    exact absurd hq List.not_mem_nil
def px_klP (cn : Nat) (q : Nat × Int64) : Prop := Cond.constantLong (px_on cn) q.1 q.2 ∈ px_tbl
theorem px_kl_c12 : ∀ q ∈ px_klL12, px_klP 12 q := List.forall_mem_cons.mpr ⟨px_w796, List.forall_mem_cons.mpr ⟨px_w797, List.forall_mem_cons.mpr ⟨px_w798, fun _ h => absurd h List.not_mem_nil⟩⟩⟩
theorem px_kl_all {cn : Nat} : ∀ q ∈ px_klT.getD cn [], px_klP cn q := by
  rcases Nat.lt_or_ge cn 14 with h | h
  · match cn, h with
    | 0, _ => exact fun _ h => absurd h List.not_mem_nil
    | 1, _ => exact fun _ h => absurd h List.not_mem_nil
    | 2, _ => exact fun _ h => absurd h List.not_mem_nil
    | 3, _ => exact fun _ h => absurd h List.not_mem_nil
    | 4, _ => exact fun _ h => absurd h List.not_mem_nil
    | 5, _ => exact fun _ h => absurd h List.not_mem_nil
    | 6, _ => exact fun _ h => absurd h List.not_mem_nil
    | 7, _ => exact fun _ h => absurd h List.not_mem_nil
    | 8, _ => exact fun _ h => absurd h List.not_mem_nil
    | 9, _ => exact fun _ h => absurd h List.not_mem_nil
    | 10, _ => exact fun _ h => absurd h List.not_mem_nil
    | 11, _ => exact fun _ h => absurd h List.not_mem_nil
    | 12, _ => exact px_kl_c12
    | 13, _ => exact fun _ h => absurd h List.not_mem_nil
  · intro q hq
    rw [List.getD_eq_getElem?_getD, List.getElem?_eq_none (by show 14 ≤ cn; exact h)] at hq
    exact absurd hq List.not_mem_nil
def px_obP (cn : Nat) (q : Nat × Bool) : Prop := Cond.methodLink (px_on cn) q.1 Lib.objectInit ∈ px_tbl
theorem px_ob_c0 : ∀ q ∈ px_obL0, px_obP 0 q := List.forall_mem_cons.mpr ⟨px_w132, fun _ h => absurd h List.not_mem_nil⟩
theorem px_ob_c1 : ∀ q ∈ px_obL1, px_obP 1 q := List.forall_mem_cons.mpr ⟨px_w347, fun _ h => absurd h List.not_mem_nil⟩
theorem px_ob_c2 : ∀ q ∈ px_obL2, px_obP 2 q := List.forall_mem_cons.mpr ⟨px_w471, fun _ h => absurd h List.not_mem_nil⟩
theorem px_ob_c3 : ∀ q ∈ px_obL3, px_obP 3 q := List.forall_mem_cons.mpr ⟨px_w188, fun _ h => absurd h List.not_mem_nil⟩
theorem px_ob_c4 : ∀ q ∈ px_obL4, px_obP 4 q := List.forall_mem_cons.mpr ⟨px_w465, fun _ h => absurd h List.not_mem_nil⟩
theorem px_ob_c5 : ∀ q ∈ px_obL5, px_obP 5 q := List.forall_mem_cons.mpr ⟨px_w335, fun _ h => absurd h List.not_mem_nil⟩
theorem px_ob_c6 : ∀ q ∈ px_obL6, px_obP 6 q := List.forall_mem_cons.mpr ⟨px_w120, fun _ h => absurd h List.not_mem_nil⟩
theorem px_ob_c7 : ∀ q ∈ px_obL7, px_obP 7 q := List.forall_mem_cons.mpr ⟨px_w106, fun _ h => absurd h List.not_mem_nil⟩
theorem px_ob_c8 : ∀ q ∈ px_obL8, px_obP 8 q := List.forall_mem_cons.mpr ⟨px_w98, fun _ h => absurd h List.not_mem_nil⟩
theorem px_ob_c9 : ∀ q ∈ px_obL9, px_obP 9 q := List.forall_mem_cons.mpr ⟨px_w90, fun _ h => absurd h List.not_mem_nil⟩
theorem px_ob_c10 : ∀ q ∈ px_obL10, px_obP 10 q := List.forall_mem_cons.mpr ⟨px_w864, fun _ h => absurd h List.not_mem_nil⟩
theorem px_ob_all {cn : Nat} : ∀ q ∈ px_obT.getD cn [], px_obP cn q := by
  rcases Nat.lt_or_ge cn 14 with h | h
  · match cn, h with
    | 0, _ => exact px_ob_c0
    | 1, _ => exact px_ob_c1
    | 2, _ => exact px_ob_c2
    | 3, _ => exact px_ob_c3
    | 4, _ => exact px_ob_c4
    | 5, _ => exact px_ob_c5
    | 6, _ => exact px_ob_c6
    | 7, _ => exact px_ob_c7
    | 8, _ => exact px_ob_c8
    | 9, _ => exact px_ob_c9
    | 10, _ => exact px_ob_c10
    | 11, _ => exact fun _ h => absurd h List.not_mem_nil
    | 12, _ => exact fun _ h => absurd h List.not_mem_nil
    | 13, _ => exact fun _ h => absurd h List.not_mem_nil
  · intro q hq
    rw [List.getD_eq_getElem?_getD, List.getElem?_eq_none (by show 14 ≤ cn; exact h)] at hq
    exact absurd hq List.not_mem_nil
theorem px_oiI : Cond.instanceMethod Lib.objectInit ∈ px_tbl := px_w91
theorem px_oiC : Cond.code Lib.objectInit ⟨#[0xb1]⟩ 1 none ∈ px_tbl := px_w92
theorem px_acI : Cond.arrayClass .int ∈ px_tbl := px_w114
theorem px_acL : Cond.arrayClass .long ∈ px_tbl := px_w126
theorem px_acZ : Cond.arrayClass .boolean ∈ px_tbl := px_w125
theorem px_acC : Cond.arrayClass .char ∈ px_tbl := px_w969
end
section
def px_chk (b : ByteArray) (a : Nat → Option Instr) (n : Nat) : Bool := (List.range n).all (fun pc => match a pc with | none => true | some i => decide (decode b pc = .ok (i, px_sz pc i)))
def px_mtP (q : px_Me) : Prop := px_on q.1 = q.2.1.cls ∧ plainFor q.2.1 = true ∧ px_chk q.2.2.1 q.2.2.2.2.2.2 q.2.2.2.2.2.1 = true
theorem px_k_Circles_init : px_chk prog_2_method_1_code px_a_Circles_init 76 = true := by decide +kernel
theorem px_k_Circles_find : px_chk prog_2_method_5_code px_a_Circles_find 19 = true := by decide +kernel
theorem px_k_Circles_listDefined : px_chk prog_2_method_6_code px_a_Circles_listDefined 65 = true := by decide +kernel
theorem px_k_Circles_gatherReads : px_chk prog_2_method_7_code px_a_Circles_gatherReads 64 = true := by decide +kernel
theorem px_k_Circles_followOn : px_chk prog_2_method_8_code px_a_Circles_followOn 78 = true := by decide +kernel
theorem px_k_Circles_group : px_chk prog_2_method_9_code px_a_Circles_group 77 = true := by decide +kernel
theorem px_k_Circles_findLeast : px_chk prog_2_method_10_code px_a_Circles_findLeast 78 = true := by decide +kernel
theorem px_k_Circles_leastOf : px_chk prog_2_method_2_code px_a_Circles_leastOf 22 = true := by decide +kernel
theorem px_k_Circles_circleCount : px_chk prog_2_method_3_code px_a_Circles_circleCount 5 = true := by decide +kernel
theorem px_k_Circles_selfCount : px_chk prog_2_method_4_code px_a_Circles_selfCount 5 = true := by decide +kernel
theorem px_k_Expression_init : px_chk prog_3_method_1_code px_a_Expression_init 66 = true := by decide +kernel
theorem px_k_Expression_add : px_chk prog_3_method_2_code px_a_Expression_add 72 = true := by decide +kernel
theorem px_k_Expression_workOut : px_chk prog_3_method_3_code px_a_Expression_workOut 48 = true := by decide +kernel
theorem px_k_Expression_valueOf : px_chk prog_3_method_5_code px_a_Expression_valueOf 140 = true := by decide +kernel
theorem px_k_Expression_valueAt : px_chk prog_3_method_4_code px_a_Expression_valueAt 24 = true := by decide +kernel
theorem px_k_Expression_findFaults : px_chk prog_3_method_6_code px_a_Expression_findFaults 52 = true := by decide +kernel
theorem px_k_Expression_faultOf : px_chk prog_3_method_7_code px_a_Expression_faultOf 115 = true := by decide +kernel
theorem px_k_Faults_init : px_chk prog_4_method_1_code px_a_Faults_init 27 = true := by decide +kernel
theorem px_k_Faults_clear : px_chk prog_4_method_2_code px_a_Faults_clear 30 = true := by decide +kernel
theorem px_k_Faults_add : px_chk prog_4_method_3_code px_a_Faults_add 40 = true := by decide +kernel
theorem px_k_Faults_size : px_chk prog_4_method_4_code px_a_Faults_size 5 = true := by decide +kernel
theorem px_k_Faults_placeOf : px_chk prog_4_method_5_code px_a_Faults_placeOf 39 = true := by decide +kernel
theorem px_k_Faults_codeOf : px_chk prog_4_method_6_code px_a_Faults_codeOf 30 = true := by decide +kernel
theorem px_k_History_init : px_chk prog_6_method_1_code px_a_History_init 27 = true := by decide +kernel
theorem px_k_History_keep : px_chk prog_6_method_3_code px_a_History_keep 44 = true := by decide +kernel
theorem px_k_History_loseOldest : px_chk prog_6_method_4_code px_a_History_loseOldest 49 = true := by decide +kernel
theorem px_k_History_forget : px_chk prog_6_method_8_code px_a_History_forget 27 = true := by decide +kernel
theorem px_k_History_size : px_chk prog_6_method_2_code px_a_History_size 5 = true := by decide +kernel
theorem px_k_History_lastPlace : px_chk prog_6_method_5_code px_a_History_lastPlace 23 = true := by decide +kernel
theorem px_k_History_lastLine : px_chk prog_6_method_6_code px_a_History_lastLine 23 = true := by decide +kernel
theorem px_k_History_removeLast : px_chk prog_6_method_7_code px_a_History_removeLast 28 = true := by decide +kernel
theorem px_k_Line_init0 : px_chk prog_7_method_1_code px_a_Line_init0 54 = true := by decide +kernel
theorem px_k_Line_init1 : px_chk prog_7_method_2_code px_a_Line_init1 59 = true := by decide +kernel
theorem px_k_Line_defined : px_chk prog_7_method_3_code px_a_Line_defined 5 = true := by decide +kernel
theorem px_k_Line_reads : px_chk prog_7_method_4_code px_a_Line_reads 12 = true := by decide +kernel
theorem px_k_Line_says : px_chk prog_7_method_7_code px_a_Line_says 20 = true := by decide +kernel
theorem px_k_Line_workOut : px_chk prog_7_method_8_code px_a_Line_workOut 13 = true := by decide +kernel
theorem px_k_Line_findFaults : px_chk prog_7_method_9_code px_a_Line_findFaults 60 = true := by decide +kernel
theorem px_k_Line_isMismatch : px_chk prog_7_method_10_code px_a_Line_isMismatch 43 = true := by decide +kernel
theorem px_k_Line_symbolsRead : px_chk prog_7_method_5_code px_a_Line_symbolsRead 8 = true := by decide +kernel
theorem px_k_Line_tellAbout : px_chk prog_7_method_11_code px_a_Line_tellAbout 99 = true := by decide +kernel
theorem px_k_Line_faults : px_chk prog_7_method_6_code px_a_Line_faults 5 = true := by decide +kernel
theorem px_k_Parser_init : px_chk prog_8_method_1_code px_a_Parser_init 64 = true := by decide +kernel
theorem px_k_Parser_read : px_chk prog_8_method_2_code px_a_Parser_read 80 = true := by decide +kernel
theorem px_k_Parser_readHead : px_chk prog_8_method_6_code px_a_Parser_readHead 75 = true := by decide +kernel
theorem px_k_Parser_next : px_chk prog_8_method_3_code px_a_Parser_next 63 = true := by decide +kernel
theorem px_k_Parser_isName : px_chk prog_8_method_5_code px_a_Parser_isName 18 = true := by decide +kernel
theorem px_k_Parser_take : px_chk prog_8_method_4_code px_a_Parser_take 22 = true := by decide +kernel
theorem px_k_Parser_readTypeWord : px_chk prog_8_method_7_code px_a_Parser_readTypeWord 105 = true := by decide +kernel
theorem px_k_Parser_readSum : px_chk prog_8_method_8_code px_a_Parser_readSum 84 = true := by decide +kernel
theorem px_k_Parser_readOr : px_chk prog_8_method_9_code px_a_Parser_readOr 84 = true := by decide +kernel
theorem px_k_Parser_readPart : px_chk prog_8_method_10_code px_a_Parser_readPart 43 = true := by decide +kernel
theorem px_k_Parser_readAtom : px_chk prog_8_method_13_code px_a_Parser_readAtom 208 = true := by decide +kernel
theorem px_k_Parser_readName : px_chk prog_8_method_14_code px_a_Parser_readName 60 = true := by decide +kernel
theorem px_k_Parser_isEnding : px_chk prog_8_method_11_code px_a_Parser_isEnding 24 = true := by decide +kernel
theorem px_k_Parser_readEnding : px_chk prog_8_method_12_code px_a_Parser_readEnding 118 = true := by decide +kernel
theorem px_k_SymbolSet_init : px_chk prog_9_method_1_code px_a_SymbolSet_init 12 = true := by decide +kernel
theorem px_k_SymbolSet_add : px_chk prog_9_method_2_code px_a_SymbolSet_add 30 = true := by decide +kernel
theorem px_k_SymbolSet_clear : px_chk prog_9_method_5_code px_a_SymbolSet_clear 21 = true := by decide +kernel
theorem px_k_SymbolSet_has : px_chk prog_9_method_3_code px_a_SymbolSet_has 38 = true := by decide +kernel
theorem px_k_SymbolSet_addAll : px_chk prog_9_method_4_code px_a_SymbolSet_addAll 29 = true := by decide +kernel
theorem px_k_SymbolSet_size : px_chk prog_9_method_6_code px_a_SymbolSet_size 29 = true := by decide +kernel
theorem px_k_Symbols_init : px_chk prog_10_method_1_code px_a_Symbols_init 46 = true := by decide +kernel
theorem px_k_Symbols_addDefiners : px_chk prog_10_method_5_code px_a_Symbols_addDefiners 18 = true := by decide +kernel
theorem px_k_Symbols_isSymbol : px_chk prog_10_method_2_code px_a_Symbols_isSymbol 17 = true := by decide +kernel
theorem px_k_Symbols_restart : px_chk prog_10_method_6_code px_a_Symbols_restart 29 = true := by decide +kernel
theorem px_k_Symbols_grow : px_chk prog_10_method_7_code px_a_Symbols_grow 34 = true := by decide +kernel
theorem px_k_Symbols_typeOf : px_chk prog_10_method_3_code px_a_Symbols_typeOf 19 = true := by decide +kernel
theorem px_k_Symbols_definersOf : px_chk prog_10_method_4_code px_a_Symbols_definersOf 18 = true := by decide +kernel
theorem px_k_Symbols_definedCount : px_chk prog_10_method_8_code px_a_Symbols_definedCount 31 = true := by decide +kernel
theorem px_k_Workspace_init : px_chk prog_11_method_1_code px_a_Workspace_init 82 = true := by decide +kernel
theorem px_k_Workspace_lineAt : px_chk prog_11_method_2_code px_a_Workspace_lineAt 21 = true := by decide +kernel
theorem px_k_Workspace_edit : px_chk prog_11_method_3_code px_a_Workspace_edit 98 = true := by decide +kernel
theorem px_k_Workspace_startLooking : px_chk prog_11_method_4_code px_a_Workspace_startLooking 34 = true := by decide +kernel
theorem px_k_Workspace_leave : px_chk prog_11_method_5_code px_a_Workspace_leave 25 = true := by decide +kernel
theorem px_k_Workspace_touch : px_chk prog_11_method_7_code px_a_Workspace_touch 55 = true := by decide +kernel
theorem px_k_Workspace_enter : px_chk prog_11_method_6_code px_a_Workspace_enter 25 = true := by decide +kernel
theorem px_k_Workspace_lookOn : px_chk prog_11_method_8_code px_a_Workspace_lookOn 96 = true := by decide +kernel
theorem px_k_Workspace_restartTypes : px_chk prog_11_method_9_code px_a_Workspace_restartTypes 113 = true := by decide +kernel
theorem px_k_Workspace_workOutWaiting : px_chk prog_11_method_10_code px_a_Workspace_workOutWaiting 81 = true := by decide +kernel
theorem px_k_Workspace_wakeReaders : px_chk prog_11_method_11_code px_a_Workspace_wakeReaders 41 = true := by decide +kernel
theorem px_k_Workspace_findFaults : px_chk prog_11_method_12_code px_a_Workspace_findFaults 43 = true := by decide +kernel
theorem px_k_Workspace_tellSymbol : px_chk prog_11_method_13_code px_a_Workspace_tellSymbol 78 = true := by decide +kernel
theorem px_k_Workspace_readersOf : px_chk prog_11_method_14_code px_a_Workspace_readersOf 43 = true := by decide +kernel
theorem px_k_Workspace_freshCircles : px_chk prog_11_method_15_code px_a_Workspace_freshCircles 32 = true := by decide +kernel
theorem px_k_Workspace_tellFault : px_chk prog_11_method_16_code px_a_Workspace_tellFault 68 = true := by decide +kernel
theorem px_k_Workspace_tellFaultAt : px_chk prog_11_method_17_code px_a_Workspace_tellFaultAt 50 = true := by decide +kernel
theorem px_k_Workspace_howMany : px_chk prog_11_method_18_code px_a_Workspace_howMany 66 = true := by decide +kernel
theorem px_k_Workspace_faultCount : px_chk prog_11_method_19_code px_a_Workspace_faultCount 39 = true := by decide +kernel
theorem px_k_Workspace_lineCount : px_chk prog_11_method_20_code px_a_Workspace_lineCount 30 = true := by decide +kernel
theorem px_k_Daemon_init : px_chk prog_1_method_1_code px_a_Daemon_init 40 = true := by decide +kernel
theorem px_k_Daemon_erase : px_chk prog_1_method_3_code px_a_Daemon_erase 12 = true := by decide +kernel
theorem px_k_Daemon_type : px_chk prog_1_method_2_code px_a_Daemon_type 82 = true := by decide +kernel
theorem px_k_Daemon_charactersIn : px_chk prog_1_method_12_code px_a_Daemon_charactersIn 30 = true := by decide +kernel
theorem px_k_Daemon_append : px_chk prog_1_method_13_code px_a_Daemon_append 58 = true := by decide +kernel
theorem px_k_Daemon_put : px_chk prog_1_method_4_code px_a_Daemon_put 89 = true := by decide +kernel
theorem px_k_Daemon_isPlace : px_chk prog_1_method_11_code px_a_Daemon_isPlace 26 = true := by decide +kernel
theorem px_k_Daemon_isBlank : px_chk prog_1_method_14_code px_a_Daemon_isBlank 40 = true := by decide +kernel
theorem px_k_Daemon_drop : px_chk prog_1_method_5_code px_a_Daemon_drop 79 = true := by decide +kernel
theorem px_k_Daemon_undo : px_chk prog_1_method_6_code px_a_Daemon_undo 53 = true := by decide +kernel
theorem px_k_Daemon_symbol : px_chk prog_1_method_7_code px_a_Daemon_symbol 54 = true := by decide +kernel
theorem px_k_Daemon_line : px_chk prog_1_method_8_code px_a_Daemon_line 58 = true := by decide +kernel
theorem px_k_Daemon_diagnostic : px_chk prog_1_method_9_code px_a_Daemon_diagnostic 37 = true := by decide +kernel
theorem px_k_Daemon_count : px_chk prog_1_method_10_code px_a_Daemon_count 43 = true := by decide +kernel
theorem px_k_Model_init : px_chk prog_13_method_1_code px_a_Model_init 251 = true := by decide +kernel
theorem px_k_Model_thrown : px_chk prog_13_method_2_code px_a_Model_thrown 5 = true := by decide +kernel
theorem px_k_Model_type : px_chk prog_13_method_6_code px_a_Model_type 79 = true := by decide +kernel
theorem px_k_Model_feed : px_chk prog_13_method_5_code px_a_Model_feed 52 = true := by decide +kernel
theorem px_k_Model_refused : px_chk prog_13_method_3_code px_a_Model_refused 15 = true := by decide +kernel
theorem px_k_Model_erase : px_chk prog_13_method_7_code px_a_Model_erase 17 = true := by decide +kernel
theorem px_k_Model_put : px_chk prog_13_method_38_code px_a_Model_put 81 = true := by decide +kernel
theorem px_k_Model_isIn : px_chk prog_13_method_4_code px_a_Model_isIn 16 = true := by decide +kernel
theorem px_k_Model_remember : px_chk prog_13_method_37_code px_a_Model_remember 166 = true := by decide +kernel
theorem px_k_Model_isBlank : px_chk prog_13_method_36_code px_a_Model_isBlank 41 = true := by decide +kernel
theorem px_k_Model_edit : px_chk prog_13_method_34_code px_a_Model_edit 315 = true := by decide +kernel
theorem px_k_Model_read : px_chk prog_13_method_20_code px_a_Model_read 163 = true := by decide +kernel
theorem px_k_Model_look : px_chk prog_13_method_9_code px_a_Model_look 51 = true := by decide +kernel
theorem px_k_Model_charAt : px_chk prog_13_method_8_code px_a_Model_charAt 32 = true := by decide +kernel
theorem px_k_Model_isSymbol : px_chk prog_13_method_12_code px_a_Model_isSymbol 18 = true := by decide +kernel
theorem px_k_Model_readWord : px_chk prog_13_method_14_code px_a_Model_readWord 160 = true := by decide +kernel
theorem px_k_Model_letterOf : px_chk prog_13_method_11_code px_a_Model_letterOf 52 = true := by decide +kernel
theorem px_k_Model_wrong : px_chk prog_13_method_10_code px_a_Model_wrong 15 = true := by decide +kernel
theorem px_k_Model_readExpression : px_chk prog_13_method_19_code px_a_Model_readExpression 273 = true := by decide +kernel
theorem px_k_Model_readAtom : px_chk prog_13_method_17_code px_a_Model_readAtom 207 = true := by decide +kernel
theorem px_k_Model_step : px_chk prog_13_method_13_code px_a_Model_step 57 = true := by decide +kernel
theorem px_k_Model_brackets : px_chk prog_13_method_16_code px_a_Model_brackets 50 = true := by decide +kernel
theorem px_k_Model_readBehind : px_chk prog_13_method_18_code px_a_Model_readBehind 138 = true := by decide +kernel
theorem px_k_Model_join : px_chk prog_13_method_15_code px_a_Model_join 92 = true := by decide +kernel
theorem px_k_Model_grow : px_chk prog_13_method_31_code px_a_Model_grow 231 = true := by decide +kernel
theorem px_k_Model_isRead : px_chk prog_13_method_21_code px_a_Model_isRead 24 = true := by decide +kernel
theorem px_k_Model_value : px_chk prog_13_method_29_code px_a_Model_value 378 = true := by decide +kernel
theorem px_k_Model_note : px_chk prog_13_method_28_code px_a_Model_note 41 = true := by decide +kernel
theorem px_k_Model_lacksSum : px_chk prog_13_method_27_code px_a_Model_lacksSum 72 = true := by decide +kernel
theorem px_k_Model_sumOf : px_chk prog_13_method_26_code px_a_Model_sumOf 73 = true := by decide +kernel
theorem px_k_Model_sum : px_chk prog_13_method_25_code px_a_Model_sum 75 = true := by decide +kernel
theorem px_k_Model_isFirst : px_chk prog_13_method_24_code px_a_Model_isFirst 13 = true := by decide +kernel
theorem px_k_Model_changed : px_chk prog_13_method_30_code px_a_Model_changed 58 = true := by decide +kernel
theorem px_k_Model_wrapped : px_chk prog_13_method_23_code px_a_Model_wrapped 23 = true := by decide +kernel
theorem px_k_Model_judgeAll : px_chk prog_13_method_33_code px_a_Model_judgeAll 34 = true := by decide +kernel
theorem px_k_Model_judge : px_chk prog_13_method_32_code px_a_Model_judge 250 = true := by decide +kernel
theorem px_k_Model_readsStale : px_chk prog_13_method_35_code px_a_Model_readsStale 72 = true := by decide +kernel
theorem px_k_Model_drop : px_chk prog_13_method_39_code px_a_Model_drop 97 = true := by decide +kernel
theorem px_k_Model_undo : px_chk prog_13_method_40_code px_a_Model_undo 46 = true := by decide +kernel
theorem px_k_Model_symbol : px_chk prog_13_method_45_code px_a_Model_symbol 159 = true := by decide +kernel
theorem px_k_Model_know : px_chk prog_13_method_41_code px_a_Model_know 205 = true := by decide +kernel
theorem px_k_Model_leastOf : px_chk prog_13_method_43_code px_a_Model_leastOf 31 = true := by decide +kernel
theorem px_k_Model_areOne : px_chk prog_13_method_42_code px_a_Model_areOne 41 = true := by decide +kernel
theorem px_k_Model_reads : px_chk prog_13_method_22_code px_a_Model_reads 72 = true := by decide +kernel
theorem px_k_Model_line : px_chk prog_13_method_47_code px_a_Model_line 188 = true := by decide +kernel
theorem px_k_Model_readCount : px_chk prog_13_method_46_code px_a_Model_readCount 36 = true := by decide +kernel
theorem px_k_Model_diagnostic : px_chk prog_13_method_48_code px_a_Model_diagnostic 91 = true := by decide +kernel
theorem px_k_Model_count : px_chk prog_13_method_49_code px_a_Model_count 193 = true := by decide +kernel
theorem px_k_Model_sizeOf : px_chk prog_13_method_44_code px_a_Model_sizeOf 36 = true := by decide +kernel
theorem px_k_Forms_letterOf : px_chk prog_5_method_2_code px_a_Forms_letterOf 64 = true := by decide +kernel
theorem px_k_Forms_listed : px_chk prog_5_method_4_code px_a_Forms_listed 28 = true := by decide +kernel
theorem px_k_Forms_inLists : px_chk prog_5_method_3_code px_a_Forms_inLists 7 = true := by decide +kernel
theorem px_k_Forms_unlisted : px_chk prog_5_method_5_code px_a_Forms_unlisted 9 = true := by decide +kernel
theorem px_k_Forms_withoutNil : px_chk prog_5_method_7_code px_a_Forms_withoutNil 5 = true := by decide +kernel
theorem px_k_Forms_narrowed : px_chk prog_5_method_8_code px_a_Forms_narrowed 19 = true := by decide +kernel
theorem px_k_Forms_sum : px_chk prog_5_method_9_code px_a_Forms_sum 90 = true := by decide +kernel
theorem px_k_Forms_makesFloat : px_chk prog_5_method_10_code px_a_Forms_makesFloat 18 = true := by decide +kernel
theorem px_k_Forms_unlistingLoses : px_chk prog_5_method_6_code px_a_Forms_unlistingLoses 16 = true := by decide +kernel
theorem px_k_Forms_summingLoses : px_chk prog_5_method_11_code px_a_Forms_summingLoses 97 = true := by decide +kernel
theorem px_k_Long_bitCount : px_chk prog_17_method_50_code px_a_Long_bitCount 61 = true := by decide +kernel
theorem px_k_Math_min : px_chk prog_18_method_69_code px_a_Math_min 11 = true := by decide +kernel
theorem px_k_Math_max : px_chk prog_18_method_65_code px_a_Math_max 11 = true := by decide +kernel
set_option maxRecDepth 100000 in
theorem px_mt_ok : ∀ q ∈ px_mt, px_mtP q := List.forall_mem_cons.mpr ⟨⟨rfl, by decide +kernel, px_k_Circles_init⟩, List.forall_mem_cons.mpr ⟨⟨rfl, by decide +kernel, px_k_Circles_find⟩, List.forall_mem_cons.mpr ⟨⟨rfl, by decide +kernel, px_k_Circles_listDefined⟩, List.forall_mem_cons.mpr ⟨⟨rfl, by decide +kernel, px_k_Circles_gatherReads⟩, List.forall_mem_cons.mpr ⟨⟨rfl, by decide +kernel, px_k_Circles_followOn⟩, List.forall_mem_cons.mpr ⟨⟨rfl, by decide +kernel, px_k_Circles_group⟩, List.forall_mem_cons.mpr ⟨⟨rfl, by decide +kernel, px_k_Circles_findLeast⟩, List.forall_mem_cons.mpr ⟨⟨rfl, by decide +kernel, px_k_Circles_leastOf⟩, List.forall_mem_cons.mpr ⟨⟨rfl, by decide +kernel, px_k_Circles_circleCount⟩, List.forall_mem_cons.mpr ⟨⟨rfl, by decide +kernel, px_k_Circles_selfCount⟩, List.forall_mem_cons.mpr ⟨⟨rfl, by decide +kernel, px_k_Expression_init⟩, List.forall_mem_cons.mpr ⟨⟨rfl, by decide +kernel, px_k_Expression_add⟩, List.forall_mem_cons.mpr ⟨⟨rfl, by decide +kernel, px_k_Expression_workOut⟩, List.forall_mem_cons.mpr ⟨⟨rfl, by decide +kernel, px_k_Expression_valueOf⟩, List.forall_mem_cons.mpr ⟨⟨rfl, by decide +kernel, px_k_Expression_valueAt⟩, List.forall_mem_cons.mpr ⟨⟨rfl, by decide +kernel, px_k_Expression_findFaults⟩, List.forall_mem_cons.mpr ⟨⟨rfl, by decide +kernel, px_k_Expression_faultOf⟩, List.forall_mem_cons.mpr ⟨⟨rfl, by decide +kernel, px_k_Faults_init⟩, List.forall_mem_cons.mpr ⟨⟨rfl, by decide +kernel, px_k_Faults_clear⟩, List.forall_mem_cons.mpr ⟨⟨rfl, by decide +kernel, px_k_Faults_add⟩, List.forall_mem_cons.mpr ⟨⟨rfl, by decide +kernel, px_k_Faults_size⟩, List.forall_mem_cons.mpr ⟨⟨rfl, by decide +kernel, px_k_Faults_placeOf⟩, List.forall_mem_cons.mpr ⟨⟨rfl, by decide +kernel, px_k_Faults_codeOf⟩, List.forall_mem_cons.mpr ⟨⟨rfl, by decide +kernel, px_k_History_init⟩, List.forall_mem_cons.mpr ⟨⟨rfl, by decide +kernel, px_k_History_keep⟩, List.forall_mem_cons.mpr ⟨⟨rfl, by decide +kernel, px_k_History_loseOldest⟩, List.forall_mem_cons.mpr ⟨⟨rfl, by decide +kernel, px_k_History_forget⟩, List.forall_mem_cons.mpr ⟨⟨rfl, by decide +kernel, px_k_History_size⟩, List.forall_mem_cons.mpr ⟨⟨rfl, by decide +kernel, px_k_History_lastPlace⟩, List.forall_mem_cons.mpr ⟨⟨rfl, by decide +kernel, px_k_History_lastLine⟩, List.forall_mem_cons.mpr ⟨⟨rfl, by decide +kernel, px_k_History_removeLast⟩, List.forall_mem_cons.mpr ⟨⟨rfl, by decide +kernel, px_k_Line_init0⟩, List.forall_mem_cons.mpr ⟨⟨rfl, by decide +kernel, px_k_Line_init1⟩, List.forall_mem_cons.mpr ⟨⟨rfl, by decide +kernel, px_k_Line_defined⟩, List.forall_mem_cons.mpr ⟨⟨rfl, by decide +kernel, px_k_Line_reads⟩, List.forall_mem_cons.mpr ⟨⟨rfl, by decide +kernel, px_k_Line_says⟩, List.forall_mem_cons.mpr ⟨⟨rfl, by decide +kernel, px_k_Line_workOut⟩, List.forall_mem_cons.mpr ⟨⟨rfl, by decide +kernel, px_k_Line_findFaults⟩, List.forall_mem_cons.mpr ⟨⟨rfl, by decide +kernel, px_k_Line_isMismatch⟩, List.forall_mem_cons.mpr ⟨⟨rfl, by decide +kernel, px_k_Line_symbolsRead⟩, List.forall_mem_cons.mpr ⟨⟨rfl, by decide +kernel, px_k_Line_tellAbout⟩, List.forall_mem_cons.mpr ⟨⟨rfl, by decide +kernel, px_k_Line_faults⟩, List.forall_mem_cons.mpr ⟨⟨rfl, by decide +kernel, px_k_Parser_init⟩, List.forall_mem_cons.mpr ⟨⟨rfl, by decide +kernel, px_k_Parser_read⟩, List.forall_mem_cons.mpr ⟨⟨rfl, by decide +kernel, px_k_Parser_readHead⟩, List.forall_mem_cons.mpr ⟨⟨rfl, by decide +kernel, px_k_Parser_next⟩, List.forall_mem_cons.mpr ⟨⟨rfl, by decide +kernel, px_k_Parser_isName⟩, List.forall_mem_cons.mpr ⟨⟨rfl, by decide +kernel, px_k_Parser_take⟩, List.forall_mem_cons.mpr ⟨⟨rfl, by decide +kernel, px_k_Parser_readTypeWord⟩, List.forall_mem_cons.mpr ⟨⟨rfl, by decide +kernel, px_k_Parser_readSum⟩, List.forall_mem_cons.mpr ⟨⟨rfl, by decide +kernel, px_k_Parser_readOr⟩, List.forall_mem_cons.mpr ⟨⟨rfl, by decide +kernel, px_k_Parser_readPart⟩, List.forall_mem_cons.mpr ⟨⟨rfl, by decide +kernel, px_k_Parser_readAtom⟩, List.forall_mem_cons.mpr ⟨⟨rfl, by decide +kernel, px_k_Parser_readName⟩, List.forall_mem_cons.mpr ⟨⟨rfl, by decide +kernel, px_k_Parser_isEnding⟩, List.forall_mem_cons.mpr ⟨⟨rfl, by decide +kernel, px_k_Parser_readEnding⟩, List.forall_mem_cons.mpr ⟨⟨rfl, by decide +kernel, px_k_SymbolSet_init⟩, List.forall_mem_cons.mpr ⟨⟨rfl, by decide +kernel, px_k_SymbolSet_add⟩, List.forall_mem_cons.mpr ⟨⟨rfl, by decide +kernel, px_k_SymbolSet_clear⟩, List.forall_mem_cons.mpr ⟨⟨rfl, by decide +kernel, px_k_SymbolSet_has⟩, List.forall_mem_cons.mpr ⟨⟨rfl, by decide +kernel, px_k_SymbolSet_addAll⟩, List.forall_mem_cons.mpr ⟨⟨rfl, by decide +kernel, px_k_SymbolSet_size⟩, List.forall_mem_cons.mpr ⟨⟨rfl, by decide +kernel, px_k_Symbols_init⟩, List.forall_mem_cons.mpr ⟨⟨rfl, by decide +kernel, px_k_Symbols_addDefiners⟩, List.forall_mem_cons.mpr ⟨⟨rfl, by decide +kernel, px_k_Symbols_isSymbol⟩, List.forall_mem_cons.mpr ⟨⟨rfl, by decide +kernel, px_k_Symbols_restart⟩, List.forall_mem_cons.mpr ⟨⟨rfl, by decide +kernel, px_k_Symbols_grow⟩, List.forall_mem_cons.mpr ⟨⟨rfl, by decide +kernel, px_k_Symbols_typeOf⟩, List.forall_mem_cons.mpr ⟨⟨rfl, by decide +kernel, px_k_Symbols_definersOf⟩, List.forall_mem_cons.mpr ⟨⟨rfl, by decide +kernel, px_k_Symbols_definedCount⟩, List.forall_mem_cons.mpr ⟨⟨rfl, by decide +kernel, px_k_Workspace_init⟩, List.forall_mem_cons.mpr ⟨⟨rfl, by decide +kernel, px_k_Workspace_lineAt⟩, List.forall_mem_cons.mpr ⟨⟨rfl, by decide +kernel, px_k_Workspace_edit⟩, List.forall_mem_cons.mpr ⟨⟨rfl, by decide +kernel, px_k_Workspace_startLooking⟩, List.forall_mem_cons.mpr ⟨⟨rfl, by decide +kernel, px_k_Workspace_leave⟩, List.forall_mem_cons.mpr ⟨⟨rfl, by decide +kernel, px_k_Workspace_touch⟩, List.forall_mem_cons.mpr ⟨⟨rfl, by decide +kernel, px_k_Workspace_enter⟩, List.forall_mem_cons.mpr ⟨⟨rfl, by decide +kernel, px_k_Workspace_lookOn⟩, List.forall_mem_cons.mpr ⟨⟨rfl, by decide +kernel, px_k_Workspace_restartTypes⟩, List.forall_mem_cons.mpr ⟨⟨rfl, by decide +kernel, px_k_Workspace_workOutWaiting⟩, List.forall_mem_cons.mpr ⟨⟨rfl, by decide +kernel, px_k_Workspace_wakeReaders⟩, List.forall_mem_cons.mpr ⟨⟨rfl, by decide +kernel, px_k_Workspace_findFaults⟩, List.forall_mem_cons.mpr ⟨⟨rfl, by decide +kernel, px_k_Workspace_tellSymbol⟩, List.forall_mem_cons.mpr ⟨⟨rfl, by decide +kernel, px_k_Workspace_readersOf⟩, List.forall_mem_cons.mpr ⟨⟨rfl, by decide +kernel, px_k_Workspace_freshCircles⟩, List.forall_mem_cons.mpr ⟨⟨rfl, by decide +kernel, px_k_Workspace_tellFault⟩, List.forall_mem_cons.mpr ⟨⟨rfl, by decide +kernel, px_k_Workspace_tellFaultAt⟩, List.forall_mem_cons.mpr ⟨⟨rfl, by decide +kernel, px_k_Workspace_howMany⟩, List.forall_mem_cons.mpr ⟨⟨rfl, by decide +kernel, px_k_Workspace_faultCount⟩, List.forall_mem_cons.mpr ⟨⟨rfl, by decide +kernel, px_k_Workspace_lineCount⟩, List.forall_mem_cons.mpr ⟨⟨rfl, by decide +kernel, px_k_Daemon_init⟩, List.forall_mem_cons.mpr ⟨⟨rfl, by decide +kernel, px_k_Daemon_erase⟩, List.forall_mem_cons.mpr ⟨⟨rfl, by decide +kernel, px_k_Daemon_type⟩, List.forall_mem_cons.mpr ⟨⟨rfl, by decide +kernel, px_k_Daemon_charactersIn⟩, List.forall_mem_cons.mpr ⟨⟨rfl, by decide +kernel, px_k_Daemon_append⟩, List.forall_mem_cons.mpr ⟨⟨rfl, by decide +kernel, px_k_Daemon_put⟩, List.forall_mem_cons.mpr ⟨⟨rfl, by decide +kernel, px_k_Daemon_isPlace⟩, List.forall_mem_cons.mpr ⟨⟨rfl, by decide +kernel, px_k_Daemon_isBlank⟩, List.forall_mem_cons.mpr ⟨⟨rfl, by decide +kernel, px_k_Daemon_drop⟩, List.forall_mem_cons.mpr ⟨⟨rfl, by decide +kernel, px_k_Daemon_undo⟩, List.forall_mem_cons.mpr ⟨⟨rfl, by decide +kernel, px_k_Daemon_symbol⟩, List.forall_mem_cons.mpr ⟨⟨rfl, by decide +kernel, px_k_Daemon_line⟩, List.forall_mem_cons.mpr ⟨⟨rfl, by decide +kernel, px_k_Daemon_diagnostic⟩, List.forall_mem_cons.mpr ⟨⟨rfl, by decide +kernel, px_k_Daemon_count⟩, List.forall_mem_cons.mpr ⟨⟨rfl, by decide +kernel, px_k_Model_init⟩, List.forall_mem_cons.mpr ⟨⟨rfl, by decide +kernel, px_k_Model_thrown⟩, List.forall_mem_cons.mpr ⟨⟨rfl, by decide +kernel, px_k_Model_type⟩, List.forall_mem_cons.mpr ⟨⟨rfl, by decide +kernel, px_k_Model_feed⟩, List.forall_mem_cons.mpr ⟨⟨rfl, by decide +kernel, px_k_Model_refused⟩, List.forall_mem_cons.mpr ⟨⟨rfl, by decide +kernel, px_k_Model_erase⟩, List.forall_mem_cons.mpr ⟨⟨rfl, by decide +kernel, px_k_Model_put⟩, List.forall_mem_cons.mpr ⟨⟨rfl, by decide +kernel, px_k_Model_isIn⟩, List.forall_mem_cons.mpr ⟨⟨rfl, by decide +kernel, px_k_Model_remember⟩, List.forall_mem_cons.mpr ⟨⟨rfl, by decide +kernel, px_k_Model_isBlank⟩, List.forall_mem_cons.mpr ⟨⟨rfl, by decide +kernel, px_k_Model_edit⟩, List.forall_mem_cons.mpr ⟨⟨rfl, by decide +kernel, px_k_Model_read⟩, List.forall_mem_cons.mpr ⟨⟨rfl, by decide +kernel, px_k_Model_look⟩, List.forall_mem_cons.mpr ⟨⟨rfl, by decide +kernel, px_k_Model_charAt⟩, List.forall_mem_cons.mpr ⟨⟨rfl, by decide +kernel, px_k_Model_isSymbol⟩, List.forall_mem_cons.mpr ⟨⟨rfl, by decide +kernel, px_k_Model_readWord⟩, List.forall_mem_cons.mpr ⟨⟨rfl, by decide +kernel, px_k_Model_letterOf⟩, List.forall_mem_cons.mpr ⟨⟨rfl, by decide +kernel, px_k_Model_wrong⟩, List.forall_mem_cons.mpr ⟨⟨rfl, by decide +kernel, px_k_Model_readExpression⟩, List.forall_mem_cons.mpr ⟨⟨rfl, by decide +kernel, px_k_Model_readAtom⟩, List.forall_mem_cons.mpr ⟨⟨rfl, by decide +kernel, px_k_Model_step⟩, List.forall_mem_cons.mpr ⟨⟨rfl, by decide +kernel, px_k_Model_brackets⟩, List.forall_mem_cons.mpr ⟨⟨rfl, by decide +kernel, px_k_Model_readBehind⟩, List.forall_mem_cons.mpr ⟨⟨rfl, by decide +kernel, px_k_Model_join⟩, List.forall_mem_cons.mpr ⟨⟨rfl, by decide +kernel, px_k_Model_grow⟩, List.forall_mem_cons.mpr ⟨⟨rfl, by decide +kernel, px_k_Model_isRead⟩, List.forall_mem_cons.mpr ⟨⟨rfl, by decide +kernel, px_k_Model_value⟩, List.forall_mem_cons.mpr ⟨⟨rfl, by decide +kernel, px_k_Model_note⟩, List.forall_mem_cons.mpr ⟨⟨rfl, by decide +kernel, px_k_Model_lacksSum⟩, List.forall_mem_cons.mpr ⟨⟨rfl, by decide +kernel, px_k_Model_sumOf⟩, List.forall_mem_cons.mpr ⟨⟨rfl, by decide +kernel, px_k_Model_sum⟩, List.forall_mem_cons.mpr ⟨⟨rfl, by decide +kernel, px_k_Model_isFirst⟩, List.forall_mem_cons.mpr ⟨⟨rfl, by decide +kernel, px_k_Model_changed⟩, List.forall_mem_cons.mpr ⟨⟨rfl, by decide +kernel, px_k_Model_wrapped⟩, List.forall_mem_cons.mpr ⟨⟨rfl, by decide +kernel, px_k_Model_judgeAll⟩, List.forall_mem_cons.mpr ⟨⟨rfl, by decide +kernel, px_k_Model_judge⟩, List.forall_mem_cons.mpr ⟨⟨rfl, by decide +kernel, px_k_Model_readsStale⟩, List.forall_mem_cons.mpr ⟨⟨rfl, by decide +kernel, px_k_Model_drop⟩, List.forall_mem_cons.mpr ⟨⟨rfl, by decide +kernel, px_k_Model_undo⟩, List.forall_mem_cons.mpr ⟨⟨rfl, by decide +kernel, px_k_Model_symbol⟩, List.forall_mem_cons.mpr ⟨⟨rfl, by decide +kernel, px_k_Model_know⟩, List.forall_mem_cons.mpr ⟨⟨rfl, by decide +kernel, px_k_Model_leastOf⟩, List.forall_mem_cons.mpr ⟨⟨rfl, by decide +kernel, px_k_Model_areOne⟩, List.forall_mem_cons.mpr ⟨⟨rfl, by decide +kernel, px_k_Model_reads⟩, List.forall_mem_cons.mpr ⟨⟨rfl, by decide +kernel, px_k_Model_line⟩, List.forall_mem_cons.mpr ⟨⟨rfl, by decide +kernel, px_k_Model_readCount⟩, List.forall_mem_cons.mpr ⟨⟨rfl, by decide +kernel, px_k_Model_diagnostic⟩, List.forall_mem_cons.mpr ⟨⟨rfl, by decide +kernel, px_k_Model_count⟩, List.forall_mem_cons.mpr ⟨⟨rfl, by decide +kernel, px_k_Model_sizeOf⟩, List.forall_mem_cons.mpr ⟨⟨rfl, by decide +kernel, px_k_Forms_letterOf⟩, List.forall_mem_cons.mpr ⟨⟨rfl, by decide +kernel, px_k_Forms_listed⟩, List.forall_mem_cons.mpr ⟨⟨rfl, by decide +kernel, px_k_Forms_inLists⟩, List.forall_mem_cons.mpr ⟨⟨rfl, by decide +kernel, px_k_Forms_unlisted⟩, List.forall_mem_cons.mpr ⟨⟨rfl, by decide +kernel, px_k_Forms_withoutNil⟩, List.forall_mem_cons.mpr ⟨⟨rfl, by decide +kernel, px_k_Forms_narrowed⟩, List.forall_mem_cons.mpr ⟨⟨rfl, by decide +kernel, px_k_Forms_sum⟩, List.forall_mem_cons.mpr ⟨⟨rfl, by decide +kernel, px_k_Forms_makesFloat⟩, List.forall_mem_cons.mpr ⟨⟨rfl, by decide +kernel, px_k_Forms_unlistingLoses⟩, List.forall_mem_cons.mpr ⟨⟨rfl, by decide +kernel, px_k_Forms_summingLoses⟩, List.forall_mem_cons.mpr ⟨⟨rfl, by decide +kernel, px_k_Long_bitCount⟩, List.forall_mem_cons.mpr ⟨⟨rfl, by decide +kernel, px_k_Math_min⟩, List.forall_mem_cons.mpr ⟨⟨rfl, by decide +kernel, px_k_Math_max⟩, fun _ h => absurd h List.not_mem_nil⟩⟩⟩⟩⟩⟩⟩⟩⟩⟩⟩⟩⟩⟩⟩⟩⟩⟩⟩⟩⟩⟩⟩⟩⟩⟩⟩⟩⟩⟩⟩⟩⟩⟩⟩⟩⟩⟩⟩⟩⟩⟩⟩⟩⟩⟩⟩⟩⟩⟩⟩⟩⟩⟩⟩⟩⟩⟩⟩⟩⟩⟩⟩⟩⟩⟩⟩⟩⟩⟩⟩⟩⟩⟩⟩⟩⟩⟩⟩⟩⟩⟩⟩⟩⟩⟩⟩⟩⟩⟩⟩⟩⟩⟩⟩⟩⟩⟩⟩⟩⟩⟩⟩⟩⟩⟩⟩⟩⟩⟩⟩⟩⟩⟩⟩⟩⟩⟩⟩⟩⟩⟩⟩⟩⟩⟩⟩⟩⟩⟩⟩⟩⟩⟩⟩⟩⟩⟩⟩⟩⟩⟩⟩⟩⟩⟩⟩⟩⟩⟩⟩⟩⟩⟩⟩⟩⟩⟩⟩⟩⟩⟩⟩⟩⟩⟩
theorem px_me_mem (mi : Nat) : px_me mi ∈ px_mt := by
  unfold px_me
  rw [List.getD_eq_getElem?_getD]
  cases h : px_mt[mi]? with
  | none => exact List.mem_of_getElem? (i := 56) rfl
  | some q => exact List.mem_of_getElem? h
theorem px_on_ok (mi : Nat) : px_on (px_cn mi) = (px_y mi).cls := (px_mt_ok _ (px_me_mem mi)).1
theorem px_pl (mi : Nat) : plainFor (px_y mi) = true := (px_mt_ok _ (px_me_mem mi)).2.1
theorem px_at_ok {mi pc : Nat} {i : Instr} (h : px_at mi pc = some i) : decode (px_b mi) pc = .ok (i, px_sz pc i) := by
  unfold px_at at h
  cases hc : Nat.blt pc (px_me mi).2.2.2.2.2.1 with
  | false => rw [hc] at h; cases h
  | true =>
    rw [hc] at h
    simp only [cond_true] at h
    have h1 := List.all_eq_true.mp (px_mt_ok _ (px_me_mem mi)).2.2 pc (List.mem_range.mpr (Nat.le_of_ble_eq_true hc))
    rw [h] at h1
    exact of_decide_eq_true h1
theorem px_isI_ok {mi : Nat} (h : px_isI mi = true) : (px_y mi).name = "<init>" := of_decide_eq_true h
theorem px_fl_ok {cn ix ci k : Nat} (h : px_fl cn ix = some (ci, k)) : px_flP cn (ix, ci, k) := px_fl_all _ (px_find_mem h)
theorem px_ca_ok0 {cn ix : Nat} {v : Nat × Nat × Nat} (h : px_ca cn ix = some v) : px_caP cn (ix, v) := px_ca_all _ (px_find_mem h)
theorem px_nc_ok {cn ix ci : Nat} (h : px_nc cn ix = some ci) : px_ncP cn (ix, ci) := px_nc_all _ (px_find_mem h)
theorem px_an_ok {cn ix t : Nat} (h : px_an cn ix = some t) : px_anP cn (ix, t) := px_an_all _ (px_find_mem h)
theorem px_kc_ok {cn ix : Nat} {v : Int32} (h : px_kc cn ix = some v) : Cond.constant (px_on cn) ix v ∈ px_tbl := px_kc_all _ (px_find_mem h)
theorem px_kl_ok {cn ix : Nat} {v : Int64} (h : px_kl cn ix = some v) : Cond.constantLong (px_on cn) ix v ∈ px_tbl := px_kl_all _ (px_find_mem h)
theorem px_oi_ok {cn ix : Nat} (h : px_oi cn ix = true) : Cond.methodLink (px_on cn) ix Lib.objectInit ∈ px_tbl := by
  unfold px_oi at h
  cases hq : px_obq cn ix with
  | none => rw [hq] at h; cases h
  | some v => exact px_ob_all _ (px_find_mem hq)
theorem px_tr_ok {t : Nat} (h : px_tr t = true) : ∃ C, t < px_nty ∧ px_ty t = .object C := by
  simp only [px_tr, Bool.and_eq_true] at h
  have h1 := Nat.le_of_ble_eq_true h.1
  have h2 : t < px_nty := Nat.le_of_ble_eq_true h.2
  have h3 : t < 6 := h2
  rcases (show t = 4 ∨ t = 5 by omega) with rfl | rfl
  · exact ⟨_, h2, rfl⟩
  · exact ⟨_, h2, rfl⟩
theorem px_tc_ok {t ci : Nat} {C : String} (h : px_tc t ci = true) (hC : px_ty t = .object C) : ∃ rc, px_cl[ci]? = some rc ∧ rc.1 = C := by
  simp only [px_tc, Bool.and_eq_true] at h
  obtain ⟨C', h2, -⟩ := px_tr_ok h.1
  have h1 := h.1
  simp only [px_tr, Bool.and_eq_true] at h1
  have h4 := Nat.le_of_ble_eq_true h1.1
  have h3 : t < 6 := h2
  have h5 := Nat.eq_of_beq_eq_true h.2
  rcases (show t = 4 ∨ t = 5 by omega) with rfl | rfl
  · cases h5; cases hC; exact ⟨_, rfl, rfl⟩
  · cases h5; cases hC; exact ⟨_, rfl, rfl⟩
theorem px_nw_t : ∀ w ∈ px_nw, w.onTables = true := by
  intro w hw
  rcases List.mem_append.mp hw with h | h
  · obtain ⟨q, -, rfl⟩ := List.mem_map.mp h; rfl
  · obtain ⟨q, -, rfl⟩ := List.mem_map.mp h; rfl
theorem px_nw_w {s U : State} : ∀ w ∈ px_nw, s.WarmedH U.vm → va_Nw w s → va_Nw w U := by
  intro w hw hW
  rcases List.mem_append.mp hw with h | h
  · obtain ⟨q, -, rfl⟩ := List.mem_map.mp h; exact va_Nw.warmF hW
  · obtain ⟨q, -, rfl⟩ := List.mem_map.mp h; exact va_Nw.warmM hW
theorem px_may_ok {mi ci k : Nat} (h : px_may mi ci k = true) : (((px_cl.getD ci (px_R0, px_T0, 0)).2.1 k).2.2.2 = false) ∨ (px_isI mi = true ∧ px_cn mi = ci) := by
  simp only [px_may, Bool.or_eq_true, Bool.not_eq_true', Bool.and_eq_true] at h
  rcases h with h | h
  · exact Or.inl h
  · exact Or.inr ⟨h.1, Nat.eq_of_beq_eq_true h.2⟩
end
section
/-! ===== THE PURE MACHINE: worlds by address, one step, runs, calls ===== -/
abbrev px_E : Type := (Nat × vp_A) ⊕ (Nat × List Value)
abbrev px_W : Type := Nat → Option px_E
abbrev px_S : Type := px_W × Nat × Nat
abbrev px_L : Type := List (Nat × Value)
abbrev px_F : Type := Nat × px_L × List Value
abbrev px_R : Type := Option (px_F × px_S)
def px_lget : px_L → Nat → Option Value
  | [], _ => none
  | q :: r, i => bif Nat.beq q.1 i then some q.2 else px_lget r i
/-- in the order of their places -/
def px_ins : px_L → Nat → Value → px_L
  | [], i, v => [(i, v)]
  | q :: r, i, v => bif Nat.blt i q.1 then (i, v) :: q :: r else q :: px_ins r i v
def px_cut1 : px_L → Nat → px_L
  | [], _ => []
  | q :: r, i => bif (!(Nat.beq q.1 i) && !(Nat.beq (q.1 + 1) i && Nat.beq q.2.category 2)) then q :: px_cut1 r i else px_cut1 r i
def px_cut2 : px_L → Nat → px_L
  | [], _ => []
  | q :: r, i => bif (!(Nat.beq q.1 i) && (!(Nat.beq q.1 (i + 1)) && !(Nat.beq (q.1 + 1) i && Nat.beq q.2.category 2))) then q :: px_cut2 r i else px_cut2 r i
def px_ls1 (ls : px_L) (i : Nat) (v : Value) : px_L := px_ins (px_cut1 ls i) i v
def px_ls2 (ls : px_L) (i : Nat) (v : Value) : px_L := px_ins (px_cut2 ls i) i v
def px_jmp (pc : Nat) (off : Int) : Option Nat := match (pc : Int) + off with
  | .ofNat t => some t
  | .negSucc _ => none
def px_in (i : Int32) (n : Nat) : Bool := decide (¬ (i < 0 ∨ n ≤ i.toNatClampNeg))
def px_c0 (c : ClassFile.Cond) (x : Int32) : Bool := match c with
  | .eq => decide (x = 0)
  | .ne => decide (¬ x = 0)
  | .lt => decide (x < 0)
  | .ge => decide (0 ≤ x)
  | .gt => decide (0 < x)
  | .le => decide (x ≤ 0)
def px_c2 (c : ClassFile.Cond) (x y : Int32) : Bool := match c with
  | .eq => decide (x = y)
  | .ne => decide (¬ x = y)
  | .lt => decide (x < y)
  | .ge => decide (y ≤ x)
  | .gt => decide (y < x)
  | .le => decide (x ≤ y)
def px_fit : FieldType → Value → Bool
  | .int, .int _ => true
  | .long, .long _ => true
  | .boolean, .int x => (x == 0 || x == 1)
  | .char, .int x => (decide (0 ≤ x) && decide (x ≤ 65535))
  | .object _, .null => true
  | .object _, .ref _ => true
  | .array _, .null => true
  | .array _, .ref _ => true
  | _, _ => false
/-! what an instruction does, by families -/
def px_k (v : Value) (n pc : Nat) (ls : px_L) (st : List Value) (S : px_S) : px_R := some ((pc + n, ls, v :: st), S)
def px_ldi (k n pc : Nat) (ls : px_L) (st : List Value) (S : px_S) : px_R := match px_lget ls k with
  | some (.int x) => some ((pc + n, ls, .int x :: st), S)
  | _ => none
def px_ldl (k n pc : Nat) (ls : px_L) (st : List Value) (S : px_S) : px_R := match px_lget ls k with
  | some (.long x) => some ((pc + n, ls, .long x :: st), S)
  | _ => none
def px_lda (k n pc : Nat) (ls : px_L) (st : List Value) (S : px_S) : px_R := match px_lget ls k with
  | some (.ref x) => some ((pc + n, ls, .ref x :: st), S)
  | some .null => some ((pc + n, ls, .null :: st), S)
  | _ => none
def px_sti (M k n pc : Nat) (ls : px_L) (st : List Value) (S : px_S) : px_R := match st with
  | .int x :: r => bif Nat.blt k M then some ((pc + n, px_ls1 ls k (.int x), r), S) else none
  | _ => none
def px_stl (M k n pc : Nat) (ls : px_L) (st : List Value) (S : px_S) : px_R := match st with
  | .long x :: r => bif Nat.blt (k + 1) M then some ((pc + n, px_ls2 ls k (.long x), r), S) else none
  | _ => none
def px_sta (M k n pc : Nat) (ls : px_L) (st : List Value) (S : px_S) : px_R := match st with
  | .ref x :: r => bif Nat.blt k M then some ((pc + n, px_ls1 ls k (.ref x), r), S) else none
  | .null :: r => bif Nat.blt k M then some ((pc + n, px_ls1 ls k .null, r), S) else none
  | _ => none
def px_inc (M k : Nat) (d : Int) (pc : Nat) (ls : px_L) (st : List Value) (S : px_S) : px_R := match px_lget ls k with
  | some (.int x) => bif Nat.blt k M then some ((pc + 3, px_ls1 ls k (.int (x + Int32.ofInt d)), st), S) else none
  | _ => none
def px_ii (g : Int32 → Int32 → Int32) (pc : Nat) (ls : px_L) (st : List Value) (S : px_S) : px_R := match st with
  | .int y :: .int x :: r => some ((pc + 1, ls, .int (g x y) :: r), S)
  | _ => none
def px_ll (g : Int64 → Int64 → Int64) (pc : Nat) (ls : px_L) (st : List Value) (S : px_S) : px_R := match st with
  | .long y :: .long x :: r => some ((pc + 1, ls, .long (g x y) :: r), S)
  | _ => none
def px_li (g : Int64 → Int32 → Int64) (pc : Nat) (ls : px_L) (st : List Value) (S : px_S) : px_R := match st with
  | .int y :: .long x :: r => some ((pc + 1, ls, .long (g x y) :: r), S)
  | _ => none
def px_lc (pc : Nat) (ls : px_L) (st : List Value) (S : px_S) : px_R := match st with
  | .long y :: .long x :: r => some ((pc + 1, ls, .int (lg_cmp x y) :: r), S)
  | _ => none
def px_dv (g : Int32 → Int32 → Int32) (pc : Nat) (ls : px_L) (st : List Value) (S : px_S) : px_R := match st with
  | .int y :: .int x :: r => bif decide (y = 0) then none else some ((pc + 1, ls, .int (g x y) :: r), S)
  | _ => none
def px_i1 (g : Int32 → Int32) (pc : Nat) (ls : px_L) (st : List Value) (S : px_S) : px_R := match st with
  | .int x :: r => some ((pc + 1, ls, .int (g x) :: r), S)
  | _ => none
def px_il (pc : Nat) (ls : px_L) (st : List Value) (S : px_S) : px_R := match st with
  | .int x :: r => some ((pc + 1, ls, .long x.toInt64 :: r), S)
  | _ => none
def px_l2 (pc : Nat) (ls : px_L) (st : List Value) (S : px_S) : px_R := match st with
  | .long x :: r => some ((pc + 1, ls, .int x.toInt32 :: r), S)
  | _ => none
/-- stack words: a value of one word -/
def px_cat1 (v : Value) : Bool := Nat.beq v.category 1
def px_dup (pc : Nat) (ls : px_L) (st : List Value) (S : px_S) : px_R := match st with
  | v :: r => bif px_cat1 v then some ((pc + 1, ls, v :: v :: r), S) else none
  | _ => none
def px_pop (pc : Nat) (ls : px_L) (st : List Value) (S : px_S) : px_R := match st with
  | v :: r => bif px_cat1 v then some ((pc + 1, ls, r), S) else none
  | _ => none
def px_dx1 (pc : Nat) (ls : px_L) (st : List Value) (S : px_S) : px_R := match st with
  | v :: u :: r => bif px_cat1 v && px_cat1 u then some ((pc + 1, ls, v :: u :: v :: r), S) else none
  | _ => none
def px_dx2 (pc : Nat) (ls : px_L) (st : List Value) (S : px_S) : px_R := match st with
  | v :: u :: t :: r => bif px_cat1 v && (px_cat1 u && px_cat1 t) then some ((pc + 1, ls, v :: u :: t :: v :: r), S) else none
  | _ => none
def px_d2 (pc : Nat) (ls : px_L) (st : List Value) (S : px_S) : px_R := match st with
  | v :: u :: r => bif px_cat1 v && px_cat1 u then some ((pc + 1, ls, v :: u :: v :: u :: r), S) else none
  | _ => none
def px_if0 (c : ClassFile.Cond) (off : Int) (pc : Nat) (ls : px_L) (st : List Value) (S : px_S) : px_R := match st, px_jmp pc off with
  | .int x :: r, some t => some ((bif px_c0 c x then t else pc + 3, ls, r), S)
  | _, _ => none
def px_if2 (c : ClassFile.Cond) (off : Int) (pc : Nat) (ls : px_L) (st : List Value) (S : px_S) : px_R := match st, px_jmp pc off with
  | .int y :: .int x :: r, some t => some ((bif px_c2 c x y then t else pc + 3, ls, r), S)
  | _, _ => none
def px_go (off : Int) (pc : Nat) (ls : px_L) (st : List Value) (S : px_S) : px_R := match px_jmp pc off with
  | some t => some ((t, ls, st), S)
  | _ => none
def px_nul (off : Int) (pc : Nat) (ls : px_L) (st : List Value) (S : px_S) : px_R := match st, px_jmp pc off with
  | .null :: r, some t => some ((t, ls, r), S)
  | .ref _ :: r, some _ => some ((pc + 3, ls, r), S)
  | _, _ => none
def px_nnl (off : Int) (pc : Nat) (ls : px_L) (st : List Value) (S : px_S) : px_R := match st, px_jmp pc off with
  | .ref _ :: r, some t => some ((t, ls, r), S)
  | .null :: r, some _ => some ((pc + 3, ls, r), S)
  | _, _ => none
def px_lsw (dflt : Int) (ps : Array (Int × Int)) (pc : Nat) (ls : px_L) (st : List Value) (S : px_S) : px_R := match st with
  | .int x :: r => (match px_jmp pc (Op.lookupswitch.offset ps.toList dflt x.toInt) with
    | some t => bif (ps.toList.zip (ps.toList.drop 1)).all (fun (a, next) => a.1 < next.1) then some ((t, ls, r), S) else none
    | none => none)
  | _ => none
def px_tsw (dflt lo hi : Int) (offs : Array Int) (pc : Nat) (ls : px_L) (st : List Value) (S : px_S) : px_R := match st with
  | .int x :: r => bif decide (x.toInt < lo ∨ hi < x.toInt) then (match px_jmp pc dflt with
      | some t => some ((t, ls, r), S)
      | none => none)
    else (match offs[(x.toInt - lo).toNat]? with
      | some off => (match px_jmp pc off with
        | some t => some ((t, ls, r), S)
        | none => none)
      | none => none)
  | _ => none
def px_kon (o : Option Int32) (n pc : Nat) (ls : px_L) (st : List Value) (S : px_S) : px_R := match o with
  | some v => some ((pc + n, ls, .int v :: st), S)
  | none => none
def px_konl (o : Option Int64) (pc : Nat) (ls : px_L) (st : List Value) (S : px_S) : px_R := match o with
  | some v => some ((pc + 3, ls, .long v :: st), S)
  | none => none
def px_get (o : Option (Nat × Nat)) (pc : Nat) (ls : px_L) (st : List Value) (S : px_S) : px_R := match st, o with
  | .ref a :: r, some (ci, k) => (match S.1 a with
    | some (.inr (cj, fs)) => bif Nat.beq cj ci then (match fs[k]? with
      | some v => some ((pc + 3, ls, v :: r), S)
      | none => none) else none
    | _ => none)
  | _, _ => none
def px_put (mi : Nat) (o : Option (Nat × Nat)) (pc : Nat) (ls : px_L) (st : List Value) (S : px_S) : px_R := match st, o with
  | v :: .ref a :: r, some (ci, k) => (match S.1 a with
    | some (.inr (cj, fs)) => bif Nat.beq cj ci && (Nat.blt k fs.length && (px_fit (px_ft ci k) v && px_may mi ci k)) then some ((pc + 3, ls, r), (va_up S.1 a (some (.inr (cj, fs.set k v))), S.2)) else none
    | _ => none)
  | _, _ => none
def px_new (o : Option Nat) (pc : Nat) (ls : px_L) (st : List Value) (S : px_S) : px_R := match o with
  | some ci => some ((pc + 3, ls, .ref S.2.1 :: st), (va_up S.1 S.2.1 (some (.inr (ci, px_def ci))), S.2.1 + 1, S.2.2 + px_nf ci))
  | none => none
def px_nwa (o : Option vp_A) (t0 : Nat) (n0 pc : Nat) (ls : px_L) (st : List Value) (S : px_S) : px_R := match st, o with
  | .int n :: r, some z => bif decide (n < 0 ∨ 67108864 < n.toNatClampNeg) then none else some ((pc + n0, ls, .ref S.2.1 :: r), (va_up S.1 S.2.1 (some (.inl (t0, n.toNatClampNeg, z.2))), S.2.1 + 1, S.2.2 + n.toNatClampNeg))
  | _, _ => none
def px_len (pc : Nat) (ls : px_L) (st : List Value) (S : px_S) : px_R := match st with
  | .ref a :: r => (match S.1 a with
    | some (.inl (t, x)) => bif Nat.blt t px_nty then some ((pc + 1, ls, .int (Int32.ofNat x.1) :: r), S) else none
    | _ => none)
  | _ => none
def px_ali (t0 : Nat) (pc : Nat) (ls : px_L) (st : List Value) (S : px_S) : px_R := match st with
  | .int i :: .ref a :: r => (match S.1 a with
    | some (.inl (t, n, .inl f)) => bif Nat.beq t t0 && px_in i n then some ((pc + 1, ls, .int (f i.toNatClampNeg) :: r), S) else none
    | _ => none)
  | _ => none
def px_all (pc : Nat) (ls : px_L) (st : List Value) (S : px_S) : px_R := match st with
  | .int i :: .ref a :: r => (match S.1 a with
    | some (.inl (t, n, .inr (.inl f))) => bif Nat.beq t 1 && px_in i n then some ((pc + 1, ls, .long (f i.toNatClampNeg) :: r), S) else none
    | _ => none)
  | _ => none
def px_ala (pc : Nat) (ls : px_L) (st : List Value) (S : px_S) : px_R := match st with
  | .int i :: .ref a :: r => (match S.1 a with
    | some (.inl (t, n, .inr (.inr (.inr (.inr f))))) => bif px_tr t && px_in i n then some ((pc + 1, ls, va_rf (f i.toNatClampNeg) :: r), S) else none
    | _ => none)
  | _ => none
def px_asi (t0 : Nat) (pc : Nat) (ls : px_L) (st : List Value) (S : px_S) : px_R := match st with
  | .int x :: .int i :: .ref a :: r => (match S.1 a with
    | some (.inl (t, n, .inl f)) => bif Nat.beq t t0 && (px_in i n && px_fit (px_ty t0) (.int x)) then some ((pc + 1, ls, r), (va_up S.1 a (some (.inl (t, n, .inl (upd f i.toNatClampNeg x)))), S.2)) else none
    | _ => none)
  | _ => none
def px_asl (pc : Nat) (ls : px_L) (st : List Value) (S : px_S) : px_R := match st with
  | .long x :: .int i :: .ref a :: r => (match S.1 a with
    | some (.inl (t, n, .inr (.inl f))) => bif Nat.beq t 1 && px_in i n then some ((pc + 1, ls, r), (va_up S.1 a (some (.inl (t, n, .inr (.inl (vp_updL f i.toNatClampNeg x))))), S.2)) else none
    | _ => none)
  | _ => none
def px_asa (pc : Nat) (ls : px_L) (st : List Value) (S : px_S) : px_R := match st with
  | .ref v :: .int i :: .ref a :: r => (match S.1 a, S.1 v with
    | some (.inl (t, n, .inr (.inr (.inr (.inr f))))), some (.inr (ci, _)) => bif px_tr t && (px_in i n && px_tc t ci) then some ((pc + 1, ls, r), (va_up S.1 a (some (.inl (t, n, .inr (.inr (.inr (.inr (va_up f i.toNatClampNeg (some v)))))))), S.2)) else none
    | _, _ => none)
  | .null :: .int i :: .ref a :: r => (match S.1 a with
    | some (.inl (t, n, .inr (.inr (.inr (.inr f))))) => bif px_tr t && px_in i n then some ((pc + 1, ls, r), (va_up S.1 a (some (.inl (t, n, .inr (.inr (.inr (.inr (va_up f i.toNatClampNeg none))))))), S.2)) else none
    | _ => none)
  | _ => none
/-- Object.<init> -/
def px_ob (b : Bool) (pc : Nat) (ls : px_L) (st : List Value) (S : px_S) : px_R := match st with
  | .ref _ :: r => bif b && Nat.ble ((r.map fun v => v.category).sum) 8 then some ((pc + 3, ls, r), S) else none
  | _ => none
def px_do (mi : Nat) (i : Instr) : Nat → px_L → List Value → px_S → px_R := match i with
  | .iconst n => px_k (.int (Int32.ofInt n)) 1
  | .bipush n => px_k (.int (Int8.ofInt n).toInt32) 2
  | .sipush n => px_k (.int (Int16.ofInt n).toInt32) 3
  | .lconst n => px_k (.long (Int64.ofNat n.val)) 1
  | .aconst_null => px_k .null 1
  | .iload k => px_ldi k 2
  | .iload_n k => px_ldi k.val 1
  | .lload k => px_ldl k 2
  | .lload_n k => px_ldl k.val 1
  | .aload k => px_lda k 2
  | .aload_n k => px_lda k.val 1
  | .istore k => px_sti (px_ml mi) k 2
  | .istore_n k => px_sti (px_ml mi) k.val 1
  | .lstore k => px_stl (px_ml mi) k 2
  | .lstore_n k => px_stl (px_ml mi) k.val 1
  | .astore k => px_sta (px_ml mi) k 2
  | .astore_n k => px_sta (px_ml mi) k.val 1
  | .iinc k d => px_inc (px_ml mi) k d
  | .iadd => px_ii (fun x y => x + y)
  | .isub => px_ii (fun x y => x - y)
  | .imul => px_ii (fun x y => x * y)
  | .iand => px_ii (fun x y => x &&& y)
  | .ior => px_ii (fun x y => x ||| y)
  | .ixor => px_ii (fun x y => x ^^^ y)
  | .ishl => px_ii (fun x y => x <<< (y &&& 31))
  | .ishr => px_ii (fun x y => x >>> (y &&& 31))
  | .iushr => px_ii (fun x y => (x.toUInt32 >>> (y.toUInt32 &&& Int32.toUInt32 31)).toInt32)
  | .idiv => px_dv (fun x y => x / y)
  | .irem => px_dv (fun x y => x - x / y * y)
  | .ineg => px_i1 (fun x => -x)
  | .i2b => px_i1 (fun x => x.toInt8.toInt32)
  | .i2s => px_i1 (fun x => x.toInt16.toInt32)
  | .i2c => px_i1 (fun x => (x.toUInt32 % 65536).toInt32)
  | .ladd => px_ll (fun x y => x + y)
  | .lsub => px_ll (fun x y => x - y)
  | .lmul => px_ll (fun x y => x * y)
  | .land => px_ll (fun x y => x &&& y)
  | .lor => px_ll (fun x y => x ||| y)
  | .lxor => px_ll (fun x y => x ^^^ y)
  | .lshl => px_li (fun x y => x <<< (y.toInt64 &&& 63))
  | .lshr => px_li (fun x y => x >>> (y.toInt64 &&& 63))
  | .lushr => px_li (fun x y => (x.toUInt64 >>> (y.toInt64.toUInt64 &&& Int64.toUInt64 63)).toInt64)
  | .lcmp => px_lc
  | .i2l => px_il
  | .l2i => px_l2
  | .dup => px_dup
  | .pop => px_pop
  | .dup_x1 => px_dx1
  | .dup_x2 => px_dx2
  | .dup2 => px_d2
  | .ifCond c off => px_if0 c off
  | .if_icmp c off => px_if2 c off
  | .goto off => px_go off
  | .ifnull off => px_nul off
  | .ifnonnull off => px_nnl off
  | .lookupswitch d ps => px_lsw d ps
  | .tableswitch d lo hi offs => px_tsw d lo hi offs
  | .ldc ix => px_kon (px_kc (px_cn mi) ix) 2
  | .ldc_w ix => px_kon (px_kc (px_cn mi) ix) 3
  | .ldc2_w ix => px_konl (px_kl (px_cn mi) ix)
  | .getfield ix => px_get (px_fl (px_cn mi) ix)
  | .putfield ix => px_put mi (px_fl (px_cn mi) ix)
  | .new ix => px_new (px_nc (px_cn mi) ix)
  | .newarray .int => px_nwa (some (0, .inl (fun _ => 0))) 0 2
  | .newarray .long => px_nwa (some (0, .inr (.inl (fun _ => 0)))) 1 2
  | .newarray .boolean => px_nwa (some (0, .inl (fun _ => 0))) 2 2
  | .newarray .char => px_nwa (some (0, .inl (fun _ => 0))) 3 2
  | .anewarray ix => px_nwa ((px_an (px_cn mi) ix).map (fun _ => (0, .inr (.inr (.inr (.inr (fun _ => none))))))) ((px_an (px_cn mi) ix).getD 0) 3
  | .arraylength => px_len
  | .iaload => px_ali 0
  | .baload => px_ali 2
  | .caload => px_ali 3
  | .laload => px_all
  | .aaload => px_ala
  | .iastore => px_asi 0
  | .bastore => px_asi 2
  | .castore => px_asi 3
  | .lastore => px_asl
  | .aastore => px_asa
  | .invokespecial ix => px_ob (px_oi (px_cn mi) ix)
  | _ => fun _ _ _ _ => none
def px_step (mi : Nat) (f : px_F) (S : px_S) : px_R := match px_at mi f.1 with
  | some i => px_do mi i f.1 f.2.1 f.2.2 S
  | none => none
/-- a return: what comes back -/
def px_rv (i : Instr) (rt : Option FieldType) (st : List Value) : Option (Option Value) := match i, rt, st with
  | .return_, none, [] => some none
  | .ireturn, some t, [.int v] => bif px_fit t (.int v) then some (some (.int v)) else none
  | .lreturn, some .long, [.long v] => some (some (.long v))
  | .areturn, some (.object _), [.ref a] => some (some (.ref a))
  | .areturn, some (.object _), [.null] => some (some .null)
  | .areturn, some (.array _), [.ref a] => some (some (.ref a))
  | .areturn, some (.array _), [.null] => some (some .null)
  | _, _, _ => none
def px_ret (mi : Nat) (f : px_F) : Option (Option Value) := match px_at mi f.1 with
  | some i => px_rv i (px_rt mi) f.2.2
  | none => none
/-- a call: the callee, its arguments, the stack below them -/
def px_cs (o : Option (Nat × Nat × Nat)) (st : List Value) : Option (Nat × List Value × List Value) := match o with
  | some (0, mj, n) => bif Nat.ble n st.length && Nat.ble (((st.drop n).map fun v => v.category).sum) 8 then some (mj, (st.take n).reverse, st.drop n) else none
  | _ => none
def px_ci (o : Option (Nat × Nat × Nat)) (st : List Value) : Option (Nat × List Value × List Value) := match o with
  | some (2, mj, n) => (match st.drop n with
    | .ref b :: r => bif Nat.ble n st.length && Nat.ble ((r.map fun v => v.category).sum) 8 then some (mj, .ref b :: (st.take n).reverse, r) else none
    | _ => none)
  | _ => none
def px_cv (o : Option (Nat × Nat × Nat)) (st : List Value) (S : px_S) : Option (Nat × List Value × List Value) := match o with
  | some (1, mj, n) => (match st.drop n with
    | .ref b :: r => (match S.1 b with
      | some (.inr (ci, _)) => bif Nat.beq ci (px_yc mj) && (Nat.ble n st.length && Nat.ble ((r.map fun v => v.category).sum) 8) then some (mj, .ref b :: (st.take n).reverse, r) else none
      | _ => none)
    | _ => none)
  | _ => none
def px_call (mi : Nat) (f : px_F) (S : px_S) : Option (Nat × List Value × List Value) := match px_at mi f.1 with
  | some (.invokestatic ix) => px_cs (px_ca (px_cn mi) ix) f.2.2
  | some (.invokespecial ix) => px_ci (px_ca (px_cn mi) ix) f.2.2
  | some (.invokevirtual ix) => px_cv (px_ca (px_cn mi) ix) f.2.2 S
  | _ => none
abbrev px_C : Type := Nat → List Value → px_S → Option Value → px_S → Prop
def px_Run (C : px_C) (mi : Nat) : Nat → px_F → px_S → Option Value → px_S → Prop
  | 0, _, _, _, _ => False
  | n + 1, f, S, v, S' => (px_ret mi f = some v ∧ S' = S) ∨ (∃ f1 S1, px_step mi f S = some (f1, S1) ∧ px_Run C mi n f1 S1 v S') ∨
    ∃ mj As r v1 S1, px_call mi f S = some (mj, As, r) ∧ C mj As S v1 S1 ∧ px_Run C mi n (f.1 + 3, f.2.1, v1.toList ++ r) S1 v S'
def px_ent (As : List Value) : px_F := (0, lv_args 0 As, [])
def px_Ev : Nat → px_C
  | 0 => fun _ _ _ _ _ => False
  | d + 1 => fun mi As S v S' => (lg_sl As).length ≤ px_ml mi ∧ ∃ n, px_Run (px_Ev d) mi n (px_ent As) S v S'
/-- from the frame f the method comes to its end, with Q -/
def px_P (d mi : Nat) (f : px_F) (S : px_S) (Q : Option Value → px_S → Prop) : Prop := ∃ n v S', px_Run (px_Ev d) mi n f S v S' ∧ Q v S'
/-- the method, called so, comes to its end, with Q -/
def px_M (d mi : Nat) (As : List Value) (S : px_S) (Q : Option Value → px_S → Prop) : Prop := ∃ v S', px_Ev d mi As S v S' ∧ Q v S'
theorem px_P.step {d mi : Nat} {f f1 : px_F} {S S1 : px_S} {Q : Option Value → px_S → Prop} (h : px_step mi f S = some (f1, S1)) (k : px_P d mi f1 S1 Q) : px_P d mi f S Q := by
  obtain ⟨n, v, S', hr, hq⟩ := k
  exact ⟨n + 1, v, S', Or.inr (Or.inl ⟨f1, S1, h, hr⟩), hq⟩
theorem px_P.ret {d mi : Nat} {f : px_F} {S : px_S} {v : Option Value} {Q : Option Value → px_S → Prop} (h : px_ret mi f = some v) (k : Q v S) : px_P d mi f S Q := ⟨1, v, S, Or.inl ⟨h, rfl⟩, k⟩
theorem px_P.call {d mi mj : Nat} {f : px_F} {S : px_S} {As r : List Value} {Q : Option Value → px_S → Prop} (h : px_call mi f S = some (mj, As, r)) (k : px_M d mj As S (fun v S1 => px_P d mi (f.1 + 3, f.2.1, v.toList ++ r) S1 Q)) : px_P d mi f S Q := by
  obtain ⟨v1, S1, h1, n, v, S', hr, hq⟩ := k
  exact ⟨n + 1, v, S', Or.inr (Or.inr ⟨mj, As, r, v1, S1, h, h1, hr⟩), hq⟩
theorem px_M.of {d mi : Nat} {As : List Value} {S : px_S} {Q : Option Value → px_S → Prop} (h : (lg_sl As).length ≤ px_ml mi) (k : px_P d mi (px_ent As) S Q) : px_M (d + 1) mi As S Q := by
  obtain ⟨n, v, S', hr, hq⟩ := k
  exact ⟨v, S', ⟨h, n, hr⟩, hq⟩
theorem px_M.imp {d mi : Nat} {As : List Value} {S : px_S} {Q Q' : Option Value → px_S → Prop} (h : px_M d mi As S Q) (k : ∀ v S', Q v S' → Q' v S') : px_M d mi As S Q' := by
  obtain ⟨v, S', h1, h2⟩ := h
  exact ⟨v, S', h1, k _ _ h2⟩
theorem px_P.imp {d mi : Nat} {f : px_F} {S : px_S} {Q Q' : Option Value → px_S → Prop} (h : px_P d mi f S Q) (k : ∀ v S', Q v S' → Q' v S') : px_P d mi f S Q' := by
  obtain ⟨n, v, S', h1, h2⟩ := h
  exact ⟨n, v, S', h1, k _ _ h2⟩
theorem px_Run.mono {C C' : px_C} (hC : ∀ mj As S v S', C mj As S v S' → C' mj As S v S') {mi : Nat} : ∀ (n : Nat) (f : px_F) (S : px_S) (v : Option Value) (S' : px_S), px_Run C mi n f S v S' → px_Run C' mi n f S v S'
  | 0, _, _, _, _, h => h
  | n + 1, f, S, v, S', h => by
    rcases h with h | ⟨f1, S1, h1, h2⟩ | ⟨mj, As, r, v1, S1, h1, h2, h3⟩
    · exact Or.inl h
    · exact Or.inr (Or.inl ⟨f1, S1, h1, px_Run.mono hC n _ _ _ _ h2⟩)
    · exact Or.inr (Or.inr ⟨mj, As, r, v1, S1, h1, hC _ _ _ _ _ h2, px_Run.mono hC n _ _ _ _ h3⟩)
theorem px_Ev.up : ∀ (d mi : Nat) (As : List Value) (S : px_S) (v : Option Value) (S' : px_S), px_Ev d mi As S v S' → px_Ev (d + 1) mi As S v S'
  | 0, _, _, _, _, _, h => h.elim
  | d + 1, _, _, _, _, _, h => ⟨h.1, h.2.elim fun n hn => ⟨n, px_Run.mono (px_Ev.up d) n _ _ _ _ hn⟩⟩
theorem px_Ev.le {d d' mi : Nat} {As : List Value} {S : px_S} {v : Option Value} {S' : px_S} (hd : d ≤ d') (h : px_Ev d mi As S v S') : px_Ev d' mi As S v S' := by
  induction hd with
  | refl => exact h
  | step _ ih => exact px_Ev.up _ _ _ _ _ _ ih
theorem px_M.le {d d' mi : Nat} {As : List Value} {S : px_S} {Q : Option Value → px_S → Prop} (hd : d ≤ d') (h : px_M d mi As S Q) : px_M d' mi As S Q := by
  obtain ⟨v, S', h1, h2⟩ := h
  exact ⟨v, S', h1.le hd, h2⟩
theorem px_ty0 : px_ty 0 = .int := rfl
theorem px_ty2 : px_ty 2 = .boolean := rfl
theorem px_ty3 : px_ty 3 = .char := rfl
end
section
/-! inversions of the families -/
theorem px_blt {a b : Nat} (h : Nat.blt a b = true) : a < b := Nat.le_of_ble_eq_true h
theorem px_cat1e {v : Value} (h : px_cat1 v = true) : v.category = 1 := Nat.eq_of_beq_eq_true h
theorem px_jmp_eq {pc : Nat} {off : Int} {t : Nat} (h : px_jmp pc off = some t) : (pc : Int) + off = (t : Int) := by
  unfold px_jmp at h
  split at h
  · rename_i z hz; cases h; rw [hz]; rfl
  · cases h
theorem px_lget_mem : ∀ {ls : px_L} {i : Nat} {v : Value}, px_lget ls i = some v → (i, v) ∈ ls
  | [], _, _, h => by cases h
  | q :: r, i, v, h => by
    unfold px_lget at h
    cases hc : Nat.beq q.1 i with
    | true =>
      rw [hc] at h
      simp only [cond_true] at h
      cases h
      cases Nat.eq_of_beq_eq_true hc
      exact List.mem_cons_self
    | false =>
      rw [hc] at h
      exact List.mem_cons_of_mem _ (px_lget_mem h)
theorem px_lat {a : Array Slot} {nL : Nat} {ls : px_L} {i : Nat} {v : Value} (hl : lv_has a nL ls) (h : px_lget ls i = some v) : a[i]? = some (.val v) := hl.2.2 (i, v) (px_lget_mem h)
theorem px_lpos {ls : px_L} {i : Nat} {v : Value} (h : px_lget ls i = some v) : ∃ k : Nat, ls[k]? = some (i, v) := List.getElem?_of_mem (px_lget_mem h)
theorem px_ins_mem : ∀ {l : px_L} {i : Nat} {v : Value} {q : Nat × Value}, q ∈ px_ins l i v → q = (i, v) ∨ q ∈ l
  | [], _, _, _, h => Or.inl (List.mem_singleton.mp h)
  | x :: r, i, v, q, h => by
    unfold px_ins at h
    cases hc : Nat.blt i x.1 with
    | true =>
      rw [hc] at h
      rcases List.mem_cons.mp h with h | h
      · exact Or.inl h
      · exact Or.inr h
    | false =>
      rw [hc] at h
      rcases List.mem_cons.mp h with h | h
      · exact Or.inr (by rw [h]; exact List.mem_cons_self)
      · rcases px_ins_mem h with h | h
        · exact Or.inl h
        · exact Or.inr (List.mem_cons_of_mem _ h)
theorem px_beq (a b : Nat) : Nat.beq a b = (a == b) := by
  cases h : Nat.beq a b with
  | true => rw [Nat.eq_of_beq_eq_true h]; simp
  | false => have h1 := Nat.ne_of_beq_eq_false h; simp [h1]
theorem px_cut1_eq : ∀ (l : px_L) (i : Nat), px_cut1 l i = l.filter (fun q => !(q.1 == i) && !(q.1 + 1 == i && q.2.category == 2))
  | [], _ => rfl
  | x :: r, i => by
    unfold px_cut1
    rw [px_cut1_eq r i, List.filter_cons, px_beq, px_beq, px_beq]
    cases (!(x.1 == i) && !(x.1 + 1 == i && x.2.category == 2)) <;> rfl
theorem px_cut2_eq : ∀ (l : px_L) (i : Nat), px_cut2 l i = l.filter (fun q => !(q.1 == i) && (!(q.1 == i + 1) && !(q.1 + 1 == i && q.2.category == 2)))
  | [], _ => rfl
  | x :: r, i => by
    unfold px_cut2
    rw [px_cut2_eq r i, List.filter_cons, px_beq, px_beq, px_beq, px_beq]
    cases (!(x.1 == i) && (!(x.1 == i + 1) && !(x.1 + 1 == i && x.2.category == 2))) <;> rfl
theorem px_ls1_has {a : Array Slot} {nL i : Nat} {ls : px_L} {v : Value} (h : lv_has a nL ((i, v) :: ls.filter (fun q => !(q.1 == i) && !(q.1 + 1 == i && q.2.category == 2)))) : lv_has a nL (px_ls1 ls i v) :=
  ⟨h.1, h.2.1, fun q hq => h.2.2 q (by
    rcases px_ins_mem hq with hq | hq
    · rw [hq]; exact List.mem_cons_self
    · rw [px_cut1_eq] at hq; exact List.mem_cons_of_mem _ hq)⟩
theorem px_ls2_has {a : Array Slot} {nL i : Nat} {ls : px_L} {v : Value} (h : lv_has a nL ((i, v) :: ls.filter (fun q => !(q.1 == i) && (!(q.1 == i + 1) && !(q.1 + 1 == i && q.2.category == 2))))) : lv_has a nL (px_ls2 ls i v) :=
  ⟨h.1, h.2.1, fun q hq => h.2.2 q (by
    rcases px_ins_mem hq with hq | hq
    · rw [hq]; exact List.mem_cons_self
    · rw [px_cut2_eq] at hq; exact List.mem_cons_of_mem _ hq)⟩
theorem px_inv {i : Int32} {n : Nat} (h : px_in i n = true) : vp_in i n := by
  have h1 := of_decide_eq_true (p := ¬ (i < 0 ∨ n ≤ i.toNatClampNeg)) h
  exact h1
theorem px_fitN : ∀ {ty : FieldType} {v : Value}, px_fit ty v = true → fits ty v = true
  | .int, .int _, _ => rfl
  | .long, .long _, _ => rfl
  | .boolean, .int _, h => h
  | .char, .int _, h => h
  | .object _, .null, _ => rfl
  | .object _, .ref _, _ => rfl
  | .array _, .null, _ => rfl
  | .array _, .ref _, _ => rfl
theorem px_fitW : ∀ {ty : FieldType} {v : Value}, px_fit ty v = true → narrow ty v = v
  | .int, .int _, _ => rfl
  | .long, .long _, _ => rfl
  | .boolean, .int x, h => by
    simp only [px_fit, Bool.or_eq_true, beq_iff_eq] at h
    rcases h with rfl | rfl <;> rfl
  | .char, .int x, h => by
    simp only [px_fit, Bool.and_eq_true, decide_eq_true_eq] at h
    obtain ⟨q, hq, rfl⟩ := nI_of2 (n := 65535) (M := 65535) rfl (Int32.not_lt.mpr h.1) h.2
    exact (pk_charN (by omega)).1
  | .object _, .null, _ => rfl
  | .object _, .ref _, _ => rfl
  | .array _, .null, _ => rfl
  | .array _, .ref _, _ => rfl
theorem px_k_inv {v : Value} {n : Nat} {pc : Nat} {ls : px_L} {st : List Value} {S : px_S} {q : px_F × px_S} (h : px_k v n pc ls st S = some q) : q = ((pc + n, ls, v :: st), S) := by
  cases h; rfl
theorem px_ldi_inv {k n : Nat} {pc : Nat} {ls : px_L} {st : List Value} {S : px_S} {q : px_F × px_S} (h : px_ldi k n pc ls st S = some q) : ∃ x, px_lget ls k = some (.int x) ∧ q = ((pc + n, ls, .int x :: st), S) := by
  unfold px_ldi at h
  split at h
  · rename_i hg; cases h; exact ⟨_, hg, rfl⟩
  · cases h
theorem px_ldl_inv {k n : Nat} {pc : Nat} {ls : px_L} {st : List Value} {S : px_S} {q : px_F × px_S} (h : px_ldl k n pc ls st S = some q) : ∃ x, px_lget ls k = some (.long x) ∧ q = ((pc + n, ls, .long x :: st), S) := by
  unfold px_ldl at h
  split at h
  · rename_i hg; cases h; exact ⟨_, hg, rfl⟩
  · cases h
theorem px_lda_inv {k n : Nat} {pc : Nat} {ls : px_L} {st : List Value} {S : px_S} {q : px_F × px_S} (h : px_lda k n pc ls st S = some q) : (∃ x, px_lget ls k = some (.ref x) ∧ q = ((pc + n, ls, .ref x :: st), S)) ∨ (px_lget ls k = some .null ∧ q = ((pc + n, ls, .null :: st), S)) := by
  unfold px_lda at h
  split at h
  · rename_i hg; cases h; exact Or.inl ⟨_, hg, rfl⟩
  · rename_i hg; cases h; exact Or.inr ⟨hg, rfl⟩
  · cases h
theorem px_sti_inv {M k n : Nat} {pc : Nat} {ls : px_L} {st : List Value} {S : px_S} {q : px_F × px_S} (h : px_sti M k n pc ls st S = some q) : ∃ x r, k < M ∧ st = .int x :: r ∧ q = ((pc + n, px_ls1 ls k (.int x), r), S) := by
  unfold px_sti at h
  split at h
  · cases hc : Nat.blt k M with
    | true => rw [hc] at h; cases h; exact ⟨_, _, px_blt hc, rfl, rfl⟩
    | false => rw [hc] at h; cases h
  · cases h
theorem px_stl_inv {M k n : Nat} {pc : Nat} {ls : px_L} {st : List Value} {S : px_S} {q : px_F × px_S} (h : px_stl M k n pc ls st S = some q) : ∃ x r, k + 1 < M ∧ st = .long x :: r ∧ q = ((pc + n, px_ls2 ls k (.long x), r), S) := by
  unfold px_stl at h
  split at h
  · cases hc : Nat.blt (k + 1) M with
    | true => rw [hc] at h; cases h; exact ⟨_, _, px_blt hc, rfl, rfl⟩
    | false => rw [hc] at h; cases h
  · cases h
theorem px_sta_inv {M k n : Nat} {pc : Nat} {ls : px_L} {st : List Value} {S : px_S} {q : px_F × px_S} (h : px_sta M k n pc ls st S = some q) : (∃ x r, k < M ∧ st = .ref x :: r ∧ q = ((pc + n, px_ls1 ls k (.ref x), r), S)) ∨ (∃ r, k < M ∧ st = .null :: r ∧ q = ((pc + n, px_ls1 ls k .null, r), S)) := by
  unfold px_sta at h
  split at h
  · cases hc : Nat.blt k M with
    | true => rw [hc] at h; cases h; exact Or.inl ⟨_, _, px_blt hc, rfl, rfl⟩
    | false => rw [hc] at h; cases h
  · cases hc : Nat.blt k M with
    | true => rw [hc] at h; cases h; exact Or.inr ⟨_, px_blt hc, rfl, rfl⟩
    | false => rw [hc] at h; cases h
  · cases h
theorem px_inc_inv {M k : Nat} {d : Int} {pc : Nat} {ls : px_L} {st : List Value} {S : px_S} {q : px_F × px_S} (h : px_inc M k d pc ls st S = some q) : ∃ x, px_lget ls k = some (.int x) ∧ k < M ∧ q = ((pc + 3, px_ls1 ls k (.int (x + Int32.ofInt d)), st), S) := by
  unfold px_inc at h
  split at h
  · rename_i hg
    cases hc : Nat.blt k M with
    | true => rw [hc] at h; cases h; exact ⟨_, hg, px_blt hc, rfl⟩
    | false => rw [hc] at h; cases h
  · cases h
theorem px_ii_inv {g : Int32 → Int32 → Int32} {pc : Nat} {ls : px_L} {st : List Value} {S : px_S} {q : px_F × px_S} (h : px_ii g pc ls st S = some q) : ∃ x y r, st = .int y :: .int x :: r ∧ q = ((pc + 1, ls, .int (g x y) :: r), S) := by
  unfold px_ii at h
  split at h
  · cases h; exact ⟨_, _, _, rfl, rfl⟩
  · cases h
theorem px_ll_inv {g : Int64 → Int64 → Int64} {pc : Nat} {ls : px_L} {st : List Value} {S : px_S} {q : px_F × px_S} (h : px_ll g pc ls st S = some q) : ∃ x y r, st = .long y :: .long x :: r ∧ q = ((pc + 1, ls, .long (g x y) :: r), S) := by
  unfold px_ll at h
  split at h
  · cases h; exact ⟨_, _, _, rfl, rfl⟩
  · cases h
theorem px_li_inv {g : Int64 → Int32 → Int64} {pc : Nat} {ls : px_L} {st : List Value} {S : px_S} {q : px_F × px_S} (h : px_li g pc ls st S = some q) : ∃ x y r, st = .int y :: .long x :: r ∧ q = ((pc + 1, ls, .long (g x y) :: r), S) := by
  unfold px_li at h
  split at h
  · cases h; exact ⟨_, _, _, rfl, rfl⟩
  · cases h
theorem px_lc_inv {pc : Nat} {ls : px_L} {st : List Value} {S : px_S} {q : px_F × px_S} (h : px_lc pc ls st S = some q) : ∃ x y r, st = .long y :: .long x :: r ∧ q = ((pc + 1, ls, .int (lg_cmp x y) :: r), S) := by
  unfold px_lc at h
  split at h
  · cases h; exact ⟨_, _, _, rfl, rfl⟩
  · cases h
theorem px_dv_inv {g : Int32 → Int32 → Int32} {pc : Nat} {ls : px_L} {st : List Value} {S : px_S} {q : px_F × px_S} (h : px_dv g pc ls st S = some q) : ∃ x y r, ¬ y = 0 ∧ st = .int y :: .int x :: r ∧ q = ((pc + 1, ls, .int (g x y) :: r), S) := by
  unfold px_dv at h
  split at h
  · rename_i y x r
    cases hc : decide (y = 0) with
    | true => rw [hc] at h; cases h
    | false => rw [hc] at h; cases h; exact ⟨_, _, _, of_decide_eq_false hc, rfl, rfl⟩
  · cases h
theorem px_i1_inv {g : Int32 → Int32} {pc : Nat} {ls : px_L} {st : List Value} {S : px_S} {q : px_F × px_S} (h : px_i1 g pc ls st S = some q) : ∃ x r, st = .int x :: r ∧ q = ((pc + 1, ls, .int (g x) :: r), S) := by
  unfold px_i1 at h
  split at h
  · cases h; exact ⟨_, _, rfl, rfl⟩
  · cases h
theorem px_il_inv {pc : Nat} {ls : px_L} {st : List Value} {S : px_S} {q : px_F × px_S} (h : px_il pc ls st S = some q) : ∃ x r, st = .int x :: r ∧ q = ((pc + 1, ls, .long x.toInt64 :: r), S) := by
  unfold px_il at h
  split at h
  · cases h; exact ⟨_, _, rfl, rfl⟩
  · cases h
theorem px_l2_inv {pc : Nat} {ls : px_L} {st : List Value} {S : px_S} {q : px_F × px_S} (h : px_l2 pc ls st S = some q) : ∃ x r, st = .long x :: r ∧ q = ((pc + 1, ls, .int x.toInt32 :: r), S) := by
  unfold px_l2 at h
  split at h
  · cases h; exact ⟨_, _, rfl, rfl⟩
  · cases h
theorem px_dup_inv {pc : Nat} {ls : px_L} {st : List Value} {S : px_S} {q : px_F × px_S} (h : px_dup pc ls st S = some q) : ∃ v r, v.category = 1 ∧ st = v :: r ∧ q = ((pc + 1, ls, v :: v :: r), S) := by
  unfold px_dup at h
  split at h
  · rename_i v r
    cases hc : (px_cat1 v) with
    | true => rw [hc] at h; cases h; exact ⟨_, _, px_cat1e hc, rfl, rfl⟩
    | false => rw [hc] at h; cases h
  · cases h
theorem px_pop_inv {pc : Nat} {ls : px_L} {st : List Value} {S : px_S} {q : px_F × px_S} (h : px_pop pc ls st S = some q) : ∃ v r, v.category = 1 ∧ st = v :: r ∧ q = ((pc + 1, ls, r), S) := by
  unfold px_pop at h
  split at h
  · rename_i v r
    cases hc : (px_cat1 v) with
    | true => rw [hc] at h; cases h; exact ⟨_, _, px_cat1e hc, rfl, rfl⟩
    | false => rw [hc] at h; cases h
  · cases h
theorem px_dx1_inv {pc : Nat} {ls : px_L} {st : List Value} {S : px_S} {q : px_F × px_S} (h : px_dx1 pc ls st S = some q) : ∃ v u r, (v.category = 1 ∧ u.category = 1) ∧ st = v :: u :: r ∧ q = ((pc + 1, ls, v :: u :: v :: r), S) := by
  unfold px_dx1 at h
  split at h
  · rename_i v u r
    cases hc : (px_cat1 v && px_cat1 u) with
    | true => rw [hc] at h; cases h; exact ⟨_, _, _, ⟨px_cat1e (Bool.and_eq_true_iff.mp hc).1, px_cat1e (Bool.and_eq_true_iff.mp hc).2⟩, rfl, rfl⟩
    | false => rw [hc] at h; cases h
  · cases h
theorem px_d2_inv {pc : Nat} {ls : px_L} {st : List Value} {S : px_S} {q : px_F × px_S} (h : px_d2 pc ls st S = some q) : ∃ v u r, (v.category = 1 ∧ u.category = 1) ∧ st = v :: u :: r ∧ q = ((pc + 1, ls, v :: u :: v :: u :: r), S) := by
  unfold px_d2 at h
  split at h
  · rename_i v u r
    cases hc : (px_cat1 v && px_cat1 u) with
    | true => rw [hc] at h; cases h; exact ⟨_, _, _, ⟨px_cat1e (Bool.and_eq_true_iff.mp hc).1, px_cat1e (Bool.and_eq_true_iff.mp hc).2⟩, rfl, rfl⟩
    | false => rw [hc] at h; cases h
  · cases h
theorem px_dx2_inv {pc : Nat} {ls : px_L} {st : List Value} {S : px_S} {q : px_F × px_S} (h : px_dx2 pc ls st S = some q) : ∃ v u t r, (v.category = 1 ∧ u.category = 1 ∧ t.category = 1) ∧ st = v :: u :: t :: r ∧ q = ((pc + 1, ls, v :: u :: t :: v :: r), S) := by
  unfold px_dx2 at h
  split at h
  · rename_i v u t r
    cases hc : (px_cat1 v && (px_cat1 u && px_cat1 t)) with
    | true => rw [hc] at h; cases h; exact ⟨_, _, _, _, ⟨px_cat1e (Bool.and_eq_true_iff.mp hc).1, px_cat1e (Bool.and_eq_true_iff.mp (Bool.and_eq_true_iff.mp hc).2).1, px_cat1e (Bool.and_eq_true_iff.mp (Bool.and_eq_true_iff.mp hc).2).2⟩, rfl, rfl⟩
    | false => rw [hc] at h; cases h
  · cases h
theorem px_if0_inv {cd : ClassFile.Cond} {off : Int} {pc : Nat} {ls : px_L} {st : List Value} {S : px_S} {q : px_F × px_S} (h : px_if0 cd off pc ls st S = some q) : ∃ x r t, px_jmp pc off = some t ∧ st = .int x :: r ∧ q = ((bif px_c0 cd x then t else pc + 3, ls, r), S) := by
  unfold px_if0 at h
  split at h
  · rename_i hj; cases h; exact ⟨_, _, _, hj, rfl, rfl⟩
  · cases h
theorem px_if2_inv {cd : ClassFile.Cond} {off : Int} {pc : Nat} {ls : px_L} {st : List Value} {S : px_S} {q : px_F × px_S} (h : px_if2 cd off pc ls st S = some q) : ∃ x y r t, px_jmp pc off = some t ∧ st = .int y :: .int x :: r ∧ q = ((bif px_c2 cd x y then t else pc + 3, ls, r), S) := by
  unfold px_if2 at h
  split at h
  · rename_i hj; cases h; exact ⟨_, _, _, _, hj, rfl, rfl⟩
  · cases h
theorem px_go_inv {off : Int} {pc : Nat} {ls : px_L} {st : List Value} {S : px_S} {q : px_F × px_S} (h : px_go off pc ls st S = some q) : ∃ t, px_jmp pc off = some t ∧ q = ((t, ls, st), S) := by
  unfold px_go at h
  split at h
  · rename_i hj; cases h; exact ⟨_, hj, rfl⟩
  · cases h
theorem px_nul_inv {off : Int} {pc : Nat} {ls : px_L} {st : List Value} {S : px_S} {q : px_F × px_S} (h : px_nul off pc ls st S = some q) : (∃ r t, px_jmp pc off = some t ∧ st = .null :: r ∧ q = ((t, ls, r), S)) ∨ (∃ a r, st = .ref a :: r ∧ q = ((pc + 3, ls, r), S)) := by
  unfold px_nul at h
  split at h
  · rename_i hj; cases h; exact Or.inl ⟨_, _, hj, rfl, rfl⟩
  · cases h; exact Or.inr ⟨_, _, rfl, rfl⟩
  · cases h
theorem px_nnl_inv {off : Int} {pc : Nat} {ls : px_L} {st : List Value} {S : px_S} {q : px_F × px_S} (h : px_nnl off pc ls st S = some q) : (∃ a r t, px_jmp pc off = some t ∧ st = .ref a :: r ∧ q = ((t, ls, r), S)) ∨ (∃ r, st = .null :: r ∧ q = ((pc + 3, ls, r), S)) := by
  unfold px_nnl at h
  split at h
  · rename_i hj; cases h; exact Or.inl ⟨_, _, _, hj, rfl, rfl⟩
  · cases h; exact Or.inr ⟨_, rfl, rfl⟩
  · cases h
theorem px_lsw_inv {dflt : Int} {ps : Array (Int × Int)} {pc : Nat} {ls : px_L} {st : List Value} {S : px_S} {q : px_F × px_S} (h : px_lsw dflt ps pc ls st S = some q) : ∃ x r t, px_jmp pc (Op.lookupswitch.offset ps.toList dflt x.toInt) = some t ∧ (ps.toList.zip (ps.toList.drop 1)).all (fun (a, next) => a.1 < next.1) = true ∧ st = .int x :: r ∧ q = ((t, ls, r), S) := by
  unfold px_lsw at h
  split at h
  · split at h
    · rename_i hj
      cases hc : (ps.toList.zip (ps.toList.drop 1)).all (fun (a, next) => a.1 < next.1) with
      | true => rw [hc] at h; cases h; exact ⟨_, _, _, hj, rfl, rfl, rfl⟩
      | false => rw [hc] at h; cases h
    · cases h
  · cases h
theorem px_tsw_inv {dflt lo hi : Int} {offs : Array Int} {pc : Nat} {ls : px_L} {st : List Value} {S : px_S} {q : px_F × px_S} (h : px_tsw dflt lo hi offs pc ls st S = some q) : ∃ x r t, st = .int x :: r ∧ q = ((t, ls, r), S) ∧ (((x.toInt < lo ∨ hi < x.toInt) ∧ px_jmp pc dflt = some t) ∨ (¬ (x.toInt < lo ∨ hi < x.toInt) ∧ ∃ off, offs[(x.toInt - lo).toNat]? = some off ∧ px_jmp pc off = some t)) := by
  unfold px_tsw at h
  split at h
  · rename_i x r
    cases hc : decide (x.toInt < lo ∨ hi < x.toInt) with
    | true =>
      rw [hc] at h
      simp only [cond_true] at h
      split at h
      · rename_i hj; cases h; exact ⟨_, _, _, rfl, rfl, Or.inl ⟨of_decide_eq_true hc, hj⟩⟩
      · cases h
    | false =>
      rw [hc] at h
      simp only [cond_false] at h
      split at h
      · rename_i ho
        split at h
        · rename_i hj; cases h; exact ⟨_, _, _, rfl, rfl, Or.inr ⟨of_decide_eq_false hc, _, ho, hj⟩⟩
        · cases h
      · cases h
  · cases h
theorem px_kon_inv {o : Option Int32} {n : Nat} {pc : Nat} {ls : px_L} {st : List Value} {S : px_S} {q : px_F × px_S} (h : px_kon o n pc ls st S = some q) : ∃ v, o = some v ∧ q = ((pc + n, ls, .int v :: st), S) := by
  unfold px_kon at h
  split at h
  · cases h; exact ⟨_, rfl, rfl⟩
  · cases h
theorem px_konl_inv {o : Option Int64} {pc : Nat} {ls : px_L} {st : List Value} {S : px_S} {q : px_F × px_S} (h : px_konl o pc ls st S = some q) : ∃ v, o = some v ∧ q = ((pc + 3, ls, .long v :: st), S) := by
  unfold px_konl at h
  split at h
  · cases h; exact ⟨_, rfl, rfl⟩
  · cases h
theorem px_get_inv {o : Option (Nat × Nat)} {pc : Nat} {ls : px_L} {st : List Value} {S : px_S} {q : px_F × px_S} (h : px_get o pc ls st S = some q) : ∃ a r ci k fs v, o = some (ci, k) ∧ S.1 a = some (.inr (ci, fs)) ∧ fs[k]? = some v ∧ st = .ref a :: r ∧ q = ((pc + 3, ls, v :: r), S) := by
  unfold px_get at h
  split at h
  · split at h
    · rename_i a r ci k _ cj fs hw
      cases hc : Nat.beq cj ci with
      | true =>
        rw [hc] at h
        simp only [cond_true] at h
        split at h
        · rename_i hv; cases h
          cases Nat.eq_of_beq_eq_true hc
          exact ⟨_, _, _, _, _, _, rfl, hw, hv, rfl, rfl⟩
        · cases h
      | false => rw [hc] at h; cases h
    · cases h
  · cases h
theorem px_put_inv {mi : Nat} {o : Option (Nat × Nat)} {pc : Nat} {ls : px_L} {st : List Value} {S : px_S} {q : px_F × px_S} (h : px_put mi o pc ls st S = some q) : ∃ v a r ci k fs, o = some (ci, k) ∧ S.1 a = some (.inr (ci, fs)) ∧ k < fs.length ∧ px_fit (px_ft ci k) v = true ∧ px_may mi ci k = true ∧ st = v :: .ref a :: r ∧ q = ((pc + 3, ls, r), (va_up S.1 a (some (.inr (ci, fs.set k v))), S.2)) := by
  unfold px_put at h
  split at h
  · split at h
    · rename_i v a r ci k _ cj fs hw
      cases hc : (Nat.beq cj ci && (Nat.blt k fs.length && (px_fit (px_ft ci k) v && px_may mi ci k))) with
      | true =>
        rw [hc] at h
        simp only [cond_true] at h
        cases h
        simp only [Bool.and_eq_true] at hc
        obtain ⟨h1, h2, h3, h4⟩ := hc
        cases Nat.eq_of_beq_eq_true h1
        exact ⟨_, _, _, _, _, _, rfl, hw, px_blt h2, h3, h4, rfl, rfl⟩
      | false => rw [hc] at h; cases h
    · cases h
  · cases h
theorem px_new_inv {o : Option Nat} {pc : Nat} {ls : px_L} {st : List Value} {S : px_S} {q : px_F × px_S} (h : px_new o pc ls st S = some q) : ∃ ci, o = some ci ∧ q = ((pc + 3, ls, .ref S.2.1 :: st), (va_up S.1 S.2.1 (some (.inr (ci, px_def ci))), S.2.1 + 1, S.2.2 + px_nf ci)) := by
  unfold px_new at h
  split at h
  · cases h; exact ⟨_, rfl, rfl⟩
  · cases h
theorem px_nwa_inv {o : Option vp_A} {t0 n0 : Nat} {pc : Nat} {ls : px_L} {st : List Value} {S : px_S} {q : px_F × px_S} (h : px_nwa o t0 n0 pc ls st S = some q) : ∃ n r z, o = some z ∧ ¬ (n < 0 ∨ 67108864 < n.toNatClampNeg) ∧ st = .int n :: r ∧ q = ((pc + n0, ls, .ref S.2.1 :: r), (va_up S.1 S.2.1 (some (.inl (t0, n.toNatClampNeg, z.2))), S.2.1 + 1, S.2.2 + n.toNatClampNeg)) := by
  unfold px_nwa at h
  split at h
  · rename_i n r z
    cases hc : decide (n < 0 ∨ 67108864 < n.toNatClampNeg) with
    | true => rw [hc] at h; cases h
    | false => rw [hc] at h; cases h; exact ⟨_, _, _, rfl, of_decide_eq_false hc, rfl, rfl⟩
  · cases h
theorem px_len_inv {pc : Nat} {ls : px_L} {st : List Value} {S : px_S} {q : px_F × px_S} (h : px_len pc ls st S = some q) : ∃ a r t x, S.1 a = some (.inl (t, x)) ∧ t < px_nty ∧ st = .ref a :: r ∧ q = ((pc + 1, ls, .int (Int32.ofNat x.1) :: r), S) := by
  unfold px_len at h
  split at h
  · split at h
    · rename_i t x hw
      cases hc : Nat.blt t px_nty with
      | true => rw [hc] at h; cases h; exact ⟨_, _, _, _, hw, px_blt hc, rfl, rfl⟩
      | false => rw [hc] at h; cases h
    · cases h
  · cases h
theorem px_ali_inv {t0 : Nat} {pc : Nat} {ls : px_L} {st : List Value} {S : px_S} {q : px_F × px_S} (h : px_ali t0 pc ls st S = some q) : ∃ i a r t n f, S.1 a = some (.inl (t, n, .inl f)) ∧ t = t0 ∧ px_in i n = true ∧ st = .int i :: .ref a :: r ∧ q = ((pc + 1, ls, .int (f i.toNatClampNeg) :: r), S) := by
  unfold px_ali at h
  split at h
  · rename_i i a r
    split at h
    · rename_i t n f hw
      cases hc : (Nat.beq t t0 && px_in i n) with
      | true =>
        rw [hc] at h
        simp only [cond_true] at h
        cases h
        simp only [Bool.and_eq_true] at hc
        exact ⟨_, _, _, _, _, _, hw, Nat.eq_of_beq_eq_true hc.1, hc.2, rfl, rfl⟩
      | false => rw [hc] at h; cases h
    · cases h
  · cases h
theorem px_all_inv {pc : Nat} {ls : px_L} {st : List Value} {S : px_S} {q : px_F × px_S} (h : px_all pc ls st S = some q) : ∃ i a r t n f, S.1 a = some (.inl (t, n, .inr (.inl f))) ∧ t = 1 ∧ px_in i n = true ∧ st = .int i :: .ref a :: r ∧ q = ((pc + 1, ls, .long (f i.toNatClampNeg) :: r), S) := by
  unfold px_all at h
  split at h
  · rename_i i a r
    split at h
    · rename_i t n f hw
      cases hc : (Nat.beq t 1 && px_in i n) with
      | true =>
        rw [hc] at h
        simp only [cond_true] at h
        cases h
        simp only [Bool.and_eq_true] at hc
        exact ⟨_, _, _, _, _, _, hw, Nat.eq_of_beq_eq_true hc.1, hc.2, rfl, rfl⟩
      | false => rw [hc] at h; cases h
    · cases h
  · cases h
theorem px_ala_inv {pc : Nat} {ls : px_L} {st : List Value} {S : px_S} {q : px_F × px_S} (h : px_ala pc ls st S = some q) : ∃ i a r t n f, S.1 a = some (.inl (t, n, .inr (.inr (.inr (.inr f))))) ∧ px_tr t = true ∧ px_in i n = true ∧ st = .int i :: .ref a :: r ∧ q = ((pc + 1, ls, va_rf (f i.toNatClampNeg) :: r), S) := by
  unfold px_ala at h
  split at h
  · rename_i i a r
    split at h
    · rename_i t n f hw
      cases hc : (px_tr t && px_in i n) with
      | true =>
        rw [hc] at h
        simp only [cond_true] at h
        cases h
        simp only [Bool.and_eq_true] at hc
        exact ⟨_, _, _, _, _, _, hw, hc.1, hc.2, rfl, rfl⟩
      | false => rw [hc] at h; cases h
    · cases h
  · cases h
theorem px_asi_inv {t0 : Nat} {pc : Nat} {ls : px_L} {st : List Value} {S : px_S} {q : px_F × px_S} (h : px_asi t0 pc ls st S = some q) : ∃ x i a r n f, S.1 a = some (.inl (t0, n, .inl f)) ∧ px_in i n = true ∧ px_fit (px_ty t0) (.int x) = true ∧ st = .int x :: .int i :: .ref a :: r ∧ q = ((pc + 1, ls, r), (va_up S.1 a (some (.inl (t0, n, .inl (upd f i.toNatClampNeg x)))), S.2)) := by
  unfold px_asi at h
  split at h
  · rename_i x i a r
    split at h
    · rename_i t n f hw
      cases hc : (Nat.beq t t0 && (px_in i n && px_fit (px_ty t0) (.int x))) with
      | true =>
        rw [hc] at h
        simp only [cond_true] at h
        cases h
        simp only [Bool.and_eq_true] at hc
        cases Nat.eq_of_beq_eq_true hc.1
        exact ⟨_, _, _, _, _, _, hw, hc.2.1, hc.2.2, rfl, rfl⟩
      | false => rw [hc] at h; cases h
    · cases h
  · cases h
theorem px_asl_inv {pc : Nat} {ls : px_L} {st : List Value} {S : px_S} {q : px_F × px_S} (h : px_asl pc ls st S = some q) : ∃ x i a r n f, S.1 a = some (.inl (1, n, .inr (.inl f))) ∧ px_in i n = true ∧ st = .long x :: .int i :: .ref a :: r ∧ q = ((pc + 1, ls, r), (va_up S.1 a (some (.inl (1, n, .inr (.inl (vp_updL f i.toNatClampNeg x))))), S.2)) := by
  unfold px_asl at h
  split at h
  · rename_i x i a r
    split at h
    · rename_i t n f hw
      cases hc : (Nat.beq t 1 && px_in i n) with
      | true =>
        rw [hc] at h
        simp only [cond_true] at h
        cases h
        simp only [Bool.and_eq_true] at hc
        cases Nat.eq_of_beq_eq_true hc.1
        exact ⟨_, _, _, _, _, _, hw, hc.2, rfl, rfl⟩
      | false => rw [hc] at h; cases h
    · cases h
  · cases h
theorem px_asa_inv {pc : Nat} {ls : px_L} {st : List Value} {S : px_S} {q : px_F × px_S} (h : px_asa pc ls st S = some q) : ∃ i a r t n f, S.1 a = some (.inl (t, n, .inr (.inr (.inr (.inr f))))) ∧ px_tr t = true ∧ px_in i n = true ∧
    ((∃ v ci fs, S.1 v = some (.inr (ci, fs)) ∧ px_tc t ci = true ∧ st = .ref v :: .int i :: .ref a :: r ∧ q = ((pc + 1, ls, r), (va_up S.1 a (some (.inl (t, n, .inr (.inr (.inr (.inr (va_up f i.toNatClampNeg (some v)))))))), S.2))) ∨
     (st = .null :: .int i :: .ref a :: r ∧ q = ((pc + 1, ls, r), (va_up S.1 a (some (.inl (t, n, .inr (.inr (.inr (.inr (va_up f i.toNatClampNeg none))))))), S.2)))) := by
  unfold px_asa at h
  split at h
  · rename_i v i a r
    split at h
    · rename_i t n f ci fs hw hv
      cases hc : (px_tr t && (px_in i n && px_tc t ci)) with
      | true =>
        rw [hc] at h
        simp only [cond_true] at h
        cases h
        simp only [Bool.and_eq_true] at hc
        exact ⟨_, _, _, _, _, _, hw, hc.1, hc.2.1, Or.inl ⟨_, _, _, hv, hc.2.2, rfl, rfl⟩⟩
      | false => rw [hc] at h; cases h
    · cases h
  · rename_i i a r
    split at h
    · rename_i t n f hw
      cases hc : (px_tr t && px_in i n) with
      | true =>
        rw [hc] at h
        simp only [cond_true] at h
        cases h
        simp only [Bool.and_eq_true] at hc
        exact ⟨_, _, _, _, _, _, hw, hc.1, hc.2, Or.inr ⟨rfl, rfl⟩⟩
      | false => rw [hc] at h; cases h
    · cases h
  · cases h
theorem px_ob_inv {b : Bool} {pc : Nat} {ls : px_L} {st : List Value} {S : px_S} {q : px_F × px_S} (h : px_ob b pc ls st S = some q) : ∃ a r, b = true ∧ (r.map fun v => v.category).sum ≤ 8 ∧ st = .ref a :: r ∧ q = ((pc + 3, ls, r), S) := by
  unfold px_ob at h
  split at h
  · rename_i a r
    cases hc : (b && Nat.ble ((r.map fun v => v.category).sum) 8) with
    | true =>
      rw [hc] at h
      simp only [cond_true] at h
      cases h
      simp only [Bool.and_eq_true] at hc
      exact ⟨_, _, hc.1, Nat.le_of_ble_eq_true hc.2, rfl, rfl⟩
    | false => rw [hc] at h; cases h
  · cases h
end
section
theorem px_ca_ok {cn ix kd mj n : Nat} (h : px_ca cn ix = some (kd, mj, n)) : Cond.code (px_y mj) (px_b mj) (px_ml mj) (px_rt mj) ∈ px_tbl ∧ Cond.initialized (px_y mj).cls ∈ px_tbl ∧ ((px_y mj).cls ≠ "java/lang/invoke/MethodHandle" ∧ (px_y mj).cls ≠ "java/lang/invoke/VarHandle") ∧
  (parseMethodDescriptor (px_y mj).desc).map (fun d => d.parameters.length) = some n ∧ px_ml mj ≤ 80 ∧ (Cond.methodLink (px_on cn) ix (px_y mj) ∈ px_tbl ∨ ∃ host, Cond.methodLinkNest (px_on cn) ix (px_y mj) host ∈ px_nw) ∧
  (kd = 0 → Cond.static (px_y mj) ∈ px_tbl) ∧ (kd = 1 → Cond.instanceMethod (px_y mj) ∈ px_tbl ∧ Cond.selects (px_y mj).cls (px_y mj) (px_y mj) ∈ px_tbl ∧ ∃ rc, px_cl[px_yc mj]? = some rc ∧ rc.1 = (px_y mj).cls) ∧
  (kd = 2 → (px_y mj).name = "<init>" ∧ Cond.instanceMethod (px_y mj) ∈ px_tbl ∧ px_rt mj = none) := px_ca_ok0 h
theorem px_decl {ci k : Nat} {C : String} {T : u_T} {N : Nat} (h : px_cl[ci]? = some (C, T, N)) (hk : k < N) : (T k).1 = px_on ci := by
  have h1 : ∀ ci, ci < 11 → ∀ k, k < ((px_cl.getD ci (px_R0, px_T0, 0)).2.2) → ((px_cl.getD ci (px_R0, px_T0, 0)).2.1 k).1 = px_on ci := by decide +kernel
  have hci : ci < 11 := (List.getElem?_eq_some_iff.mp h).1
  have h2 := h1 ci hci k (by rw [List.getD_eq_getElem?_getD, h]; exact hk)
  rw [List.getD_eq_getElem?_getD, h] at h2
  exact h2
theorem px_nestF {own ref n d host : String} {ix : Nat} (h : Cond.fieldLinkNest own ix ref n d host ∈ px_nw) : ¬ ref = own := by
  rcases List.mem_append.mp h with h | h
  · obtain ⟨q, hq, he⟩ := List.mem_map.mp h
    have h1 : ∀ q ∈ px_nwF, q.2.2.1 ≠ q.1 := by decide +kernel
    cases he
    exact h1 q hq
  · obtain ⟨q, hq, he⟩ := List.mem_map.mp h
    cases he
/-! ===== one step of the pure machine is one step of the machine ===== -/
def px_e (dA : Nat → ClassId) (x : px_E) : va_E := match x with
  | .inl a => .inl (dA a.1, a.2)
  | .inr o => .inr o
def px_hold (dC : Nat → ClassId) (dI : Nat → Nat → Nat) (dA : Nat → ClassId) (w : px_W) (H : Heap) : Prop := ∀ (a : Nat) (x : px_E), w a = some x → va_at (dC, dI) px_cl (a, px_e dA x) H
def px_tys (dA : Nat → ClassId) : List (ClassId × FieldType) := (List.range px_nty).map fun t => (dA t, px_ty t)
theorem px_tys_at {dA : Nat → ClassId} {t : Nat} (h : t < px_nty) : (px_tys dA)[t]? = some (dA t, px_ty t) := by
  simp [px_tys, h]
/-- what the tables say, all along -/
def px_K (dC : Nat → ClassId) (dI : Nat → Nat → Nat) (dA : Nat → ClassId) (U : State) : Prop := va_K (dC, dI) px_cl (px_tys dA) U ∧ (∀ w ∈ px_nw, va_Nw w U) ∧ ∀ t, t < px_nty → ∀ C, px_ty t = .object C → va_AO C U
def px_Cx (p : Program) (s : State) (m : MethodId) (args : Array Value) (meth : Method) (c : Code) (mi : Nat) (dC : Nat → ClassId) (dI : Nat → Nat → Nat) (dA : Nat → ClassId) : Prop :=
  p.tables.exec = Jvm.exec ∧ c.code = px_b mi ∧ c.maxLocals = px_ml mi ∧ s.vm.findClass (px_on (px_cn mi)) = some m.cls ∧ (∀ w ∈ px_tbl, w.before args s = true) ∧ px_K dC dI dA s ∧ (px_isI mi = true → meth.name = "<init>")
/-- the machine's heap holds the pure one; only what is owned has changed -/
def px_Rl (dC : Nat → ClassId) (dI : Nat → Nat → Nat) (dA : Nat → ClassId) (s : State) (w0 : px_W) (nx0 sl0 : Nat) (S : px_S) (H : Heap) (locs : List Loc) (cells slots : Nat) : Prop :=
  px_hold dC dI dA S.1 H ∧ H.size = S.2.1 ∧ nx0 + cells = S.2.1 ∧ sl0 + slots = S.2.2 ∧ (∀ q ∈ locs, w0 q.base ≠ none ∨ nx0 ≤ q.base) ∧ (∀ q : Nat, q < nx0 → w0 q = none → H[q]? = s.heap[q]?) ∧ ∀ q : Nat, q < nx0 → S.1 q ≠ none → w0 q ≠ none
theorem px_va1 {D : va_G} {cl : List vw_C} {q : Nat × va_E} {H : Heap} (h : va_at D cl q H) : va_P D cl [q] H := by
  intro k x hk
  cases k with
  | zero => cases hk; exact h
  | succ k => cases hk
section PXR
variable {dC : Nat → ClassId} {dI : Nat → Nat → Nat} {dA : Nat → ClassId} {s : State} {w0 : px_W} {nx0 sl0 : Nat} {S : px_S} {H H1 : Heap} {locs : List Loc} {cells slots : Nat} {a k n : Nat} {x x' : px_E}
theorem px_Rl.put (h : px_Rl dC dI dA s w0 nx0 sl0 S H locs cells slots) (ha : S.1 a = some x) (hv : va_at (dC, dI) px_cl (a, px_e dA x') H1) (hz : H1.size = H.size) (oq : ∀ q : Nat, q ≠ a → H1[q]? = H[q]?) :
    px_Rl dC dI dA s w0 nx0 sl0 (va_up S.1 a (some x'), S.2) H1 (locs ++ [⟨a, k⟩]) cells slots := by
  obtain ⟨h1, h2, h3, h4, h5, h6, h7⟩ := h
  have hown : w0 a ≠ none ∨ nx0 ≤ a := by
    rcases Nat.lt_or_ge a nx0 with hlt | hge
    · exact Or.inl (h7 a hlt (by rw [ha]; exact fun z => by cases z))
    · exact Or.inr hge
  refine ⟨fun b y hy => ?_, hz.trans h2, h3, h4, fun q hq => ?_, fun q hq hn => ?_, fun q hq hn => ?_⟩
  · by_cases hb : b = a
    · subst hb
      simp only [va_up, if_true] at hy
      cases hy
      exact hv
    · simp only [va_up, if_neg hb] at hy
      exact (h1 b y hy).kept (oq b hb)
  · rcases List.mem_append.mp hq with hq | hq
    · exact h5 q hq
    · rw [List.mem_singleton.mp hq]
      exact hown
  · have hqa : q ≠ a := by
      intro z
      subst z
      rcases hown with h | h
      · exact h hn
      · omega
    rw [oq q hqa]
    exact h6 q hq hn
  · by_cases hb : q = a
    · subst hb
      exact h7 q hq (by rw [ha]; exact fun z => by cases z)
    · simp only [va_up, if_neg hb] at hn
      exact h7 q hq hn
theorem px_Rl.new (h : px_Rl dC dI dA s w0 nx0 sl0 S H locs cells slots) (hv : va_at (dC, dI) px_cl (S.2.1, px_e dA x) H1) (hz : H1.size = S.2.1 + 1) (oq : ∀ q : Nat, q < S.2.1 → H1[q]? = H[q]?) :
    px_Rl dC dI dA s w0 nx0 sl0 (va_up S.1 S.2.1 (some x), S.2.1 + 1, S.2.2 + n) H1 locs (cells + 1) (slots + n) := by
  obtain ⟨h1, h2, h3, h4, h5, h6, h7⟩ := h
  refine ⟨fun b y hy => ?_, hz, by show nx0 + (cells + 1) = S.2.1 + 1; omega, by show sl0 + (slots + n) = S.2.2 + n; omega, h5, fun q hq hn => ?_, fun q hq hn => ?_⟩
  · by_cases hb : b = S.2.1
    · subst hb
      simp only [va_up, if_true] at hy
      cases hy
      exact hv
    · simp only [va_up, if_neg hb] at hy
      have hk := h1 b y hy
      have hl : b < H.size := hk.lt
      exact hk.kept (oq b (by omega))
  · rw [oq q (by omega)]
    exact h6 q hq hn
  · have hb : q ≠ S.2.1 := by omega
    simp only [va_up, if_neg hb] at hn
    exact h7 q hq hn
end PXR
section PXW
variable {p : Program} {l : Launch} {e : Env} {R : Room} {s : State} {m : MethodId} {args : Array Value} {below : List Frame} {meth : Method} {c : Code} {H : Heap} {locs : List Loc} {cells slots : Nat} {Q : State → Prop}
theorem px_wbt {b : Bool} {t u : Nat} {ls : Array Slot} {st : List Value} (h : W p l e R s m args below meth c H locs cells slots Q (F0 m (bif b then t else u) ls st)) (hb : b = true) : W p l e R s m args below meth c H locs cells slots Q (F0 m t ls st) := by subst hb; exact h
theorem px_wbf {b : Bool} {t u : Nat} {ls : Array Slot} {st : List Value} (h : W p l e R s m args below meth c H locs cells slots Q (F0 m (bif b then t else u) ls st)) (hb : b = false) : W p l e R s m args below meth c H locs cells slots Q (F0 m u ls st) := by subst hb; exact h
theorem px_sNA {mi : Nat} {dC : Nat → ClassId} {dI : Nat → Nat → Nat} {dA : Nat → ClassId} {w0 : px_W} {nx0 sl0 : Nat} {at0 : ArrayType} {pc : Nat} {l0 : px_L} {st : List Value} {S : px_S} {q : px_F × px_S} {z0 : vp_A} {t0 : Nat} {cc : ByteArray}
    (hx : p.tables.exec = Jvm.exec) (hb : c.code = cc) (harr : (Cond.arrayClass (newarray.typeOf at0)).before args s = true) (hq : decode cc pc = .ok (.newarray at0, 2)) (hd : px_nwa (some z0) t0 2 pc l0 st S = some q)
    (hR : px_Rl dC dI dA s w0 nx0 sl0 S H locs cells slots) (hc1 : q.2.2.1 ≤ nx0 + R.cells) (hc2 : q.2.2.2 ≤ sl0 + R.slots) (hK : px_K dC dI dA s) (ht : t0 < px_nty) (hty : px_ty t0 = newarray.typeOf at0)
    (hz : ∀ (cA : ClassId) (N : Nat), vp_cell cA (N, z0.2) = arrV cA N (fun _ => defaultValue (newarray.typeOf at0))) (hcb : componentBytes (newarray.typeOf at0) ≤ 8)
    {ls : Array Slot} (kk : ∀ (H' : Heap) (locs' : List Loc) (cells' slots' : Nat) (ls' : Array Slot), px_Rl dC dI dA s w0 nx0 sl0 q.2 H' locs' cells' slots' → lv_has ls' (px_ml mi) q.1.2.1 → W p l e R s m args below meth c H' locs' cells' slots' Q (F0 m q.1.1 ls' q.1.2.2))
    (hl : lv_has ls (px_ml mi) l0) : W p l e R s m args below meth c H locs cells slots Q (F0 m pc ls st) := by
  obtain ⟨n, r, z, hz1, hn, rfl, rfl⟩ := px_nwa_inv hd
  cases hz1
  obtain ⟨-, hsz, hn3, hn4, -⟩ := id hR
  have hn0 : ¬ n < 0 := fun z => hn (Or.inl z)
  have hn1 : ¬ 67108864 < n.toNatClampNeg := fun z => hn (Or.inr z)
  have hmul : n.toNatClampNeg * componentBytes (newarray.typeOf at0) ≤ 67108864 * 8 := Nat.mul_le_mul (by omega) hcb
  refine va_newaK hx hb harr rfl hq rfl hn0 rfl (by omega) (by simp only at hc1; omega) (by simp only at hc2; omega) hsz fun H1 cA e1 z1 o1 hAr hNm => ?_
  have hra := (hK.1.2 t0 _ (px_tys_at ht)).2
  rw [hty] at hra
  have hcA : cA = dA t0 := by
    have h9 : s.vm.findClass ("[" ++ (newarray.typeOf at0).toString) = some (dA t0) := by cases at0 <;> exact hra
    exact Option.some.inj (hNm.symm.trans h9)
  subst hcA
  exact kk H1 _ _ _ _ (hR.new (x := .inl (t0, n.toNatClampNeg, z0.2)) (by show H1[S.2.1]? = some (vp_cell _ _); rw [hz]; exact e1) z1 (fun q hq => o1 q hq)) hl
set_option maxHeartbeats 4000000 in
set_option maxRecDepth 100000 in
theorem px_s1 {mi : Nat} {dC : Nat → ClassId} {dI : Nat → Nat → Nat} {dA : Nat → ClassId} {w0 : px_W} {nx0 sl0 : Nat} (X : px_Cx p s m args meth c mi dC dI dA) {i : Instr} {pc : Nat} {l0 : px_L} {st : List Value} {S : px_S} {q : px_F × px_S}
    (hat : px_at mi pc = some i) (hd : px_do mi i pc l0 st S = some q) (hR : px_Rl dC dI dA s w0 nx0 sl0 S H locs cells slots) (hc1 : q.2.2.1 ≤ nx0 + R.cells) (hc2 : q.2.2.2 ≤ sl0 + R.slots) (hfr : 1 ≤ R.frames) (hlo : 20 ≤ R.locals)
    {ls : Array Slot} (hl : lv_has ls (px_ml mi) l0)
    (kk : ∀ (H' : Heap) (locs' : List Loc) (cells' slots' : Nat) (ls' : Array Slot), px_Rl dC dI dA s w0 nx0 sl0 q.2 H' locs' cells' slots' → lv_has ls' (px_ml mi) q.1.2.1 → W p l e R s m args below meth c H' locs' cells' slots' Q (F0 m q.1.1 ls' q.1.2.2)) :
    W p l e R s m args below meth c H locs cells slots Q (F0 m pc ls st) := by
  obtain ⟨hx, hb, hml, hown, hts, hK, hI⟩ := X
  have hq := px_at_ok hat
  cases i
  case iconst n =>
    cases px_k_inv hd
    exact lv_iconst hx hb hq rfl (kk _ _ _ _ _ hR hl)
  case bipush n =>
    cases px_k_inv hd
    exact lv_bipush hx hb hq rfl (kk _ _ _ _ _ hR hl)
  case sipush n =>
    cases px_k_inv hd
    exact lv_sipush hx hb hq rfl (kk _ _ _ _ _ hR hl)
  case lconst n =>
    cases px_k_inv hd
    exact lv_lconst hx hb hq rfl (kk _ _ _ _ _ hR hl)
  case aconst_null =>
    cases px_k_inv hd
    exact lv_null hx hb hq (kk _ _ _ _ _ hR hl)
  case iload k =>
    obtain ⟨x, hg, rfl⟩ := px_ldi_inv hd
    exact lv_iload hx hb hq (px_lat hl hg) (kk _ _ _ _ _ hR hl)
  case iload_n k =>
    obtain ⟨x, hg, rfl⟩ := px_ldi_inv hd
    exact lv_iload_n hx hb hq rfl (px_lat hl hg) (kk _ _ _ _ _ hR hl)
  case lload k =>
    obtain ⟨x, hg, rfl⟩ := px_ldl_inv hd
    exact lv_lload hx hb hq (px_lat hl hg) (kk _ _ _ _ _ hR hl)
  case lload_n k =>
    obtain ⟨x, hg, rfl⟩ := px_ldl_inv hd
    exact lv_lload_n hx hb hq rfl (px_lat hl hg) (kk _ _ _ _ _ hR hl)
  case aload k =>
    rcases px_lda_inv hd with ⟨x, hg, rfl⟩ | ⟨hg, rfl⟩
    · exact lv_aload hx hb hq (px_lat hl hg) (kk _ _ _ _ _ hR hl)
    · exact lv_aloadN hx hb hq (px_lat hl hg) (kk _ _ _ _ _ hR hl)
  case aload_n k =>
    rcases px_lda_inv hd with ⟨x, hg, rfl⟩ | ⟨hg, rfl⟩
    · exact lv_aload_n hx hb hq rfl (px_lat hl hg) (kk _ _ _ _ _ hR hl)
    · exact lv_aload_nN hx hb hq rfl (px_lat hl hg) (kk _ _ _ _ _ hR hl)
  case istore k =>
    obtain ⟨x, r, hlt, rfl, rfl⟩ := px_sti_inv hd
    exact lv_istore hx hb hq hl hlt rfl (fun _ h => kk _ _ _ _ _ hR (px_ls1_has h))
  case istore_n k =>
    obtain ⟨x, r, hlt, rfl, rfl⟩ := px_sti_inv hd
    exact lv_istore_n hx hb hq rfl hl hlt rfl (fun _ h => kk _ _ _ _ _ hR (px_ls1_has h))
  case lstore k =>
    obtain ⟨x, r, hlt, rfl, rfl⟩ := px_stl_inv hd
    exact lv_lstore hx hb hq hl hlt rfl (fun _ h => kk _ _ _ _ _ hR (px_ls2_has h))
  case lstore_n k =>
    obtain ⟨x, r, hlt, rfl, rfl⟩ := px_stl_inv hd
    exact lv_lstore_n hx hb hq rfl hl hlt rfl (fun _ h => kk _ _ _ _ _ hR (px_ls2_has h))
  case astore k =>
    rcases px_sta_inv hd with ⟨x, r, hlt, rfl, rfl⟩ | ⟨r, hlt, rfl, rfl⟩
    · exact lv_astore hx hb hq hl hlt rfl (fun _ h => kk _ _ _ _ _ hR (px_ls1_has h))
    · exact lv_astoreN hx hb hq hl hlt rfl (fun _ h => kk _ _ _ _ _ hR (px_ls1_has h))
  case astore_n k =>
    rcases px_sta_inv hd with ⟨x, r, hlt, rfl, rfl⟩ | ⟨r, hlt, rfl, rfl⟩
    · exact lv_astore_n hx hb hq rfl hl hlt rfl (fun _ h => kk _ _ _ _ _ hR (px_ls1_has h))
    · exact lv_astore_nN hx hb hq rfl hl hlt rfl (fun _ h => kk _ _ _ _ _ hR (px_ls1_has h))
  case iinc k d =>
    obtain ⟨x, hg, hlt, rfl⟩ := px_inc_inv hd
    obtain ⟨j, hj⟩ := px_lpos hg
    exact lv_iinc hx hb hq hl hj rfl hlt rfl (fun _ h => kk _ _ _ _ _ hR (px_ls1_has h))
  case iadd =>
    obtain ⟨x, y, r, rfl, rfl⟩ := px_ii_inv hd
    exact lv_iadd hx hb hq (kk _ _ _ _ _ hR hl)
  case isub =>
    obtain ⟨x, y, r, rfl, rfl⟩ := px_ii_inv hd
    exact lv_isub hx hb hq (kk _ _ _ _ _ hR hl)
  case imul =>
    obtain ⟨x, y, r, rfl, rfl⟩ := px_ii_inv hd
    exact lv_imul hx hb hq (kk _ _ _ _ _ hR hl)
  case iand =>
    obtain ⟨x, y, r, rfl, rfl⟩ := px_ii_inv hd
    exact lv_iand hx hb hq (kk _ _ _ _ _ hR hl)
  case ior =>
    obtain ⟨x, y, r, rfl, rfl⟩ := px_ii_inv hd
    exact lv_ior hx hb hq (kk _ _ _ _ _ hR hl)
  case ixor =>
    obtain ⟨x, y, r, rfl, rfl⟩ := px_ii_inv hd
    exact lv_ixor hx hb hq (kk _ _ _ _ _ hR hl)
  case ishl =>
    obtain ⟨x, y, r, rfl, rfl⟩ := px_ii_inv hd
    exact lv_ishl hx hb hq (kk _ _ _ _ _ hR hl)
  case ishr =>
    obtain ⟨x, y, r, rfl, rfl⟩ := px_ii_inv hd
    exact lv_ishr hx hb hq (kk _ _ _ _ _ hR hl)
  case iushr =>
    obtain ⟨x, y, r, rfl, rfl⟩ := px_ii_inv hd
    exact lv_iushr hx hb hq rfl (kk _ _ _ _ _ hR hl)
  case idiv =>
    obtain ⟨x, y, r, hne, rfl, rfl⟩ := px_dv_inv hd
    exact lv_idiv hx hb hq hne (kk _ _ _ _ _ hR hl)
  case irem =>
    obtain ⟨x, y, r, hne, rfl, rfl⟩ := px_dv_inv hd
    exact lv_irem hx hb hq hne (kk _ _ _ _ _ hR hl)
  case ineg =>
    obtain ⟨x, r, rfl, rfl⟩ := px_i1_inv hd
    exact lv_ineg hx hb hq (kk _ _ _ _ _ hR hl)
  case i2b =>
    obtain ⟨x, r, rfl, rfl⟩ := px_i1_inv hd
    exact lv_i2b hx hb hq rfl (kk _ _ _ _ _ hR hl)
  case i2s =>
    obtain ⟨x, r, rfl, rfl⟩ := px_i1_inv hd
    exact lv_i2s hx hb hq rfl (kk _ _ _ _ _ hR hl)
  case i2c =>
    obtain ⟨x, r, rfl, rfl⟩ := px_i1_inv hd
    exact lv_i2c hx hb hq rfl (kk _ _ _ _ _ hR hl)
  case ladd =>
    obtain ⟨x, y, r, rfl, rfl⟩ := px_ll_inv hd
    exact lv_ladd hx hb hq (kk _ _ _ _ _ hR hl)
  case lsub =>
    obtain ⟨x, y, r, rfl, rfl⟩ := px_ll_inv hd
    exact lv_lsub hx hb hq (kk _ _ _ _ _ hR hl)
  case lmul =>
    obtain ⟨x, y, r, rfl, rfl⟩ := px_ll_inv hd
    exact lv_lmul hx hb hq (kk _ _ _ _ _ hR hl)
  case land =>
    obtain ⟨x, y, r, rfl, rfl⟩ := px_ll_inv hd
    exact lv_land hx hb hq (kk _ _ _ _ _ hR hl)
  case lor =>
    obtain ⟨x, y, r, rfl, rfl⟩ := px_ll_inv hd
    exact lv_lor hx hb hq (kk _ _ _ _ _ hR hl)
  case lxor =>
    obtain ⟨x, y, r, rfl, rfl⟩ := px_ll_inv hd
    exact lv_lxor hx hb hq (kk _ _ _ _ _ hR hl)
  case lshl =>
    obtain ⟨x, y, r, rfl, rfl⟩ := px_li_inv hd
    exact lv_lshl hx hb hq rfl (kk _ _ _ _ _ hR hl)
  case lshr =>
    obtain ⟨x, y, r, rfl, rfl⟩ := px_li_inv hd
    exact lv_lshr hx hb hq rfl (kk _ _ _ _ _ hR hl)
  case lushr =>
    obtain ⟨x, y, r, rfl, rfl⟩ := px_li_inv hd
    exact lv_lushr hx hb hq rfl (kk _ _ _ _ _ hR hl)
  case lcmp =>
    obtain ⟨x, y, r, rfl, rfl⟩ := px_lc_inv hd
    exact W.lcmp hx hb hq (kk _ _ _ _ _ hR hl)
  case i2l =>
    obtain ⟨x, r, rfl, rfl⟩ := px_il_inv hd
    exact lv_i2l hx hb hq rfl (kk _ _ _ _ _ hR hl)
  case l2i =>
    obtain ⟨x, r, rfl, rfl⟩ := px_l2_inv hd
    exact lv_l2i hx hb hq rfl (kk _ _ _ _ _ hR hl)
  case dup =>
    obtain ⟨v, r, h1, rfl, rfl⟩ := px_dup_inv hd
    exact lv_dup hx hb hq h1 (kk _ _ _ _ _ hR hl)
  case pop =>
    obtain ⟨v, r, h1, rfl, rfl⟩ := px_pop_inv hd
    exact lv_pop hx hb hq h1 (kk _ _ _ _ _ hR hl)
  case dup_x1 =>
    obtain ⟨v, u, r, h1, rfl, rfl⟩ := px_dx1_inv hd
    exact lv_dup_x1 hx hb hq h1.1 h1.2 (kk _ _ _ _ _ hR hl)
  case dup_x2 =>
    obtain ⟨v, u, t, r, h1, rfl, rfl⟩ := px_dx2_inv hd
    exact lv_dup_x2 hx hb hq h1.1 h1.2.1 h1.2.2 (kk _ _ _ _ _ hR hl)
  case dup2 =>
    obtain ⟨v, u, r, h1, rfl, rfl⟩ := px_d2_inv hd
    exact lv_dup2_11 hx hb hq h1.1 h1.2 (kk _ _ _ _ _ hR hl)
  case ifCond cd off =>
    obtain ⟨x, r, t, hj, rfl, rfl⟩ := px_if0_inv hd
    cases cd
    · exact lv_if_eq hx hb hq (px_jmp_eq hj) (fun z => px_wbt (kk _ _ _ _ _ hR hl) (decide_eq_true z)) (fun z => px_wbf (kk _ _ _ _ _ hR hl) (decide_eq_false z))
    · exact lv_if_ne hx hb hq (px_jmp_eq hj) (fun z => px_wbt (kk _ _ _ _ _ hR hl) (decide_eq_true z)) (fun z => px_wbf (kk _ _ _ _ _ hR hl) (decide_eq_false (fun w => w z)))
    · exact lv_if_lt hx hb hq (px_jmp_eq hj) (fun z => px_wbt (kk _ _ _ _ _ hR hl) (decide_eq_true z)) (fun z => px_wbf (kk _ _ _ _ _ hR hl) (decide_eq_false z))
    · exact lv_if_ge hx hb hq (px_jmp_eq hj) (fun z => px_wbt (kk _ _ _ _ _ hR hl) (decide_eq_true z)) (fun z => px_wbf (kk _ _ _ _ _ hR hl) (decide_eq_false z))
    · exact lv_if_gt hx hb hq (px_jmp_eq hj) (fun z => px_wbt (kk _ _ _ _ _ hR hl) (decide_eq_true z)) (fun z => px_wbf (kk _ _ _ _ _ hR hl) (decide_eq_false z))
    · exact lv_if_le hx hb hq (px_jmp_eq hj) (fun z => px_wbt (kk _ _ _ _ _ hR hl) (decide_eq_true z)) (fun z => px_wbf (kk _ _ _ _ _ hR hl) (decide_eq_false z))
  case if_icmp cd off =>
    obtain ⟨x, y, r, t, hj, rfl, rfl⟩ := px_if2_inv hd
    cases cd
    · exact lv_icmp_eq hx hb hq (px_jmp_eq hj) (fun z => px_wbt (kk _ _ _ _ _ hR hl) (decide_eq_true z)) (fun z => px_wbf (kk _ _ _ _ _ hR hl) (decide_eq_false z))
    · exact lv_icmp_ne hx hb hq (px_jmp_eq hj) (fun z => px_wbt (kk _ _ _ _ _ hR hl) (decide_eq_true z)) (fun z => px_wbf (kk _ _ _ _ _ hR hl) (decide_eq_false (fun w => w z)))
    · exact lv_icmp_lt hx hb hq (px_jmp_eq hj) (fun z => px_wbt (kk _ _ _ _ _ hR hl) (decide_eq_true z)) (fun z => px_wbf (kk _ _ _ _ _ hR hl) (decide_eq_false z))
    · exact lv_icmp_ge hx hb hq (px_jmp_eq hj) (fun z => px_wbt (kk _ _ _ _ _ hR hl) (decide_eq_true z)) (fun z => px_wbf (kk _ _ _ _ _ hR hl) (decide_eq_false z))
    · exact lv_icmp_gt hx hb hq (px_jmp_eq hj) (fun z => px_wbt (kk _ _ _ _ _ hR hl) (decide_eq_true z)) (fun z => px_wbf (kk _ _ _ _ _ hR hl) (decide_eq_false z))
    · exact lv_icmp_le hx hb hq (px_jmp_eq hj) (fun z => px_wbt (kk _ _ _ _ _ hR hl) (decide_eq_true z)) (fun z => px_wbf (kk _ _ _ _ _ hR hl) (decide_eq_false z))
  case goto off =>
    obtain ⟨t, hj, rfl⟩ := px_go_inv hd
    exact lv_goto hx hb hq (px_jmp_eq hj) (kk _ _ _ _ _ hR hl)
  case ifnull off =>
    rcases px_nul_inv hd with ⟨r, t, hj, rfl, rfl⟩ | ⟨a, r, rfl, rfl⟩
    · exact lv_ifnullN hx hb hq (px_jmp_eq hj) (kk _ _ _ _ _ hR hl)
    · exact lv_ifnull hx hb hq (kk _ _ _ _ _ hR hl)
  case ifnonnull off =>
    rcases px_nnl_inv hd with ⟨a, r, t, hj, rfl, rfl⟩ | ⟨r, rfl, rfl⟩
    · exact lv_ifnonnull hx hb hq (px_jmp_eq hj) (kk _ _ _ _ _ hR hl)
    · exact lv_ifnonnullN hx hb hq (kk _ _ _ _ _ hR hl)
  case lookupswitch dflt ps =>
    obtain ⟨x, r, t, hj, hp, rfl, rfl⟩ := px_lsw_inv hd
    exact lv_lookup hx hb hq hp rfl (px_jmp_eq hj) (kk _ _ _ _ _ hR hl)
  case tableswitch dflt lo hi offs =>
    obtain ⟨x, r, t, rfl, rfl, ⟨ho, hj⟩ | ⟨ho, off, hof, hj⟩⟩ := px_tsw_inv hd
    · exact lv_tableOut hx hb hq ho (px_jmp_eq hj) (kk _ _ _ _ _ hR hl)
    · exact lv_tableIn hx hb hq (fun z => ho (Or.inl z)) (fun z => ho (Or.inr z)) hof (px_jmp_eq hj) (kk _ _ _ _ _ hR hl)
  case ldc ix =>
    obtain ⟨v, ho, rfl⟩ := px_kon_inv hd
    exact lv_ldc hx hb hown (hts _ (px_kc_ok ho)) hq (kk _ _ _ _ _ hR hl)
  case ldc_w ix =>
    obtain ⟨v, ho, rfl⟩ := px_kon_inv hd
    exact lv_ldcw hx hb hown (hts _ (px_kc_ok ho)) hq (kk _ _ _ _ _ hR hl)
  case ldc2_w ix =>
    obtain ⟨v, ho, rfl⟩ := px_konl_inv hd
    exact lv_ldc2 hx hb hown (hts _ (px_kl_ok ho)) hq (kk _ _ _ _ _ hR hl)
  case getfield ix =>
    obtain ⟨a, r, ci, k, fs, v, ho, hw, hv, rfl, rfl⟩ := px_get_inv hd
    obtain ⟨⟨C, T, N⟩, ⟨hcl, hin, -⟩, hkN, hlk⟩ := px_fl_ok ho
    rcases hlk with hlk | ⟨host, hlk⟩
    · exact va_get hx hb hts hin hown hK.1 (px_va1 (hR.1 a _ hw)) 0 rfl hcl k hkN (hts _ hlk) (fun _ h => h) hv hq (kk _ _ _ _ _ hR hl)
    · exact va_getN hx hb hts hin hown hK.1 (px_va1 (hR.1 a _ hw)) 0 rfl hcl k hkN (va_Nw.use rfl (hK.2.1 _ hlk)) (fun _ h => h) hv hq (kk _ _ _ _ _ hR hl)
  case putfield ix =>
    obtain ⟨v, a, r, ci, k, fs, ho, hw, hk, hfit, hmay, rfl, rfl⟩ := px_put_inv hd
    obtain ⟨⟨C, T, N⟩, ⟨hcl, hin, ⟨ty0, hty, hft, -⟩, hnm, -⟩, hkN, hlk⟩ := px_fl_ok ho
    have hd2 : parseFieldDescriptor (T k).2.2.1 = some (px_ft ci k) := by have h9 := hty k hkN; rw [hft k hkN] at h9; exact h9
    have hap := va_apart (own := px_on (px_cn mi)) hts hin ty0 hty hnm hK.1 hcl
    obtain ⟨rr, h1, cell, q1, q2, q3, q4⟩ := hR.1 a _ hw
    have hr : rr = (C, T, N) := Option.some.inj (h1.symm.trans hcl)
    subst hr
    obtain ⟨hS, hfc, kC, hkC, hkind⟩ := hK.1.1 ci _ hcl
    obtain ⟨cf, kf, fi, f, hi, hsl⟩ := hS k hkN
    have hst := (u_facts hfc hkC (u_lays hts hin hkN) hi).1
    have hlay := hts _ (hin _ (u_in_lay hkN))
    unfold u_lay at hlay
    have fin : ∀ (H' : Heap), H'[a]? = some (cell.setSlot f.slot v) → H'.size = H.size → (∀ q : Nat, q ≠ a → H'[q]? = H[q]?) → W p l e R s m args below meth c H' (locs ++ [⟨a, f.slot⟩]) cells slots Q (F0 m (pc + 3) ls r) := by
      intro H' e1 e2 e3
      rw [hsl] at e1 ⊢
      exact kk H' _ _ _ _ (hR.put hw ⟨_, hcl, t_OB.to (V := updV (vp_V fs) k v) ⟨_, e1, q2, q3, t_set q4 hap hkN v⟩ (fun j _ => vp_updV_set hk v j)⟩ e2 e3) hl
    cases hf : (T k).2.2.2 with
    | false =>
      rw [if_neg (by rw [hf]; decide)] at hlay
      have h6 := u_store hfc hkC hkind hlay hi hd2 (px_fitW hfit) (px_fitN hfit)
      rcases hlk with hlk | ⟨host, hlk⟩
      · exact W.putK hx hb (f := f) ⟨hown, hts _ hlk, ⟨_, _, _, hi⟩, hst⟩ (by rw [q2]; exact h6) q1 q3 (by rw [hsl]; exact k2_hasslot (q4 k hkN)) rfl rfl hq fin
      · exact va_WputK hx hb (f := f) hown (va_Nw.use rfl (hK.2.1 _ hlk)) hi hst (by rw [q2]; exact h6) q1 q3 (by rw [hsl]; exact k2_hasslot (q4 k hkN)) rfl rfl hq fin
    | true =>
      rw [if_pos hf] at hlay
      obtain ⟨hisI, hcn⟩ : px_isI mi = true ∧ px_cn mi = ci := by
        rcases px_may_ok hmay with h9 | h9
        · rw [List.getD_eq_getElem?_getD, hcl] at h9
          exact absurd (h9.symm.trans hf) (by decide)
        · exact h9
      have hdecl : (T k).1 = px_on (px_cn mi) := by rw [hcn]; exact px_decl hcl hkN
      have hlk : Cond.fieldLink (px_on (px_cn mi)) ix (T k).1 (T k).2.1 (T k).2.2.1 ∈ px_tbl := by
        rcases hlk with h9 | ⟨host, h9⟩
        · exact h9
        · exact absurd hdecl (px_nestF h9)
      have hcf : m.cls = cf := by
        obtain ⟨_, _, c', _, _, _, -, -, hf', -, -, -, hown2, -⟩ := Cond.laysFinal_spec hlay
        have e1 : c' = cf := by have := hi.symm.trans hf'; simp at this; exact this.1.symm
        rw [hdecl] at hown2
        rw [← e1]; exact Option.some.inj (hown.symm.trans hown2)
      have h6 := u_fits hfc hkC hkind (Or.inr hlay) hi hd2 (px_fitW hfit) (px_fitN hfit)
      exact W.putFinK hx hb hown (hts _ hlk) hi hst hcf (hI hisI) (by rw [q2]; exact h6) q1 q3 (by rw [hsl]; exact k2_hasslot (q4 k hkN)) rfl rfl hq fin
  case new ix =>
    obtain ⟨ci, ho, rfl⟩ := px_new_inv hd
    obtain ⟨⟨C, T, N⟩, ⟨hcl, hin, ⟨ty, hty, -, hdef⟩, -, hnf⟩, hlk, hins, hini⟩ := px_nc_ok ho
    have hKn := hK.1.1 ci _ hcl
    obtain ⟨-, hsz, hn3, hn4, -⟩ := id hR
    have hnf : px_nf ci = N := hnf
    have hins : Cond.instantiable C N ∈ px_tbl := hins
    have hlk : Cond.classLink (px_on (px_cn mi)) ix C ∈ px_tbl := hlk
    have hc1' : S.2.1 + 1 ≤ nx0 + R.cells := hc1
    have hc2' : S.2.2 + px_nf ci ≤ sl0 + R.slots := hc2
    refine W.newcK hx hb hown (hts _ hlk) (hts _ hins) (hts _ hini) rfl hq (by omega) (by omega) hKn.2.1 hsz fun H1 kC hkC e1 z1 o1 => ?_
    exact kk H1 _ _ _ _ (by rw [hnf]; exact hR.new ⟨_, hcl, (u_born ty hts hin hKn hkC e1 hty).to hdef⟩ z1 (fun q hq => o1 q hq)) hl
  case newarray at0 =>
    cases at0
    case int => exact px_sNA (at0 := .int) hx hb (hts _ px_acI) hq hd hR hc1 hc2 hK (by decide) rfl (fun _ _ => rfl) (by decide) kk hl
    case long => exact px_sNA (at0 := .long) hx hb (hts _ px_acL) hq hd hR hc1 hc2 hK (by decide) rfl (fun _ _ => rfl) (by decide) kk hl
    case char => exact px_sNA (at0 := .char) hx hb (hts _ px_acC) hq hd hR hc1 hc2 hK (by decide) rfl (fun _ _ => rfl) (by decide) kk hl
    case boolean => exact px_sNA (at0 := .boolean) hx hb (hts _ px_acZ) hq hd hR hc1 hc2 hK (by decide) rfl (fun _ _ => rfl) (by decide) kk hl
    all_goals (have h9 : (none : px_R) = some q := hd; cases h9)
  case anewarray ix =>
    obtain ⟨n, r, z, hz, hn, rfl, rfl⟩ := px_nwa_inv hd
    cases ho : px_an (px_cn mi) ix with
    | none => rw [ho] at hz; cases hz
    | some t =>
      rw [ho] at hz
      simp only [Option.map_some, Option.some.injEq] at hz
      subst hz
      obtain ⟨C, ht, hty, hlk⟩ := px_an_ok ho
      obtain ⟨-, hsz, hn3, hn4, -⟩ := id hR
      have hn0 : ¬ n < 0 := fun z => hn (Or.inl z)
      have hn1 : ¬ 67108864 < n.toNatClampNeg := fun z => hn (Or.inr z)
      rw [ho] at hc1 hc2 kk
      refine W.anew hx hb hown (hts _ hlk) (va_AO.use (hK.2.2 t ht C hty)) rfl hq rfl hn0 (by omega) (by simp only at hc1; omega) (by simp only at hc2; omega) fun cA kA comp f1 f2 f3 f4 => ?_
      obtain ⟨kA', comp', g1, g2, g3, g4⟩ : va_RA s (dA t) (.object C) := by
        have := (hK.1.2 t _ (px_tys_at ht)).2
        rw [hty] at this; exact this
      cases f1.symm.trans g4
      have e1 : (H.push ({ cls := dA t, slots := Array.replicate n.toNatClampNeg .null, vm := .none } : Cell))[S.2.1]? = some (arrV (dA t) n.toNatClampNeg (fun _ => .null)) := by rw [← hsz, Array.getElem?_push_size, ← arrV_new]
      rw [hsz]
      exact kk _ _ _ _ _ (hR.new (x := .inl (t, n.toNatClampNeg, .inr (.inr (.inr (.inr (fun _ => none)))))) (by show (H.push _)[S.2.1]? = some (vp_cell _ _); rw [vp_cell_q]; exact e1) (by rw [Array.size_push, hsz]) (fun q hq => by rw [Array.getElem?_push, if_neg (by omega)])) hl
  case arraylength =>
    obtain ⟨a, r, t, x, hw, ht, rfl, rfl⟩ := px_len_inv hd
    exact va_alen hx hb hK.1 (px_va1 (hR.1 a _ hw)) 0 t rfl (px_tys_at ht) rfl hq (kk _ _ _ _ _ hR hl)
  case iaload =>
    obtain ⟨i, a, r, t, n, f, hw, rfl, hin, rfl, rfl⟩ := px_ali_inv hd
    exact va_iald hx hb hK.1 (px_va1 (hR.1 a _ hw)) 0 0 rfl (px_tys_at (by decide)) (px_inv hin) hq (kk _ _ _ _ _ hR hl)
  case baload =>
    obtain ⟨i, a, r, t, n, f, hw, rfl, hin, rfl, rfl⟩ := px_ali_inv hd
    exact va_zald hx hb hK.1 (px_va1 (hR.1 a _ hw)) 0 2 rfl (px_tys_at (by decide)) (px_inv hin) hq (kk _ _ _ _ _ hR hl)
  case caload =>
    obtain ⟨i, a, r, t, n, f, hw, rfl, hin, rfl, rfl⟩ := px_ali_inv hd
    exact va_cald hx hb hK.1 (px_va1 (hR.1 a _ hw)) 0 3 rfl (px_tys_at (by decide)) (px_inv hin) hq (kk _ _ _ _ _ hR hl)
  case laload =>
    obtain ⟨i, a, r, t, n, f, hw, rfl, hin, rfl, rfl⟩ := px_all_inv hd
    exact va_lald hx hb hK.1 (px_va1 (hR.1 a _ hw)) 0 1 rfl (px_tys_at (by decide)) (px_inv hin) hq (kk _ _ _ _ _ hR hl)
  case aaload =>
    obtain ⟨i, a, r, t, n, f, hw, htr, hin, rfl, rfl⟩ := px_ala_inv hd
    obtain ⟨C, ht, hty⟩ := px_tr_ok htr
    exact va_aldq (C := C) hx hb hK.1 (px_va1 (hR.1 a _ hw)) 0 t rfl (by rw [px_tys_at ht, hty]) (px_inv hin) hq (kk _ _ _ _ _ hR hl)
  case iastore =>
    obtain ⟨x, i, a, r, n, f, hw, hin, -, rfl, rfl⟩ := px_asi_inv hd
    refine W.iast hx hb (hR.1 a _ hw) ((hK.1.2 0 _ (px_tys_at (by decide))).1 n (fun j => .int (f j))) (fun q => by cases q) (by show ¬ (i < 0 ∨ (arrV _ _ _).slots.size ≤ _); rw [arrV_size]; exact px_inv hin) rfl rfl hq fun H1 e z oq => ?_
    refine kk H1 _ _ _ _ (hR.put hw ?_ z oq) hl
    show H1[a]? = some (vp_cell _ _)
    rw [e]
    rw [vp_cell_i, vp_cell_i, arrV_store]
    congr 2
    funext j
    by_cases hj : j = i.toNatClampNeg
    · subst hj; simp [updV, upd]
    · simp [updV, upd, hj]
  case lastore =>
    obtain ⟨x, i, a, r, n, f, hw, hin, rfl, rfl⟩ := px_asl_inv hd
    refine W.last hx hb (hR.1 a _ hw) ((hK.1.2 1 _ (px_tys_at (by decide))).1 n (fun j => .long (f j))) (fun q => by cases q) (by show ¬ (i < 0 ∨ (arrV _ _ _).slots.size ≤ _); rw [arrV_size]; exact px_inv hin) rfl rfl hq fun H1 e z oq => ?_
    refine kk H1 _ _ _ _ (hR.put hw ?_ z oq) hl
    show H1[a]? = some (vp_cell _ _)
    rw [e]
    rw [vp_cell_l, vp_cell_l, arrV_store]
    congr 2
    funext j
    by_cases hj : j = i.toNatClampNeg
    · subst hj; simp [updV, vp_updL]
    · simp [updV, vp_updL, hj]
  case bastore =>
    obtain ⟨x, i, a, r, n, f, hw, hin, hfit, rfl, rfl⟩ := px_asi_inv hd
    refine W.zast hx hb (hR.1 a _ hw) ((hK.1.2 2 _ (px_tys_at (by decide))).1 n (fun j => .int (f j))) (fun q => by cases q) (by show ¬ (i < 0 ∨ (arrV _ _ _).slots.size ≤ _); rw [arrV_size]; exact px_inv hin) rfl rfl hq fun H1 e z oq => ?_
    rw [show narrow .boolean (.int x) = .int x from px_fitW (ty := .boolean) hfit] at e
    refine kk H1 _ _ _ _ (hR.put hw ?_ z oq) hl
    show H1[a]? = some (vp_cell _ _)
    rw [e]
    rw [vp_cell_i, vp_cell_i, arrV_store]
    congr 2
    funext j
    by_cases hj : j = i.toNatClampNeg
    · subst hj; simp [updV, upd]
    · simp [updV, upd, hj]
  case castore =>
    obtain ⟨x, i, a, r, n, f, hw, hin, hfit, rfl, rfl⟩ := px_asi_inv hd
    refine W.cast hx hb (hR.1 a _ hw) ((hK.1.2 3 _ (px_tys_at (by decide))).1 n (fun j => .int (f j))) (fun q => by cases q) (by show ¬ (i < 0 ∨ (arrV _ _ _).slots.size ≤ _); rw [arrV_size]; exact px_inv hin) rfl rfl hq fun H1 e z oq => ?_
    rw [show narrow .char (.int x) = .int x from px_fitW (ty := .char) hfit] at e
    refine kk H1 _ _ _ _ (hR.put hw ?_ z oq) hl
    show H1[a]? = some (vp_cell _ _)
    rw [e]
    rw [vp_cell_i, vp_cell_i, arrV_store]
    congr 2
    funext j
    by_cases hj : j = i.toNatClampNeg
    · subst hj; simp [updV, upd]
    · simp [updV, upd, hj]
  case aastore =>
    obtain ⟨i, a, r, t, n, f, hw, htr, hin, ⟨v, ci, fs, hv, htc, rfl, rfl⟩ | ⟨rfl, rfl⟩⟩ := px_asa_inv hd
    · obtain ⟨C, ht, hty⟩ := px_tr_ok htr
      obtain ⟨rc, hcl, hnm⟩ := px_tc_ok htc hty
      obtain ⟨r', hr', cellV, g1, g2, g3, -⟩ := hR.1 v _ hv
      have hcls := (hK.1.1 ci rc hcl).2
      obtain ⟨kA, comp, k1, k2, k3, -⟩ : va_RA s (dA t) (.object C) := by have := (hK.1.2 t _ (px_tys_at ht)).2; rw [hty] at this; exact this
      have hcomp : comp = dC ci := Option.some.inj (k3.symm.trans (by rw [← hnm]; exact hcls.1))
      subst hcomp
      obtain ⟨kC, hkC, -⟩ := hcls.2
      have h0 : ¬ i < 0 := fun z => px_inv hin (Or.inl z)
      have hlt : i.toNatClampNeg < n := Nat.not_le.mp fun z => px_inv hin (Or.inr z)
      refine W.aast hx hb (hR.1 a _ hw) (fun q h => by cases h) (fun h => by cases h) k1 k2 rfl hkC ⟨h0, by show _ < (arrV _ _ _).slots.size; rw [arrV_size]; exact hlt⟩ g1 (fun q h => by rw [g3] at h; cases h) (by rw [g2]; exact hkC) (by rw [g2]; exact va_assign hcls) rfl rfl hq fun H1 e z oq => ?_
      refine kk H1 _ _ _ _ (hR.put hw ?_ z oq) hl
      show H1[a]? = some (vp_cell _ _)
      rw [e]
      rw [vp_cell_q, vp_cell_q, arrV_store]
      congr 2
      funext j
      by_cases hj : j = i.toNatClampNeg
      · subst hj; simp [updV, va_up, va_rf]
      · simp [updV, va_up, va_rf, hj]
    · obtain ⟨C, ht, hty⟩ := px_tr_ok htr
      have hAr := (hK.1.2 t _ (px_tys_at ht)).1
      rw [hty] at hAr
      refine va_WaastN (C := C) hx hb (hR.1 a _ hw) (hAr n (fun j => va_rf (f j))) (fun h => by cases h) (by show ¬ (i < 0 ∨ (arrV _ _ _).slots.size ≤ _); rw [arrV_size]; exact px_inv hin) rfl rfl hq fun H1 e z oq => ?_
      refine kk H1 _ _ _ _ (hR.put hw ?_ z oq) hl
      show H1[a]? = some (vp_cell _ _)
      rw [e]
      rw [vp_cell_q, vp_cell_q, arrV_store]
      congr 2
      funext j
      by_cases hj : j = i.toNatClampNeg
      · subst hj; simp [updV, va_up, va_rf]
      · simp [updV, va_up, va_rf, hj]
  case invokespecial ix =>
    obtain ⟨a, r, ho, hsum, rfl, rfl⟩ := px_ob_inv hd
    have g1 := px_oi_ok ho
    exact W.objInit hx hb hown (hts _ g1) (hts _ px_oiI) (hts _ px_oiC) rfl (by rw [hml]; exact hl.1) rfl hq hfr (by show 2 * 0 + _ + 12 ≤ _; omega) (kk _ _ _ _ _ hR hl)
  all_goals (have h9 : (none : px_R) = some q := hd; cases h9)
end PXW
end
section
/-! ===== runs grow, and are the machine's ===== -/
def px_Mo (S S' : px_S) : Prop := S.2.1 ≤ S'.2.1 ∧ S.2.2 ≤ S'.2.2 ∧ ∀ z : Nat, z < S.2.1 → S.1 z = none → S'.1 z = none
theorem px_Mo.rf {S : px_S} : px_Mo S S := ⟨Nat.le_refl _, Nat.le_refl _, fun _ _ h => h⟩
theorem px_Mo.tr {S S1 S2 : px_S} (h : px_Mo S S1) (k : px_Mo S1 S2) : px_Mo S S2 := ⟨Nat.le_trans h.1 k.1, Nat.le_trans h.2.1 k.2.1, fun z hz hn => k.2.2 z (Nat.lt_of_lt_of_le hz h.1) (h.2.2 z hz hn)⟩
theorem px_Mo.put {S : px_S} {a : Nat} {x : px_E} {y : Option px_E} (ha : S.1 a = some x) : px_Mo S (va_up S.1 a y, S.2) := by
  refine ⟨Nat.le_refl _, Nat.le_refl _, fun z _ hn => ?_⟩
  have hza : z ≠ a := fun q => by rw [q, ha] at hn; cases hn
  show va_up S.1 a y z = none
  simp only [va_up, if_neg hza]
  exact hn
theorem px_Mo.new {S : px_S} {y : Option px_E} {n : Nat} : px_Mo S (va_up S.1 S.2.1 y, S.2.1 + 1, S.2.2 + n) := by
  refine ⟨Nat.le_succ _, Nat.le_add_right _ _, fun z hz hn => ?_⟩
  have hza : z ≠ S.2.1 := by omega
  show va_up S.1 S.2.1 y z = none
  simp only [va_up, if_neg hza]
  exact hn
set_option maxHeartbeats 4000000 in
theorem px_do_mo {mi : Nat} {i : Instr} {pc : Nat} {ls : px_L} {st : List Value} {S : px_S} {q : px_F × px_S} (hd : px_do mi i pc ls st S = some q) : px_Mo S q.2 := by
  cases i
  case iconst n =>
    cases px_k_inv hd; exact px_Mo.rf
  case bipush n =>
    cases px_k_inv hd; exact px_Mo.rf
  case sipush n =>
    cases px_k_inv hd; exact px_Mo.rf
  case lconst n =>
    cases px_k_inv hd; exact px_Mo.rf
  case aconst_null =>
    cases px_k_inv hd; exact px_Mo.rf
  case iload k =>
    obtain ⟨x, hg, rfl⟩ := px_ldi_inv hd; exact px_Mo.rf
  case iload_n k =>
    obtain ⟨x, hg, rfl⟩ := px_ldi_inv hd; exact px_Mo.rf
  case lload k =>
    obtain ⟨x, hg, rfl⟩ := px_ldl_inv hd; exact px_Mo.rf
  case lload_n k =>
    obtain ⟨x, hg, rfl⟩ := px_ldl_inv hd; exact px_Mo.rf
  case aload k =>
    rcases px_lda_inv hd with ⟨x, hg, rfl⟩ | ⟨hg, rfl⟩ <;> exact px_Mo.rf
  case aload_n k =>
    rcases px_lda_inv hd with ⟨x, hg, rfl⟩ | ⟨hg, rfl⟩ <;> exact px_Mo.rf
  case istore k =>
    obtain ⟨x, r, hlt, rfl, rfl⟩ := px_sti_inv hd; exact px_Mo.rf
  case istore_n k =>
    obtain ⟨x, r, hlt, rfl, rfl⟩ := px_sti_inv hd; exact px_Mo.rf
  case lstore k =>
    obtain ⟨x, r, hlt, rfl, rfl⟩ := px_stl_inv hd; exact px_Mo.rf
  case lstore_n k =>
    obtain ⟨x, r, hlt, rfl, rfl⟩ := px_stl_inv hd; exact px_Mo.rf
  case astore k =>
    rcases px_sta_inv hd with ⟨x, r, hlt, rfl, rfl⟩ | ⟨r, hlt, rfl, rfl⟩ <;> exact px_Mo.rf
  case astore_n k =>
    rcases px_sta_inv hd with ⟨x, r, hlt, rfl, rfl⟩ | ⟨r, hlt, rfl, rfl⟩ <;> exact px_Mo.rf
  case iinc k d =>
    obtain ⟨x, hg, hlt, rfl⟩ := px_inc_inv hd; exact px_Mo.rf
  case iadd =>
    obtain ⟨x, y, r, rfl, rfl⟩ := px_ii_inv hd; exact px_Mo.rf
  case isub =>
    obtain ⟨x, y, r, rfl, rfl⟩ := px_ii_inv hd; exact px_Mo.rf
  case imul =>
    obtain ⟨x, y, r, rfl, rfl⟩ := px_ii_inv hd; exact px_Mo.rf
  case iand =>
    obtain ⟨x, y, r, rfl, rfl⟩ := px_ii_inv hd; exact px_Mo.rf
  case ior =>
    obtain ⟨x, y, r, rfl, rfl⟩ := px_ii_inv hd; exact px_Mo.rf
  case ixor =>
    obtain ⟨x, y, r, rfl, rfl⟩ := px_ii_inv hd; exact px_Mo.rf
  case ishl =>
    obtain ⟨x, y, r, rfl, rfl⟩ := px_ii_inv hd; exact px_Mo.rf
  case ishr =>
    obtain ⟨x, y, r, rfl, rfl⟩ := px_ii_inv hd; exact px_Mo.rf
  case iushr =>
    obtain ⟨x, y, r, rfl, rfl⟩ := px_ii_inv hd; exact px_Mo.rf
  case idiv =>
    obtain ⟨x, y, r, hne, rfl, rfl⟩ := px_dv_inv hd; exact px_Mo.rf
  case irem =>
    obtain ⟨x, y, r, hne, rfl, rfl⟩ := px_dv_inv hd; exact px_Mo.rf
  case ineg =>
    obtain ⟨x, r, rfl, rfl⟩ := px_i1_inv hd; exact px_Mo.rf
  case i2b =>
    obtain ⟨x, r, rfl, rfl⟩ := px_i1_inv hd; exact px_Mo.rf
  case i2s =>
    obtain ⟨x, r, rfl, rfl⟩ := px_i1_inv hd; exact px_Mo.rf
  case i2c =>
    obtain ⟨x, r, rfl, rfl⟩ := px_i1_inv hd; exact px_Mo.rf
  case ladd =>
    obtain ⟨x, y, r, rfl, rfl⟩ := px_ll_inv hd; exact px_Mo.rf
  case lsub =>
    obtain ⟨x, y, r, rfl, rfl⟩ := px_ll_inv hd; exact px_Mo.rf
  case lmul =>
    obtain ⟨x, y, r, rfl, rfl⟩ := px_ll_inv hd; exact px_Mo.rf
  case land =>
    obtain ⟨x, y, r, rfl, rfl⟩ := px_ll_inv hd; exact px_Mo.rf
  case lor =>
    obtain ⟨x, y, r, rfl, rfl⟩ := px_ll_inv hd; exact px_Mo.rf
  case lxor =>
    obtain ⟨x, y, r, rfl, rfl⟩ := px_ll_inv hd; exact px_Mo.rf
  case lshl =>
    obtain ⟨x, y, r, rfl, rfl⟩ := px_li_inv hd; exact px_Mo.rf
  case lshr =>
    obtain ⟨x, y, r, rfl, rfl⟩ := px_li_inv hd; exact px_Mo.rf
  case lushr =>
    obtain ⟨x, y, r, rfl, rfl⟩ := px_li_inv hd; exact px_Mo.rf
  case lcmp =>
    obtain ⟨x, y, r, rfl, rfl⟩ := px_lc_inv hd; exact px_Mo.rf
  case i2l =>
    obtain ⟨x, r, rfl, rfl⟩ := px_il_inv hd; exact px_Mo.rf
  case l2i =>
    obtain ⟨x, r, rfl, rfl⟩ := px_l2_inv hd; exact px_Mo.rf
  case dup =>
    obtain ⟨v, r, h1, rfl, rfl⟩ := px_dup_inv hd; exact px_Mo.rf
  case pop =>
    obtain ⟨v, r, h1, rfl, rfl⟩ := px_pop_inv hd; exact px_Mo.rf
  case dup_x1 =>
    obtain ⟨v, u, r, h1, rfl, rfl⟩ := px_dx1_inv hd; exact px_Mo.rf
  case dup_x2 =>
    obtain ⟨v, u, t, r, h1, rfl, rfl⟩ := px_dx2_inv hd; exact px_Mo.rf
  case dup2 =>
    obtain ⟨v, u, r, h1, rfl, rfl⟩ := px_d2_inv hd; exact px_Mo.rf
  case ifCond cd off =>
    obtain ⟨x, r, t, hj, rfl, rfl⟩ := px_if0_inv hd; exact px_Mo.rf
  case if_icmp cd off =>
    obtain ⟨x, y, r, t, hj, rfl, rfl⟩ := px_if2_inv hd; exact px_Mo.rf
  case goto off =>
    obtain ⟨t, hj, rfl⟩ := px_go_inv hd; exact px_Mo.rf
  case ifnull off =>
    rcases px_nul_inv hd with ⟨r, t, hj, rfl, rfl⟩ | ⟨a, r, rfl, rfl⟩ <;> exact px_Mo.rf
  case ifnonnull off =>
    rcases px_nnl_inv hd with ⟨a, r, t, hj, rfl, rfl⟩ | ⟨r, rfl, rfl⟩ <;> exact px_Mo.rf
  case lookupswitch dflt ps =>
    obtain ⟨x, r, t, hj, hp, rfl, rfl⟩ := px_lsw_inv hd; exact px_Mo.rf
  case tableswitch dflt lo hi offs =>
    obtain ⟨x, r, t, rfl, rfl, -⟩ := px_tsw_inv hd; exact px_Mo.rf
  case ldc ix =>
    obtain ⟨v, ho, rfl⟩ := px_kon_inv hd; exact px_Mo.rf
  case ldc_w ix =>
    obtain ⟨v, ho, rfl⟩ := px_kon_inv hd; exact px_Mo.rf
  case ldc2_w ix =>
    obtain ⟨v, ho, rfl⟩ := px_konl_inv hd; exact px_Mo.rf
  case getfield ix =>
    obtain ⟨a, r, ci, k, fs, v, ho, hw, hv, rfl, rfl⟩ := px_get_inv hd; exact px_Mo.rf
  case putfield ix =>
    obtain ⟨v, a, r, ci, k, fs, ho, hw, hk, hfit, hmay, rfl, rfl⟩ := px_put_inv hd; exact px_Mo.put hw
  case new ix =>
    obtain ⟨ci, ho, rfl⟩ := px_new_inv hd; exact px_Mo.new
  case newarray at0 =>
    cases at0
    case int => obtain ⟨n, r, z, hz, hn, rfl, rfl⟩ := px_nwa_inv hd; exact px_Mo.new
    case long => obtain ⟨n, r, z, hz, hn, rfl, rfl⟩ := px_nwa_inv hd; exact px_Mo.new
    case char => obtain ⟨n, r, z, hz, hn, rfl, rfl⟩ := px_nwa_inv hd; exact px_Mo.new
    case boolean => obtain ⟨n, r, z, hz, hn, rfl, rfl⟩ := px_nwa_inv hd; exact px_Mo.new
    all_goals (have h9 : (none : px_R) = some q := hd; cases h9)
  case anewarray ix =>
    obtain ⟨n, r, z, hz, hn, rfl, rfl⟩ := px_nwa_inv hd; exact px_Mo.new
  case arraylength =>
    obtain ⟨a, r, t, x, hw, ht, rfl, rfl⟩ := px_len_inv hd; exact px_Mo.rf
  case iaload =>
    obtain ⟨i, a, r, t, n, f, hw, ht, hin, rfl, rfl⟩ := px_ali_inv hd; exact px_Mo.rf
  case baload =>
    obtain ⟨i, a, r, t, n, f, hw, ht, hin, rfl, rfl⟩ := px_ali_inv hd; exact px_Mo.rf
  case caload =>
    obtain ⟨i, a, r, t, n, f, hw, ht, hin, rfl, rfl⟩ := px_ali_inv hd; exact px_Mo.rf
  case laload =>
    obtain ⟨i, a, r, t, n, f, hw, ht, hin, rfl, rfl⟩ := px_all_inv hd; exact px_Mo.rf
  case aaload =>
    obtain ⟨i, a, r, t, n, f, hw, ht, hin, rfl, rfl⟩ := px_ala_inv hd; exact px_Mo.rf
  case iastore =>
    obtain ⟨x, i, a, r, n, f, hw, hin, -, rfl, rfl⟩ := px_asi_inv hd; exact px_Mo.put hw
  case bastore =>
    obtain ⟨x, i, a, r, n, f, hw, hin, -, rfl, rfl⟩ := px_asi_inv hd; exact px_Mo.put hw
  case castore =>
    obtain ⟨x, i, a, r, n, f, hw, hin, -, rfl, rfl⟩ := px_asi_inv hd; exact px_Mo.put hw
  case lastore =>
    obtain ⟨x, i, a, r, n, f, hw, hin, rfl, rfl⟩ := px_asl_inv hd; exact px_Mo.put hw
  case aastore =>
    obtain ⟨i, a, r, t, n, f, hw, htr, hin, ⟨v, ci, fs, hv, htc, rfl, rfl⟩ | ⟨rfl, rfl⟩⟩ := px_asa_inv hd <;> exact px_Mo.put hw
  case invokespecial ix =>
    obtain ⟨a, r, ho, hsum, rfl, rfl⟩ := px_ob_inv hd; exact px_Mo.rf
  all_goals (have h9 : (none : px_R) = some q := hd; cases h9)
theorem px_step_mo {mi : Nat} {f : px_F} {S : px_S} {q : px_F × px_S} (h : px_step mi f S = some q) : px_Mo S q.2 := by
  unfold px_step at h
  split at h
  · exact px_do_mo h
  · cases h
theorem px_Run_mo {C : px_C} (hC : ∀ mj As S v S', C mj As S v S' → px_Mo S S') {mi : Nat} : ∀ (n : Nat) (f : px_F) (S : px_S) (v : Option Value) (S' : px_S), px_Run C mi n f S v S' → px_Mo S S'
  | 0, _, _, _, _, h => h.elim
  | n + 1, f, S, v, S', h => by
    rcases h with ⟨-, h⟩ | ⟨f1, S1, h1, h2⟩ | ⟨mj, As, r, v1, S1, h1, h2, h3⟩
    · rw [h]; exact px_Mo.rf
    · exact (px_step_mo h1).tr (px_Run_mo hC n _ _ _ _ h2)
    · exact (hC _ _ _ _ _ h2).tr (px_Run_mo hC n _ _ _ _ h3)
theorem px_Ev_mo : ∀ (d mj : Nat) (As : List Value) (S : px_S) (v : Option Value) (S' : px_S), px_Ev d mj As S v S' → px_Mo S S'
  | 0, _, _, _, _, _, h => h.elim
  | d + 1, _, _, _, _, _, h => h.2.elim fun n hn => px_Run_mo (px_Ev_mo d) n _ _ _ _ hn
/-- what a method asks and gives, by the pure machine -/
def px_Pc (dC : Nat → ClassId) (dI : Nat → Nat → Nat) (dA : Nat → ClassId) (As : List Value) (S : px_S) : Array Value → State → Prop := fun a U => a = As.toArray ∧ px_hold dC dI dA S.1 U.heap ∧ U.heap.size = S.2.1 ∧ px_K dC dI dA U
def px_Qc (dC : Nat → ClassId) (dI : Nat → Nat → Nat) (dA : Nat → ClassId) (S : px_S) (v : Option Value) (S' : px_S) : Array Value → State → Outcome → State → Prop := fun _ st o t => o = .returned v ∧ px_hold dC dI dA S'.1 t.heap ∧ t.heap.size = S'.2.1 ∧ ∀ q : Nat, q < st.heap.size → S.1 q = none → t.heap[q]? = st.heap[q]?
def px_fr (S : px_S) : Addr → Prop := fun q => S.1 q ≠ none ∨ S.2.1 ≤ q
def px_rm (d c n : Nat) : Room := { frames := d, cells := c, slots := n, locals := 100 * d + 20 }
def px_ws (mi : Nat) : List Cond := Cond.code (px_y mi) (px_b mi) (px_ml mi) (px_rt mi) :: px_tbl
def px_Met (l : Launch) (dC : Nat → ClassId) (dI : Nat → Nat → Nat) (dA : Nat → ClassId) (d mi : Nat) (As : List Value) (S : px_S) (v : Option Value) (S' : px_S) : Prop :=
  Met l (px_y mi) (px_ws mi) (px_rm d (S'.2.1 - S.2.1) (S'.2.2 - S.2.2)) (px_Pc dC dI dA As S) (px_Qc dC dI dA S v S') (S'.2.1 - S.2.1) (S'.2.2 - S.2.2) (px_fr S)
theorem px_K.same {dC : Nat → ClassId} {dI : Nat → Nat → Nat} {dA : Nat → ClassId} {u U : State} (h : u.vm = U.vm) (hK : px_K dC dI dA u) : px_K dC dI dA U :=
  ⟨va_K.moved (by rw [h]; exact Vm.Alike.refl _) hK.1, fun w hw => (hK.2.1 w hw).same (px_nw_t w hw) h, fun t ht C hC => (hK.2.2 t ht C hC).moved (by rw [h]; exact Vm.Alike.refl _)⟩
theorem px_K.warm {dC : Nat → ClassId} {dI : Nat → Nat → Nat} {dA : Nat → ClassId} {s U : State} (hW : s.WarmedH U.vm) (hK : px_K dC dI dA s) : px_K dC dI dA U :=
  ⟨va_K.moved hW.alike hK.1, fun w hw => px_nw_w w hw hW (hK.2.1 w hw), fun t ht C hC => (hK.2.2 t ht C hC).moved hW.alike⟩
theorem px_blind {dC : Nat → ClassId} {dI : Nat → Nat → Nat} {dA : Nat → ClassId} {As : List Value} {S : px_S} : FrameBlind (px_Pc dC dI dA As S) := fun a U g mk h => ⟨h.1, h.2.1, h.2.2.1, px_K.same (u := U) (U := U.calling g mk a) rfl h.2.2.2⟩
section PXC
variable {p : Program} {l : Launch} {e : Env} {R : Room} {s : State} {m : MethodId} {args : Array Value} {below : List Frame} {meth : Method} {c : Code} {H : Heap} {locs : List Loc} {cells slots : Nat} {Q : State → Prop}
/-- behind a call -/
theorem px_back {dC : Nat → ClassId} {dI : Nat → Nat → Nat} {dA : Nat → ClassId} {w0 : px_W} {nx0 sl0 : Nat} {S S1 : px_S} {v : Option Value} {pc : Nat} {ls : Array Slot} {st r : List Value} {a : Array Value} (hmo : px_Mo S S1)
    (hr : va_Run p l e R s m args below meth c H locs cells slots (S1.2.1 - S.2.1) (S1.2.2 - S.2.2) (F0 m pc ls st) r (px_Qc dC dI dA S v S1 a) (px_fr S)) (hR : px_Rl dC dI dA s w0 nx0 sl0 S H locs cells slots)
    (kk : ∀ (H' : Heap) (locs' : List Loc) (cells' slots' : Nat), px_Rl dC dI dA s w0 nx0 sl0 S1 H' locs' cells' slots' → W p l e R s m args below meth c H' locs' cells' slots' Q (F0 m (pc + 3) ls (v.toList ++ r))) :
    W p l e R s m args below meth c H locs cells slots Q (F0 m pc ls st) := by
  intro T hT X
  obtain ⟨v', st0, t, T', L, h0, X', hL, e1, -, ⟨hv, hh, hz, hk⟩, go⟩ := hr T hT X
  cases hv
  obtain ⟨h1, h2, h3, h4, h5, h6, h7⟩ := hR
  rw [h0] at hk
  obtain ⟨m1, m2, m3⟩ := hmo
  have hown : ∀ q : Nat, px_fr S q → w0 q ≠ none ∨ nx0 ≤ q := by
    intro q hq
    rcases Nat.lt_or_ge q nx0 with hlt | hge
    · rcases hq with hq | hq
      · exact Or.inl (h7 q hlt hq)
      · omega
    · exact Or.inr hge
  obtain ⟨t2, a1, b1⟩ := kk T'.heap (locs ++ L) (cells + (S1.2.1 - S.2.1)) (slots + (S1.2.2 - S.2.2)) ⟨by rw [e1]; exact hh, by rw [e1]; exact hz, by omega, by omega, fun q hq => by
      rcases List.mem_append.mp hq with h | h
      · exact h5 q h
      · exact hown _ (hL q h), fun q hq hn => by
      have hSn : S.1 q = none := by
        cases hs : S.1 q with
        | none => rfl
        | some y => exact absurd hn (h7 q hq (by rw [hs]; exact fun z => by cases z))
      rw [e1, hk q (by omega) hSn]
      exact h6 q hq hn, fun q hq hn => by
      refine h7 q hq (fun z => hn (m3 q (by omega) z))⟩ T' rfl X'
  exact ⟨t2, go t2 a1, b1⟩
end PXC

theorem px_rv_inv {i : Instr} {rt : Option FieldType} {st : List Value} {v : Option Value} (h : px_rv i rt st = some v) :
    (i = .return_ ∧ rt = none ∧ st = [] ∧ v = none) ∨ (i = .ireturn ∧ ∃ t x, rt = some t ∧ st = [.int x] ∧ px_fit t (.int x) = true ∧ v = some (.int x)) ∨
    (i = .lreturn ∧ rt = some .long ∧ ∃ x, st = [.long x] ∧ v = some (.long x)) ∨ (i = .areturn ∧ ∃ t a, rt = some t ∧ ((∃ n, t = .object n) ∨ ∃ u, t = .array u) ∧ (a = .null ∨ ∃ b, a = .ref b) ∧ st = [a] ∧ v = some a) := by
  unfold px_rv at h
  split at h
  · cases h; exact Or.inl ⟨rfl, rfl, rfl, rfl⟩
  · rename_i t x
    cases hc : px_fit t (.int x) with
    | true => rw [hc] at h; cases h; exact Or.inr (Or.inl ⟨rfl, _, _, rfl, rfl, hc, rfl⟩)
    | false => rw [hc] at h; cases h
  · cases h; exact Or.inr (Or.inr (Or.inl ⟨rfl, rfl, _, rfl, rfl⟩))
  · cases h; exact Or.inr (Or.inr (Or.inr ⟨rfl, _, _, rfl, Or.inl ⟨_, rfl⟩, Or.inr ⟨_, rfl⟩, rfl, rfl⟩))
  · cases h; exact Or.inr (Or.inr (Or.inr ⟨rfl, _, _, rfl, Or.inl ⟨_, rfl⟩, Or.inl rfl, rfl, rfl⟩))
  · cases h; exact Or.inr (Or.inr (Or.inr ⟨rfl, _, _, rfl, Or.inr ⟨_, rfl⟩, Or.inr ⟨_, rfl⟩, rfl, rfl⟩))
  · cases h; exact Or.inr (Or.inr (Or.inr ⟨rfl, _, _, rfl, Or.inr ⟨_, rfl⟩, Or.inl rfl, rfl, rfl⟩))
  · cases h
theorem px_cs_inv {o : Option (Nat × Nat × Nat)} {st : List Value} {mj : Nat} {As r : List Value} (h : px_cs o st = some (mj, As, r)) :
    o = some (0, mj, As.length) ∧ st = As.reverse ++ r ∧ (r.map fun v => v.category).sum ≤ 8 := by
  unfold px_cs at h
  split at h
  · rename_i mj' n
    cases hc : (Nat.ble n st.length && Nat.ble (((st.drop n).map fun v => v.category).sum) 8) with
    | true =>
      rw [hc] at h
      simp only [cond_true, Option.some.injEq, Prod.mk.injEq] at h
      simp only [Bool.and_eq_true] at hc
      have h1 := Nat.le_of_ble_eq_true hc.1
      have h2 := Nat.le_of_ble_eq_true hc.2
      obtain ⟨rfl, rfl, rfl⟩ := h
      refine ⟨?_, ?_, h2⟩
      · simp [Nat.min_eq_left h1]
      · rw [List.reverse_reverse, List.take_append_drop]
    | false => rw [hc] at h; cases h
  · cases h
theorem px_ci_inv {o : Option (Nat × Nat × Nat)} {st : List Value} {mj : Nat} {As r : List Value} (h : px_ci o st = some (mj, As, r)) :
    ∃ b As', As = .ref b :: As' ∧ o = some (2, mj, As'.length) ∧ st = As'.reverse ++ .ref b :: r ∧ (r.map fun v => v.category).sum ≤ 8 := by
  unfold px_ci at h
  split at h
  · rename_i mj' n
    split at h
    · rename_i b r' hdr
      cases hc : (Nat.ble n st.length && Nat.ble ((r'.map fun v => v.category).sum) 8) with
      | true =>
        rw [hc] at h
        simp only [cond_true, Option.some.injEq, Prod.mk.injEq] at h
        simp only [Bool.and_eq_true] at hc
        have h1 := Nat.le_of_ble_eq_true hc.1
        have h2 := Nat.le_of_ble_eq_true hc.2
        obtain ⟨rfl, rfl, rfl⟩ := h
        refine ⟨b, _, rfl, ?_, ?_, h2⟩
        · simp [Nat.min_eq_left h1]
        · rw [List.reverse_reverse, ← hdr, List.take_append_drop]
      | false => rw [hc] at h; cases h
    · cases h
  · cases h
theorem px_cv_inv {o : Option (Nat × Nat × Nat)} {st : List Value} {S : px_S} {mj : Nat} {As r : List Value} (h : px_cv o st S = some (mj, As, r)) :
    ∃ b As' fs, As = .ref b :: As' ∧ o = some (1, mj, As'.length) ∧ S.1 b = some (.inr (px_yc mj, fs)) ∧ st = As'.reverse ++ .ref b :: r ∧ (r.map fun v => v.category).sum ≤ 8 := by
  unfold px_cv at h
  split at h
  · rename_i mj' n
    split at h
    · rename_i b r' hdr
      split at h
      · rename_i ci fs hw
        cases hc : (Nat.beq ci (px_yc mj') && (Nat.ble n st.length && Nat.ble ((r'.map fun v => v.category).sum) 8)) with
        | true =>
          rw [hc] at h
          simp only [cond_true, Option.some.injEq, Prod.mk.injEq] at h
          simp only [Bool.and_eq_true] at hc
          have h0 := Nat.eq_of_beq_eq_true hc.1
          have h1 := Nat.le_of_ble_eq_true hc.2.1
          have h2 := Nat.le_of_ble_eq_true hc.2.2
          obtain ⟨rfl, rfl, rfl⟩ := h
          rw [h0] at hw
          refine ⟨b, _, fs, rfl, ?_, hw, ?_, h2⟩
          · simp [Nat.min_eq_left h1]
          · rw [List.reverse_reverse, ← hdr, List.take_append_drop]
        | false => rw [hc] at h; cases h
      · cases h
    · cases h
  · cases h
theorem px_good {ws : List Cond} {mj : Nat} (hsub : ∀ w ∈ px_tbl, w ∈ ws) (hc : Cond.code (px_y mj) (px_b mj) (px_ml mj) (px_rt mj) ∈ px_tbl) : GoodIn ws (px_ws mj) := by
  intro w hw
  have h : w ∈ px_tbl := by
    rcases List.mem_cons.mp hw with h | h
    · rw [h]; exact hc
    · exact h
  exact ⟨hsub w h, good_of_word (List.mem_filter.mp h).2⟩
section PXD
variable {p : Program} {l : Launch} {e : Env} {R : Room} {s : State} {m : MethodId} {args : Array Value} {below : List Frame} {meth : Method} {c : Code}
set_option maxHeartbeats 4000000 in
theorem px_callW {d mi : Nat} {dC : Nat → ClassId} {dI : Nat → Nat → Nat} {dA : Nat → ClassId} (X : px_Cx p s m args meth c mi dC dI dA) (hRf : d + 1 ≤ R.frames) (hRl : 100 * (d + 1) + 20 ≤ R.locals)
    {pc : Nat} {l0 : px_L} {st : List Value} {S S1 : px_S} {mj : Nat} {As r : List Value} {v1 : Option Value} (hcall : px_call mi (pc, l0, st) S = some (mj, As, r)) (hM : px_Met l dC dI dA d mj As S v1 S1)
    {H : Heap} {locs : List Loc} {cells slots : Nat} (hh : px_hold dC dI dA S.1 H) (hsz : H.size = S.2.1) (hf : cells + (S1.2.1 - S.2.1) ≤ R.cells ∧ slots + (S1.2.2 - S.2.2) ≤ R.slots) {ls : Array Slot} (hl : lv_has ls (px_ml mi) l0) :
    va_Run p l e R s m args below meth c H locs cells slots (S1.2.1 - S.2.1) (S1.2.2 - S.2.2) (F0 m pc ls st) r (px_Qc dC dI dA S v1 S1 As.toArray) (px_fr S) := by
  obtain ⟨hx, hb, hml, hown, hts, hK, hI⟩ := X
  have hPc : ∀ U : State, U.heap = H → s.WarmedH U.vm → px_Pc dC dI dA As S As.toArray U := fun U hU hW => ⟨rfl, by rw [hU]; exact hh, by rw [hU]; exact hsz, px_K.warm hW hK⟩
  have cbk : ∀ {kd ix n : Nat}, px_ca (px_cn mi) ix = some (kd, mj, n) → ∀ {rt : Option FieldType}, rt = px_rt mj → Cond.methodLink (px_on (px_cn mi)) ix (px_y mj) ∈ px_tbl →
      CallB R s args (px_on (px_cn mi)) ix (px_y mj) (px_b mj) (px_ml mj) rt (px_ws mj) (px_rm d (S1.2.1 - S.2.1) (S1.2.2 - S.2.2)) (S1.2.1 - S.2.1) (S1.2.2 - S.2.2) n := by
    intro kd ix n ho rt hrt hlk
    subst hrt
    obtain ⟨g1, g2, g3, g4, g5, -⟩ := px_ca_ok ho
    refine callB_of n hts (px_good (fun _ h => h) g1) rfl rfl rfl (hts _ g2) (hts _ hlk) ⟨g3.1, g3.2, g4⟩ ⟨hRf, ?_⟩
    show 8 + (px_ml mj + 11) + (100 * d + 20) ≤ R.locals
    omega
  have cbn : ∀ {kd ix n : Nat}, px_ca (px_cn mi) ix = some (kd, mj, n) → ∀ {rt : Option FieldType}, rt = px_rt mj → ∀ {host : String}, Cond.methodLinkNest (px_on (px_cn mi)) ix (px_y mj) host ∈ px_nw →
      va_CN R s args (px_on (px_cn mi)) ix (px_y mj) host (px_b mj) (px_ml mj) rt (px_ws mj) (px_rm d (S1.2.1 - S.2.1) (S1.2.2 - S.2.2)) (S1.2.1 - S.2.1) (S1.2.2 - S.2.2) n := by
    intro kd ix n ho rt hrt host hlk
    subst hrt
    obtain ⟨g1, g2, g3, g4, g5, -⟩ := px_ca_ok ho
    refine va_cnB n hts (px_good (fun _ h => h) g1) rfl rfl rfl (hK.2.1 _ hlk) (hts _ g2) ⟨g3.1, g3.2, g4⟩ ⟨hRf, ?_⟩
    show 8 + (px_ml mj + 11) + (100 * d + 20) ≤ R.locals
    omega
  have S0 : CallFix p m c (px_b mi) (px_ml mi) s args px_tbl (px_on (px_cn mi)) := ⟨hx, hb, hml, hown, hts⟩
  unfold px_call at hcall
  split at hcall
  · rename_i ix hat
    have hq := px_at_ok hat
    obtain ⟨ho, hst, hsum⟩ := px_cs_inv hcall
    obtain ⟨g1, g2, g3, g4, g5, g6, g7, -⟩ := px_ca_ok ho
    rcases g6 with hlk | ⟨host, hlk⟩
    · exact va_runS S0 hM ⟨cbk ho rfl hlk, hts _ (g7 rfl)⟩ ⟨px_blind, hPc⟩ rfl rfl hl.1 hst (by show 2 * 0 + _ ≤ 8; omega) hq hf
    · exact va_runSN S0 hM ⟨cbn ho rfl hlk, hts _ (g7 rfl), trivial⟩ ⟨px_blind, hPc⟩ rfl rfl hl.1 hst (by show 2 * 0 + _ ≤ 8; omega) hq hf
  · rename_i ix hat
    have hq := px_at_ok hat
    obtain ⟨b, As', rfl, ho, hst, hsum⟩ := px_ci_inv hcall
    obtain ⟨g1, g2, g3, g4, g5, g6, -, -, g9⟩ := px_ca_ok ho
    obtain ⟨n1, n2, n3⟩ := g9 rfl
    rcases g6 with hlk | ⟨host, hlk⟩
    · exact va_runI S0 hM ⟨cbk ho n3.symm hlk, n1, hts _ n2⟩ ⟨px_blind, hPc⟩ rfl rfl hl.1 hst (by show 2 * 0 + _ ≤ 8; omega) hq hf
    · exact va_runIN S0 hM ⟨cbn ho n3.symm hlk, n1, hts _ n2⟩ ⟨px_blind, hPc⟩ rfl rfl hl.1 hst (by show 2 * 0 + _ ≤ 8; omega) hq hf
  · rename_i ix hat
    have hq := px_at_ok hat
    obtain ⟨b, As', fs, rfl, ho, hw, hst, hsum⟩ := px_cv_inv hcall
    obtain ⟨g1, g2, g3, g4, g5, g6, -, g8, -⟩ := px_ca_ok ho
    obtain ⟨n1, n2, rc, n3, n4⟩ := g8 rfl
    have hrec : ∃ cellB : Cell, H[b]? = some cellB ∧ cellB.vm.isStatics = false ∧ s.vm.findClass (px_y mj).cls = some cellB.cls := by
      have h9 := va_recv hK.1 (px_va1 (hh b _ hw)) n3 (q0 := 0) rfl
      rw [n4] at h9
      exact h9
    rcases g6 with hlk | ⟨host, hlk⟩
    · exact va_runV S0 hM ⟨cbk ho rfl hlk, hts _ n1, hts _ n2⟩ ⟨px_blind, hrec, hPc⟩ rfl rfl hl.1 hst (by show 2 * 0 + _ ≤ 8; omega) hq hf
    · exact va_runVN S0 hM ⟨cbn ho rfl hlk, hts _ n1, hts _ n2⟩ ⟨px_blind, hrec, hPc⟩ rfl rfl hl.1 hst (by show 2 * 0 + _ ≤ 8; omega) hq hf
  · cases hcall
set_option maxHeartbeats 4000000 in
theorem px_runW {d mi : Nat} {dC : Nat → ClassId} {dI : Nat → Nat → Nat} {dA : Nat → ClassId} (ih : ∀ mj As S v S', px_Ev d mj As S v S' → px_Met l dC dI dA d mj As S v S') (X : px_Cx p s m args meth c mi dC dI dA)
    (hr : meth.sig.returnType = px_rt mi) (hlk : meth.locks = false) {w0 : px_W} {nx0 sl0 : Nat} (hnx : s.heap.size = nx0) (hRf : d + 1 ≤ R.frames) (hRl : 100 * (d + 1) + 20 ≤ R.locals) {S' : px_S} {v : Option Value}
    (hc1 : S'.2.1 ≤ nx0 + R.cells) (hc2 : S'.2.2 ≤ sl0 + R.slots) :
    ∀ (n : Nat) (f : px_F) (S : px_S), px_Run (px_Ev d) mi n f S v S' → ∀ (H : Heap) (locs : List Loc) (cells slots : Nat) (ls : Array Slot), px_Rl dC dI dA s w0 nx0 sl0 S H locs cells slots → lv_has ls (px_ml mi) f.2.1 →
      W p l e R s m args below meth c H locs cells slots (MQ below (px_Qc dC dI dA (w0, nx0, sl0) v S') args s (S'.2.1 - nx0) (S'.2.2 - sl0) (px_fr (w0, nx0, sl0))) (F0 m f.1 ls f.2.2) := by
  intro n
  induction n with
  | zero => intro f S h; exact h.elim
  | succ n ihn =>
    intro f S h H locs cells slots ls hR hl
    obtain ⟨pc, l0, st⟩ := f
    rcases h with ⟨h1, rfl⟩ | ⟨f1, S1, h1, h2⟩ | ⟨mj, As, r, v1, S1, h1, h2, h3⟩
    · obtain ⟨q1, q2, q3, q4, q5, q6, q7⟩ := hR
      have hx := X.1
      have hb := X.2.1
      have hfin : ∀ t : State, t.heap = H → s.WarmedH t.vm → px_Qc dC dI dA (w0, nx0, sl0) v S' args s (.returned v) t := fun t ht _ => ⟨rfl, by rw [ht]; exact q1, by rw [ht]; exact q2, fun q hq hn => by rw [ht]; exact q6 q (by omega) hn⟩
      refine W.cs (cells' := S'.2.1 - nx0) (slots' := S'.2.2 - sl0) (by omega) (by omega) ?_
      unfold px_ret at h1
      split at h1
      · rename_i i hat
        have hq := px_at_ok hat
        rcases px_rv_inv h1 with ⟨rfl, hrt, rfl, rfl⟩ | ⟨rfl, t, x, hrt, rfl, hfit, rfl⟩ | ⟨rfl, hrt, x, rfl, rfl⟩ | ⟨rfl, t, a, hrt, ht, ha, rfl, rfl⟩
        · exact W.vret hx hb (hr.trans hrt) hfin q5 hq
        · exact W.zret hx hb (hr.trans hrt) (px_fitW hfit) hfin q5 hq
        · exact W.lret hx hb (hr.trans hrt) hfin q5 hq
        · exact W.aret hx hb (hr.trans hrt) ht ha hfin q5 hq
      · cases h1
    · have hmo := px_Run_mo (px_Ev_mo d) n _ _ _ _ h2
      unfold px_step at h1
      split at h1
      · rename_i i hat
        exact px_s1 X hat h1 hR (Nat.le_trans hmo.1 hc1) (Nat.le_trans hmo.2.1 hc2) (by omega) (by omega) hl (fun H' locs' cells' slots' ls' hR' hl' => ihn f1 S1 h2 H' locs' cells' slots' ls' hR' hl')
      · cases h1
    · have hmo := px_Run_mo (px_Ev_mo d) n _ _ _ _ h3
      have hm1 := px_Ev_mo d _ _ _ _ _ h2
      obtain ⟨q1, q2, q3, q4, q5, q6, q7⟩ := id hR
      have b1 := hmo.1
      have b2 := hmo.2.1
      have b3 := hm1.1
      have b4 := hm1.2.1
      exact px_back hm1 (px_callW X hRf hRl h1 (ih _ _ _ _ _ h2) q1 q2 ⟨by omega, by omega⟩ hl) hR (fun H' locs' cells' slots' hR' => ihn _ S1 h3 H' locs' cells' slots' ls hR' hl)
end PXD
set_option maxHeartbeats 4000000 in
theorem px_sound (l : Launch) (dC : Nat → ClassId) (dI : Nat → Nat → Nat) (dA : Nat → ClassId) : ∀ (d mi : Nat) (As : List Value) (S : px_S) (v : Option Value) (S' : px_S), px_Ev d mi As S v S' → px_Met l dC dI dA d mi As S v S'
  | 0, _, _, _, _, _, h => h.elim
  | d + 1, mi, As, S, v, S', h => by
    have hmo := px_Ev_mo _ _ _ _ _ _ h
    obtain ⟨hlen, n, hn⟩ := h
    obtain ⟨w0, nx0, sl0⟩ := S
    refine va_MetF (cc := px_b mi) (maxL := px_ml mi) (ret := px_rt mi) (px_pl mi) rfl ?_
    intro p e s m args below meth c s₁ B hml hv
    obtain ⟨rfl, hh, hsz, hK⟩ := hv
    have hts0 := atoms_spec (ws := px_ws mi) B.pre
    have hown : s.vm.findClass (px_y mi).cls = some m.cls := findClass_of_methodNamed B.named
    rw [lg_entry_eq]
    have b1 := hmo.1
    have b2 := hmo.2.1
    simp only at b1 b2
    exact px_runW (px_sound l dC dI dA d) ⟨B.exec, B.bytes, hml, by rw [px_on_ok]; exact hown, fun w hw => hts0 w (List.mem_cons_of_mem _ hw), hK, fun hi => (name_of_methodNamed B.named B.method).1.trans (px_isI_ok hi)⟩
      B.returns B.notSynchronized hsz (Nat.le_refl _) (Nat.le_refl _) (by show S'.2.1 ≤ nx0 + (S'.2.1 - nx0); omega) (by show S'.2.2 ≤ sl0 + (S'.2.2 - sl0); omega) n (px_ent As) (w0, nx0, sl0) hn _ [] 0 0 _
      ⟨hh, hsz, rfl, rfl, fun _ hq => absurd hq List.not_mem_nil, fun _ _ _ => rfl, fun _ _ h => h⟩ (lv_entry As hlen)
end
section
/-! rows for the pure machine -/
/-- a cell has changed, or is new -/
def px_Up (S S1 : px_S) (a : Nat) (x : px_E) : Prop := S1 = (va_up S.1 a (some x), S.2)
def px_Nw (S S1 : px_S) (x : px_E) (n : Nat) : Prop := S1 = (va_up S.1 S.2.1 (some x), S.2.1 + 1, S.2.2 + n)
theorem px_Up.s {S S1 : px_S} {a : Nat} {x : px_E} (h : px_Up S S1 a x) : S1.1 a = some x := by rw [h]; simp [va_up]
theorem px_Up.n {S S1 : px_S} {a b : Nat} {x : px_E} {y : Option px_E} (h : px_Up S S1 a x) (hy : S.1 b = y) (hb : b ≠ a) : S1.1 b = y := by rw [h, ← hy]; simp [va_up, hb]
theorem px_Up.o {S S1 : px_S} {a b : Nat} {x : px_E} (h : px_Up S S1 a x) (hb : b ≠ a) : S1.1 b = S.1 b := by rw [h]; simp [va_up, hb]
theorem px_Up.t {S S1 : px_S} {a : Nat} {x : px_E} (h : px_Up S S1 a x) : S1.2 = S.2 := by rw [h]
theorem px_Up.u {S S1 S2 : px_S} {a : Nat} {x y : px_E} (h : px_Up S S1 a x) (k : px_Up S1 S2 a y) : px_Up S S2 a y := by
  unfold px_Up at *
  rw [k, h]
  simp only [bx_uu]
theorem px_Up.rf {S : px_S} {a : Nat} {x : px_E} (h : S.1 a = some x) : px_Up S S a x := by
  have e : va_up S.1 a (some x) = S.1 := by
    funext b
    by_cases hb : b = a
    · subst hb; simp [va_up, h]
    · simp [va_up, hb]
  unfold px_Up
  rw [e]
theorem px_Nw.s {S S1 : px_S} {x : px_E} {n : Nat} (h : px_Nw S S1 x n) : S1.1 S.2.1 = some x := by rw [h]; simp [va_up]
theorem px_Nw.n {S S1 : px_S} {b n : Nat} {x : px_E} {y : Option px_E} (h : px_Nw S S1 x n) (hy : S.1 b = y) (hb : b ≠ S.2.1) : S1.1 b = y := by rw [h, ← hy]; simp [va_up, hb]
theorem px_Nw.o {S S1 : px_S} {b n : Nat} {x : px_E} (h : px_Nw S S1 x n) (hb : b ≠ S.2.1) : S1.1 b = S.1 b := by rw [h]; simp [va_up, hb]
theorem px_Nw.t {S S1 : px_S} {x : px_E} {n : Nat} (h : px_Nw S S1 x n) : S1.2 = (S.2.1 + 1, S.2.2 + n) := by rw [h]
theorem px_M.go {d mi : Nat} {As : List Value} {S : px_S} {Q : Option Value → px_S → Prop} (hd : 1 ≤ d) (h : (lg_sl As).length ≤ px_ml mi) (k : px_P (d - 1) mi (px_ent As) S Q) : px_M d mi As S Q := by
  obtain ⟨d', rfl⟩ : ∃ d', d = d' + 1 := ⟨d - 1, by omega⟩
  exact px_M.of h k
theorem px_in_t {i : Int32} {n : Nat} (h : vp_in i n) : px_in i n = true := by
  have h1 : ¬ (i < 0 ∨ n ≤ i.toNatClampNeg) := h
  exact decide_eq_true h1
theorem px_P.gf {d mi pc : Nat} {ls : px_L} {S : px_S} {Q : Option Value → px_S → Prop} {ix a ci k : Nat} {r fs : List Value} {v : Value} (hat : px_at mi pc = some (.getfield ix)) (hf : px_fl (px_cn mi) ix = some (ci, k)) (hw : S.1 a = some (.inr (ci, fs))) (hv : fs[k]? = some v) (kk : px_P d mi (pc + 3, ls, v :: r) S Q) : px_P d mi (pc, ls, .ref a :: r) S Q := by
  refine px_P.step ?_ kk
  simp only [px_step, hat, px_do, px_get, hf, hw, hv, Nat.beq_refl, cond_true]
theorem px_P.pf {d mi pc : Nat} {ls : px_L} {S : px_S} {Q : Option Value → px_S → Prop} {ix a ci k : Nat} {r fs : List Value} {v : Value} (hat : px_at mi pc = some (.putfield ix)) (hf : px_fl (px_cn mi) ix = some (ci, k)) (hw : S.1 a = some (.inr (ci, fs))) (hc : (Nat.blt k fs.length && (px_fit (px_ft ci k) v && px_may mi ci k)) = true) (kk : ∀ S1, px_Up S S1 a (.inr (ci, fs.set k v)) → px_P d mi (pc + 3, ls, r) S1 Q) : px_P d mi (pc, ls, v :: .ref a :: r) S Q := by
  refine px_P.step ?_ (kk _ rfl)
  simp only [px_step, hat, px_do, px_put, hf, hw, hc, Nat.beq_refl, Bool.true_and, cond_true]
theorem px_P.iald {d mi pc : Nat} {ls : px_L} {S : px_S} {Q : Option Value → px_S → Prop} {a n : Nat} {i : Int32} {r : List Value} {f : Nat → Int32} (hat : px_at mi pc = some (.iaload)) (hw : S.1 a = some (.inl (0, n, .inl f))) (hi : vp_in i n) (kk : px_P d mi (pc + 1, ls, .int (f i.toNatClampNeg) :: r) S Q) : px_P d mi (pc, ls, .int i :: .ref a :: r) S Q := by
  refine px_P.step ?_ kk
  simp only [px_step, hat, px_do, px_ali, hw, px_in_t hi, Nat.beq_refl, Bool.and_true, cond_true]
theorem px_P.zald {d mi pc : Nat} {ls : px_L} {S : px_S} {Q : Option Value → px_S → Prop} {a n : Nat} {i : Int32} {r : List Value} {f : Nat → Int32} (hat : px_at mi pc = some (.baload)) (hw : S.1 a = some (.inl (2, n, .inl f))) (hi : vp_in i n) (kk : px_P d mi (pc + 1, ls, .int (f i.toNatClampNeg) :: r) S Q) : px_P d mi (pc, ls, .int i :: .ref a :: r) S Q := by
  refine px_P.step ?_ kk
  simp only [px_step, hat, px_do, px_ali, hw, px_in_t hi, Nat.beq_refl, Bool.and_true, cond_true]
theorem px_P.cald {d mi pc : Nat} {ls : px_L} {S : px_S} {Q : Option Value → px_S → Prop} {a n : Nat} {i : Int32} {r : List Value} {f : Nat → Int32} (hat : px_at mi pc = some (.caload)) (hw : S.1 a = some (.inl (3, n, .inl f))) (hi : vp_in i n) (kk : px_P d mi (pc + 1, ls, .int (f i.toNatClampNeg) :: r) S Q) : px_P d mi (pc, ls, .int i :: .ref a :: r) S Q := by
  refine px_P.step ?_ kk
  simp only [px_step, hat, px_do, px_ali, hw, px_in_t hi, Nat.beq_refl, Bool.and_true, cond_true]
theorem px_P.lald {d mi pc : Nat} {ls : px_L} {S : px_S} {Q : Option Value → px_S → Prop} {a n : Nat} {i : Int32} {r : List Value} {f : Nat → Int64} (hat : px_at mi pc = some (.laload)) (hw : S.1 a = some (.inl (1, n, .inr (.inl f)))) (hi : vp_in i n) (kk : px_P d mi (pc + 1, ls, .long (f i.toNatClampNeg) :: r) S Q) : px_P d mi (pc, ls, .int i :: .ref a :: r) S Q := by
  refine px_P.step ?_ kk
  simp only [px_step, hat, px_do, px_all, hw, px_in_t hi, Nat.beq_refl, Bool.and_true, cond_true]
theorem px_P.aald {d mi pc : Nat} {ls : px_L} {S : px_S} {Q : Option Value → px_S → Prop} {a n t : Nat} {i : Int32} {r : List Value} {f : Nat → Option Nat} (hat : px_at mi pc = some (.aaload)) (hw : S.1 a = some (.inl (t, n, .inr (.inr (.inr (.inr f)))))) (ht : px_tr t = true) (hi : vp_in i n) (kk : px_P d mi (pc + 1, ls, va_rf (f i.toNatClampNeg) :: r) S Q) : px_P d mi (pc, ls, .int i :: .ref a :: r) S Q := by
  refine px_P.step ?_ kk
  simp only [px_step, hat, px_do, px_ala, hw, ht, px_in_t hi, Bool.and_true, cond_true]
theorem px_P.iast {d mi pc : Nat} {ls : px_L} {S : px_S} {Q : Option Value → px_S → Prop} {a n : Nat} {i x : Int32} {r : List Value} {f : Nat → Int32} (hat : px_at mi pc = some (.iastore)) (hw : S.1 a = some (.inl (0, n, .inl f))) (hi : vp_in i n) (kk : ∀ S1, px_Up S S1 a (.inl (0, n, .inl (upd f i.toNatClampNeg x))) → px_P d mi (pc + 1, ls, r) S1 Q) : px_P d mi (pc, ls, .int x :: .int i :: .ref a :: r) S Q := by
  refine px_P.step ?_ (kk _ rfl)
  simp only [px_step, hat, px_do, px_asi, hw, px_in_t hi, Nat.beq_refl, Bool.true_and, px_ty0, px_fit, cond_true]
theorem px_P.zast {d mi pc : Nat} {ls : px_L} {S : px_S} {Q : Option Value → px_S → Prop} {a n : Nat} {i x : Int32} {r : List Value} {f : Nat → Int32} (hat : px_at mi pc = some (.bastore)) (hw : S.1 a = some (.inl (2, n, .inl f))) (hi : vp_in i n) (hx : (x == 0 || x == 1) = true) (kk : ∀ S1, px_Up S S1 a (.inl (2, n, .inl (upd f i.toNatClampNeg x))) → px_P d mi (pc + 1, ls, r) S1 Q) : px_P d mi (pc, ls, .int x :: .int i :: .ref a :: r) S Q := by
  refine px_P.step ?_ (kk _ rfl)
  simp only [px_step, hat, px_do, px_asi, hw, px_in_t hi, Nat.beq_refl, Bool.true_and, px_ty2, px_fit, hx, cond_true]
theorem px_P.cast {d mi pc : Nat} {ls : px_L} {S : px_S} {Q : Option Value → px_S → Prop} {a n : Nat} {i x : Int32} {r : List Value} {f : Nat → Int32} (hat : px_at mi pc = some (.castore)) (hw : S.1 a = some (.inl (3, n, .inl f))) (hi : vp_in i n) (hx : (decide (0 ≤ x) && decide (x ≤ 65535)) = true) (kk : ∀ S1, px_Up S S1 a (.inl (3, n, .inl (upd f i.toNatClampNeg x))) → px_P d mi (pc + 1, ls, r) S1 Q) : px_P d mi (pc, ls, .int x :: .int i :: .ref a :: r) S Q := by
  refine px_P.step ?_ (kk _ rfl)
  simp only [px_step, hat, px_do, px_asi, hw, px_in_t hi, Nat.beq_refl, Bool.true_and, px_ty3, px_fit, hx, cond_true]
theorem px_P.idiv {d mi pc : Nat} {ls : px_L} {S : px_S} {Q : Option Value → px_S → Prop} {x y : Int32} {r : List Value} (hat : px_at mi pc = some (.idiv)) (hy : ¬ y = 0) (kk : px_P d mi (pc + 1, ls, .int (x / y) :: r) S Q) : px_P d mi (pc, ls, .int y :: .int x :: r) S Q := by
  refine px_P.step ?_ kk
  simp only [px_step, hat, px_do, px_dv, hy, decide_false, cond_false]
theorem px_P.irem {d mi pc : Nat} {ls : px_L} {S : px_S} {Q : Option Value → px_S → Prop} {x y : Int32} {r : List Value} (hat : px_at mi pc = some (.irem)) (hy : ¬ y = 0) (kk : px_P d mi (pc + 1, ls, .int (x - x / y * y) :: r) S Q) : px_P d mi (pc, ls, .int y :: .int x :: r) S Q := by
  refine px_P.step ?_ kk
  simp only [px_step, hat, px_do, px_dv, hy, decide_false, cond_false]
theorem px_P.last {d mi pc : Nat} {ls : px_L} {S : px_S} {Q : Option Value → px_S → Prop} {a n : Nat} {i : Int32} {x : Int64} {r : List Value} {f : Nat → Int64} (hat : px_at mi pc = some (.lastore)) (hw : S.1 a = some (.inl (1, n, .inr (.inl f)))) (hi : vp_in i n) (kk : ∀ S1, px_Up S S1 a (.inl (1, n, .inr (.inl (vp_updL f i.toNatClampNeg x)))) → px_P d mi (pc + 1, ls, r) S1 Q) : px_P d mi (pc, ls, .long x :: .int i :: .ref a :: r) S Q := by
  refine px_P.step ?_ (kk _ rfl)
  simp only [px_step, hat, px_do, px_asl, hw, px_in_t hi, Nat.beq_refl, Bool.and_true, cond_true]
theorem px_P.aast {d mi pc : Nat} {ls : px_L} {S : px_S} {Q : Option Value → px_S → Prop} {a n t v ci : Nat} {fs : List Value} {i : Int32} {r : List Value} {f : Nat → Option Nat} (hat : px_at mi pc = some (.aastore)) (hw : S.1 a = some (.inl (t, n, .inr (.inr (.inr (.inr f)))))) (hv : S.1 v = some (.inr (ci, fs))) (ht : px_tr t = true) (htc : px_tc t ci = true) (hi : vp_in i n) (kk : ∀ S1, px_Up S S1 a (.inl (t, n, .inr (.inr (.inr (.inr (va_up f i.toNatClampNeg (some v))))))) → px_P d mi (pc + 1, ls, r) S1 Q) : px_P d mi (pc, ls, .ref v :: .int i :: .ref a :: r) S Q := by
  refine px_P.step ?_ (kk _ rfl)
  simp only [px_step, hat, px_do, px_asa, hw, hv, ht, htc, px_in_t hi, Bool.and_true, cond_true]
theorem px_P.aastN {d mi pc : Nat} {ls : px_L} {S : px_S} {Q : Option Value → px_S → Prop} {a n t : Nat} {i : Int32} {r : List Value} {f : Nat → Option Nat} (hat : px_at mi pc = some (.aastore)) (hw : S.1 a = some (.inl (t, n, .inr (.inr (.inr (.inr f)))))) (ht : px_tr t = true) (hi : vp_in i n) (kk : ∀ S1, px_Up S S1 a (.inl (t, n, .inr (.inr (.inr (.inr (va_up f i.toNatClampNeg none)))))) → px_P d mi (pc + 1, ls, r) S1 Q) : px_P d mi (pc, ls, .null :: .int i :: .ref a :: r) S Q := by
  refine px_P.step ?_ (kk _ rfl)
  simp only [px_step, hat, px_do, px_asa, hw, ht, px_in_t hi, Bool.and_true, cond_true]
theorem px_P.alen {d mi pc : Nat} {ls : px_L} {S : px_S} {Q : Option Value → px_S → Prop} {a t : Nat} {x : vp_A} {r : List Value} (hat : px_at mi pc = some (.arraylength)) (hw : S.1 a = some (.inl (t, x))) (ht : Nat.blt t px_nty = true) (kk : px_P d mi (pc + 1, ls, .int (Int32.ofNat x.1) :: r) S Q) : px_P d mi (pc, ls, .ref a :: r) S Q := by
  refine px_P.step ?_ kk
  simp only [px_step, hat, px_do, px_len, hw, ht, cond_true]
theorem px_P.newI {d mi pc : Nat} {ls : px_L} {S : px_S} {Q : Option Value → px_S → Prop} {n : Int32} {r : List Value} (hat : px_at mi pc = some (.newarray .int)) (hn : decide (n < 0 ∨ 67108864 < n.toNatClampNeg) = false) (kk : ∀ S1, px_Nw S S1 (.inl (0, n.toNatClampNeg, .inl (fun _ => 0))) (n.toNatClampNeg) → px_P d mi (pc + 2, ls, .ref S.2.1 :: r) S1 Q) : px_P d mi (pc, ls, .int n :: r) S Q := by
  refine px_P.step ?_ (kk _ rfl)
  simp only [px_step, hat, px_do, px_nwa, hn, cond_false]
theorem px_P.newL {d mi pc : Nat} {ls : px_L} {S : px_S} {Q : Option Value → px_S → Prop} {n : Int32} {r : List Value} (hat : px_at mi pc = some (.newarray .long)) (hn : decide (n < 0 ∨ 67108864 < n.toNatClampNeg) = false) (kk : ∀ S1, px_Nw S S1 (.inl (1, n.toNatClampNeg, .inr (.inl (fun _ => 0)))) (n.toNatClampNeg) → px_P d mi (pc + 2, ls, .ref S.2.1 :: r) S1 Q) : px_P d mi (pc, ls, .int n :: r) S Q := by
  refine px_P.step ?_ (kk _ rfl)
  simp only [px_step, hat, px_do, px_nwa, hn, cond_false]
theorem px_P.newZ {d mi pc : Nat} {ls : px_L} {S : px_S} {Q : Option Value → px_S → Prop} {n : Int32} {r : List Value} (hat : px_at mi pc = some (.newarray .boolean)) (hn : decide (n < 0 ∨ 67108864 < n.toNatClampNeg) = false) (kk : ∀ S1, px_Nw S S1 (.inl (2, n.toNatClampNeg, .inl (fun _ => 0))) (n.toNatClampNeg) → px_P d mi (pc + 2, ls, .ref S.2.1 :: r) S1 Q) : px_P d mi (pc, ls, .int n :: r) S Q := by
  refine px_P.step ?_ (kk _ rfl)
  simp only [px_step, hat, px_do, px_nwa, hn, cond_false]
theorem px_P.newC {d mi pc : Nat} {ls : px_L} {S : px_S} {Q : Option Value → px_S → Prop} {n : Int32} {r : List Value} (hat : px_at mi pc = some (.newarray .char)) (hn : decide (n < 0 ∨ 67108864 < n.toNatClampNeg) = false) (kk : ∀ S1, px_Nw S S1 (.inl (3, n.toNatClampNeg, .inl (fun _ => 0))) (n.toNatClampNeg) → px_P d mi (pc + 2, ls, .ref S.2.1 :: r) S1 Q) : px_P d mi (pc, ls, .int n :: r) S Q := by
  refine px_P.step ?_ (kk _ rfl)
  simp only [px_step, hat, px_do, px_nwa, hn, cond_false]
theorem px_P.newA {d mi pc : Nat} {ls : px_L} {S : px_S} {Q : Option Value → px_S → Prop} {ix t : Nat} {n : Int32} {r : List Value} (hat : px_at mi pc = some (.anewarray ix)) (ha : px_an (px_cn mi) ix = some t) (hn : decide (n < 0 ∨ 67108864 < n.toNatClampNeg) = false) (kk : ∀ S1, px_Nw S S1 (.inl (t, n.toNatClampNeg, .inr (.inr (.inr (.inr (fun _ => none)))))) (n.toNatClampNeg) → px_P d mi (pc + 3, ls, .ref S.2.1 :: r) S1 Q) : px_P d mi (pc, ls, .int n :: r) S Q := by
  refine px_P.step ?_ (kk _ rfl)
  simp only [px_step, hat, px_do, ha, Option.map_some, Option.getD_some, px_nwa, hn, cond_false]
theorem px_P.nw {d mi pc : Nat} {ls : px_L} {S : px_S} {Q : Option Value → px_S → Prop} {ix ci : Nat} {r : List Value} (hat : px_at mi pc = some (.new ix)) (hn : px_nc (px_cn mi) ix = some ci) (kk : ∀ S1, px_Nw S S1 (.inr (ci, px_def ci)) (px_nf ci) → px_P d mi (pc + 3, ls, .ref S.2.1 :: r) S1 Q) : px_P d mi (pc, ls, r) S Q := by
  refine px_P.step ?_ (kk _ rfl)
  simp only [px_step, hat, px_do, px_new, hn]
theorem px_P.if_eq {d mi pc : Nat} {ls : px_L} {S : px_S} {Q : Option Value → px_S → Prop} {off : Int} {t : Nat} {x : Int32} {r : List Value} (hat : px_at mi pc = some (.ifCond .eq off)) (hj : px_jmp pc off = some t) (kt : x = 0 → px_P d mi (t, ls, r) S Q) (kf : ¬ x = 0 → px_P d mi (pc + 3, ls, r) S Q) : px_P d mi (pc, ls, .int x :: r) S Q := by
  by_cases h : x = 0
  · refine px_P.step ?_ (kt h)
    simp only [px_step, hat, px_do, px_if0, hj, px_c0, h, decide_true, cond_true]
  · refine px_P.step ?_ (kf h)
    simp only [px_step, hat, px_do, px_if0, hj, px_c0, h, decide_false, cond_false]
theorem px_P.if_ne {d mi pc : Nat} {ls : px_L} {S : px_S} {Q : Option Value → px_S → Prop} {off : Int} {t : Nat} {x : Int32} {r : List Value} (hat : px_at mi pc = some (.ifCond .ne off)) (hj : px_jmp pc off = some t) (kt : ¬ x = 0 → px_P d mi (t, ls, r) S Q) (kf : x = 0 → px_P d mi (pc + 3, ls, r) S Q) : px_P d mi (pc, ls, .int x :: r) S Q := by
  by_cases h : ¬ x = 0
  · refine px_P.step ?_ (kt h)
    simp only [px_step, hat, px_do, px_if0, hj, px_c0, h, not_false_eq_true, decide_true, cond_true]
  · refine px_P.step ?_ (kf (Classical.not_not.mp h))
    simp only [px_step, hat, px_do, px_if0, hj, px_c0, h, decide_false, cond_false]
theorem px_P.if_lt {d mi pc : Nat} {ls : px_L} {S : px_S} {Q : Option Value → px_S → Prop} {off : Int} {t : Nat} {x : Int32} {r : List Value} (hat : px_at mi pc = some (.ifCond .lt off)) (hj : px_jmp pc off = some t) (kt : x < 0 → px_P d mi (t, ls, r) S Q) (kf : ¬ x < 0 → px_P d mi (pc + 3, ls, r) S Q) : px_P d mi (pc, ls, .int x :: r) S Q := by
  by_cases h : x < 0
  · refine px_P.step ?_ (kt h)
    simp only [px_step, hat, px_do, px_if0, hj, px_c0, h, decide_true, cond_true]
  · refine px_P.step ?_ (kf h)
    simp only [px_step, hat, px_do, px_if0, hj, px_c0, h, decide_false, cond_false]
theorem px_P.if_ge {d mi pc : Nat} {ls : px_L} {S : px_S} {Q : Option Value → px_S → Prop} {off : Int} {t : Nat} {x : Int32} {r : List Value} (hat : px_at mi pc = some (.ifCond .ge off)) (hj : px_jmp pc off = some t) (kt : 0 ≤ x → px_P d mi (t, ls, r) S Q) (kf : ¬ 0 ≤ x → px_P d mi (pc + 3, ls, r) S Q) : px_P d mi (pc, ls, .int x :: r) S Q := by
  by_cases h : 0 ≤ x
  · refine px_P.step ?_ (kt h)
    simp only [px_step, hat, px_do, px_if0, hj, px_c0, h, decide_true, cond_true]
  · refine px_P.step ?_ (kf h)
    simp only [px_step, hat, px_do, px_if0, hj, px_c0, h, decide_false, cond_false]
theorem px_P.if_gt {d mi pc : Nat} {ls : px_L} {S : px_S} {Q : Option Value → px_S → Prop} {off : Int} {t : Nat} {x : Int32} {r : List Value} (hat : px_at mi pc = some (.ifCond .gt off)) (hj : px_jmp pc off = some t) (kt : 0 < x → px_P d mi (t, ls, r) S Q) (kf : ¬ 0 < x → px_P d mi (pc + 3, ls, r) S Q) : px_P d mi (pc, ls, .int x :: r) S Q := by
  by_cases h : 0 < x
  · refine px_P.step ?_ (kt h)
    simp only [px_step, hat, px_do, px_if0, hj, px_c0, h, decide_true, cond_true]
  · refine px_P.step ?_ (kf h)
    simp only [px_step, hat, px_do, px_if0, hj, px_c0, h, decide_false, cond_false]
theorem px_P.if_le {d mi pc : Nat} {ls : px_L} {S : px_S} {Q : Option Value → px_S → Prop} {off : Int} {t : Nat} {x : Int32} {r : List Value} (hat : px_at mi pc = some (.ifCond .le off)) (hj : px_jmp pc off = some t) (kt : x ≤ 0 → px_P d mi (t, ls, r) S Q) (kf : ¬ x ≤ 0 → px_P d mi (pc + 3, ls, r) S Q) : px_P d mi (pc, ls, .int x :: r) S Q := by
  by_cases h : x ≤ 0
  · refine px_P.step ?_ (kt h)
    simp only [px_step, hat, px_do, px_if0, hj, px_c0, h, decide_true, cond_true]
  · refine px_P.step ?_ (kf h)
    simp only [px_step, hat, px_do, px_if0, hj, px_c0, h, decide_false, cond_false]
theorem px_P.ic_eq {d mi pc : Nat} {ls : px_L} {S : px_S} {Q : Option Value → px_S → Prop} {off : Int} {t : Nat} {x y : Int32} {r : List Value} (hat : px_at mi pc = some (.if_icmp .eq off)) (hj : px_jmp pc off = some t) (kt : x = y → px_P d mi (t, ls, r) S Q) (kf : ¬ x = y → px_P d mi (pc + 3, ls, r) S Q) : px_P d mi (pc, ls, .int y :: .int x :: r) S Q := by
  by_cases h : x = y
  · refine px_P.step ?_ (kt h)
    simp only [px_step, hat, px_do, px_if2, hj, px_c2, h, decide_true, cond_true]
  · refine px_P.step ?_ (kf h)
    simp only [px_step, hat, px_do, px_if2, hj, px_c2, h, decide_false, cond_false]
theorem px_P.ic_ne {d mi pc : Nat} {ls : px_L} {S : px_S} {Q : Option Value → px_S → Prop} {off : Int} {t : Nat} {x y : Int32} {r : List Value} (hat : px_at mi pc = some (.if_icmp .ne off)) (hj : px_jmp pc off = some t) (kt : ¬ x = y → px_P d mi (t, ls, r) S Q) (kf : x = y → px_P d mi (pc + 3, ls, r) S Q) : px_P d mi (pc, ls, .int y :: .int x :: r) S Q := by
  by_cases h : ¬ x = y
  · refine px_P.step ?_ (kt h)
    simp only [px_step, hat, px_do, px_if2, hj, px_c2, h, not_false_eq_true, decide_true, cond_true]
  · refine px_P.step ?_ (kf (Classical.not_not.mp h))
    simp only [px_step, hat, px_do, px_if2, hj, px_c2, h, decide_false, cond_false]
theorem px_P.ic_lt {d mi pc : Nat} {ls : px_L} {S : px_S} {Q : Option Value → px_S → Prop} {off : Int} {t : Nat} {x y : Int32} {r : List Value} (hat : px_at mi pc = some (.if_icmp .lt off)) (hj : px_jmp pc off = some t) (kt : x < y → px_P d mi (t, ls, r) S Q) (kf : ¬ x < y → px_P d mi (pc + 3, ls, r) S Q) : px_P d mi (pc, ls, .int y :: .int x :: r) S Q := by
  by_cases h : x < y
  · refine px_P.step ?_ (kt h)
    simp only [px_step, hat, px_do, px_if2, hj, px_c2, h, decide_true, cond_true]
  · refine px_P.step ?_ (kf h)
    simp only [px_step, hat, px_do, px_if2, hj, px_c2, h, decide_false, cond_false]
theorem px_P.ic_ge {d mi pc : Nat} {ls : px_L} {S : px_S} {Q : Option Value → px_S → Prop} {off : Int} {t : Nat} {x y : Int32} {r : List Value} (hat : px_at mi pc = some (.if_icmp .ge off)) (hj : px_jmp pc off = some t) (kt : y ≤ x → px_P d mi (t, ls, r) S Q) (kf : ¬ y ≤ x → px_P d mi (pc + 3, ls, r) S Q) : px_P d mi (pc, ls, .int y :: .int x :: r) S Q := by
  by_cases h : y ≤ x
  · refine px_P.step ?_ (kt h)
    simp only [px_step, hat, px_do, px_if2, hj, px_c2, h, decide_true, cond_true]
  · refine px_P.step ?_ (kf h)
    simp only [px_step, hat, px_do, px_if2, hj, px_c2, h, decide_false, cond_false]
theorem px_P.ic_gt {d mi pc : Nat} {ls : px_L} {S : px_S} {Q : Option Value → px_S → Prop} {off : Int} {t : Nat} {x y : Int32} {r : List Value} (hat : px_at mi pc = some (.if_icmp .gt off)) (hj : px_jmp pc off = some t) (kt : y < x → px_P d mi (t, ls, r) S Q) (kf : ¬ y < x → px_P d mi (pc + 3, ls, r) S Q) : px_P d mi (pc, ls, .int y :: .int x :: r) S Q := by
  by_cases h : y < x
  · refine px_P.step ?_ (kt h)
    simp only [px_step, hat, px_do, px_if2, hj, px_c2, h, decide_true, cond_true]
  · refine px_P.step ?_ (kf h)
    simp only [px_step, hat, px_do, px_if2, hj, px_c2, h, decide_false, cond_false]
theorem px_P.ic_le {d mi pc : Nat} {ls : px_L} {S : px_S} {Q : Option Value → px_S → Prop} {off : Int} {t : Nat} {x y : Int32} {r : List Value} (hat : px_at mi pc = some (.if_icmp .le off)) (hj : px_jmp pc off = some t) (kt : x ≤ y → px_P d mi (t, ls, r) S Q) (kf : ¬ x ≤ y → px_P d mi (pc + 3, ls, r) S Q) : px_P d mi (pc, ls, .int y :: .int x :: r) S Q := by
  by_cases h : x ≤ y
  · refine px_P.step ?_ (kt h)
    simp only [px_step, hat, px_do, px_if2, hj, px_c2, h, decide_true, cond_true]
  · refine px_P.step ?_ (kf h)
    simp only [px_step, hat, px_do, px_if2, hj, px_c2, h, decide_false, cond_false]
theorem px_P.cv {d mi pc : Nat} {ls : px_L} {S : px_S} {Q : Option Value → px_S → Prop} {ix mj n b ci : Nat} {st r fs : List Value} (hat : px_at mi pc = some (.invokevirtual ix)) (hca : px_ca (px_cn mi) ix = some (1, mj, n)) (hdr : st.drop n = .ref b :: r) (hw : S.1 b = some (.inr (ci, fs)))
    (hc : (Nat.beq ci (px_yc mj) && (Nat.ble n st.length && Nat.ble ((r.map fun v => v.category).sum) 8)) = true) (kk : px_M d mj (.ref b :: (st.take n).reverse) S (fun v S1 => px_P d mi (pc + 3, ls, v.toList ++ r) S1 Q)) : px_P d mi (pc, ls, st) S Q := by
  refine px_P.call (mj := mj) (As := .ref b :: (st.take n).reverse) (r := r) ?_ kk
  simp only [px_call, hat, px_cv, hca, hdr, hw, hc, cond_true]
theorem px_P.lsw {d mi pc : Nat} {ls : px_L} {S : px_S} {Q : Option Value → px_S → Prop} {dflt off : Int} {ps : Array (Int × Int)} {t : Nat} {x : Int32} {r : List Value} (hat : px_at mi pc = some (.lookupswitch dflt ps)) (hp : (ps.toList.zip (ps.toList.drop 1)).all (fun (a, next) => a.1 < next.1) = true) (ho : Op.lookupswitch.offset ps.toList dflt x.toInt = off) (hj : px_jmp pc off = some t) (kk : px_P d mi (t, ls, r) S Q) : px_P d mi (pc, ls, .int x :: r) S Q := by
  refine px_P.step ?_ kk
  subst ho
  simp only [px_step, hat, px_do, px_lsw, hj, hp, cond_true]
theorem px_P.tsO {d mi pc : Nat} {ls : px_L} {S : px_S} {Q : Option Value → px_S → Prop} {dflt lo hi : Int} {offs : Array Int} {t : Nat} {x : Int32} {r : List Value} (hat : px_at mi pc = some (.tableswitch dflt lo hi offs)) (h : x.toInt < lo ∨ hi < x.toInt) (hj : px_jmp pc dflt = some t) (kk : px_P d mi (t, ls, r) S Q) : px_P d mi (pc, ls, .int x :: r) S Q := by
  refine px_P.step ?_ kk
  simp only [px_step, hat, px_do, px_tsw, h, hj, decide_true, cond_true]
theorem px_P.tsI {d mi pc : Nat} {ls : px_L} {S : px_S} {Q : Option Value → px_S → Prop} {dflt lo hi off : Int} {offs : Array Int} {t : Nat} {x : Int32} {r : List Value} (hat : px_at mi pc = some (.tableswitch dflt lo hi offs)) (h : ¬ (x.toInt < lo ∨ hi < x.toInt)) (ho : offs[(x.toInt - lo).toNat]? = some off) (hj : px_jmp pc off = some t) (kk : px_P d mi (t, ls, r) S Q) : px_P d mi (pc, ls, .int x :: r) S Q := by
  refine px_P.step ?_ kk
  simp only [px_step, hat, px_do, px_tsw, h, ho, hj, decide_false, cond_false]
theorem px_P.ialdj {d mi pc : Nat} {ls : px_L} {S : px_S} {Q : Option Value → px_S → Prop} {a n j : Nat} {i : Int32} {r : List Value} {f : Nat → Int32} (hat : px_at mi pc = some (.iaload)) (hw : S.1 a = some (.inl (0, n, .inl f))) (hi : i = nI j) (hj : j < n) (hn : n < 2 ^ 31) (kk : px_P d mi (pc + 1, ls, .int (f j) :: r) S Q) : px_P d mi (pc, ls, .int i :: .ref a :: r) S Q := by
  subst hi
  refine px_P.iald hat hw (vp_in_nI hj hn) ?_
  rw [nI_clamp (by omega)]
  exact kk
theorem px_P.zaldj {d mi pc : Nat} {ls : px_L} {S : px_S} {Q : Option Value → px_S → Prop} {a n j : Nat} {i : Int32} {r : List Value} {f : Nat → Int32} (hat : px_at mi pc = some (.baload)) (hw : S.1 a = some (.inl (2, n, .inl f))) (hi : i = nI j) (hj : j < n) (hn : n < 2 ^ 31) (kk : px_P d mi (pc + 1, ls, .int (f j) :: r) S Q) : px_P d mi (pc, ls, .int i :: .ref a :: r) S Q := by
  subst hi
  refine px_P.zald hat hw (vp_in_nI hj hn) ?_
  rw [nI_clamp (by omega)]
  exact kk
theorem px_P.caldj {d mi pc : Nat} {ls : px_L} {S : px_S} {Q : Option Value → px_S → Prop} {a n j : Nat} {i : Int32} {r : List Value} {f : Nat → Int32} (hat : px_at mi pc = some (.caload)) (hw : S.1 a = some (.inl (3, n, .inl f))) (hi : i = nI j) (hj : j < n) (hn : n < 2 ^ 31) (kk : px_P d mi (pc + 1, ls, .int (f j) :: r) S Q) : px_P d mi (pc, ls, .int i :: .ref a :: r) S Q := by
  subst hi
  refine px_P.cald hat hw (vp_in_nI hj hn) ?_
  rw [nI_clamp (by omega)]
  exact kk
theorem px_P.laldj {d mi pc : Nat} {ls : px_L} {S : px_S} {Q : Option Value → px_S → Prop} {a n j : Nat} {i : Int32} {r : List Value} {f : Nat → Int64} (hat : px_at mi pc = some (.laload)) (hw : S.1 a = some (.inl (1, n, .inr (.inl f)))) (hi : i = nI j) (hj : j < n) (hn : n < 2 ^ 31) (kk : px_P d mi (pc + 1, ls, .long (f j) :: r) S Q) : px_P d mi (pc, ls, .int i :: .ref a :: r) S Q := by
  subst hi
  refine px_P.lald hat hw (vp_in_nI hj hn) ?_
  rw [nI_clamp (by omega)]
  exact kk
theorem px_P.aaldj {d mi pc : Nat} {ls : px_L} {S : px_S} {Q : Option Value → px_S → Prop} {a n j : Nat} {i : Int32} {r : List Value} {f : Nat → Option Nat} {t : Nat} (hat : px_at mi pc = some (.aaload)) (hw : S.1 a = some (.inl (t, n, .inr (.inr (.inr (.inr f)))))) (ht : px_tr t = true) (hi : i = nI j) (hj : j < n) (hn : n < 2 ^ 31) (kk : px_P d mi (pc + 1, ls, va_rf (f j) :: r) S Q) : px_P d mi (pc, ls, .int i :: .ref a :: r) S Q := by
  subst hi
  refine px_P.aald hat hw ht (vp_in_nI hj hn) ?_
  rw [nI_clamp (by omega)]
  exact kk
theorem px_P.iastj {d mi pc : Nat} {ls : px_L} {S : px_S} {Q : Option Value → px_S → Prop} {a n j : Nat} {i : Int32} {r : List Value} {f : Nat → Int32} {x : Int32} (hat : px_at mi pc = some (.iastore)) (hw : S.1 a = some (.inl (0, n, .inl f))) (hi : i = nI j) (hj : j < n) (hn : n < 2 ^ 31) (kk : ∀ S1, px_Up S S1 a (.inl (0, n, .inl (upd f j x))) → px_P d mi (pc + 1, ls, r) S1 Q) : px_P d mi (pc, ls, .int x :: .int i :: .ref a :: r) S Q := by
  subst hi
  refine px_P.iast hat hw (vp_in_nI hj hn) (fun S1 u => kk S1 ?_)
  rw [nI_clamp (by omega)] at u
  exact u
theorem px_P.zastj {d mi pc : Nat} {ls : px_L} {S : px_S} {Q : Option Value → px_S → Prop} {a n j : Nat} {i : Int32} {r : List Value} {f : Nat → Int32} {x : Int32} (hat : px_at mi pc = some (.bastore)) (hw : S.1 a = some (.inl (2, n, .inl f))) (hx : (x == 0 || x == 1) = true) (hi : i = nI j) (hj : j < n) (hn : n < 2 ^ 31) (kk : ∀ S1, px_Up S S1 a (.inl (2, n, .inl (upd f j x))) → px_P d mi (pc + 1, ls, r) S1 Q) : px_P d mi (pc, ls, .int x :: .int i :: .ref a :: r) S Q := by
  subst hi
  refine px_P.zast hat hw (vp_in_nI hj hn) hx (fun S1 u => kk S1 ?_)
  rw [nI_clamp (by omega)] at u
  exact u
theorem px_P.castj {d mi pc : Nat} {ls : px_L} {S : px_S} {Q : Option Value → px_S → Prop} {a n j : Nat} {i : Int32} {r : List Value} {f : Nat → Int32} {x : Int32} (hat : px_at mi pc = some (.castore)) (hw : S.1 a = some (.inl (3, n, .inl f))) (hx : (decide (0 ≤ x) && decide (x ≤ 65535)) = true) (hi : i = nI j) (hj : j < n) (hn : n < 2 ^ 31) (kk : ∀ S1, px_Up S S1 a (.inl (3, n, .inl (upd f j x))) → px_P d mi (pc + 1, ls, r) S1 Q) : px_P d mi (pc, ls, .int x :: .int i :: .ref a :: r) S Q := by
  subst hi
  refine px_P.cast hat hw (vp_in_nI hj hn) hx (fun S1 u => kk S1 ?_)
  rw [nI_clamp (by omega)] at u
  exact u
theorem px_P.lastj {d mi pc : Nat} {ls : px_L} {S : px_S} {Q : Option Value → px_S → Prop} {a n j : Nat} {i : Int32} {r : List Value} {f : Nat → Int64} {x : Int64} (hat : px_at mi pc = some (.lastore)) (hw : S.1 a = some (.inl (1, n, .inr (.inl f)))) (hi : i = nI j) (hj : j < n) (hn : n < 2 ^ 31) (kk : ∀ S1, px_Up S S1 a (.inl (1, n, .inr (.inl (vp_updL f j x)))) → px_P d mi (pc + 1, ls, r) S1 Q) : px_P d mi (pc, ls, .long x :: .int i :: .ref a :: r) S Q := by
  subst hi
  refine px_P.last hat hw (vp_in_nI hj hn) (fun S1 u => kk S1 ?_)
  rw [nI_clamp (by omega)] at u
  exact u
theorem px_P.aastj {d mi pc : Nat} {ls : px_L} {S : px_S} {Q : Option Value → px_S → Prop} {a n j : Nat} {i : Int32} {r : List Value} {t v ci : Nat} {fs : List Value} {f : Nat → Option Nat} (hat : px_at mi pc = some (.aastore)) (hw : S.1 a = some (.inl (t, n, .inr (.inr (.inr (.inr f)))))) (hv : S.1 v = some (.inr (ci, fs))) (ht : px_tr t = true) (htc : px_tc t ci = true) (hi : i = nI j) (hj : j < n) (hn : n < 2 ^ 31) (kk : ∀ S1, px_Up S S1 a (.inl (t, n, .inr (.inr (.inr (.inr (va_up f j (some v))))))) → px_P d mi (pc + 1, ls, r) S1 Q) : px_P d mi (pc, ls, .ref v :: .int i :: .ref a :: r) S Q := by
  subst hi
  refine px_P.aast hat hw hv ht htc (vp_in_nI hj hn) (fun S1 u => kk S1 ?_)
  rw [nI_clamp (by omega)] at u
  exact u
theorem px_P.aastNj {d mi pc : Nat} {ls : px_L} {S : px_S} {Q : Option Value → px_S → Prop} {a n j : Nat} {i : Int32} {r : List Value} {t : Nat} {f : Nat → Option Nat} (hat : px_at mi pc = some (.aastore)) (hw : S.1 a = some (.inl (t, n, .inr (.inr (.inr (.inr f)))))) (ht : px_tr t = true) (hi : i = nI j) (hj : j < n) (hn : n < 2 ^ 31) (kk : ∀ S1, px_Up S S1 a (.inl (t, n, .inr (.inr (.inr (.inr (va_up f j none)))))) → px_P d mi (pc + 1, ls, r) S1 Q) : px_P d mi (pc, ls, .null :: .int i :: .ref a :: r) S Q := by
  subst hi
  refine px_P.aastN hat hw ht (vp_in_nI hj hn) (fun S1 u => kk S1 ?_)
  rw [nI_clamp (by omega)] at u
  exact u
/-- so many steps at once -/
def px_sn (mi : Nat) : Nat → px_F → px_S → px_R
  | 0, f, S => some (f, S)
  | n + 1, f, S => match px_step mi f S with
    | some q => px_sn mi n q.1 q.2
    | none => none
theorem px_P.sn {d mi : Nat} {Q : Option Value → px_S → Prop} : ∀ (n : Nat) {f f1 : px_F} {S S1 : px_S}, px_sn mi n f S = some (f1, S1) → px_P d mi f1 S1 Q → px_P d mi f S Q
  | 0, f, f1, S, S1, h, k => by cases h; exact k
  | n + 1, f, f1, S, S1, h, k => by
    unfold px_sn at h
    split at h
    · rename_i q hq
      exact px_P.step hq (px_P.sn n h k)
    · cases h
end
section
/-! small rows -/
theorem nN_toInt (x : Int32) (h0 : 0 ≤ x) : (x.toNatClampNeg : Int) = x.toInt := by
  have h1 : (0 : Int) ≤ x.toInt := by simpa using Int32.le_iff_toInt_le.mp h0
  show ((x.toInt.toNat : Nat) : Int) = x.toInt
  omega
/-- a number between two others, as a small natural -/
theorem nN_of {x : Int32} {n : Nat} (hn : n < 2 ^ 31) (h0 : 0 ≤ x) (h1 : x < nI n) : ∃ j : Nat, j < n ∧ x = nI j := by
  obtain ⟨j, hj, rfl⟩ := nI_of (Int32.not_lt.mpr h0)
  exact ⟨j, (nI_ltI hj hn).mp h1, rfl⟩
/-- bits of words: which symbols are in a set -/
def ss_in (f : Nat → Int64) (x : Nat) : Bool := (f (x / 64)).toBitVec.getLsbD (x % 64)
theorem ss_cnt : ∀ k, k < 64 → ((nI k).toInt64.toUInt64 &&& Int64.toUInt64 63).toNat = k := by decide +kernel
theorem ss_shl : ∀ k, k < 64 → ((1 : Int64) <<< ((nI k).toInt64 &&& 63)).toBitVec = BitVec.twoPow 64 k := by decide +kernel
theorem ss_63 {n : Nat} (h : n < 2 ^ 31) : nI n &&& 63 = nI (n % 64) := pk_andN (by omega) (k := 6) rfl
theorem ss_6 {n : Nat} (h : n < 2 ^ 31) : nI n >>> ((6 : Int32) &&& 31) = nI (n / 64) := pk_shrN h _ 6 rfl
theorem ss_bit (w : Int64) {s : UInt64} {j : Nat} (hj : j < 64) (hs : s.toNat = j) : ((w.toUInt64 >>> s).toInt64 &&& 1) = 0 ↔ w.toBitVec.getLsbD j = false := by
  have e : (((w.toUInt64 >>> s).toInt64 &&& 1) = 0) ↔ (((w.toUInt64 >>> s).toInt64 &&& 1).toBitVec = 0#64) := by
    constructor
    · intro h; rw [h]; rfl
    · intro h; exact Int64.toBitVec_inj.mp h
  rw [e]
  have e2 : ((w.toUInt64 >>> s).toInt64 &&& 1).toBitVec = (w.toBitVec >>> j) &&& 1#64 := by
    subst hs
    simp [Nat.mod_eq_of_lt hj]
  rw [e2]
  constructor
  · intro h
    have h1 := congrArg (fun v : BitVec 64 => v.getLsbD 0) h
    simpa using h1
  · intro h
    apply BitVec.eq_of_getLsbD_eq
    intro i hi
    by_cases h0 : i = 0
    · subst h0; simp [h]
    · simp [h0]
theorem lc_ne {x : Int64} : lg_cmp x 0 = 0 ↔ x = 0 := by
  unfold lg_cmp
  split
  · rename_i h
    constructor
    · intro q; cases q
    · intro q; subst q; exact absurd h (by decide)
  · split
    · rename_i h; simp [h]
    · rename_i h
      constructor
      · intro q; cases q
      · intro q; exact absurd q h
end
section
/-! ===== SymbolSet ===== -/
def ss_hs (f : Nat → Int64) (x : Int32) : Bool := decide (0 ≤ x) && (decide (x < 208) && ss_in f x.toNatClampNeg)
theorem ss_hs_in {f : Nat → Int64} {n : Nat} (hn : n < 208) : ss_hs f (nI n) = ss_in f n := by
  have h1 : (0 : Int32) ≤ nI n := nI_pos' (by omega)
  have h2 : nI n < (208 : Int32) := nI_lt (b := 208) hn (by decide)
  simp only [ss_hs, h1, h2, decide_true, Bool.true_and]
  rw [nI_clamp (by omega)]
theorem ss_hs_neg {f : Nat → Int64} {x : Int32} (h : x < 0) : ss_hs f x = false := by
  have h1 : ¬ (0 : Int32) ≤ x := Int32.not_le.mpr h
  simp only [ss_hs, h1, decide_false, Bool.false_and]
theorem ss_hs_big {f : Nat → Int64} {x : Int32} (h : (208 : Int32) ≤ x) : ss_hs f x = false := by
  have h1 : ¬ x < (208 : Int32) := Int32.not_lt.mpr h
  simp only [ss_hs, h1, decide_false, Bool.false_and, Bool.and_false]
set_option maxHeartbeats 1000000 in
theorem pm_ss_has {d a t : Nat} {x : Int32} {f : Nat → Int64} {S : px_S} {Q : Option Value → px_S → Prop} (hd : 1 ≤ d) (ha : S.1 a = some (.inr (6, [.ref t]))) (ht : S.1 t = some (.inl (1, 4, .inr (.inl f))))
    (k : Q (some (.int (bif ss_hs f x then 1 else 0))) S) : px_M d px_m_SymbolSet_has [.ref a, .int x] S Q := by
  refine px_M.go hd (Nat.le_of_ble_eq_true rfl) ?_
  refine px_P.sn 1 (f1 := (1, [(0, .ref a), (1, .int x)], [.int x])) (S1 := S) rfl ?_
  refine px_P.if_lt rfl rfl (fun h0 => ?_) (fun h0 => ?_)
  · refine px_P.sn 1 (f1 := (37, [(0, .ref a), (1, .int x)], [.int 0])) (S1 := S) rfl ?_
    refine px_P.ret rfl ?_
    rw [ss_hs_neg h0] at k
    exact k
  · refine px_P.sn 2 (f1 := (8, [(0, .ref a), (1, .int x)], [.int 208, .int x])) (S1 := S) rfl ?_
    refine px_P.ic_ge rfl rfl (fun h1 => ?_) (fun h1 => ?_)
    · refine px_P.sn 1 (f1 := (37, [(0, .ref a), (1, .int x)], [.int 0])) (S1 := S) rfl ?_
      refine px_P.ret rfl ?_
      rw [ss_hs_big h1] at k
      exact k
    · obtain ⟨n, hn, rfl⟩ := nN_of (n := 208) (by decide) (Int32.not_lt.mp h0) (Int32.not_le.mp h1)
      refine px_P.sn 1 (f1 := (12, [(0, .ref a), (1, .int (nI n))], [.ref a])) (S1 := S) rfl ?_
      refine px_P.gf rfl rfl (by assumption) (v := .ref t) rfl ?_
      refine px_P.sn 3 (f1 := (19, [(0, .ref a), (1, .int (nI n))], [.int ((nI n) >>> (6 &&& 31)), .ref t])) (S1 := S) rfl ?_
      refine px_P.laldj (j := n / 64) rfl (by assumption) (ss_6 (by omega)) (by omega) (by decide) ?_
      refine px_P.sn 8 (f1 := (29, [(0, .ref a), (1, .int (nI n))], [.int (lg_cmp ((((f (n / 64)).toUInt64 >>> (((nI n) &&& 63).toInt64.toUInt64 &&& Int64.toUInt64 63)).toInt64) &&& 1) 0)])) (S1 := S) rfl ?_
      have hb := ss_bit (f (n / 64)) (s := (nI n &&& 63).toInt64.toUInt64 &&& Int64.toUInt64 63) (j := n % 64) (by omega) (by rw [ss_63 (by omega)]; exact ss_cnt _ (by omega))
      rw [ss_hs_in hn] at k
      refine px_P.if_eq rfl rfl (fun h2 => ?_) (fun h2 => ?_)
      · refine px_P.sn 1 (f1 := (37, [(0, .ref a), (1, .int (nI n))], [.int 0])) (S1 := S) rfl ?_
        refine px_P.ret rfl ?_
        rw [show ss_in f n = false from hb.mp (lc_ne.mp h2)] at k
        exact k
      · refine px_P.sn 2 (f1 := (37, [(0, .ref a), (1, .int (nI n))], [.int 1])) (S1 := S) rfl ?_
        refine px_P.ret rfl ?_
        have h4 : ss_in f n = true := by
          cases hq : ss_in f n with
          | true => rfl
          | false => exact absurd (lc_ne.mpr (hb.mpr hq)) h2
        rw [h4] at k
        exact k
/-- the set with one more -/
def ss_put (f : Nat → Int64) (n : Nat) : Nat → Int64 := vp_updL f (n / 64) (f (n / 64) ||| ((1 : Int64) <<< ((nI n &&& 63).toInt64 &&& 63)))
theorem ss_put_in {f : Nat → Int64} {n : Nat} (hn : n < 208) (y : Nat) : ss_in (ss_put f n) y = (ss_in f y || decide (y = n)) := by
  have e : (f (n / 64) ||| ((1 : Int64) <<< ((nI n &&& 63).toInt64 &&& 63))).toBitVec = (f (n / 64)).toBitVec ||| BitVec.twoPow 64 (n % 64) := by
    rw [ss_63 (by omega)]
    show (f (n / 64)).toBitVec ||| ((1 : Int64) <<< ((nI (n % 64)).toInt64 &&& 63)).toBitVec = _
    rw [ss_shl _ (by omega)]
  unfold ss_in ss_put
  by_cases h : y / 64 = n / 64
  · rw [h]
    simp only [vp_updL, if_true]
    rw [e, BitVec.getLsbD_or, BitVec.getLsbD_twoPow]
    congr 1
    by_cases h2 : y % 64 = n % 64
    · have : y = n := by omega
      simp [this]
      omega
    · have : ¬ y = n := fun z => h2 (by rw [z])
      simp [this]
      intro _; omega
  · have : ¬ y = n := fun z => h (by rw [z])
    simp [vp_updL, h, this]
set_option maxHeartbeats 1000000 in
theorem pm_ss_add {d a t n : Nat} {f : Nat → Int64} {S : px_S} {Q : Option Value → px_S → Prop} (hd : 1 ≤ d) (ha : S.1 a = some (.inr (6, [.ref t]))) (ht : S.1 t = some (.inl (1, 4, .inr (.inl f)))) (hn : n < 208)
    (k : ∀ S1, px_Up S S1 t (.inl (1, 4, .inr (.inl (ss_put f n)))) → Q none S1) : px_M d px_m_SymbolSet_add [.ref a, .int (nI n)] S Q := by
  refine px_M.go hd (Nat.le_of_ble_eq_true rfl) ?_
  refine px_P.sn 1 (f1 := (1, [(0, .ref a), (1, .int (nI n))], [.int (nI n)])) (S1 := S) rfl ?_
  refine px_P.if_lt rfl rfl (fun h => absurd h (nI_pos (by omega))) (fun _ => ?_)
  refine px_P.sn 2 (f1 := (8, [(0, .ref a), (1, .int (nI n))], [.int 208, .int (nI n)])) (S1 := S) rfl ?_
  refine px_P.ic_ge rfl rfl (fun h => absurd h (nI_ge (b := 208) hn (by decide))) (fun _ => ?_)
  refine px_P.sn 1 (f1 := (12, [(0, .ref a), (1, .int (nI n))], [.ref a])) (S1 := S) rfl ?_
  refine px_P.gf rfl rfl (by assumption) (v := .ref t) rfl ?_
  refine px_P.sn 4 (f1 := (20, [(0, .ref a), (1, .int (nI n))], [.int ((nI n) >>> (6 &&& 31)), .ref t, .int ((nI n) >>> (6 &&& 31)), .ref t])) (S1 := S) rfl ?_
  refine px_P.laldj (j := n / 64) rfl (by assumption) (ss_6 (by omega)) (by omega) (by decide) ?_
  refine px_P.sn 6 (f1 := (28, [(0, .ref a), (1, .int (nI n))], [.long ((f (n / 64)) ||| ((1 : Int64) <<< (((nI n) &&& 63).toInt64 &&& 63))), .int ((nI n) >>> (6 &&& 31)), .ref t])) (S1 := S) rfl ?_
  refine px_P.lastj (j := n / 64) rfl (by assumption) (ss_6 (by omega)) (by omega) (by decide) (fun S1 u1 => ?_)
  refine px_P.ret rfl ?_
  exact k S1 u1
set_option maxHeartbeats 1000000 in
theorem pm_ss_clear {d a t : Nat} {f : Nat → Int64} {S : px_S} {Q : Option Value → px_S → Prop} (hd : 1 ≤ d) (hat : a ≠ t) (ha : S.1 a = some (.inr (6, [.ref t]))) (ht : S.1 t = some (.inl (1, 4, .inr (.inl f))))
    (k : ∀ S1 f', px_Up S S1 t (.inl (1, 4, .inr (.inl f'))) → (∀ j, j < 4 → f' j = 0) → Q none S1) : px_M d px_m_SymbolSet_clear [.ref a] S Q := by
  refine px_M.go hd (Nat.le_of_ble_eq_true rfl) ?_
  refine px_P.sn 2 (f1 := (2, [(0, .ref a), (1, .int 0)], [])) (S1 := S) rfl ?_
  have lp : ∀ (m i : Nat), i + m = 4 → ∀ (S1 : px_S) (g : Nat → Int64), px_Up S S1 t (.inl (1, 4, .inr (.inl g))) → (∀ j, j < i → g j = 0) → px_P (d - 1) px_m_SymbolSet_clear (2, [(0, .ref a), (1, .int (nI i))], []) S1 Q := by
    intro m
    induction m with
    | zero =>
      intro i hi S1 g u hg
      refine px_P.sn 2 (f1 := (4, [(0, .ref a), (1, .int (nI i))], [.int 4, .int (nI i)])) (S1 := S1) rfl ?_
      refine px_P.ic_ge rfl rfl (fun _ => ?_) (fun h => absurd (nI_le (a := 4) (by omega) (by omega)) h)
      refine px_P.ret rfl ?_
      exact k S1 g u (by rw [show i = 4 by omega] at hg; exact hg)
    | succ m ih =>
      intro i hi S1 g u hg
      have ha1 := u.n ha hat
      have ht1 := u.s
      refine px_P.sn 2 (f1 := (4, [(0, .ref a), (1, .int (nI i))], [.int 4, .int (nI i)])) (S1 := S1) rfl ?_
      refine px_P.ic_ge rfl rfl (fun h => absurd h (nI_ge (b := 4) (by omega) (by decide))) (fun _ => ?_)
      refine px_P.sn 1 (f1 := (8, [(0, .ref a), (1, .int (nI i))], [.ref a])) (S1 := S1) rfl ?_
      refine px_P.gf rfl rfl (by assumption) (v := .ref t) rfl ?_
      refine px_P.sn 2 (f1 := (13, [(0, .ref a), (1, .int (nI i))], [.long 0, .int (nI i), .ref t])) (S1 := S1) rfl ?_
      refine px_P.lastj (j := i) rfl (by assumption) rfl (by omega) (by decide) (fun S2 u2 => ?_)
      refine px_P.sn 2 (f1 := (2, [(0, .ref a), (1, .int ((nI i) + 1))], [])) (S1 := S2) rfl ?_
      rw [nI_1]
      exact ih (i + 1) (by omega) S2 _ (u.u u2) (fun j hj => by
        by_cases h : j = i
        · subst h; simp [vp_updL]
        · simp only [vp_updL, if_neg h]; exact hg j (by omega))
  exact lp 4 0 rfl S f (px_Up.rf ht) (fun j hj => absurd hj (by omega))
set_option maxHeartbeats 1000000 in
theorem pm_ss_addAll {d a t b s : Nat} {f g : Nat → Int64} {S : px_S} {Q : Option Value → px_S → Prop} (hd : 1 ≤ d) (hat : a ≠ t) (hbt : b ≠ t) (hst : s ≠ t) (ha : S.1 a = some (.inr (6, [.ref t]))) (ht : S.1 t = some (.inl (1, 4, .inr (.inl f))))
    (hb : S.1 b = some (.inr (6, [.ref s]))) (hs : S.1 s = some (.inl (1, 4, .inr (.inl g))))
    (k : ∀ S1 f', px_Up S S1 t (.inl (1, 4, .inr (.inl f'))) → (∀ j, j < 4 → f' j = f j ||| g j) → Q none S1) : px_M d px_m_SymbolSet_addAll [.ref a, .ref b] S Q := by
  refine px_M.go hd (Nat.le_of_ble_eq_true rfl) ?_
  refine px_P.sn 2 (f1 := (2, [(0, .ref a), (1, .ref b), (2, .int 0)], [])) (S1 := S) rfl ?_
  have lp : ∀ (m i : Nat), i + m = 4 → ∀ (S1 : px_S) (h : Nat → Int64), px_Up S S1 t (.inl (1, 4, .inr (.inl h))) → (∀ j, j < i → h j = f j ||| g j) → (∀ j, i ≤ j → h j = f j) → px_P (d - 1) px_m_SymbolSet_addAll (2, [(0, .ref a), (1, .ref b), (2, .int (nI i))], []) S1 Q := by
    intro m
    induction m with
    | zero =>
      intro i hi S1 h u h1 h2
      refine px_P.sn 2 (f1 := (4, [(0, .ref a), (1, .ref b), (2, .int (nI i))], [.int 4, .int (nI i)])) (S1 := S1) rfl ?_
      refine px_P.ic_ge rfl rfl (fun _ => ?_) (fun h => absurd (nI_le (a := 4) (by omega) (by omega)) h)
      refine px_P.ret rfl ?_
      exact k S1 h u (by rw [show i = 4 by omega] at h1; exact h1)
    | succ m ih =>
      intro i hi S1 h u h1 h2
      have ha1 := u.n ha hat
      have ht1 := u.s
      have hb1 := u.n hb hbt
      have hs1 := u.n hs hst
      refine px_P.sn 2 (f1 := (4, [(0, .ref a), (1, .ref b), (2, .int (nI i))], [.int 4, .int (nI i)])) (S1 := S1) rfl ?_
      refine px_P.ic_ge rfl rfl (fun h => absurd h (nI_ge (b := 4) (by omega) (by decide))) (fun _ => ?_)
      refine px_P.sn 1 (f1 := (8, [(0, .ref a), (1, .ref b), (2, .int (nI i))], [.ref a])) (S1 := S1) rfl ?_
      refine px_P.gf rfl rfl (by assumption) (v := .ref t) rfl ?_
      refine px_P.sn 2 (f1 := (13, [(0, .ref a), (1, .ref b), (2, .int (nI i))], [.int (nI i), .ref t, .int (nI i), .ref t])) (S1 := S1) rfl ?_
      refine px_P.laldj (j := i) rfl (by assumption) rfl (by omega) (by decide) ?_
      refine px_P.sn 1 (f1 := (15, [(0, .ref a), (1, .ref b), (2, .int (nI i))], [.ref b, .long (h i), .int (nI i), .ref t])) (S1 := S1) rfl ?_
      refine px_P.gf rfl rfl (by assumption) (v := .ref s) rfl ?_
      refine px_P.sn 1 (f1 := (19, [(0, .ref a), (1, .ref b), (2, .int (nI i))], [.int (nI i), .ref s, .long (h i), .int (nI i), .ref t])) (S1 := S1) rfl ?_
      refine px_P.laldj (j := i) rfl (by assumption) rfl (by omega) (by decide) ?_
      refine px_P.sn 1 (f1 := (21, [(0, .ref a), (1, .ref b), (2, .int (nI i))], [.long ((h i) ||| (g i)), .int (nI i), .ref t])) (S1 := S1) rfl ?_
      refine px_P.lastj (j := i) rfl (by assumption) rfl (by omega) (by decide) (fun S2 u2 => ?_)
      refine px_P.sn 2 (f1 := (2, [(0, .ref a), (1, .ref b), (2, .int ((nI i) + 1))], [])) (S1 := S2) rfl ?_
      rw [nI_1]
      refine ih (i + 1) (by omega) S2 _ (u.u u2) (fun j hj => ?_) (fun j hj => ?_)
      · by_cases e : j = i
        · subst e; simp only [vp_updL, if_true]; rw [h2 j (Nat.le_refl _)]
        · simp only [vp_updL, if_neg e]; exact h1 j (by omega)
      · have e : ¬ j = i := by omega
        simp only [vp_updL, if_neg e]; exact h2 j (by omega)
  exact lp 4 0 rfl S f (px_Up.rf ht) (fun j hj => absurd hj (by omega)) (fun _ _ => rfl)
theorem ss_or {f g h : Nat → Int64} (hh : ∀ j, j < 4 → h j = f j ||| g j) {y : Nat} (hy : y < 208) : ss_in h y = (ss_in f y || ss_in g y) := by
  unfold ss_in
  rw [hh (y / 64) (by omega)]
  show ((f (y / 64)).toBitVec ||| (g (y / 64)).toBitVec).getLsbD _ = _
  rw [BitVec.getLsbD_or]
theorem ss_none {f : Nat → Int64} (hf : ∀ j, j < 4 → f j = 0) {y : Nat} (hy : y < 208) : ss_in f y = false := by
  unfold ss_in
  rw [hf (y / 64) (by omega)]
  simp
end
section
/-! ===== Forms: what is reckoned with sets of forms ===== -/
def fm_letter (c : Int32) : Int32 := if c = 105 then 0 else if c = 102 then 1 else if c = 115 then 2 else if c = 110 then 3 else if c = 63 then 4 else -1
set_option maxHeartbeats 1000000 in
theorem pm_letterOf {d : Nat} {x : Int32} {S : px_S} {Q : Option Value → px_S → Prop} (hd : 1 ≤ d) (k : Q (some (.int (fm_letter x))) S) : px_M d px_m_Forms_letterOf [.int x] S Q := by
  refine px_M.go hd (Nat.le_of_ble_eq_true rfl) ?_
  refine px_P.sn 1 (f1 := (1, [(0, .int x)], [.int x])) (S1 := S) rfl ?_
  by_cases h1 : x = 105
  · subst h1
    refine px_P.sn 1 (f1 := (52, [(0, .int 105)], [])) (S1 := S) rfl ?_
    refine px_P.sn 1 (f1 := (53, [(0, .int 105)], [.int 0])) (S1 := S) rfl ?_
    refine px_P.ret rfl ?_
    exact k
  by_cases h2 : x = 102
  · subst h2
    refine px_P.sn 1 (f1 := (54, [(0, .int 102)], [])) (S1 := S) rfl ?_
    refine px_P.sn 1 (f1 := (55, [(0, .int 102)], [.int 1])) (S1 := S) rfl ?_
    refine px_P.ret rfl ?_
    exact k
  by_cases h3 : x = 115
  · subst h3
    refine px_P.sn 1 (f1 := (56, [(0, .int 115)], [])) (S1 := S) rfl ?_
    refine px_P.sn 1 (f1 := (57, [(0, .int 115)], [.int 2])) (S1 := S) rfl ?_
    refine px_P.ret rfl ?_
    exact k
  by_cases h4 : x = 110
  · subst h4
    refine px_P.sn 1 (f1 := (58, [(0, .int 110)], [])) (S1 := S) rfl ?_
    refine px_P.sn 1 (f1 := (59, [(0, .int 110)], [.int 3])) (S1 := S) rfl ?_
    refine px_P.ret rfl ?_
    exact k
  by_cases h5 : x = 63
  · subst h5
    refine px_P.sn 1 (f1 := (60, [(0, .int 63)], [])) (S1 := S) rfl ?_
    refine px_P.sn 1 (f1 := (61, [(0, .int 63)], [.int 4])) (S1 := S) rfl ?_
    refine px_P.ret rfl ?_
    exact k
  · refine px_P.lsw rfl rfl ((lv_osw h5 rfl).trans ((lv_osw h2 rfl).trans ((lv_osw h1 rfl).trans ((lv_osw h4 rfl).trans (lv_osw h3 rfl))))) (t := 62) rfl ?_
    refine px_P.sn 1 (f1 := (63, [(0, .int x)], [.int (-1)])) (S1 := S) rfl ?_
    refine px_P.ret rfl ?_
    rw [show fm_letter x = -1 from by simp only [fm_letter, h1, h2, h3, h4, h5, if_false]] at k
    exact k
def fm_lv (t : Int32) : Int32 := 31 <<< ((5 * t) &&& 31)
theorem pm_inLists {d : Nat} {x : Int32} {S : px_S} {Q : Option Value → px_S → Prop} (hd : 1 ≤ d) (k : Q (some (.int (fm_lv x))) S) : px_M d px_m_Forms_inLists [.int x] S Q := by
  refine px_M.go hd (Nat.le_of_ble_eq_true rfl) ?_
  refine px_P.sn 5 (f1 := (6, [(0, .int x)], [.int (31 <<< ((5 * x) &&& 31))])) (S1 := S) rfl ?_
  refine px_P.ret rfl ?_
  exact k
def fm_listed (x : Int32) : Int32 := if x &&& fm_lv 3 = 0 then (x &&& ((x &&& fm_lv 3) ^^^ (-1))) <<< ((5 : Int32) &&& 31) else ((x &&& ((x &&& fm_lv 3) ^^^ (-1))) <<< ((5 : Int32) &&& 31)) ||| 524288
theorem pm_listed {d : Nat} {x : Int32} {S : px_S} {Q : Option Value → px_S → Prop} (hd : 2 ≤ d) (k : Q (some (.int (fm_listed x))) S) : px_M d px_m_Forms_listed [.int x] S Q := by
  refine px_M.go (by omega) (Nat.le_of_ble_eq_true rfl) ?_
  refine px_P.sn 2 (f1 := (2, [(0, .int x)], [.int 3, .int x])) (S1 := S) rfl ?_
  refine px_P.call rfl ?_
  show px_M _ px_m_Forms_inLists [.int 3] S _
  refine pm_inLists (by omega) ?_
  show px_P _ _ (5, [(0, .int x)], [.int (fm_lv 3), .int x]) S _
  refine px_P.sn 11 (f1 := (16, [(0, .int x), (1, .int (x &&& (fm_lv 3))), (2, .int ((x &&& ((x &&& (fm_lv 3)) ^^^ (-1))) <<< (5 &&& 31)))], [.int (x &&& (fm_lv 3))])) (S1 := S) rfl ?_
  refine px_P.if_ne rfl rfl (fun h => ?_) (fun h => ?_)
  · refine px_P.sn 3 (f1 := (27, [(0, .int x), (1, .int (x &&& (fm_lv 3))), (2, .int ((x &&& ((x &&& (fm_lv 3)) ^^^ (-1))) <<< (5 &&& 31)))], [.int (((x &&& ((x &&& (fm_lv 3)) ^^^ (-1))) <<< (5 &&& 31)) ||| 524288)])) (S1 := S) rfl ?_
    refine px_P.ret rfl ?_
    rw [show fm_listed x = _ from if_neg h] at k
    exact k
  · refine px_P.sn 2 (f1 := (27, [(0, .int x), (1, .int (x &&& (fm_lv 3))), (2, .int ((x &&& ((x &&& (fm_lv 3)) ^^^ (-1))) <<< (5 &&& 31)))], [.int ((x &&& ((x &&& (fm_lv 3)) ^^^ (-1))) <<< (5 &&& 31))])) (S1 := S) rfl ?_
    refine px_P.ret rfl ?_
    rw [show fm_listed x = _ from if_pos h] at k
    exact k
def fm_un (x : Int32) : Int32 := (x.toUInt32 >>> ((5 : Int32).toUInt32 &&& Int32.toUInt32 31)).toInt32 ||| (x &&& 16)
theorem pm_unlisted {d : Nat} {x : Int32} {S : px_S} {Q : Option Value → px_S → Prop} (hd : 1 ≤ d) (k : Q (some (.int (fm_un x))) S) : px_M d px_m_Forms_unlisted [.int x] S Q := by
  refine px_M.go hd (Nat.le_of_ble_eq_true rfl) ?_
  refine px_P.sn 7 (f1 := (8, [(0, .int x)], [.int (((x.toUInt32 >>> ((5 : Int32).toUInt32 &&& Int32.toUInt32 31)).toInt32) ||| (x &&& 16))])) (S1 := S) rfl ?_
  refine px_P.ret rfl ?_
  exact k
def fm_unL (x : Int32) : Bool := decide (¬ (x &&& 31) &&& (-17) = 0)
theorem pm_unlistingLoses {d : Nat} {x : Int32} {S : px_S} {Q : Option Value → px_S → Prop} (hd : 1 ≤ d) (k : Q (some (.int (bif fm_unL x then 1 else 0))) S) : px_M d px_m_Forms_unlistingLoses [.int x] S Q := by
  refine px_M.go hd (Nat.le_of_ble_eq_true rfl) ?_
  refine px_P.sn 5 (f1 := (7, [(0, .int x)], [.int ((x &&& 31) &&& (-17))])) (S1 := S) rfl ?_
  refine px_P.if_eq rfl rfl (fun h => ?_) (fun h => ?_)
  · refine px_P.sn 1 (f1 := (15, [(0, .int x)], [.int 0])) (S1 := S) rfl ?_
    refine px_P.ret rfl ?_
    rw [show fm_unL x = false from decide_eq_false (fun z => z h)] at k
    exact k
  · refine px_P.sn 2 (f1 := (15, [(0, .int x)], [.int 1])) (S1 := S) rfl ?_
    refine px_P.ret rfl ?_
    rw [show fm_unL x = true from decide_eq_true h] at k
    exact k
theorem pm_withoutNil {d : Nat} {x : Int32} {S : px_S} {Q : Option Value → px_S → Prop} (hd : 1 ≤ d) (k : Q (some (.int (x &&& (-9)))) S) : px_M d px_m_Forms_withoutNil [.int x] S Q := by
  refine px_M.go hd (Nat.le_of_ble_eq_true rfl) ?_
  refine px_P.sn 3 (f1 := (4, [(0, .int x)], [.int (x &&& (-9))])) (S1 := S) rfl ?_
  refine px_P.ret rfl ?_
  exact k
def fm_na (x y : Int32) : Int32 := if x &&& ((1 <<< (y &&& 31)) ||| 16) = 0 then 0 else 1 <<< (y &&& 31)
theorem pm_narrowed {d : Nat} {x y : Int32} {S : px_S} {Q : Option Value → px_S → Prop} (hd : 1 ≤ d) (k : Q (some (.int (fm_na x y))) S) : px_M d px_m_Forms_narrowed [.int x, .int y] S Q := by
  refine px_M.go hd (Nat.le_of_ble_eq_true rfl) ?_
  refine px_P.sn 9 (f1 := (10, [(0, .int x), (1, .int y), (2, .int (1 <<< (y &&& 31)))], [.int (x &&& ((1 <<< (y &&& 31)) ||| 16))])) (S1 := S) rfl ?_
  refine px_P.if_eq rfl rfl (fun h => ?_) (fun h => ?_)
  · refine px_P.sn 1 (f1 := (18, [(0, .int x), (1, .int y), (2, .int (1 <<< (y &&& 31)))], [.int 0])) (S1 := S) rfl ?_
    refine px_P.ret rfl ?_
    rw [show fm_na x y = _ from if_pos h] at k
    exact k
  · refine px_P.sn 2 (f1 := (18, [(0, .int x), (1, .int y), (2, .int (1 <<< (y &&& 31)))], [.int (1 <<< (y &&& 31))])) (S1 := S) rfl ?_
    refine px_P.ret rfl ?_
    rw [show fm_na x y = _ from if_neg h] at k
    exact k
def fm_fl (x y : Int32) : Bool := decide (¬ x &&& 2 = 0) && decide (¬ y &&& 3 = 0)
theorem pm_makesFloat {d : Nat} {x y : Int32} {S : px_S} {Q : Option Value → px_S → Prop} (hd : 1 ≤ d) (k : Q (some (.int (bif fm_fl x y then 1 else 0))) S) : px_M d px_m_Forms_makesFloat [.int x, .int y] S Q := by
  refine px_M.go hd (Nat.le_of_ble_eq_true rfl) ?_
  refine px_P.sn 3 (f1 := (3, [(0, .int x), (1, .int y)], [.int (x &&& 2)])) (S1 := S) rfl ?_
  refine px_P.if_eq rfl rfl (fun h => ?_) (fun h => ?_)
  · refine px_P.sn 1 (f1 := (17, [(0, .int x), (1, .int y)], [.int 0])) (S1 := S) rfl ?_
    refine px_P.ret rfl ?_
    rw [show fm_fl x y = false from by simp [fm_fl, h]] at k
    exact k
  · refine px_P.sn 3 (f1 := (9, [(0, .int x), (1, .int y)], [.int (y &&& 3)])) (S1 := S) rfl ?_
    refine px_P.if_eq rfl rfl (fun h2 => ?_) (fun h2 => ?_)
    · refine px_P.sn 1 (f1 := (17, [(0, .int x), (1, .int y)], [.int 0])) (S1 := S) rfl ?_
      refine px_P.ret rfl ?_
      rw [show fm_fl x y = false from by simp [fm_fl, h2]] at k
      exact k
    · refine px_P.sn 2 (f1 := (17, [(0, .int x), (1, .int y)], [.int 1])) (S1 := S) rfl ?_
      refine px_P.ret rfl ?_
      rw [show fm_fl x y = true from by simp [fm_fl, h, h2]] at k
      exact k
/-- one turn of the sum's loop -/
def fm_s1 (l r : Int32) (t : Int32) (z : Int32) : Int32 := if l &&& fm_lv t = 0 then z else if r &&& fm_lv t = 0 then z else z ||| ((l ||| r) &&& fm_lv t)
def fm_s0 (l r : Int32) : Int32 := bif fm_fl l r || fm_fl r l then (((l ||| r) &&& 16) ||| ((l &&& r) &&& 5)) ||| 2 else (((l ||| r) &&& 16) ||| ((l &&& r) &&& 5))
def fm_sum (l r : Int32) : Int32 := if l = 0 then 0 else if r = 0 then 0 else fm_s1 l r 3 (fm_s1 l r 2 (fm_s1 l r 1 (fm_s0 l r)))
set_option maxHeartbeats 2000000 in
theorem pm_sum {d : Nat} {x y : Int32} {S : px_S} {Q : Option Value → px_S → Prop} (hd : 2 ≤ d) (k : Q (some (.int (fm_sum x y))) S) : px_M d px_m_Forms_sum [.int x, .int y] S Q := by
  have turn : ∀ (z t : Int32), t ≤ 3 → px_P (d - 1) px_m_Forms_sum (48, [(0, .int x), (1, .int y), (2, .int (x ||| y)), (3, .int (fm_s1 x y t z)), (4, .int (t + 1)), (5, .int (fm_lv t))], []) S Q →
      ∀ o : List (Nat × Value), (o = [] ∨ ∃ q, o = [(5, .int q)]) → px_P (d - 1) px_m_Forms_sum (48, [(0, .int x), (1, .int y), (2, .int (x ||| y)), (3, .int z), (4, .int t)] ++ o, []) S Q := by
    intro z t ht hk o ho
    have go : px_P (d - 1) px_m_Forms_sum (54, [(0, .int x), (1, .int y), (2, .int (x ||| y)), (3, .int z), (4, .int t)] ++ o, []) S Q := by
      have go2 : px_P (d - 1) px_m_Forms_sum (61, [(0, .int x), (1, .int y), (2, .int (x ||| y)), (3, .int z), (4, .int t), (5, .int (fm_lv t))], []) S Q := by
        refine px_P.sn 3 (f1 := (65, [(0, .int x), (1, .int y), (2, .int (x ||| y)), (3, .int z), (4, .int t), (5, .int (fm_lv t))], [.int (x &&& (fm_lv t))])) (S1 := S) rfl ?_
        refine px_P.if_eq rfl rfl (fun h1 => ?_) (fun h1 => ?_)
        · refine px_P.sn 2 (f1 := (48, [(0, .int x), (1, .int y), (2, .int (x ||| y)), (3, .int z), (4, .int (t + 1)), (5, .int (fm_lv t))], [])) (S1 := S) rfl ?_
          rw [show fm_s1 x y t z = z from if_pos h1] at hk
          exact hk
        · refine px_P.sn 3 (f1 := (72, [(0, .int x), (1, .int y), (2, .int (x ||| y)), (3, .int z), (4, .int t), (5, .int (fm_lv t))], [.int (y &&& (fm_lv t))])) (S1 := S) rfl ?_
          refine px_P.if_eq rfl rfl (fun h2 => ?_) (fun h2 => ?_)
          · refine px_P.sn 2 (f1 := (48, [(0, .int x), (1, .int y), (2, .int (x ||| y)), (3, .int z), (4, .int (t + 1)), (5, .int (fm_lv t))], [])) (S1 := S) rfl ?_
            rw [show fm_s1 x y t z = z from by simp only [fm_s1, h1, h2, if_false, if_true]] at hk
            exact hk
          · refine px_P.sn 8 (f1 := (48, [(0, .int x), (1, .int y), (2, .int (x ||| y)), (3, .int (z ||| ((x ||| y) &&& (fm_lv t)))), (4, .int (t + 1)), (5, .int (fm_lv t))], [])) (S1 := S) rfl ?_
            rw [show fm_s1 x y t z = z ||| ((x ||| y) &&& fm_lv t) from by simp only [fm_s1, h1, h2, if_false]] at hk
            exact hk
      rcases ho with rfl | ⟨q, rfl⟩
      · refine px_P.sn 1 (f1 := (56, [(0, .int x), (1, .int y), (2, .int (x ||| y)), (3, .int z), (4, .int t)], [.int t])) (S1 := S) rfl ?_
        refine px_P.call rfl ?_
        show px_M _ px_m_Forms_inLists [.int t] S _
        refine pm_inLists (by omega) ?_
        show px_P _ _ (59, [(0, .int x), (1, .int y), (2, .int (x ||| y)), (3, .int z), (4, .int t)], [.int (fm_lv t)]) S _
        refine px_P.sn 1 (f1 := (61, [(0, .int x), (1, .int y), (2, .int (x ||| y)), (3, .int z), (4, .int t), (5, .int (fm_lv t))], [])) (S1 := S) rfl ?_
        exact go2
      · refine px_P.sn 1 (f1 := (56, [(0, .int x), (1, .int y), (2, .int (x ||| y)), (3, .int z), (4, .int t), (5, .int q)], [.int t])) (S1 := S) rfl ?_
        refine px_P.call rfl ?_
        show px_M _ px_m_Forms_inLists [.int t] S _
        refine pm_inLists (by omega) ?_
        show px_P _ _ (59, [(0, .int x), (1, .int y), (2, .int (x ||| y)), (3, .int z), (4, .int t), (5, .int q)], [.int (fm_lv t)]) S _
        refine px_P.sn 1 (f1 := (61, [(0, .int x), (1, .int y), (2, .int (x ||| y)), (3, .int z), (4, .int t), (5, .int (fm_lv t))], [])) (S1 := S) rfl ?_
        exact go2
    rcases ho with rfl | ⟨q, rfl⟩
    · refine px_P.sn 2 (f1 := (51, [(0, .int x), (1, .int y), (2, .int (x ||| y)), (3, .int z), (4, .int t)], [.int 3, .int t])) (S1 := S) rfl ?_
      refine px_P.ic_gt rfl rfl (fun h => absurd h (Int32.not_lt.mpr ht)) (fun _ => ?_)
      exact go
    · refine px_P.sn 2 (f1 := (51, [(0, .int x), (1, .int y), (2, .int (x ||| y)), (3, .int z), (4, .int t), (5, .int q)], [.int 3, .int t])) (S1 := S) rfl ?_
      refine px_P.ic_gt rfl rfl (fun h => absurd h (Int32.not_lt.mpr ht)) (fun _ => ?_)
      exact go
  refine px_M.go (by omega) (Nat.le_of_ble_eq_true rfl) ?_
  refine px_P.sn 1 (f1 := (1, [(0, .int x), (1, .int y)], [.int x])) (S1 := S) rfl ?_
  refine px_P.if_eq rfl rfl (fun h1 => ?_) (fun h1 => ?_)
  · refine px_P.sn 1 (f1 := (9, [(0, .int x), (1, .int y)], [.int 0])) (S1 := S) rfl ?_
    refine px_P.ret rfl ?_
    rw [show fm_sum x y = 0 from by simp only [fm_sum, h1, if_true]] at k
    exact k
  · refine px_P.sn 1 (f1 := (5, [(0, .int x), (1, .int y)], [.int y])) (S1 := S) rfl ?_
    have rest : ¬ y = 0 → px_P (d - 1) px_m_Forms_sum (10, [(0, .int x), (1, .int y)], []) S Q := by
      intro h2
      rw [show fm_sum x y = fm_s1 x y 3 (fm_s1 x y 2 (fm_s1 x y 1 (fm_s0 x y))) from by simp only [fm_sum, h1, h2, if_false]] at k
      have tl : px_P (d - 1) px_m_Forms_sum (45, [(0, .int x), (1, .int y), (2, .int (x ||| y)), (3, .int (fm_s0 x y))], []) S Q := by
        refine px_P.sn 2 (f1 := (48, [(0, .int x), (1, .int y), (2, .int (x ||| y)), (3, .int (fm_s0 x y)), (4, .int 1)], [])) (S1 := S) rfl ?_
        refine turn (fm_s0 x y) 1 (by decide) ?_ [] (Or.inl rfl)
        refine turn _ 2 (by decide) ?_ _ (Or.inr ⟨_, rfl⟩)
        refine turn _ 3 (by decide) ?_ _ (Or.inr ⟨_, rfl⟩)
        refine px_P.sn 2 (f1 := (51, [(0, .int x), (1, .int y), (2, .int (x ||| y)), (3, .int (fm_s1 x y 3 (fm_s1 x y 2 (fm_s1 x y 1 (fm_s0 x y))))), (4, .int 4), (5, .int (fm_lv 3))], [.int 3, .int 4])) (S1 := S) rfl ?_
        refine px_P.ic_gt rfl rfl (fun _ => ?_) (fun h => absurd ((by decide)) h)
        refine px_P.sn 1 (f1 := (89, [(0, .int x), (1, .int y), (2, .int (x ||| y)), (3, .int (fm_s1 x y 3 (fm_s1 x y 2 (fm_s1 x y 1 (fm_s0 x y))))), (4, .int 4), (5, .int (fm_lv 3))], [.int (fm_s1 x y 3 (fm_s1 x y 2 (fm_s1 x y 1 (fm_s0 x y))))])) (S1 := S) rfl ?_
        refine px_P.ret rfl ?_
        exact k
      refine px_P.sn 16 (f1 := (27, [(0, .int x), (1, .int y), (2, .int (x ||| y)), (3, .int (((x ||| y) &&& 16) ||| ((x &&& y) &&& 5)))], [.int y, .int x])) (S1 := S) rfl ?_
      refine px_P.call rfl ?_
      show px_M _ px_m_Forms_makesFloat [.int x, .int y] S _
      refine pm_makesFloat (by omega) ?_
      cases hf : fm_fl x y with
      | true =>
        show px_P _ _ (30, [(0, .int x), (1, .int y), (2, .int (x ||| y)), (3, .int (((x ||| y) &&& 16) ||| ((x &&& y) &&& 5)))], [.int 1]) S _
        refine px_P.if_ne rfl rfl (fun _ => ?_) (fun h => absurd h ((by decide)))
        refine px_P.sn 4 (f1 := (45, [(0, .int x), (1, .int y), (2, .int (x ||| y)), (3, .int ((((x ||| y) &&& 16) ||| ((x &&& y) &&& 5)) ||| 2))], [])) (S1 := S) rfl ?_
        rw [show fm_s0 x y = _ from by simp only [fm_s0, hf, Bool.true_or, cond_true]; rfl] at tl
        exact tl
      | false =>
        show px_P _ _ (30, [(0, .int x), (1, .int y), (2, .int (x ||| y)), (3, .int (((x ||| y) &&& 16) ||| ((x &&& y) &&& 5)))], [.int 0]) S _
        refine px_P.if_ne rfl rfl (fun h => absurd (rfl) h) (fun _ => ?_)
        refine px_P.sn 2 (f1 := (35, [(0, .int x), (1, .int y), (2, .int (x ||| y)), (3, .int (((x ||| y) &&& 16) ||| ((x &&& y) &&& 5)))], [.int x, .int y])) (S1 := S) rfl ?_
        refine px_P.call rfl ?_
        show px_M _ px_m_Forms_makesFloat [.int y, .int x] S _
        refine pm_makesFloat (by omega) ?_
        cases hg : fm_fl y x with
        | true =>
          show px_P _ _ (38, [(0, .int x), (1, .int y), (2, .int (x ||| y)), (3, .int (((x ||| y) &&& 16) ||| ((x &&& y) &&& 5)))], [.int 1]) S _
          refine px_P.if_eq rfl rfl (fun h => absurd h ((by decide))) (fun _ => ?_)
          refine px_P.sn 4 (f1 := (45, [(0, .int x), (1, .int y), (2, .int (x ||| y)), (3, .int ((((x ||| y) &&& 16) ||| ((x &&& y) &&& 5)) ||| 2))], [])) (S1 := S) rfl ?_
          rw [show fm_s0 x y = _ from by simp only [fm_s0, hf, hg, Bool.or_true, cond_true]; rfl] at tl
          exact tl
        | false =>
          show px_P _ _ (38, [(0, .int x), (1, .int y), (2, .int (x ||| y)), (3, .int (((x ||| y) &&& 16) ||| ((x &&& y) &&& 5)))], [.int 0]) S _
          refine px_P.if_eq rfl rfl (fun _ => ?_) (fun h => absurd (rfl) h)
          rw [show fm_s0 x y = _ from by simp only [fm_s0, hf, hg, Bool.or_false, cond_false]; rfl] at tl
          exact tl
    refine px_P.if_ne rfl rfl (fun h2 => ?_) (fun h2 => ?_)
    · exact rest h2
    · refine px_P.sn 1 (f1 := (9, [(0, .int x), (1, .int y)], [.int 0])) (S1 := S) rfl ?_
      refine px_P.ret rfl ?_
      rw [show fm_sum x y = 0 from by simp only [fm_sum, h1, h2, if_false, if_true]] at k
      exact k
end
