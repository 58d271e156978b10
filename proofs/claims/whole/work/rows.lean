section
-- ===== PART A: goes FIRST, ahead of the names: the tables' words, and 'selects' of the private methods out of them =====
/-- a private method of a class that the tables say can be made, by its rows of tables_1 -/
def lw_okq (q : MethodName × Nat) : Prop := (q.1.cls ≠ "java/lang/invoke/MethodHandle" ∧ q.1.cls ≠ "java/lang/invoke/VarHandle") ∧ Cond.instantiable q.1.cls q.2 ∈ tables_1 ∧ Cond.privateMethod q.1 ∈ tables_1 ∧ Cond.instanceMethod q.1 ∈ tables_1
theorem lw_p0 : lw_okq (⟨"SharedBoard", "showNow", "()V"⟩, 9) := ⟨⟨by decide +kernel, by decide +kernel⟩, List.mem_of_getElem? (i := 20) (by decide +kernel), List.mem_of_getElem? (i := 278) (by decide +kernel), List.mem_of_getElem? (i := 279) (by decide +kernel)⟩
theorem lw_p1 : lw_okq (⟨"SharedBoard$Scene", "takeEffect", "(LSharedBoard$Log;I)V"⟩, 4) := ⟨⟨by decide +kernel, by decide +kernel⟩, List.mem_of_getElem? (i := 172) (by decide +kernel), List.mem_of_getElem? (i := 290) (by decide +kernel), List.mem_of_getElem? (i := 291) (by decide +kernel)⟩
theorem lw_p2 : lw_okq (⟨"SharedBoard$Scene", "eraseFrom", "(IILSharedBoard$Operation;)V"⟩, 4) := ⟨⟨by decide +kernel, by decide +kernel⟩, List.mem_of_getElem? (i := 172) (by decide +kernel), List.mem_of_getElem? (i := 298) (by decide +kernel), List.mem_of_getElem? (i := 299) (by decide +kernel)⟩
theorem lw_p3 : lw_okq (⟨"SharedBoard$Scene", "becomeBlank", "()V"⟩, 4) := ⟨⟨by decide +kernel, by decide +kernel⟩, List.mem_of_getElem? (i := 172) (by decide +kernel), List.mem_of_getElem? (i := 310) (by decide +kernel), List.mem_of_getElem? (i := 311) (by decide +kernel)⟩
theorem lw_p4 : lw_okq (⟨"SharedBoard$Scene", "paint", "(II)V"⟩, 4) := ⟨⟨by decide +kernel, by decide +kernel⟩, List.mem_of_getElem? (i := 172) (by decide +kernel), List.mem_of_getElem? (i := 318) (by decide +kernel), List.mem_of_getElem? (i := 319) (by decide +kernel)⟩
theorem lw_p5 : lw_okq (⟨"SharedBoard$Scene", "paintRow", "(III)V"⟩, 4) := ⟨⟨by decide +kernel, by decide +kernel⟩, List.mem_of_getElem? (i := 172) (by decide +kernel), List.mem_of_getElem? (i := 322) (by decide +kernel), List.mem_of_getElem? (i := 323) (by decide +kernel)⟩
theorem lw_p6 : lw_okq (⟨"SharedBoard$Scene", "countTops", "()V"⟩, 4) := ⟨⟨by decide +kernel, by decide +kernel⟩, List.mem_of_getElem? (i := 172) (by decide +kernel), List.mem_of_getElem? (i := 330) (by decide +kernel), List.mem_of_getElem? (i := 331) (by decide +kernel)⟩
theorem lw_p7 : lw_okq (⟨"SharedBoard$PathText", "takes", "(I)Z"⟩, 7) := ⟨⟨by decide +kernel, by decide +kernel⟩, List.mem_of_getElem? (i := 28) (by decide +kernel), List.mem_of_getElem? (i := 346) (by decide +kernel), List.mem_of_getElem? (i := 347) (by decide +kernel)⟩
theorem lw_p8 : lw_okq (⟨"SharedBoard$PathText", "takesDigit", "(I)Z"⟩, 7) := ⟨⟨by decide +kernel, by decide +kernel⟩, List.mem_of_getElem? (i := 28) (by decide +kernel), List.mem_of_getElem? (i := 350) (by decide +kernel), List.mem_of_getElem? (i := 351) (by decide +kernel)⟩
theorem lw_p9 : lw_okq (⟨"SharedBoard", "boardProperty", "(I)I"⟩, 9) := ⟨⟨by decide +kernel, by decide +kernel⟩, List.mem_of_getElem? (i := 20) (by decide +kernel), List.mem_of_getElem? (i := 373) (by decide +kernel), List.mem_of_getElem? (i := 374) (by decide +kernel)⟩
theorem lw_p10 : lw_okq (⟨"SharedBoard", "differentColors", "()I"⟩, 9) := ⟨⟨by decide +kernel, by decide +kernel⟩, List.mem_of_getElem? (i := 20) (by decide +kernel), List.mem_of_getElem? (i := 389) (by decide +kernel), List.mem_of_getElem? (i := 390) (by decide +kernel)⟩
theorem lw_p11 : lw_okq (⟨"SharedBoard", "marksSet", "()I"⟩, 9) := ⟨⟨by decide +kernel, by decide +kernel⟩, List.mem_of_getElem? (i := 20) (by decide +kernel), List.mem_of_getElem? (i := 424) (by decide +kernel), List.mem_of_getElem? (i := 425) (by decide +kernel)⟩
theorem lw_p12 : lw_okq (⟨"SharedBoard", "colorRegions", "()I"⟩, 9) := ⟨⟨by decide +kernel, by decide +kernel⟩, List.mem_of_getElem? (i := 20) (by decide +kernel), List.mem_of_getElem? (i := 433) (by decide +kernel), List.mem_of_getElem? (i := 434) (by decide +kernel)⟩
theorem lw_p13 : lw_okq (⟨"SharedBoard$Regions", "spread", "(IZ)V"⟩, 3) := ⟨⟨by decide +kernel, by decide +kernel⟩, List.mem_of_getElem? (i := 198) (by decide +kernel), List.mem_of_getElem? (i := 443) (by decide +kernel), List.mem_of_getElem? (i := 444) (by decide +kernel)⟩
theorem lw_p14 : lw_okq (⟨"SharedBoard$Regions", "enqueue", "(II)V"⟩, 3) := ⟨⟨by decide +kernel, by decide +kernel⟩, List.mem_of_getElem? (i := 198) (by decide +kernel), List.mem_of_getElem? (i := 453) (by decide +kernel), List.mem_of_getElem? (i := 454) (by decide +kernel)⟩
theorem lw_p15 : lw_okq (⟨"SharedBoard", "operationProperty", "(II)I"⟩, 9) := ⟨⟨by decide +kernel, by decide +kernel⟩, List.mem_of_getElem? (i := 20) (by decide +kernel), List.mem_of_getElem? (i := 461) (by decide +kernel), List.mem_of_getElem? (i := 462) (by decide +kernel)⟩
def lw_privs_1 : List (MethodName × Nat) := [(⟨"SharedBoard", "showNow", "()V"⟩, 9), (⟨"SharedBoard$Scene", "takeEffect", "(LSharedBoard$Log;I)V"⟩, 4), (⟨"SharedBoard$Scene", "eraseFrom", "(IILSharedBoard$Operation;)V"⟩, 4), (⟨"SharedBoard$Scene", "becomeBlank", "()V"⟩, 4), (⟨"SharedBoard$Scene", "paint", "(II)V"⟩, 4), (⟨"SharedBoard$Scene", "paintRow", "(III)V"⟩, 4), (⟨"SharedBoard$Scene", "countTops", "()V"⟩, 4), (⟨"SharedBoard$PathText", "takes", "(I)Z"⟩, 7), (⟨"SharedBoard$PathText", "takesDigit", "(I)Z"⟩, 7), (⟨"SharedBoard", "boardProperty", "(I)I"⟩, 9), (⟨"SharedBoard", "differentColors", "()I"⟩, 9), (⟨"SharedBoard", "marksSet", "()I"⟩, 9), (⟨"SharedBoard", "colorRegions", "()I"⟩, 9), (⟨"SharedBoard$Regions", "spread", "(IZ)V"⟩, 3), (⟨"SharedBoard$Regions", "enqueue", "(II)V"⟩, 3), (⟨"SharedBoard", "operationProperty", "(II)I"⟩, 9)]
theorem lw_r1 : ∀ q ∈ lw_privs_1, lw_okq q := List.forall_mem_cons.mpr ⟨lw_p0, List.forall_mem_cons.mpr ⟨lw_p1, List.forall_mem_cons.mpr ⟨lw_p2, List.forall_mem_cons.mpr ⟨lw_p3, List.forall_mem_cons.mpr ⟨lw_p4, List.forall_mem_cons.mpr ⟨lw_p5, List.forall_mem_cons.mpr ⟨lw_p6, List.forall_mem_cons.mpr ⟨lw_p7, List.forall_mem_cons.mpr ⟨lw_p8, List.forall_mem_cons.mpr ⟨lw_p9, List.forall_mem_cons.mpr ⟨lw_p10, List.forall_mem_cons.mpr ⟨lw_p11, List.forall_mem_cons.mpr ⟨lw_p12, List.forall_mem_cons.mpr ⟨lw_p13, List.forall_mem_cons.mpr ⟨lw_p14, List.forall_mem_cons.mpr ⟨lw_p15, fun _ h => absurd h List.not_mem_nil⟩⟩⟩⟩⟩⟩⟩⟩⟩⟩⟩⟩⟩⟩⟩⟩
theorem lw_p16 : lw_okq (⟨"SharedBoard", "userProperty", "(II)I"⟩, 9) := ⟨⟨by decide +kernel, by decide +kernel⟩, List.mem_of_getElem? (i := 20) (by decide +kernel), List.mem_of_getElem? (i := 465) (by decide +kernel), List.mem_of_getElem? (i := 466) (by decide +kernel)⟩
theorem lw_p17 : lw_okq (⟨"SharedBoard", "cellsOf", "(I)I"⟩, 9) := ⟨⟨by decide +kernel, by decide +kernel⟩, List.mem_of_getElem? (i := 20) (by decide +kernel), List.mem_of_getElem? (i := 478) (by decide +kernel), List.mem_of_getElem? (i := 479) (by decide +kernel)⟩
theorem lw_p18 : lw_okq (⟨"java/lang/Throwable", "fillInStackTrace", "(I)Ljava/lang/Throwable;"⟩, 6) := ⟨⟨by decide +kernel, by decide +kernel⟩, List.mem_of_getElem? (i := 536) (by decide +kernel), List.mem_of_getElem? (i := 534) (by decide +kernel), List.mem_of_getElem? (i := 535) (by decide +kernel)⟩
theorem lw_p19 : lw_okq (⟨"SharedBoard", "refuseWrongPath", "()V"⟩, 9) := ⟨⟨by decide +kernel, by decide +kernel⟩, List.mem_of_getElem? (i := 20) (by decide +kernel), List.mem_of_getElem? (i := 628) (by decide +kernel), List.mem_of_getElem? (i := 629) (by decide +kernel)⟩
theorem lw_p20 : lw_okq (⟨"SharedBoard", "refuseFullLog", "()V"⟩, 9) := ⟨⟨by decide +kernel, by decide +kernel⟩, List.mem_of_getElem? (i := 20) (by decide +kernel), List.mem_of_getElem? (i := 638) (by decide +kernel), List.mem_of_getElem? (i := 639) (by decide +kernel)⟩
theorem lw_p21 : lw_okq (⟨"SharedBoard$Log", "forgetRedoOf", "(I)V"⟩, 3) := ⟨⟨by decide +kernel, by decide +kernel⟩, List.mem_of_getElem? (i := 59) (by decide +kernel), List.mem_of_getElem? (i := 647) (by decide +kernel), List.mem_of_getElem? (i := 648) (by decide +kernel)⟩
theorem lw_p22 : lw_okq (⟨"SharedBoard", "takeCellsFromBuffer", "(LSharedBoard$Operation;)V"⟩, 9) := ⟨⟨by decide +kernel, by decide +kernel⟩, List.mem_of_getElem? (i := 20) (by decide +kernel), List.mem_of_getElem? (i := 651) (by decide +kernel), List.mem_of_getElem? (i := 652) (by decide +kernel)⟩
theorem lw_p23 : lw_okq (⟨"SharedBoard$PathText", "drawLine", "(IILSharedBoard$CellSet;)V"⟩, 7) := ⟨⟨by decide +kernel, by decide +kernel⟩, List.mem_of_getElem? (i := 28) (by decide +kernel), List.mem_of_getElem? (i := 661) (by decide +kernel), List.mem_of_getElem? (i := 662) (by decide +kernel)⟩
theorem lw_p24 : lw_okq (⟨"SharedBoard", "leaveOutClosedCells", "(LSharedBoard$Operation;)V"⟩, 9) := ⟨⟨by decide +kernel, by decide +kernel⟩, List.mem_of_getElem? (i := 20) (by decide +kernel), List.mem_of_getElem? (i := 674) (by decide +kernel), List.mem_of_getElem? (i := 675) (by decide +kernel)⟩
theorem lw_p25 : lw_okq (⟨"SharedBoard", "changedBySwitching", "(I)I"⟩, 9) := ⟨⟨by decide +kernel, by decide +kernel⟩, List.mem_of_getElem? (i := 20) (by decide +kernel), List.mem_of_getElem? (i := 687) (by decide +kernel), List.mem_of_getElem? (i := 688) (by decide +kernel)⟩
theorem lw_p26 : lw_okq (⟨"SharedBoard", "refuseUnsetMark", "(I)V"⟩, 9) := ⟨⟨by decide +kernel, by decide +kernel⟩, List.mem_of_getElem? (i := 20) (by decide +kernel), List.mem_of_getElem? (i := 819) (by decide +kernel), List.mem_of_getElem? (i := 820) (by decide +kernel)⟩
theorem lw_p27 : lw_okq (⟨"SharedBoard", "refuseWrongOperation", "(I)V"⟩, 9) := ⟨⟨by decide +kernel, by decide +kernel⟩, List.mem_of_getElem? (i := 20) (by decide +kernel), List.mem_of_getElem? (i := 879) (by decide +kernel), List.mem_of_getElem? (i := 880) (by decide +kernel)⟩
theorem lw_p28 : lw_okq (⟨"SharedBoardModel", "dropLeases", "(I)V"⟩, 33) := ⟨⟨by decide +kernel, by decide +kernel⟩, List.mem_of_getElem? (i := 900) (by decide +kernel), List.mem_of_getElem? (i := 1023) (by decide +kernel), List.mem_of_getElem? (i := 1024) (by decide +kernel)⟩
theorem lw_p29 : lw_okq (⟨"SharedBoardModel", "read", "()I"⟩, 33) := ⟨⟨by decide +kernel, by decide +kernel⟩, List.mem_of_getElem? (i := 900) (by decide +kernel), List.mem_of_getElem? (i := 1039) (by decide +kernel), List.mem_of_getElem? (i := 1040) (by decide +kernel)⟩
theorem lw_p30 : lw_okq (⟨"SharedBoardModel", "takes", "(I)Z"⟩, 33) := ⟨⟨by decide +kernel, by decide +kernel⟩, List.mem_of_getElem? (i := 900) (by decide +kernel), List.mem_of_getElem? (i := 1043) (by decide +kernel), List.mem_of_getElem? (i := 1044) (by decide +kernel)⟩
theorem lw_p31 : lw_okq (⟨"SharedBoardModel", "isPath", "()Z"⟩, 33) := ⟨⟨by decide +kernel, by decide +kernel⟩, List.mem_of_getElem? (i := 900) (by decide +kernel), List.mem_of_getElem? (i := 1057) (by decide +kernel), List.mem_of_getElem? (i := 1058) (by decide +kernel)⟩
def lw_privs_2 : List (MethodName × Nat) := [(⟨"SharedBoard", "userProperty", "(II)I"⟩, 9), (⟨"SharedBoard", "cellsOf", "(I)I"⟩, 9), (⟨"java/lang/Throwable", "fillInStackTrace", "(I)Ljava/lang/Throwable;"⟩, 6), (⟨"SharedBoard", "refuseWrongPath", "()V"⟩, 9), (⟨"SharedBoard", "refuseFullLog", "()V"⟩, 9), (⟨"SharedBoard$Log", "forgetRedoOf", "(I)V"⟩, 3), (⟨"SharedBoard", "takeCellsFromBuffer", "(LSharedBoard$Operation;)V"⟩, 9), (⟨"SharedBoard$PathText", "drawLine", "(IILSharedBoard$CellSet;)V"⟩, 7), (⟨"SharedBoard", "leaveOutClosedCells", "(LSharedBoard$Operation;)V"⟩, 9), (⟨"SharedBoard", "changedBySwitching", "(I)I"⟩, 9), (⟨"SharedBoard", "refuseUnsetMark", "(I)V"⟩, 9), (⟨"SharedBoard", "refuseWrongOperation", "(I)V"⟩, 9), (⟨"SharedBoardModel", "dropLeases", "(I)V"⟩, 33), (⟨"SharedBoardModel", "read", "()I"⟩, 33), (⟨"SharedBoardModel", "takes", "(I)Z"⟩, 33), (⟨"SharedBoardModel", "isPath", "()Z"⟩, 33)]
theorem lw_r2 : ∀ q ∈ lw_privs_2, lw_okq q := List.forall_mem_cons.mpr ⟨lw_p16, List.forall_mem_cons.mpr ⟨lw_p17, List.forall_mem_cons.mpr ⟨lw_p18, List.forall_mem_cons.mpr ⟨lw_p19, List.forall_mem_cons.mpr ⟨lw_p20, List.forall_mem_cons.mpr ⟨lw_p21, List.forall_mem_cons.mpr ⟨lw_p22, List.forall_mem_cons.mpr ⟨lw_p23, List.forall_mem_cons.mpr ⟨lw_p24, List.forall_mem_cons.mpr ⟨lw_p25, List.forall_mem_cons.mpr ⟨lw_p26, List.forall_mem_cons.mpr ⟨lw_p27, List.forall_mem_cons.mpr ⟨lw_p28, List.forall_mem_cons.mpr ⟨lw_p29, List.forall_mem_cons.mpr ⟨lw_p30, List.forall_mem_cons.mpr ⟨lw_p31, fun _ h => absurd h List.not_mem_nil⟩⟩⟩⟩⟩⟩⟩⟩⟩⟩⟩⟩⟩⟩⟩⟩
theorem lw_p32 : lw_okq (⟨"SharedBoardModel", "layPath", "()V"⟩, 33) := ⟨⟨by decide +kernel, by decide +kernel⟩, List.mem_of_getElem? (i := 900) (by decide +kernel), List.mem_of_getElem? (i := 1061) (by decide +kernel), List.mem_of_getElem? (i := 1062) (by decide +kernel)⟩
theorem lw_p33 : lw_okq (⟨"SharedBoardModel", "freshCells", "()V"⟩, 33) := ⟨⟨by decide +kernel, by decide +kernel⟩, List.mem_of_getElem? (i := 900) (by decide +kernel), List.mem_of_getElem? (i := 1065) (by decide +kernel), List.mem_of_getElem? (i := 1066) (by decide +kernel)⟩
theorem lw_p34 : lw_okq (⟨"SharedBoardModel", "addCell", "(I)V"⟩, 33) := ⟨⟨by decide +kernel, by decide +kernel⟩, List.mem_of_getElem? (i := 900) (by decide +kernel), List.mem_of_getElem? (i := 1069) (by decide +kernel), List.mem_of_getElem? (i := 1070) (by decide +kernel)⟩
theorem lw_p35 : lw_okq (⟨"SharedBoardModel", "addLine", "(IIII)V"⟩, 33) := ⟨⟨by decide +kernel, by decide +kernel⟩, List.mem_of_getElem? (i := 900) (by decide +kernel), List.mem_of_getElem? (i := 1073) (by decide +kernel), List.mem_of_getElem? (i := 1074) (by decide +kernel)⟩
theorem lw_p36 : lw_okq (⟨"SharedBoardModel", "add", "(IIIII)I"⟩, 33) := ⟨⟨by decide +kernel, by decide +kernel⟩, List.mem_of_getElem? (i := 900) (by decide +kernel), List.mem_of_getElem? (i := 1080) (by decide +kernel), List.mem_of_getElem? (i := 1081) (by decide +kernel)⟩
theorem lw_p37 : lw_okq (⟨"SharedBoardModel", "isClosed", "(II)Z"⟩, 33) := ⟨⟨by decide +kernel, by decide +kernel⟩, List.mem_of_getElem? (i := 900) (by decide +kernel), List.mem_of_getElem? (i := 1084) (by decide +kernel), List.mem_of_getElem? (i := 1085) (by decide +kernel)⟩
theorem lw_p38 : lw_okq (⟨"SharedBoardModel", "isInLease", "(II)Z"⟩, 33) := ⟨⟨by decide +kernel, by decide +kernel⟩, List.mem_of_getElem? (i := 900) (by decide +kernel), List.mem_of_getElem? (i := 1088) (by decide +kernel), List.mem_of_getElem? (i := 1089) (by decide +kernel)⟩
theorem lw_p39 : lw_okq (⟨"SharedBoardModel", "layNow", "()V"⟩, 33) := ⟨⟨by decide +kernel, by decide +kernel⟩, List.mem_of_getElem? (i := 900) (by decide +kernel), List.mem_of_getElem? (i := 1103) (by decide +kernel), List.mem_of_getElem? (i := 1104) (by decide +kernel)⟩
theorem lw_p40 : lw_okq (⟨"SharedBoardModel", "layAt", "(I)V"⟩, 33) := ⟨⟨by decide +kernel, by decide +kernel⟩, List.mem_of_getElem? (i := 900) (by decide +kernel), List.mem_of_getElem? (i := 1107) (by decide +kernel), List.mem_of_getElem? (i := 1108) (by decide +kernel)⟩
theorem lw_p41 : lw_okq (⟨"SharedBoardModel", "layLeft", "(I)V"⟩, 33) := ⟨⟨by decide +kernel, by decide +kernel⟩, List.mem_of_getElem? (i := 900) (by decide +kernel), List.mem_of_getElem? (i := 1111) (by decide +kernel), List.mem_of_getElem? (i := 1112) (by decide +kernel)⟩
theorem lw_p42 : lw_okq (⟨"SharedBoardModel", "eraseBy", "(I)V"⟩, 33) := ⟨⟨by decide +kernel, by decide +kernel⟩, List.mem_of_getElem? (i := 900) (by decide +kernel), List.mem_of_getElem? (i := 1115) (by decide +kernel), List.mem_of_getElem? (i := 1116) (by decide +kernel)⟩
theorem lw_p43 : lw_okq (⟨"SharedBoardModel", "meets", "(II)Z"⟩, 33) := ⟨⟨by decide +kernel, by decide +kernel⟩, List.mem_of_getElem? (i := 900) (by decide +kernel), List.mem_of_getElem? (i := 1119) (by decide +kernel), List.mem_of_getElem? (i := 1120) (by decide +kernel)⟩
theorem lw_p44 : lw_okq (⟨"SharedBoardModel", "layTop", "(II)V"⟩, 33) := ⟨⟨by decide +kernel, by decide +kernel⟩, List.mem_of_getElem? (i := 900) (by decide +kernel), List.mem_of_getElem? (i := 1123) (by decide +kernel), List.mem_of_getElem? (i := 1124) (by decide +kernel)⟩
theorem lw_p45 : lw_okq (⟨"SharedBoardModel", "isVanished", "(II)Z"⟩, 33) := ⟨⟨by decide +kernel, by decide +kernel⟩, List.mem_of_getElem? (i := 900) (by decide +kernel), List.mem_of_getElem? (i := 1127) (by decide +kernel), List.mem_of_getElem? (i := 1128) (by decide +kernel)⟩
theorem lw_p46 : lw_okq (⟨"SharedBoardModel", "keepPicture", "()V"⟩, 33) := ⟨⟨by decide +kernel, by decide +kernel⟩, List.mem_of_getElem? (i := 900) (by decide +kernel), List.mem_of_getElem? (i := 1134) (by decide +kernel), List.mem_of_getElem? (i := 1135) (by decide +kernel)⟩
theorem lw_p47 : lw_okq (⟨"SharedBoardModel", "shown", "(I)I"⟩, 33) := ⟨⟨by decide +kernel, by decide +kernel⟩, List.mem_of_getElem? (i := 900) (by decide +kernel), List.mem_of_getElem? (i := 1138) (by decide +kernel), List.mem_of_getElem? (i := 1139) (by decide +kernel)⟩
def lw_privs_3 : List (MethodName × Nat) := [(⟨"SharedBoardModel", "layPath", "()V"⟩, 33), (⟨"SharedBoardModel", "freshCells", "()V"⟩, 33), (⟨"SharedBoardModel", "addCell", "(I)V"⟩, 33), (⟨"SharedBoardModel", "addLine", "(IIII)V"⟩, 33), (⟨"SharedBoardModel", "add", "(IIIII)I"⟩, 33), (⟨"SharedBoardModel", "isClosed", "(II)Z"⟩, 33), (⟨"SharedBoardModel", "isInLease", "(II)Z"⟩, 33), (⟨"SharedBoardModel", "layNow", "()V"⟩, 33), (⟨"SharedBoardModel", "layAt", "(I)V"⟩, 33), (⟨"SharedBoardModel", "layLeft", "(I)V"⟩, 33), (⟨"SharedBoardModel", "eraseBy", "(I)V"⟩, 33), (⟨"SharedBoardModel", "meets", "(II)Z"⟩, 33), (⟨"SharedBoardModel", "layTop", "(II)V"⟩, 33), (⟨"SharedBoardModel", "isVanished", "(II)Z"⟩, 33), (⟨"SharedBoardModel", "keepPicture", "()V"⟩, 33), (⟨"SharedBoardModel", "shown", "(I)I"⟩, 33)]
theorem lw_r3 : ∀ q ∈ lw_privs_3, lw_okq q := List.forall_mem_cons.mpr ⟨lw_p32, List.forall_mem_cons.mpr ⟨lw_p33, List.forall_mem_cons.mpr ⟨lw_p34, List.forall_mem_cons.mpr ⟨lw_p35, List.forall_mem_cons.mpr ⟨lw_p36, List.forall_mem_cons.mpr ⟨lw_p37, List.forall_mem_cons.mpr ⟨lw_p38, List.forall_mem_cons.mpr ⟨lw_p39, List.forall_mem_cons.mpr ⟨lw_p40, List.forall_mem_cons.mpr ⟨lw_p41, List.forall_mem_cons.mpr ⟨lw_p42, List.forall_mem_cons.mpr ⟨lw_p43, List.forall_mem_cons.mpr ⟨lw_p44, List.forall_mem_cons.mpr ⟨lw_p45, List.forall_mem_cons.mpr ⟨lw_p46, List.forall_mem_cons.mpr ⟨lw_p47, fun _ h => absurd h List.not_mem_nil⟩⟩⟩⟩⟩⟩⟩⟩⟩⟩⟩⟩⟩⟩⟩⟩
theorem lw_p48 : lw_okq (⟨"SharedBoardModel", "others", "()I"⟩, 33) := ⟨⟨by decide +kernel, by decide +kernel⟩, List.mem_of_getElem? (i := 900) (by decide +kernel), List.mem_of_getElem? (i := 1142) (by decide +kernel), List.mem_of_getElem? (i := 1143) (by decide +kernel)⟩
theorem lw_p49 : lw_okq (⟨"SharedBoardModel", "layRegion", "(II)V"⟩, 33) := ⟨⟨by decide +kernel, by decide +kernel⟩, List.mem_of_getElem? (i := 900) (by decide +kernel), List.mem_of_getElem? (i := 1153) (by decide +kernel), List.mem_of_getElem? (i := 1154) (by decide +kernel)⟩
theorem lw_p50 : lw_okq (⟨"SharedBoardModel", "put", "(I)V"⟩, 33) := ⟨⟨by decide +kernel, by decide +kernel⟩, List.mem_of_getElem? (i := 900) (by decide +kernel), List.mem_of_getElem? (i := 1157) (by decide +kernel), List.mem_of_getElem? (i := 1158) (by decide +kernel)⟩
theorem lw_p51 : lw_okq (⟨"SharedBoardModel", "isInRegion", "(I)Z"⟩, 33) := ⟨⟨by decide +kernel, by decide +kernel⟩, List.mem_of_getElem? (i := 900) (by decide +kernel), List.mem_of_getElem? (i := 1161) (by decide +kernel), List.mem_of_getElem? (i := 1162) (by decide +kernel)⟩
theorem lw_p52 : lw_okq (⟨"SharedBoardModel", "isTouched", "(IZ)Z"⟩, 33) := ⟨⟨by decide +kernel, by decide +kernel⟩, List.mem_of_getElem? (i := 900) (by decide +kernel), List.mem_of_getElem? (i := 1165) (by decide +kernel), List.mem_of_getElem? (i := 1166) (by decide +kernel)⟩
theorem lw_p53 : lw_okq (⟨"SharedBoardModel", "isBeside", "(III)Z"⟩, 33) := ⟨⟨by decide +kernel, by decide +kernel⟩, List.mem_of_getElem? (i := 900) (by decide +kernel), List.mem_of_getElem? (i := 1169) (by decide +kernel), List.mem_of_getElem? (i := 1170) (by decide +kernel)⟩
theorem lw_p54 : lw_okq (⟨"SharedBoardModel", "latestOf", "(I)I"⟩, 33) := ⟨⟨by decide +kernel, by decide +kernel⟩, List.mem_of_getElem? (i := 900) (by decide +kernel), List.mem_of_getElem? (i := 1177) (by decide +kernel), List.mem_of_getElem? (i := 1178) (by decide +kernel)⟩
theorem lw_p55 : lw_okq (⟨"SharedBoardModel", "redoOf", "(I)I"⟩, 33) := ⟨⟨by decide +kernel, by decide +kernel⟩, List.mem_of_getElem? (i := 900) (by decide +kernel), List.mem_of_getElem? (i := 1185) (by decide +kernel), List.mem_of_getElem? (i := 1186) (by decide +kernel)⟩
theorem lw_p56 : lw_okq (⟨"SharedBoardModel", "mayLease", "(I)Z"⟩, 33) := ⟨⟨by decide +kernel, by decide +kernel⟩, List.mem_of_getElem? (i := 900) (by decide +kernel), List.mem_of_getElem? (i := 1193) (by decide +kernel), List.mem_of_getElem? (i := 1194) (by decide +kernel)⟩
theorem lw_p57 : lw_okq (⟨"SharedBoardModel", "leasesOf", "(I)I"⟩, 33) := ⟨⟨by decide +kernel, by decide +kernel⟩, List.mem_of_getElem? (i := 900) (by decide +kernel), List.mem_of_getElem? (i := 1201) (by decide +kernel), List.mem_of_getElem? (i := 1202) (by decide +kernel)⟩
theorem lw_p58 : lw_okq (⟨"SharedBoardModel", "holderOf", "(I)I"⟩, 33) := ⟨⟨by decide +kernel, by decide +kernel⟩, List.mem_of_getElem? (i := 900) (by decide +kernel), List.mem_of_getElem? (i := 1209) (by decide +kernel), List.mem_of_getElem? (i := 1210) (by decide +kernel)⟩
theorem lw_p59 : lw_okq (⟨"SharedBoardModel", "layMark", "(I)V"⟩, 33) := ⟨⟨by decide +kernel, by decide +kernel⟩, List.mem_of_getElem? (i := 900) (by decide +kernel), List.mem_of_getElem? (i := 1224) (by decide +kernel), List.mem_of_getElem? (i := 1225) (by decide +kernel)⟩
theorem lw_p60 : lw_okq (⟨"SharedBoardModel", "wasActive", "(II)Z"⟩, 33) := ⟨⟨by decide +kernel, by decide +kernel⟩, List.mem_of_getElem? (i := 900) (by decide +kernel), List.mem_of_getElem? (i := 1228) (by decide +kernel), List.mem_of_getElem? (i := 1229) (by decide +kernel)⟩
theorem lw_p61 : lw_okq (⟨"SharedBoardModel", "differenceNow", "(I)I"⟩, 33) := ⟨⟨by decide +kernel, by decide +kernel⟩, List.mem_of_getElem? (i := 900) (by decide +kernel), List.mem_of_getElem? (i := 1236) (by decide +kernel), List.mem_of_getElem? (i := 1237) (by decide +kernel)⟩
theorem lw_p62 : lw_okq (⟨"SharedBoardModel", "counted", "(I)I"⟩, 33) := ⟨⟨by decide +kernel, by decide +kernel⟩, List.mem_of_getElem? (i := 900) (by decide +kernel), List.mem_of_getElem? (i := 1260) (by decide +kernel), List.mem_of_getElem? (i := 1261) (by decide +kernel)⟩
theorem lw_p63 : lw_okq (⟨"SharedBoardModel", "actives", "()I"⟩, 33) := ⟨⟨by decide +kernel, by decide +kernel⟩, List.mem_of_getElem? (i := 900) (by decide +kernel), List.mem_of_getElem? (i := 1264) (by decide +kernel), List.mem_of_getElem? (i := 1265) (by decide +kernel)⟩
def lw_privs_4 : List (MethodName × Nat) := [(⟨"SharedBoardModel", "others", "()I"⟩, 33), (⟨"SharedBoardModel", "layRegion", "(II)V"⟩, 33), (⟨"SharedBoardModel", "put", "(I)V"⟩, 33), (⟨"SharedBoardModel", "isInRegion", "(I)Z"⟩, 33), (⟨"SharedBoardModel", "isTouched", "(IZ)Z"⟩, 33), (⟨"SharedBoardModel", "isBeside", "(III)Z"⟩, 33), (⟨"SharedBoardModel", "latestOf", "(I)I"⟩, 33), (⟨"SharedBoardModel", "redoOf", "(I)I"⟩, 33), (⟨"SharedBoardModel", "mayLease", "(I)Z"⟩, 33), (⟨"SharedBoardModel", "leasesOf", "(I)I"⟩, 33), (⟨"SharedBoardModel", "holderOf", "(I)I"⟩, 33), (⟨"SharedBoardModel", "layMark", "(I)V"⟩, 33), (⟨"SharedBoardModel", "wasActive", "(II)Z"⟩, 33), (⟨"SharedBoardModel", "differenceNow", "(I)I"⟩, 33), (⟨"SharedBoardModel", "counted", "(I)I"⟩, 33), (⟨"SharedBoardModel", "actives", "()I"⟩, 33)]
theorem lw_r4 : ∀ q ∈ lw_privs_4, lw_okq q := List.forall_mem_cons.mpr ⟨lw_p48, List.forall_mem_cons.mpr ⟨lw_p49, List.forall_mem_cons.mpr ⟨lw_p50, List.forall_mem_cons.mpr ⟨lw_p51, List.forall_mem_cons.mpr ⟨lw_p52, List.forall_mem_cons.mpr ⟨lw_p53, List.forall_mem_cons.mpr ⟨lw_p54, List.forall_mem_cons.mpr ⟨lw_p55, List.forall_mem_cons.mpr ⟨lw_p56, List.forall_mem_cons.mpr ⟨lw_p57, List.forall_mem_cons.mpr ⟨lw_p58, List.forall_mem_cons.mpr ⟨lw_p59, List.forall_mem_cons.mpr ⟨lw_p60, List.forall_mem_cons.mpr ⟨lw_p61, List.forall_mem_cons.mpr ⟨lw_p62, List.forall_mem_cons.mpr ⟨lw_p63, fun _ h => absurd h List.not_mem_nil⟩⟩⟩⟩⟩⟩⟩⟩⟩⟩⟩⟩⟩⟩⟩⟩
theorem lw_p64 : lw_okq (⟨"SharedBoardModel", "colored", "()I"⟩, 33) := ⟨⟨by decide +kernel, by decide +kernel⟩, List.mem_of_getElem? (i := 900) (by decide +kernel), List.mem_of_getElem? (i := 1268) (by decide +kernel), List.mem_of_getElem? (i := 1269) (by decide +kernel)⟩
theorem lw_p65 : lw_okq (⟨"SharedBoardModel", "colors", "()I"⟩, 33) := ⟨⟨by decide +kernel, by decide +kernel⟩, List.mem_of_getElem? (i := 900) (by decide +kernel), List.mem_of_getElem? (i := 1272) (by decide +kernel), List.mem_of_getElem? (i := 1273) (by decide +kernel)⟩
theorem lw_p66 : lw_okq (⟨"SharedBoardModel", "held", "()I"⟩, 33) := ⟨⟨by decide +kernel, by decide +kernel⟩, List.mem_of_getElem? (i := 900) (by decide +kernel), List.mem_of_getElem? (i := 1276) (by decide +kernel), List.mem_of_getElem? (i := 1277) (by decide +kernel)⟩
theorem lw_p67 : lw_okq (⟨"SharedBoardModel", "marks", "()I"⟩, 33) := ⟨⟨by decide +kernel, by decide +kernel⟩, List.mem_of_getElem? (i := 900) (by decide +kernel), List.mem_of_getElem? (i := 1280) (by decide +kernel), List.mem_of_getElem? (i := 1281) (by decide +kernel)⟩
theorem lw_p68 : lw_okq (⟨"SharedBoardModel", "covered", "()I"⟩, 33) := ⟨⟨by decide +kernel, by decide +kernel⟩, List.mem_of_getElem? (i := 900) (by decide +kernel), List.mem_of_getElem? (i := 1284) (by decide +kernel), List.mem_of_getElem? (i := 1285) (by decide +kernel)⟩
theorem lw_p69 : lw_okq (⟨"SharedBoardModel", "onTop", "(I)I"⟩, 33) := ⟨⟨by decide +kernel, by decide +kernel⟩, List.mem_of_getElem? (i := 900) (by decide +kernel), List.mem_of_getElem? (i := 1288) (by decide +kernel), List.mem_of_getElem? (i := 1289) (by decide +kernel)⟩
theorem lw_p70 : lw_okq (⟨"SharedBoardModel", "parts", "(I)I"⟩, 33) := ⟨⟨by decide +kernel, by decide +kernel⟩, List.mem_of_getElem? (i := 900) (by decide +kernel), List.mem_of_getElem? (i := 1292) (by decide +kernel), List.mem_of_getElem? (i := 1293) (by decide +kernel)⟩
theorem lw_p71 : lw_okq (⟨"SharedBoardModel", "meetRegion", "()V"⟩, 33) := ⟨⟨by decide +kernel, by decide +kernel⟩, List.mem_of_getElem? (i := 900) (by decide +kernel), List.mem_of_getElem? (i := 1296) (by decide +kernel), List.mem_of_getElem? (i := 1297) (by decide +kernel)⟩
theorem lw_p72 : lw_okq (⟨"SharedBoardModel", "isOperation", "(I)Z"⟩, 33) := ⟨⟨by decide +kernel, by decide +kernel⟩, List.mem_of_getElem? (i := 900) (by decide +kernel), List.mem_of_getElem? (i := 1304) (by decide +kernel), List.mem_of_getElem? (i := 1305) (by decide +kernel)⟩
theorem lw_p73 : lw_okq (⟨"SharedBoardModel", "told", "(II)I"⟩, 33) := ⟨⟨by decide +kernel, by decide +kernel⟩, List.mem_of_getElem? (i := 900) (by decide +kernel), List.mem_of_getElem? (i := 1308) (by decide +kernel), List.mem_of_getElem? (i := 1309) (by decide +kernel)⟩
theorem lw_p74 : lw_okq (⟨"SharedBoardModel", "strength", "(I)I"⟩, 33) := ⟨⟨by decide +kernel, by decide +kernel⟩, List.mem_of_getElem? (i := 900) (by decide +kernel), List.mem_of_getElem? (i := 1312) (by decide +kernel), List.mem_of_getElem? (i := 1313) (by decide +kernel)⟩
theorem lw_p75 : lw_okq (⟨"SharedBoardModel", "userNow", "(II)I"⟩, 33) := ⟨⟨by decide +kernel, by decide +kernel⟩, List.mem_of_getElem? (i := 900) (by decide +kernel), List.mem_of_getElem? (i := 1324) (by decide +kernel), List.mem_of_getElem? (i := 1325) (by decide +kernel)⟩
theorem lw_p76 : lw_okq (⟨"SharedBoardModel", "mix", "(J)V"⟩, 33) := ⟨⟨by decide +kernel, by decide +kernel⟩, List.mem_of_getElem? (i := 900) (by decide +kernel), List.mem_of_getElem? (i := 1337) (by decide +kernel), List.mem_of_getElem? (i := 1338) (by decide +kernel)⟩
def lw_privs_5 : List (MethodName × Nat) := [(⟨"SharedBoardModel", "colored", "()I"⟩, 33), (⟨"SharedBoardModel", "colors", "()I"⟩, 33), (⟨"SharedBoardModel", "held", "()I"⟩, 33), (⟨"SharedBoardModel", "marks", "()I"⟩, 33), (⟨"SharedBoardModel", "covered", "()I"⟩, 33), (⟨"SharedBoardModel", "onTop", "(I)I"⟩, 33), (⟨"SharedBoardModel", "parts", "(I)I"⟩, 33), (⟨"SharedBoardModel", "meetRegion", "()V"⟩, 33), (⟨"SharedBoardModel", "isOperation", "(I)Z"⟩, 33), (⟨"SharedBoardModel", "told", "(II)I"⟩, 33), (⟨"SharedBoardModel", "strength", "(I)I"⟩, 33), (⟨"SharedBoardModel", "userNow", "(II)I"⟩, 33), (⟨"SharedBoardModel", "mix", "(J)V"⟩, 33)]
theorem lw_r5 : ∀ q ∈ lw_privs_5, lw_okq q := List.forall_mem_cons.mpr ⟨lw_p64, List.forall_mem_cons.mpr ⟨lw_p65, List.forall_mem_cons.mpr ⟨lw_p66, List.forall_mem_cons.mpr ⟨lw_p67, List.forall_mem_cons.mpr ⟨lw_p68, List.forall_mem_cons.mpr ⟨lw_p69, List.forall_mem_cons.mpr ⟨lw_p70, List.forall_mem_cons.mpr ⟨lw_p71, List.forall_mem_cons.mpr ⟨lw_p72, List.forall_mem_cons.mpr ⟨lw_p73, List.forall_mem_cons.mpr ⟨lw_p74, List.forall_mem_cons.mpr ⟨lw_p75, List.forall_mem_cons.mpr ⟨lw_p76, fun _ h => absurd h List.not_mem_nil⟩⟩⟩⟩⟩⟩⟩⟩⟩⟩⟩⟩⟩
def lw_privs : List (MethodName × Nat) := lw_privs_1 ++ (lw_privs_2 ++ (lw_privs_3 ++ (lw_privs_4 ++ (lw_privs_5))))
def lw_tbl : List Cond := k2_sels lw_privs ++ tables_1
theorem lw_privs_ok : ∀ q ∈ lw_privs, lw_okq q := by
  show ∀ q ∈ lw_privs_1 ++ (lw_privs_2 ++ (lw_privs_3 ++ (lw_privs_4 ++ (lw_privs_5)))), lw_okq q
  exact List.forall_mem_append.mpr ⟨lw_r1, List.forall_mem_append.mpr ⟨lw_r2, List.forall_mem_append.mpr ⟨lw_r3, List.forall_mem_append.mpr ⟨lw_r4, lw_r5⟩⟩⟩⟩
/-- the streams that the claim lets the run draw from -/
abbrev lw_cs : List Choice := [Jvm.Choice.named "NaN.bits"]
theorem lw_bits : nanBits ∈ lw_cs := by first | decide | exact List.mem_cons_self | simp [lw_cs, nanBits]
end
section
/-! ===== BEGIN words of one list among another's, by their places ===== -/
theorem goodIn_r {big : List Cond} (ws : List Cond) (ps : List Nat) (hp : ws = ps.filterMap (fun i => big[i]?)) (h : ws.all goodWord = true) : GoodIn big ws := by
  intro w hw
  have h1 := List.all_eq_true.mp h w hw
  rw [hp] at hw
  obtain ⟨i, -, hi⟩ := List.mem_filterMap.mp hw
  have hm : w ∈ big := by first | exact List.mem_of_getElem? hi | exact List.getElem?_mem hi
  exact ⟨hm, good_of_word h1⟩
theorem goodIn_app {big a b : List Cond} (ha : GoodIn big a) (hb : GoodIn big b) : GoodIn big (a ++ b) := fun w h => (List.mem_append.mp h).elim (ha w) (hb w)
theorem goodIn_ca {big a b : List Cond} {c : Cond} (ha : GoodIn big (c :: a)) (hb : GoodIn big b) : GoodIn big (c :: (a ++ b)) := fun w h => (List.mem_cons.mp h).elim (fun e => ha w (List.mem_cons.mpr (Or.inl e))) (fun h => (List.mem_append.mp h).elim (fun h => ha w (List.mem_cons.mpr (Or.inr h))) (hb w))
theorem goodIn_sub {big ws : List Cond} (hm : ∀ w ∈ ws, w ∈ big) (h : ws.all goodWord = true) : GoodIn big ws := fun w hw => ⟨hm w hw, good_of_word (List.all_eq_true.mp h w hw)⟩
/-! ===== END ===== -/

/-! ===== BEGIN exceptions that leave a method, and their catching by the caller (launches without stack traces) ===== -/
section VXA
/-! The laws vx_back, vx_callV, vx_callS, vx_callSW, vx_throw0, vx_throwS follow proofs of the library, with one case more: JvmDerived/Free/Laws.lean (Back.of_free), Shelf42/LK1.lean (callV, callS), Shelf/KitTraced.lean (throwNew0V, throwNewS). -/
/-- where a method has thrown q: the class by its name, the cell, what was written, the world -/
def vx_T (XC : String → State → State → Prop) (st : State) (q : Addr) (t : State) (mc ms : Nat) (free : Addr → Prop) : Prop :=
  ∃ (E : String) (ce : Cell) (L : List Loc), XC E st t ∧ t.heap[q]? = some ce ∧ ce.vm = .none ∧ st.vm.findClass E = some ce.cls ∧ st.WarmedH t.vm ∧ st.sameButNew ({ t with vm := st.vm } : State) L mc ms ∧ ∀ z ∈ L, free z.base
def vx_Q (Qc : Array Value → State → Outcome → State → Prop) (XC : String → State → State → Prop) (mc ms : Nat) (free : Addr → Prop) : Array Value → State → Outcome → State → Prop := fun a st o t =>
  (Qc a st o t ∧ ∃ L, FrameEnd st o t L mc ms ∧ ∀ q ∈ L, free q.base) ∨ ∃ q, o = .threw q ∧ vx_T XC st q t mc ms free
/-- a callee that returns or throws -/
def vx_Met (l : Launch) (y : MethodName) (ws : List Cond) (rm : Room) (Pc : Array Value → State → Prop) (Qc : Array Value → State → Outcome → State → Prop) (XC : String → State → State → Prop) (mc ms : Nat) (free : Addr → Prop) : Prop :=
  MetFree l y (headSpec ws rm) Pc (fun _ _ _ _ _ => True) (vx_Q Qc XC mc ms free)
def vx_Post (XC : String → State → State → Prop) (mc ms : Nat) (free : Addr → Prop) : Pt → Array Value → Addr → Pt → Prop := fun A a q B =>
  ∃ (g : JFrame) (mk : MethodId) (t : State) (L : List Loc) (E : String) (ce : Cell), B.U.heap = t.heap ∧ B.U.vm = t.vm ∧ XC E (A.U.calling g mk a) t ∧ t.heap[q]? = some ce ∧ ce.vm = .none ∧ A.U.vm.findClass E = some ce.cls ∧ B.locs = A.locs ++ L ∧ (∀ z ∈ L, free z.base) ∧ B.cells = A.cells + mc ∧ B.slots = A.slots + ms
def vx_Back (l : Launch) (R : Room) (p : Program) (e : Env) (below : List Frame) (s : State) (sargs : Array Value) (y : MethodName) (len W9 : Nat)
    (Pre : Pt → Array Value → Prop) (Post : Pt → Array Value → Option Value → Pt → Prop) (PostX : Pt → Array Value → Addr → Pt → Prop) : Prop :=
  ∀ (m : MethodId) (meth : Method) (c : Code) (A : Pt) (g : JFrame) (ig : Instr) (mk : MethodId) (a : Array Value),
    Stand p l e R s m sargs below meth c A.U A.locs A.cells A.slots → g.method = m → g.locals.size = c.maxLocals → decode c.code g.pc = .ok (ig, len) →
    2 * g.monitorRoom + (g.stack.map fun v => v.category).sum ≤ W9 → A.U.methodNamed? y = some mk → Pre A a →
    (∃ (v : Option Value) (B : Pt), Stand p l e R s m sargs below meth c B.U B.locs B.cells B.slots ∧ Post A a v B ∧
      Steps p.tables e below (doInvoke e (A.U.setTop g) [] mk a).1 (B.U.setTop { g with pc := g.pc + len, stack := v.toList ++ g.stack })) ∨
    (∃ (q : Addr) (B : Pt), Stand p l e R s m sargs below meth c B.U B.locs B.cells B.slots ∧ PostX A a q B ∧
      Steps p.tables e below (doInvoke e (A.U.setTop g) [] mk a).1 ((B.U.setTop g).pushFrame (.throwing q)))
section Payer
variable {l : Launch} {R : Room} {p : Program} {e : Env} {below : List Frame} {s : State} {sargs : Array Value} {y : MethodName} {len W9 : Nat}
theorem vx_back {ws : List Cond} {rm : Room} {Pc : Array Value → State → Prop} {Qc : Array Value → State → Outcome → State → Prop} {XC : String → State → State → Prop} {mc ms : Nat} {free : Addr → Prop} {bytes : ByteArray} {maxL : Nat} {ret : Option FieldType}
    (hM : vx_Met l y ws rm Pc Qc XC mc ms free) (hblind : FrameBlind Pc) (hrc : rm.cells = mc) (hrs : rm.slots = ms)
    (hframes : rm.frames + 1 ≤ R.frames) (hlocals : W9 + (maxL + 11) + rm.locals ≤ R.locals)
    (hws : ∀ w ∈ ws, ∀ a' U, s.WarmedH U.vm → w.before a' U = true) (hcode : Cond.code y bytes maxL ret ∈ ws) (hinit : ∀ a' U, s.WarmedH U.vm → (Cond.initialized y.cls).before a' U = true) :
    vx_Back l R p e below s sargs y len W9 (PreOf R mc ms Pc) (PostOf Qc mc ms free) (vx_Post XC mc ms free) := by
  intro m meth c A g ig mk a X hg hsize hdg hW hn hp
  have h1 : (headSpec ws rm).pre.before a A.U = true := atoms_intro fun w hw => hws w hw _ _ X.warmed
  have h2 : (Cond.code y bytes maxL ret).before a A.U = true := hws _ hcode _ _ X.warmed
  have h3 : (Cond.initialized y.cls).before a A.U = true := hinit _ _ X.warmed
  have h4 : A.cells + (headSpec ws rm).room.cells ≤ R.cells := by rw [show (headSpec ws rm).room.cells = mc from hrc]; exact hp.1
  have h5 : A.slots + (headSpec ws rm).room.slots ≤ R.slots := by rw [show (headSpec ws rm).room.slots = ms from hrs]; exact hp.2.1
  have hPc : Pc a (A.U.calling g mk a) := hblind _ _ _ _ hp.2.2
  obtain ⟨U, Ls, c0, s0⟩ := A
  dsimp only [Pt.U, Pt.locs, Pt.cells, Pt.slots] at h1 h2 h3 h4 h5 X hn hPc ⊢
  obtain ⟨methY, cY, hmY, hcY, -, hlY, -, -, -, -⟩ := Cond.code_spec hn h2
  obtain ⟨kY, hkY, -⟩ := className_of_methodNamed hn
  have hinitY : kY.init = .initialized := Cond.initialized_spec (findClass_of_methodNamed hn) hkY h3
  have h : At U g.method c below := by rw [hg]; exact X.here
  have hlocals9 : W9 + (maxL + 11) + (headSpec ws rm).room.locals ≤ R.locals := hlocals
  have happ : (headSpec ws rm).appliesLoose y e.platform (U.calling g mk a) = true :=
    Spec.appliesLoose_calling (g := g) h hdg hn hkY hinitY
      (X.room_calling (g := g) (R' := (headSpec ws rm).room) hsize hmY hcY hframes (by rw [hlY]; omega) h4 h5) h1
  obtain ⟨mid, hmid⟩ := h.above
  have hfr : (U.setTop g).frames = (.java g :: mid) ++ below := by rw [State.frames_setTop' g h.top, hmid]; rfl
  obtain ⟨o, s₂, hsteps, -, hend, hq⟩ := Steps.callFree hM p X.admits X.cas X.clock (acts := []) hfr happ hPc trivial
  have hq' : vx_Q Qc XC mc ms free a (U.calling g mk a) o s₂ := hq
  rw [State.frames_setTop' g h.top] at hend
  obtain ⟨g₀, hg0⟩ := Option.isSome_iff_exists.mp h.top
  obtain ⟨r, hr⟩ := State.topJava?_eq_some.mp hg0
  have hr' : (({ U with heap := s₂.heap, slotsUsed := s₂.slotsUsed } : State).setVm s₂.vm).frames = .java g₀ :: r := hr
  rcases hq' with ⟨hqc, L, hfe, hL⟩ | ⟨q, rfl, E, ce, L, hx, hce, hcv, hcl, hW₂, hsm, hL⟩
  · obtain ⟨⟨v, rfl⟩, hW₂, e2, q2, q3, q4, q5, q6⟩ := id hfe
    have e3 : s₂ = ({ (U.calling g mk a).setFrames s₂.frames with heap := s₂.heap, slotsUsed := s₂.slotsUsed } : State).setVm s₂.vm := by
      have : s₂ = ({ s₂ with vm := (U.calling g mk a).vm } : State).setVm s₂.vm := rfl
      rw [e2] at this
      exact this
    obtain ⟨c₂, i₂, len₂, hc₂, hd₂, hf₂⟩ := hend
    have hW' : U.WarmedH s₂.vm := hW₂
    have hcc : c₂ = c := by
      have h1 : s₂.code? g.method = U.code? g.method := by
        rw [State.code?_eq, State.code?_eq, hW'.alike.method?]
      exact Option.some.inj (hc₂.symm.trans (h1.trans h.code))
    subst hcc
    have hlen : len₂ = len := by rw [hdg] at hd₂; cases hd₂; rfl
    subst hlen
    have hs₂ : s₂ = (({ U with heap := s₂.heap, slotsUsed := s₂.slotsUsed } : State).setVm s₂.vm).setTop { g with pc := g.pc + len₂, stack := v.toList ++ g.stack } := by
      refine e3.trans ?_
      rw [hf₂, State.calling_eq h.top, State.setFrames_setFrames, State.setTop_of_frames _ hr', hr]
      rfl
    have hsame : U.sameButNew ({ U with heap := s₂.heap, slotsUsed := s₂.slotsUsed } : State) L mc ms := by
      refine ⟨?_, q2, q3, q4, q5, q6⟩
      obtain ⟨t, ht, -⟩ := State.frames_cons hr
      show ({ U with heap := s₂.heap, slotsUsed := s₂.slotsUsed } : State) = { U.setFrames U.frames with heap := s₂.heap, slotsUsed := s₂.slotsUsed }
      rw [State.setFrames_self ht]
    subst hg
    refine Or.inl ⟨v, ⟨(({ U with heap := s₂.heap, slotsUsed := s₂.slotsUsed } : State).setVm s₂.vm), Ls ++ L, c0 + mc, s0 + ms⟩,
      ⟨X.admits, X.cas, X.clock, X.frames, X.room, X.hears, X.method, X.code, (X.here.setHeapUsed s₂.heap s₂.slotsUsed).setVm hW'.alike, X.tail, State.WarmedH.trans X.warmed hW', X.limits, X.bytes, X.same.trans (hsame.setVm s.vm)⟩,
      ⟨g, mk, s₂, L, rfl, rfl, hqc, rfl, hL, rfl, rfl⟩, ?_⟩
    show Steps p.tables e below _ ((({ U with heap := s₂.heap, slotsUsed := s₂.slotsUsed } : State).setVm s₂.vm).setTop { g with pc := g.pc + len₂, stack := v.toList ++ g.stack })
    rw [← hs₂]
    exact hsteps
  · obtain ⟨e2, q2, q3, q4, q5, q6⟩ := id hsm
    have e3 : s₂ = ({ (U.calling g mk a).setFrames s₂.frames with heap := s₂.heap, slotsUsed := s₂.slotsUsed } : State).setVm s₂.vm := by
      have : s₂ = ({ s₂ with vm := (U.calling g mk a).vm } : State).setVm s₂.vm := rfl
      rw [e2] at this
      exact this
    have hf₂ : s₂.frames = .throwing q :: .java g :: U.frames.tail := hend
    have hW' : U.WarmedH s₂.vm := hW₂
    have hs₂ : s₂ = ((({ U with heap := s₂.heap, slotsUsed := s₂.slotsUsed } : State).setVm s₂.vm).setTop g).pushFrame (.throwing q) := by
      refine e3.trans ?_
      rw [hf₂, State.calling_eq h.top, State.setFrames_setFrames, State.pushFrame, State.frames_setTop _ hr', State.setTop_of_frames _ hr', State.setFrames_setFrames, hr]
      rfl
    have hsame : U.sameButNew ({ U with heap := s₂.heap, slotsUsed := s₂.slotsUsed } : State) L mc ms := by
      refine ⟨?_, q2, q3, q4, q5, q6⟩
      obtain ⟨t, ht, -⟩ := State.frames_cons hr
      show ({ U with heap := s₂.heap, slotsUsed := s₂.slotsUsed } : State) = { U.setFrames U.frames with heap := s₂.heap, slotsUsed := s₂.slotsUsed }
      rw [State.setFrames_self ht]
    subst hg
    refine Or.inr ⟨q, ⟨(({ U with heap := s₂.heap, slotsUsed := s₂.slotsUsed } : State).setVm s₂.vm), Ls ++ L, c0 + mc, s0 + ms⟩,
      ⟨X.admits, X.cas, X.clock, X.frames, X.room, X.hears, X.method, X.code, (X.here.setHeapUsed s₂.heap s₂.slotsUsed).setVm hW'.alike, X.tail, State.WarmedH.trans X.warmed hW', X.limits, X.bytes, X.same.trans (hsame.setVm s.vm)⟩,
      ⟨g, mk, s₂, L, E, ce, rfl, rfl, hx, hce, hcv, hcl, rfl, hL, rfl, rfl⟩, ?_⟩
    show Steps p.tables e below _ (((({ U with heap := s₂.heap, slotsUsed := s₂.slotsUsed } : State).setVm s₂.vm).setTop g).pushFrame (.throwing q))
    rw [← hs₂]
    exact hsteps
end Payer
section Calls
variable {p : Program} {l : Launch} {e : Env} {R : Room} {s : State} {m : MethodId} {args : Array Value} {below : List Frame} {meth : Method} {c : Code} {T : State} {locs : List Loc} {cells slots : Nat}
theorem vx_callV (X : Stand p l e R s m args below meth c T locs cells slots) (hexec : p.tables.exec = Jvm.exec) {own C : String} {index : Nat} {y : MethodName} {bytes : ByteArray} {maxL : Nat} {ret : Option FieldType}
    (hown : s.vm.findClass own = some m.cls) (hlink : (Cond.methodLink own index y).before args s = true) (hinst : (Cond.instanceMethod y).before args s = true) (hsel : (Cond.selects C y y).before args s = true)
    (hcode : (Cond.code y bytes maxL ret).before args s = true) (hy : y.cls ≠ "java/lang/invoke/MethodHandle" ∧ y.cls ≠ "java/lang/invoke/VarHandle")
    {W9 : Nat} {Pre : Pt → Array Value → Prop} {Post : Pt → Array Value → Option Value → Pt → Prop} {PostX : Pt → Array Value → Addr → Pt → Prop} (hK : vx_Back l R p e below s args y 3 W9 Pre Post PostX)
    {b : Addr} {cellB : Cell} (hcell : T.heap[b]? = some cellB) (hobj : cellB.vm.isStatics = false) (hcls : s.vm.findClass C = some cellB.cls)
    {g : JFrame} (hg : g.method = m) (hsize : g.locals.size = c.maxLocals) {argsL rest : List Value} (hlen : ∀ sig, parseMethodDescriptor y.desc = some sig → argsL.length = sig.parameters.length)
    (hstack : g.stack = argsL.reverse ++ .ref b :: rest) (hW : 2 * g.monitorRoom + (rest.map fun v => v.category).sum ≤ W9) (hdg : decode c.code g.pc = .ok (.invokevirtual index, 3))
    (hpre : ∀ vm₁, s.WarmedH vm₁ → Pre ⟨T.setVm vm₁, locs, cells, slots⟩ (Value.ref b :: argsL).toArray) :
    (∃ (v : Option Value) (vm₁ : Vm) (B : Pt), s.WarmedH vm₁ ∧ Stand p l e R s m args below meth c B.U B.locs B.cells B.slots ∧ Post ⟨T.setVm vm₁, locs, cells, slots⟩ (Value.ref b :: argsL).toArray v B ∧
      ∀ target, Steps p.tables e below (B.U.setTop { g with pc := g.pc + 3, stack := v.toList ++ rest }) target → Steps p.tables e below (T.setTop g) target) ∨
    (∃ (q : Addr) (vm₁ : Vm) (B : Pt), s.WarmedH vm₁ ∧ Stand p l e R s m args below meth c B.U B.locs B.cells B.slots ∧ PostX ⟨T.setVm vm₁, locs, cells, slots⟩ (Value.ref b :: argsL).toArray q B ∧
      Steps p.tables e below (T.setTop g) ((B.U.setTop { g with stack := rest }).pushFrame (.throwing q))) := by
  obtain ⟨mk, methM, hnamed, hmethM, hstM, habM⟩ := Cond.instanceMethod_spec hinst
  obtain ⟨methM', cM, hmethM', -, -, -, -, -, -, hsigM⟩ := Cond.code_spec hnamed hcode
  cases hmethM.symm.trans hmethM'
  obtain ⟨c2, r2, m2, q1, q2, q3, q4, kP, hkP, hkPi⟩ := Cond.selects_spec hsel
  cases hcls.symm.trans q1
  cases (State.methodFound?_of_named hnamed hy).symm.trans q2
  cases hnamed.symm.trans q3
  have hselP : selectMethod e.platform s.vm cellB.cls mk = .method mk := by rw [Launch.admits_selectMethod X.admits]; exact q4
  obtain ⟨vm₁, X₁, hstep₁⟩ := X.invokevirtual hexec hown hlink hnamed hmethM hstM hkP hkPi hy (a := b) (cell := cellB) hcell
    (fun z h => by rw [h] at hobj; cases hobj) hselP hmethM habM hkP hkPi (g := g) hg (argsL := argsL) (rest := rest) (hlen _ hsigM) hstack hdg
  rcases hK m meth c ⟨T.setVm vm₁, locs, cells, slots⟩ { g with stack := rest } (.invokevirtual index) mk (Value.ref b :: argsL).toArray X₁ hg hsize hdg hW (X₁.named hnamed) (hpre vm₁ X₁.warmed) with ⟨v, B, X', hpost, hsteps⟩ | ⟨q, B, X', hpost, hsteps⟩
  · exact Or.inl ⟨v, vm₁, B, X₁.warmed, X', hpost, fun target h => hstep₁ _ fun acts => by rw [doInvoke_state]; exact hsteps.trans h⟩
  · exact Or.inr ⟨q, vm₁, B, X₁.warmed, X', hpost, hstep₁ _ fun acts => by rw [doInvoke_state]; exact hsteps⟩
theorem vx_callS (X : Stand p l e R s m args below meth c T locs cells slots) (hexec : p.tables.exec = Jvm.exec) {own : String} {index : Nat} {y : MethodName} {bytes : ByteArray} {maxL : Nat} {ret : Option FieldType}
    (hown : s.vm.findClass own = some m.cls) (hlink : (Cond.methodLink own index y).before args s = true) (hstat : (Cond.static y).before args s = true) (hinit : (Cond.initialized y.cls).before args s = true)
    (hcode : (Cond.code y bytes maxL ret).before args s = true) (hy : y.cls ≠ "java/lang/invoke/MethodHandle" ∧ y.cls ≠ "java/lang/invoke/VarHandle")
    {W9 : Nat} {Pre : Pt → Array Value → Prop} {Post : Pt → Array Value → Option Value → Pt → Prop} {PostX : Pt → Array Value → Addr → Pt → Prop} (hK : vx_Back l R p e below s args y 3 W9 Pre Post PostX)
    {g : JFrame} (hg : g.method = m) (hsize : g.locals.size = c.maxLocals) {argsL rest : List Value} (hlen : ∀ sig, parseMethodDescriptor y.desc = some sig → argsL.length = sig.parameters.length)
    (hstack : g.stack = argsL.reverse ++ rest) (hW : 2 * g.monitorRoom + (rest.map fun v => v.category).sum ≤ W9) (hdg : decode c.code g.pc = .ok (.invokestatic index, 3))
    (hpre : ∀ vm₁, s.WarmedH vm₁ → Pre ⟨T.setVm vm₁, locs, cells, slots⟩ argsL.toArray) :
    (∃ (v : Option Value) (vm₁ : Vm) (B : Pt), s.WarmedH vm₁ ∧ Stand p l e R s m args below meth c B.U B.locs B.cells B.slots ∧ Post ⟨T.setVm vm₁, locs, cells, slots⟩ argsL.toArray v B ∧
      ∀ target, Steps p.tables e below (B.U.setTop { g with pc := g.pc + 3, stack := v.toList ++ rest }) target → Steps p.tables e below (T.setTop g) target) ∨
    (∃ (q : Addr) (vm₁ : Vm) (B : Pt), s.WarmedH vm₁ ∧ Stand p l e R s m args below meth c B.U B.locs B.cells B.slots ∧ PostX ⟨T.setVm vm₁, locs, cells, slots⟩ argsL.toArray q B ∧
      Steps p.tables e below (T.setTop g) ((B.U.setTop { g with stack := rest }).pushFrame (.throwing q))) := by
  obtain ⟨mk, hnamed⟩ := Cond.code_named hcode
  obtain ⟨methM, cM, hmethM, -, -, -, -, -, -, hsigM⟩ := Cond.code_spec hnamed hcode
  have hstatic : methM.isStatic = true := Cond.static_spec hnamed hmethM hstat
  obtain ⟨kP, hkP, -⟩ := className_of_methodNamed hnamed
  have hinitP : kP.init = .initialized := Cond.initialized_spec (findClass_of_methodNamed hnamed) hkP hinit
  obtain ⟨vm₁, X₁, hstep₁⟩ := X.invokestatic hexec hown hlink hnamed hmethM hstatic hkP hinitP hy (g := g) hg (argsL := argsL) (rest := rest) (hlen _ hsigM) hstack hdg
  rcases hK m meth c ⟨T.setVm vm₁, locs, cells, slots⟩ { g with stack := rest } (.invokestatic index) mk argsL.toArray X₁ hg hsize hdg hW (X₁.named hnamed) (hpre vm₁ X₁.warmed) with ⟨v, B, X', hpost, hsteps⟩ | ⟨q, B, X', hpost, hsteps⟩
  · exact Or.inl ⟨v, vm₁, B, X₁.warmed, X', hpost, fun target h => hstep₁ _ fun acts => by rw [doInvoke_state]; exact hsteps.trans h⟩
  · exact Or.inr ⟨q, vm₁, B, X₁.warmed, X', hpost, hstep₁ _ fun acts => by rw [doInvoke_state]; exact hsteps⟩
end Calls
theorem vx_cls {s : State} {T : State} {vm₁ : Vm} {E : String} {k : ClassId} (hW : s.WarmedH vm₁) (h : (T.setVm vm₁).vm.findClass E = some k) : s.vm.findClass E = some k := by
  have h1 : vm₁.findClass E = some k := h
  rw [hW.alike.findClass] at h1
  exact h1
/-- the method's frame g, with q thrown over it -/
def vx_W (p : Program) (l : Launch) (e : Env) (R : Room) (s : State) (m : MethodId) (args : Array Value) (below : List Frame) (meth : Method) (c : Code) (H : Heap) (locs : List Loc) (cells slots : Nat) (Q : State → Prop) (g : JFrame) (q : Addr) : Prop :=
  ∀ T : State, T.heap = H → Stand p l e R s m args below meth c T locs cells slots → ∃ t, Steps p.tables e below ((T.setTop g).pushFrame (.throwing q)) t ∧ Q t
def vx_Run (p : Program) (l : Launch) (e : Env) (R : Room) (s : State) (m : MethodId) (args : Array Value) (below : List Frame) (meth : Method) (c : Code) (H : Heap) (locs : List Loc) (cells slots mc ms : Nat) (g : JFrame) (rest : List Value) (Qa : State → Outcome → State → Prop) (XC : String → State → State → Prop) (free : Addr → Prop) : Prop :=
  ∀ T : State, T.heap = H → Stand p l e R s m args below meth c T locs cells slots →
    (∃ (v : Option Value) (st₀ t T' : State) (L : List Loc), st₀.heap = H ∧ Stand p l e R s m args below meth c T' (locs ++ L) (cells + mc) (slots + ms) ∧ (∀ q ∈ L, free q.base) ∧ T'.heap = t.heap ∧ T'.vm = t.vm ∧ Qa st₀ (.returned v) t ∧
      Goes p e below T g T' { g with pc := g.pc + 3, stack := v.toList ++ rest }) ∨
    (∃ (q : Addr) (st₀ t T' : State) (L : List Loc) (E : String) (ce : Cell), st₀.heap = H ∧ Stand p l e R s m args below meth c T' (locs ++ L) (cells + mc) (slots + ms) ∧ (∀ z ∈ L, free z.base) ∧ T'.heap = t.heap ∧ T'.vm = t.vm ∧ XC E st₀ t ∧ t.heap[q]? = some ce ∧ ce.vm = .none ∧ s.vm.findClass E = some ce.cls ∧
      Steps p.tables e below (T.setTop g) ((T'.setTop { g with stack := rest }).pushFrame (.throwing q)))
def vx_X {S : Type} (px : S → Prop) (B : String → S → State → Prop) (A : Nat → Prop) : String → State → State → Prop := fun E st t => ∃ u : S, px u ∧ B E u t ∧ va_F A st t
section Runs
variable {p : Program} {l : Launch} {e : Env} {R : Room} {s : State} {m : MethodId} {args : Array Value} {below : List Frame} {meth : Method} {c : Code} {H : Heap} {locs : List Loc} {cells slots : Nat}
variable {y : MethodName} {bytes cc : ByteArray} {maxL nL mc ms n index : Nat} {ret : Option FieldType} {ws : List Cond} {rm : Room} {Pc : Array Value → State → Prop} {Qc : Array Value → State → Outcome → State → Prop} {XC : String → State → State → Prop} {free : Addr → Prop} {Ts : List Cond} {own C : String} {b : Addr} {As rest : List Value} {g : JFrame}
theorem vx_callBack (cb : CallB R s args own index y bytes maxL ret ws rm mc ms n) (hM : vx_Met l y ws rm Pc Qc XC mc ms free) (hbl : FrameBlind Pc) : vx_Back l R p e below s args y 3 8 (PreOf R mc ms Pc) (PostOf Qc mc ms free) (vx_Post XC mc ms free) := by
  obtain ⟨hrc, hrs, hfr, hlo, hws, hcw, -, hini, -⟩ := cb
  exact vx_back (bytes := bytes) (maxL := maxL) (ret := ret) hM hbl hrc hrs hfr hlo hws hcw (fun a' U hW => word_at hW (Or.inl (by first | rfl | simp [Cond.onTables, Cond.keeps, Cond.steady])) hini)
theorem vx_runV (S : CallFix p m c cc nL s args Ts own) (hM : vx_Met l y ws rm Pc Qc XC mc ms free) (cw : CallW R s args own C index y bytes maxL ret ws rm mc ms n) (hp : PreV s H C b Pc As)
    (hg : g.method = m) (hn : As.length = n) (hsize : g.locals.size = nL) (hstack : g.stack = As.reverse ++ .ref b :: rest) (hW : 2 * g.monitorRoom + (rest.map fun v => v.category).sum ≤ 8) (hdg : decode cc g.pc = .ok (.invokevirtual index, 3)) (hf : cells + mc ≤ R.cells ∧ slots + ms ≤ R.slots) :
    vx_Run p l e R s m args below meth c H locs cells slots mc ms g rest (Qc (Value.ref b :: As).toArray) XC free := by
  have hK : vx_Back l R p e below s args y 3 8 (PreOf R mc ms Pc) (PostOf Qc mc ms free) (vx_Post XC mc ms free) := vx_callBack cw.1 hM hp.1
  obtain ⟨⟨-, -, -, -, -, -, hcode, -, hy, hlen, hl⟩, hin, hse⟩ := cw
  obtain ⟨hx, hb, hml, ho, -⟩ := S
  obtain ⟨-, ⟨cellB, hcB, hoB, hclB⟩, hPc⟩ := hp
  intro T hT X
  rcases vx_callV X hx (C := C) (bytes := bytes) (maxL := maxL) (ret := ret) ho hl hin hse hcode hy hK (by rw [hT]; exact hcB) hoB hclB hg (hsize.trans hml.symm) (argsL := As) (rest := rest) (fun sig h => hn.trans (hlen sig h)) hstack hW (by rw [hb]; exact hdg)
    (fun vm₁ hW₁ => ⟨hf.1, hf.2, hPc (T.setVm vm₁) hT hW₁⟩) with ⟨v, vm₁, ⟨U', l2, c2, s2⟩, hW₁, X', ⟨g', mk, t, L, e1, e2, hq, h1, hL, h2, h3⟩, st⟩ | ⟨q, vm₁, ⟨U', l2, c2, s2⟩, hW₁, X', ⟨g', mk, t, L, E, ce, e1, e2, hq, hce, hcv, hcl, h1, hL, h2, h3⟩, st⟩
  · dsimp only [Pt.U, Pt.locs, Pt.cells, Pt.slots] at X' e1 e2 h1 h2 h3 st
    subst h1; subst h2; subst h3
    exact Or.inl ⟨v, (T.setVm vm₁).calling g' mk (Value.ref b :: As).toArray, t, U', L, hT, X', hL, e1, e2, hq, st⟩
  · dsimp only [Pt.U, Pt.locs, Pt.cells, Pt.slots] at X' e1 e2 h1 h2 h3 st hcl
    subst h1; subst h2; subst h3
    exact Or.inr ⟨q, (T.setVm vm₁).calling g' mk (Value.ref b :: As).toArray, t, U', L, E, ce, hT, X', hL, e1, e2, hq, hce, hcv, vx_cls hW₁ hcl, st⟩
theorem vx_runS (S : CallFix p m c cc nL s args Ts own) (hM : vx_Met l y ws rm Pc Qc XC mc ms free) (cw : CallB R s args own index y bytes maxL ret ws rm mc ms n ∧ (Cond.static y).before args s = true) (hp : PreS s H Pc As)
    (hg : g.method = m) (hn : As.length = n) (hsize : g.locals.size = nL) (hstack : g.stack = As.reverse ++ rest) (hW : 2 * g.monitorRoom + (rest.map fun v => v.category).sum ≤ 8) (hdg : decode cc g.pc = .ok (.invokestatic index, 3)) (hf : cells + mc ≤ R.cells ∧ slots + ms ≤ R.slots) :
    vx_Run p l e R s m args below meth c H locs cells slots mc ms g rest (Qc As.toArray) XC free := by
  have hK : vx_Back l R p e below s args y 3 8 (PreOf R mc ms Pc) (PostOf Qc mc ms free) (vx_Post XC mc ms free) := vx_callBack cw.1 hM hp.1
  obtain ⟨⟨-, -, -, -, -, -, hcode, hini, hy, hlen, hl⟩, hstt⟩ := cw
  obtain ⟨hx, hb, hml, ho, -⟩ := S
  intro T hT X
  rcases vx_callS X hx (bytes := bytes) (maxL := maxL) (ret := ret) ho hl hstt hini hcode hy hK hg (hsize.trans hml.symm) (argsL := As) (rest := rest) (fun sig h => hn.trans (hlen sig h)) hstack hW (by rw [hb]; exact hdg)
    (fun vm₁ hW₁ => ⟨hf.1, hf.2, hp.2 (T.setVm vm₁) hT hW₁⟩) with ⟨v, vm₁, ⟨U', l2, c2, s2⟩, hW₁, X', ⟨g', mk, t, L, e1, e2, hq, h1, hL, h2, h3⟩, st⟩ | ⟨q, vm₁, ⟨U', l2, c2, s2⟩, hW₁, X', ⟨g', mk, t, L, E, ce, e1, e2, hq, hce, hcv, hcl, h1, hL, h2, h3⟩, st⟩
  · dsimp only [Pt.U, Pt.locs, Pt.cells, Pt.slots] at X' e1 e2 h1 h2 h3 st
    subst h1; subst h2; subst h3
    exact Or.inl ⟨v, (T.setVm vm₁).calling g' mk As.toArray, t, U', L, hT, X', hL, e1, e2, hq, st⟩
  · dsimp only [Pt.U, Pt.locs, Pt.cells, Pt.slots] at X' e1 e2 h1 h2 h3 st hcl
    subst h1; subst h2; subst h3
    exact Or.inr ⟨q, (T.setVm vm₁).calling g' mk As.toArray, t, U', L, E, ce, hT, X', hL, e1, e2, hq, hce, hcv, vx_cls hW₁ hcl, st⟩
end Runs
section Rows
variable {p : Program} {l : Launch} {e : Env} {R : Room} {s : State} {m : MethodId} {args : Array Value} {below : List Frame} {meth : Method} {c : Code} {H : Heap} {locs : List Loc} {cells slots : Nat} {Q : State → Prop}
variable {mc ms : Nat} {free : Addr → Prop} {A0 A1 : Nat → Prop} {H0 : Heap} {a : Array Value} {pc : Nat} {ls : Array Slot} {st0 rest : List Value}
theorem vx_keep {st₀ t T' : State} {L : List Loc} (h0 : st₀.heap = H) (e1 : T'.heap = t.heap) (hS : va_S A0 H0 H locs) (hA : ∀ q, q < H.size → A1 q → A0 q) (hf : ∀ q, free q → A0 q) (hL : ∀ q ∈ L, free q.base) (hF : va_F A1 st₀ t) :
    H.size ≤ T'.heap.size ∧ (∀ q : Nat, q < H.size → ¬ A1 q → T'.heap[q]? = H[q]?) ∧ va_S A0 H0 T'.heap (locs ++ L) := by
  obtain ⟨hz, hk⟩ := hF
  rw [h0] at hz hk
  exact ⟨by rw [e1]; exact hz, fun q h1 h2 => by rw [e1]; exact hk q h1 h2,
    ⟨Nat.le_trans hS.1 (by rw [e1]; exact hz), fun q h1 h2 => by rw [e1, hk q (Nat.lt_of_lt_of_le h1 hS.1) (fun z => h2 (hA q (Nat.lt_of_lt_of_le h1 hS.1) z))]; exact hS.2.1 q h1 h2, fun q hq => by
      rcases List.mem_append.mp hq with h | h
      · exact hS.2.2 q h
      · exact hf _ (hL q h)⟩⟩
theorem vx_calli {S SX : Type} {post : Int32 → S → Prop} {px : SX → Prop} {B : S → State → Prop} {BX : String → SX → State → Prop} {AX : Nat → Prop} (hr : vx_Run p l e R s m args below meth c H locs cells slots mc ms (F0 m pc ls st0) rest (va_Qi post B A1 a) (vx_X px BX AX) free) (hS : va_S A0 H0 H locs) (hA : ∀ q, q < H.size → A1 q → A0 q) (hf : ∀ q, free q → A0 q) (hAX : ∀ q, q < H.size → AX q → A0 q)
    (kx : ∀ (E : String) (ce : Cell) (q9 : Addr) (u : SX) (t : State) (H1 : Heap) (locs1 : List Loc), t.heap = H1 → s.vm.Alike t.vm → px u → BX E u t → H.size ≤ H1.size → (∀ q : Nat, q < H.size → ¬ AX q → H1[q]? = H[q]?) → va_S A0 H0 H1 locs1 → H1[q9]? = some ce → ce.vm = .none → s.vm.findClass E = some ce.cls → vx_W p l e R s m args below meth c H1 locs1 (cells + mc) (slots + ms) Q (F0 m pc ls rest) q9)
    (kk : ∀ (r : Int32) (u : S) (t : State) (H1 : Heap) (locs1 : List Loc), t.heap = H1 → s.vm.Alike t.vm → post r u → B u t → H.size ≤ H1.size → (∀ q : Nat, q < H.size → ¬ A1 q → H1[q]? = H[q]?) → va_S A0 H0 H1 locs1 → W p l e R s m args below meth c H1 locs1 (cells + mc) (slots + ms) Q (F0 m (pc + 3) ls (.int r :: rest))) : W p l e R s m args below meth c H locs cells slots Q (F0 m pc ls st0) := by
  intro T hT X
  rcases hr T hT X with ⟨v, st₀, t, T', L, h0, X', hL, e1, e2, ⟨⟨r, u, hv, hp, hb⟩, hF⟩, st⟩ | ⟨q, st₀, t, T', L, E, ce, h0, X', hL, e1, e2, ⟨u, hp, hb, hF⟩, hce, hcv, hcl, st⟩
  · cases hv
    obtain ⟨k1, k2, k3⟩ := vx_keep h0 e1 hS hA hf hL hF
    obtain ⟨t2, a1, b1⟩ := kk r u t T'.heap (locs ++ L) e1.symm (by rw [← e2]; exact X'.warmed.alike) hp hb k1 k2 k3 T' rfl X'
    exact ⟨t2, st t2 a1, b1⟩
  · obtain ⟨k1, k2, k3⟩ := vx_keep h0 e1 hS hAX hf hL hF
    obtain ⟨t2, a1, b1⟩ := kx E ce q u t T'.heap (locs ++ L) e1.symm (by rw [← e2]; exact X'.warmed.alike) hp hb k1 k2 k3 (by rw [e1]; exact hce) hcv hcl T' rfl X'
    exact ⟨t2, st.trans a1, b1⟩
theorem vx_calll {S SX : Type} {post : Int64 → S → Prop} {px : SX → Prop} {B : S → State → Prop} {BX : String → SX → State → Prop} {AX : Nat → Prop} (hr : vx_Run p l e R s m args below meth c H locs cells slots mc ms (F0 m pc ls st0) rest (va_Ql post B A1 a) (vx_X px BX AX) free) (hS : va_S A0 H0 H locs) (hA : ∀ q, q < H.size → A1 q → A0 q) (hf : ∀ q, free q → A0 q) (hAX : ∀ q, q < H.size → AX q → A0 q)
    (kx : ∀ (E : String) (ce : Cell) (q9 : Addr) (u : SX) (t : State) (H1 : Heap) (locs1 : List Loc), t.heap = H1 → s.vm.Alike t.vm → px u → BX E u t → H.size ≤ H1.size → (∀ q : Nat, q < H.size → ¬ AX q → H1[q]? = H[q]?) → va_S A0 H0 H1 locs1 → H1[q9]? = some ce → ce.vm = .none → s.vm.findClass E = some ce.cls → vx_W p l e R s m args below meth c H1 locs1 (cells + mc) (slots + ms) Q (F0 m pc ls rest) q9)
    (kk : ∀ (r : Int64) (u : S) (t : State) (H1 : Heap) (locs1 : List Loc), t.heap = H1 → s.vm.Alike t.vm → post r u → B u t → H.size ≤ H1.size → (∀ q : Nat, q < H.size → ¬ A1 q → H1[q]? = H[q]?) → va_S A0 H0 H1 locs1 → W p l e R s m args below meth c H1 locs1 (cells + mc) (slots + ms) Q (F0 m (pc + 3) ls (.long r :: rest))) : W p l e R s m args below meth c H locs cells slots Q (F0 m pc ls st0) := by
  intro T hT X
  rcases hr T hT X with ⟨v, st₀, t, T', L, h0, X', hL, e1, e2, ⟨⟨r, u, hv, hp, hb⟩, hF⟩, st⟩ | ⟨q, st₀, t, T', L, E, ce, h0, X', hL, e1, e2, ⟨u, hp, hb, hF⟩, hce, hcv, hcl, st⟩
  · cases hv
    obtain ⟨k1, k2, k3⟩ := vx_keep h0 e1 hS hA hf hL hF
    obtain ⟨t2, a1, b1⟩ := kk r u t T'.heap (locs ++ L) e1.symm (by rw [← e2]; exact X'.warmed.alike) hp hb k1 k2 k3 T' rfl X'
    exact ⟨t2, st t2 a1, b1⟩
  · obtain ⟨k1, k2, k3⟩ := vx_keep h0 e1 hS hAX hf hL hF
    obtain ⟨t2, a1, b1⟩ := kx E ce q u t T'.heap (locs ++ L) e1.symm (by rw [← e2]; exact X'.warmed.alike) hp hb k1 k2 k3 (by rw [e1]; exact hce) hcv hcl T' rfl X'
    exact ⟨t2, st.trans a1, b1⟩
theorem vx_callf {S SX : Type} {post : UInt32 → S → Prop} {px : SX → Prop} {B : S → State → Prop} {BX : String → SX → State → Prop} {AX : Nat → Prop} (hr : vx_Run p l e R s m args below meth c H locs cells slots mc ms (F0 m pc ls st0) rest (va_Qf post B A1 a) (vx_X px BX AX) free) (hS : va_S A0 H0 H locs) (hA : ∀ q, q < H.size → A1 q → A0 q) (hf : ∀ q, free q → A0 q) (hAX : ∀ q, q < H.size → AX q → A0 q)
    (kx : ∀ (E : String) (ce : Cell) (q9 : Addr) (u : SX) (t : State) (H1 : Heap) (locs1 : List Loc), t.heap = H1 → s.vm.Alike t.vm → px u → BX E u t → H.size ≤ H1.size → (∀ q : Nat, q < H.size → ¬ AX q → H1[q]? = H[q]?) → va_S A0 H0 H1 locs1 → H1[q9]? = some ce → ce.vm = .none → s.vm.findClass E = some ce.cls → vx_W p l e R s m args below meth c H1 locs1 (cells + mc) (slots + ms) Q (F0 m pc ls rest) q9)
    (kk : ∀ (r : UInt32) (u : S) (t : State) (H1 : Heap) (locs1 : List Loc), t.heap = H1 → s.vm.Alike t.vm → post r u → B u t → H.size ≤ H1.size → (∀ q : Nat, q < H.size → ¬ A1 q → H1[q]? = H[q]?) → va_S A0 H0 H1 locs1 → W p l e R s m args below meth c H1 locs1 (cells + mc) (slots + ms) Q (F0 m (pc + 3) ls (.float r :: rest))) : W p l e R s m args below meth c H locs cells slots Q (F0 m pc ls st0) := by
  intro T hT X
  rcases hr T hT X with ⟨v, st₀, t, T', L, h0, X', hL, e1, e2, ⟨⟨r, u, hv, hp, hb⟩, hF⟩, st⟩ | ⟨q, st₀, t, T', L, E, ce, h0, X', hL, e1, e2, ⟨u, hp, hb, hF⟩, hce, hcv, hcl, st⟩
  · cases hv
    obtain ⟨k1, k2, k3⟩ := vx_keep h0 e1 hS hA hf hL hF
    obtain ⟨t2, a1, b1⟩ := kk r u t T'.heap (locs ++ L) e1.symm (by rw [← e2]; exact X'.warmed.alike) hp hb k1 k2 k3 T' rfl X'
    exact ⟨t2, st t2 a1, b1⟩
  · obtain ⟨k1, k2, k3⟩ := vx_keep h0 e1 hS hAX hf hL hF
    obtain ⟨t2, a1, b1⟩ := kx E ce q u t T'.heap (locs ++ L) e1.symm (by rw [← e2]; exact X'.warmed.alike) hp hb k1 k2 k3 (by rw [e1]; exact hce) hcv hcl T' rfl X'
    exact ⟨t2, st.trans a1, b1⟩
theorem vx_calld {S SX : Type} {post : UInt64 → S → Prop} {px : SX → Prop} {B : S → State → Prop} {BX : String → SX → State → Prop} {AX : Nat → Prop} (hr : vx_Run p l e R s m args below meth c H locs cells slots mc ms (F0 m pc ls st0) rest (va_Qd post B A1 a) (vx_X px BX AX) free) (hS : va_S A0 H0 H locs) (hA : ∀ q, q < H.size → A1 q → A0 q) (hf : ∀ q, free q → A0 q) (hAX : ∀ q, q < H.size → AX q → A0 q)
    (kx : ∀ (E : String) (ce : Cell) (q9 : Addr) (u : SX) (t : State) (H1 : Heap) (locs1 : List Loc), t.heap = H1 → s.vm.Alike t.vm → px u → BX E u t → H.size ≤ H1.size → (∀ q : Nat, q < H.size → ¬ AX q → H1[q]? = H[q]?) → va_S A0 H0 H1 locs1 → H1[q9]? = some ce → ce.vm = .none → s.vm.findClass E = some ce.cls → vx_W p l e R s m args below meth c H1 locs1 (cells + mc) (slots + ms) Q (F0 m pc ls rest) q9)
    (kk : ∀ (r : UInt64) (u : S) (t : State) (H1 : Heap) (locs1 : List Loc), t.heap = H1 → s.vm.Alike t.vm → post r u → B u t → H.size ≤ H1.size → (∀ q : Nat, q < H.size → ¬ A1 q → H1[q]? = H[q]?) → va_S A0 H0 H1 locs1 → W p l e R s m args below meth c H1 locs1 (cells + mc) (slots + ms) Q (F0 m (pc + 3) ls (.double r :: rest))) : W p l e R s m args below meth c H locs cells slots Q (F0 m pc ls st0) := by
  intro T hT X
  rcases hr T hT X with ⟨v, st₀, t, T', L, h0, X', hL, e1, e2, ⟨⟨r, u, hv, hp, hb⟩, hF⟩, st⟩ | ⟨q, st₀, t, T', L, E, ce, h0, X', hL, e1, e2, ⟨u, hp, hb, hF⟩, hce, hcv, hcl, st⟩
  · cases hv
    obtain ⟨k1, k2, k3⟩ := vx_keep h0 e1 hS hA hf hL hF
    obtain ⟨t2, a1, b1⟩ := kk r u t T'.heap (locs ++ L) e1.symm (by rw [← e2]; exact X'.warmed.alike) hp hb k1 k2 k3 T' rfl X'
    exact ⟨t2, st t2 a1, b1⟩
  · obtain ⟨k1, k2, k3⟩ := vx_keep h0 e1 hS hAX hf hL hF
    obtain ⟨t2, a1, b1⟩ := kx E ce q u t T'.heap (locs ++ L) e1.symm (by rw [← e2]; exact X'.warmed.alike) hp hb k1 k2 k3 (by rw [e1]; exact hce) hcv hcl T' rfl X'
    exact ⟨t2, st.trans a1, b1⟩
theorem vx_callv {S SX : Type} {post : S → Prop} {px : SX → Prop} {B : S → State → Prop} {BX : String → SX → State → Prop} {AX : Nat → Prop} (hr : vx_Run p l e R s m args below meth c H locs cells slots mc ms (F0 m pc ls st0) rest (va_Qv post B A1 a) (vx_X px BX AX) free) (hS : va_S A0 H0 H locs) (hA : ∀ q, q < H.size → A1 q → A0 q) (hf : ∀ q, free q → A0 q) (hAX : ∀ q, q < H.size → AX q → A0 q)
    (kx : ∀ (E : String) (ce : Cell) (q9 : Addr) (u : SX) (t : State) (H1 : Heap) (locs1 : List Loc), t.heap = H1 → s.vm.Alike t.vm → px u → BX E u t → H.size ≤ H1.size → (∀ q : Nat, q < H.size → ¬ AX q → H1[q]? = H[q]?) → va_S A0 H0 H1 locs1 → H1[q9]? = some ce → ce.vm = .none → s.vm.findClass E = some ce.cls → vx_W p l e R s m args below meth c H1 locs1 (cells + mc) (slots + ms) Q (F0 m pc ls rest) q9)
    (kk : ∀ (u : S) (t : State) (H1 : Heap) (locs1 : List Loc), t.heap = H1 → s.vm.Alike t.vm → post u → B u t → H.size ≤ H1.size → (∀ q : Nat, q < H.size → ¬ A1 q → H1[q]? = H[q]?) → va_S A0 H0 H1 locs1 → W p l e R s m args below meth c H1 locs1 (cells + mc) (slots + ms) Q (F0 m (pc + 3) ls (rest))) : W p l e R s m args below meth c H locs cells slots Q (F0 m pc ls st0) := by
  intro T hT X
  rcases hr T hT X with ⟨v, st₀, t, T', L, h0, X', hL, e1, e2, ⟨⟨u, hv, hp, hb⟩, hF⟩, st⟩ | ⟨q, st₀, t, T', L, E, ce, h0, X', hL, e1, e2, ⟨u, hp, hb, hF⟩, hce, hcv, hcl, st⟩
  · cases hv
    obtain ⟨k1, k2, k3⟩ := vx_keep h0 e1 hS hA hf hL hF
    obtain ⟨t2, a1, b1⟩ := kk u t T'.heap (locs ++ L) e1.symm (by rw [← e2]; exact X'.warmed.alike) hp hb k1 k2 k3 T' rfl X'
    exact ⟨t2, st t2 a1, b1⟩
  · obtain ⟨k1, k2, k3⟩ := vx_keep h0 e1 hS hAX hf hL hF
    obtain ⟨t2, a1, b1⟩ := kx E ce q u t T'.heap (locs ++ L) e1.symm (by rw [← e2]; exact X'.warmed.alike) hp hb k1 k2 k3 (by rw [e1]; exact hce) hcv hcl T' rfl X'
    exact ⟨t2, st.trans a1, b1⟩
/-- caught by the row x of this method's table; the rows ahead don't take it -/
theorem vx_catch {own name : String} {E : String} {ce : Cell} {q : Addr} (hown : s.vm.findClass own = some m.cls) (pre : List ExceptionTableEntry) (x : ExceptionTableEntry) (suf : List ExceptionTableEntry) (hsplit : c.exceptionTable.toList = pre ++ x :: suf)
    (hpass : ∀ z ∈ pre, covers z pc = false ∨ (z.catchType ≠ 0 ∧ ∃ nm : String, (Cond.classLink own z.catchType nm).before args s = true ∧ va_Nc E nm s)) (hx : covers x pc = true) (h0 : x.catchType ≠ 0)
    (hlink : (Cond.classLink own x.catchType name).before args s = true) (hcast : (Cond.castable E name).before args s = true) (hcell : H[q]? = some ce) (hv : ce.vm = .none) (hcl : s.vm.findClass E = some ce.cls)
    (kk : W p l e R s m args below meth c H locs cells slots Q (F0 m x.handlerPc ls [.ref q])) : vx_W p l e R s m args below meth c H locs cells slots Q (F0 m pc ls rest) q := by
  intro T hT X
  have hpl : e.platform.magicAccessors = ({} : Platform).magicAccessors := by rw [X.admits.platform]
  obtain ⟨c3, c4, hc3, hc4, hasg⟩ := Cond.castable_spec hcast
  cases Option.some.inj (hc3.symm.trans hcl)
  obtain ⟨c5, hc5, hcl5⟩ := Cond.classLink_spec hown hlink e.platform hpl
  cases Option.some.inj (hc4.symm.trans hc5)
  obtain ⟨vm', X', st⟩ := X.thenCaughtThrough q (g := F0 m pc ls rest) rfl (Steps.refl _) (by rw [hT]; exact hcell) (by rw [hv]; rfl) (by obtain ⟨k9, h9, -⟩ := Vm.findClass_spec hcl; exact ⟨k9, h9⟩) pre x suf hsplit
    (fun z hz => by
      rcases hpass z hz with h | ⟨hz0, nm, hl1, hn1⟩
      · exact Or.inl h
      · obtain ⟨c6, hc6, hcl6⟩ := Cond.classLink_spec hown hl1 e.platform hpl
        obtain ⟨a8, b8, h1, h2, h3⟩ := hn1
        cases Option.some.inj (h1.symm.trans hcl)
        cases Option.some.inj (h2.symm.trans hc6)
        exact Or.inr ⟨hz0, _, hcl6, h3⟩) hx (Or.inr ⟨h0, c4, hcl5, hasg⟩)
  obtain ⟨t, a1, b1⟩ := kk (T.setVm vm') hT X'
  exact ⟨t, st.trans a1, b1⟩
end Rows
section Ends
variable {p : Program} {l : Launch} {e : Env} {R : Room} {s : State} {m : MethodId} {args : Array Value} {below : List Frame} {meth : Method} {c : Code} {H : Heap} {locs : List Loc} {cells slots : Nat} {Q : State → Prop}
variable {mc ms : Nat} {free : Addr → Prop} {A0 A1 : Nat → Prop} {H0 : Heap} {a : Array Value} {ls : Array Slot} {st0 rest : List Value}
variable {Qc : Array Value → State → Outcome → State → Prop} {XC : String → State → State → Prop}
/-- what a body that may throw owes at its end -/
def vx_MQ (below : List Frame) (Qc : Array Value → State → Outcome → State → Prop) (XC : String → State → State → Prop) (a : Array Value) (s : State) (mc ms : Nat) (free : Addr → Prop) : State → Prop := fun t =>
  ∃ o, t.status = .running ∧ Ended t below o ∧ vx_Q Qc XC mc ms free a s o t
theorem vx_ret {g : JFrame} {mc ms : Nat} (k : W p l e R s m args below meth c H locs cells slots (MQ below Qc args s mc ms free) g) : W p l e R s m args below meth c H locs cells slots (vx_MQ below Qc XC args s mc ms free) g := by
  intro T hT X
  obtain ⟨t, a1, o, b1, b2, b3, b4⟩ := k T hT X
  exact ⟨t, a1, o, b1, b2, Or.inl ⟨b3, b4⟩⟩
/-- not caught here: it goes on to the caller -/
theorem vx_widen {g : JFrame} {q : Addr} {k n : Nat} (h1 : cells ≤ k) (h2 : slots ≤ n) (kk : vx_W p l e R s m args below meth c H locs k n Q g q) : vx_W p l e R s m args below meth c H locs cells slots Q g q := fun T hT X => kk T hT (stand_widen X h1 h2)
theorem vx_out {pc : Nat} {E : String} {ce : Cell} {q : Addr} {mc ms : Nat} (hout : ∀ x ∈ c.exceptionTable.toList, covers x pc = false) (hlocks : meth.locks = false) (hcell : H[q]? = some ce) (hv : ce.vm = .none) (hcl : s.vm.findClass E = some ce.cls)
    (hx : ∀ t : State, t.heap = H → s.vm.Alike t.vm → XC E s t) (hf : ∀ z ∈ locs, free z.base) (hc : cells ≤ mc) (hs : slots ≤ ms) :
    vx_W p l e R s m args below meth c H locs cells slots (vx_MQ below Qc XC args s mc ms free) (F0 m pc ls rest) q := by
  intro T hT X
  obtain ⟨st1, hrun, hend, hW, hsm⟩ := X.leaveThrown q (g := F0 m pc ls rest) rfl rfl rfl hout hlocks
  have hcell9 : (T.setFrames (.throwing q :: below)).heap[q]? = some ce := by
    show T.heap[q]? = some ce
    rw [hT]; exact hcell
  exact ⟨_, st1, .threw q, hrun, hend, Or.inr ⟨q, rfl, E, ce, locs, hx _ hT hW.alike, hcell9, hv, hcl, hW, hsm.mono hc hs, hf⟩⟩
theorem vx_frame {U : State} {k n : Nat} (h : s.sameButNew ({ U with vm := s.vm } : State) locs k n) : s.heap.size ≤ U.heap.size ∧ ∀ q : Nat, q < s.heap.size → (∀ z ∈ locs, z.base ≠ q) → U.heap[q]? = s.heap[q]? := by
  obtain ⟨-, h2, -, -, -, h6⟩ := h
  refine ⟨h2, fun q hq hz => ?_⟩
  obtain ⟨c9, e1, e2, e3, e4⟩ := h6 q _ (Array.getElem?_eq_getElem hq)
  have hs : c9.slots = (s.heap[q]).slots := Array.ext_getElem? fun i => e4 i fun hm => hz _ hm rfl
  have h9 : c9 = s.heap[q] := by
    rw [hs] at e2
    exact e2
  have e5 : U.heap[q]? = some c9 := e1
  rw [e5, h9, Array.getElem?_eq_getElem hq]
/-- the words of a throw but the four that speak of the heap -/
def vx_no (w : Cond) : Bool := decide (w ≠ .isRef (.static Bundle.tN "UNASSIGNED_STACK" Bundle.steD)) && decide (w ≠ .isRef (.static Bundle.tN "SUPPRESSED_SENTINEL" Bundle.listD)) && decide (w ≠ .laysStatic Bundle.tN "UNASSIGNED_STACK" Bundle.steD) && decide (w ≠ .laysStatic Bundle.tN "SUPPRESSED_SENTINEL" Bundle.listD)
def vx_at0 (own : String) (ic : Nat) (X : String) (names : List String) : List Cond := (Bundle.ownAtoms0 own ic X names).filter vx_no
def vx_atS (own : String) (ic : Nat) (X : String) (names : List String) : List Cond := (Bundle.ownAtoms own ic X names).filter vx_no
/-- a word that the tables alone decide, or a good one -/
def vx_ot (w : Cond) : Bool := w.onTables || goodWord w
theorem vx_ot_at {args a' : Array Value} {s U : State} {w : Cond} (hW : s.WarmedH U.vm) (hvm : s.vm = U.vm) (hg : vx_ot w = true) (h : w.before args s = true) : w.before a' U = true := by
  simp only [vx_ot, Bool.or_eq_true] at hg
  rcases hg with hg | hg
  · exact va_tabs hg hvm h
  · exact word_at hW (good_of_word hg) h
/-- a list's words: the good ones out of the method's own list, the others by premises of their own -/
theorem vx_hat {args : Array Value} {s : State} {L B : List Cond} (h1 : ∀ w ∈ L.filter goodWord, w.before args s = true) (h2 : ∀ w ∈ L.filter (fun w => !goodWord w), w ∈ B) (h3 : ∀ w ∈ B, w.before args s = true) : ∀ w ∈ L, w.before args s = true := by
  intro w hw
  by_cases g : goodWord w = true
  · exact h1 w (List.mem_filter.mpr ⟨hw, g⟩)
  · refine h3 w (h2 w (List.mem_filter.mpr ⟨hw, ?_⟩))
    show (!goodWord w) = true
    cases hgw : goodWord w
    · rfl
    · exact absurd hgw g
theorem vx_c {args : Array Value} {s : State} {w : Cond} {B : List Cond} (h : w.before args s = true) (t : ∀ w ∈ B, w.before args s = true) : ∀ w' ∈ w :: B, w'.before args s = true := fun w' h' => (List.mem_cons.mp h').elim (fun e => by rw [e]; exact h) (t w')
theorem vx_n {args : Array Value} {s : State} : ∀ w ∈ ([] : List Cond), w.before args s = true := fun _ h => nomatch h
theorem vx_own {args : Array Value} {s : State} {L : List Cond} (h1 : ∀ w ∈ L.filter vx_no, w.before args s = true)
    (hU : (Cond.isRef (.static Bundle.tN "UNASSIGNED_STACK" Bundle.steD)).before args s = true) (hN : (Cond.isRef (.static Bundle.tN "SUPPRESSED_SENTINEL" Bundle.listD)).before args s = true)
    (lU : (Cond.laysStatic Bundle.tN "UNASSIGNED_STACK" Bundle.steD).before args s = true) (lN : (Cond.laysStatic Bundle.tN "SUPPRESSED_SENTINEL" Bundle.listD).before args s = true) : ∀ w ∈ L, w.before args s = true := by
  intro w hw
  by_cases e1 : w = .isRef (.static Bundle.tN "UNASSIGNED_STACK" Bundle.steD)
  · rw [e1]; exact hU
  · by_cases e2 : w = .isRef (.static Bundle.tN "SUPPRESSED_SENTINEL" Bundle.listD)
    · rw [e2]; exact hN
    · by_cases e3 : w = .laysStatic Bundle.tN "UNASSIGNED_STACK" Bundle.steD
      · rw [e3]; exact lU
      · by_cases e4 : w = .laysStatic Bundle.tN "SUPPRESSED_SENTINEL" Bundle.listD
        · rw [e4]; exact lN
        · exact h1 w (List.mem_filter.mpr ⟨hw, by unfold vx_no; rw [decide_eq_true e1, decide_eq_true e2, decide_eq_true e3, decide_eq_true e4]; rfl⟩)
/-- where a static field lies, its class's statics cell in H -/
def vx_L (C n d : String) (A : Nat → Prop) (U : State) (H : Heap) : Prop := ∃ (c : ClassId) (k : Class) (i : Nat) (f : Field) (a : Nat) (cell : Cell), U.vm.findClass C = some c ∧ U.fieldFound? C n d = some (c, k, i, f) ∧ f.isStatic = true ∧ k.statics = some a ∧ H[a]? = some cell ∧ cell.vm.isStatics = true ∧ cell.cls = c ∧ f.slot < cell.slots.size ∧ k.staticTypes[f.slot]? = some f.type ∧ ¬ A a
theorem vx_L.moved {C n d : String} {A : Nat → Prop} {u U : State} {H : Heap} (hvm : u.vm.Alike U.vm) (h : vx_L C n d A u H) : vx_L C n d A U H := by
  obtain ⟨c, k, i, f, a, cell, h1, h2, h3, h4, h5, h6, h7, h8, h9, h10⟩ := h
  obtain ⟨k', hi', he⟩ := State.fieldFound?_setVm hvm h2
  exact ⟨c, k', i, f, a, cell, by rw [hvm.findClass]; exact h1, hi', h3, by rw [he]; exact h4, h5, h6, h7, h8, by rw [he]; exact h9, h10⟩
theorem vx_L.kept {C n d : String} {A : Nat → Prop} {U : State} {H H1 : Heap} (h : vx_L C n d A U H) (hq : ∀ a : Nat, a < H.size → ¬ A a → H1[a]? = H[a]?) : vx_L C n d A U H1 := by
  obtain ⟨c, k, i, f, a, cell, h1, h2, h3, h4, h5, h6, h7, h8, h9, h10⟩ := h
  exact ⟨c, k, i, f, a, cell, h1, h2, h3, h4, by rw [hq a (Array.getElem?_eq_some_iff.mp h5).1 h10]; exact h5, h6, h7, h8, h9, h10⟩
theorem vx_L.narrow {C n d : String} {A B : Nat → Prop} {U : State} {H : Heap} (h : vx_L C n d A U H) (hAB : ∀ q, B q → A q) : vx_L C n d B U H := by
  obtain ⟨c, k, i, f, a, cell, h1, h2, h3, h4, h5, h6, h7, h8, h9, h10⟩ := h
  exact ⟨c, k, i, f, a, cell, h1, h2, h3, h4, h5, h6, h7, h8, h9, fun z => h10 (hAB _ z)⟩
theorem vx_L.word {C n d : String} {A : Nat → Prop} {s : State} {args : Array Value} (h : vx_L C n d A s s.heap) : (Cond.laysStatic C n d).before args s = true := by
  obtain ⟨c, k, i, f, a, cell, h1, h2, h3, h4, h5, h6, h7, h8, h9, -⟩ := h
  show (Cond.laysStatic C n d).holds args s none s [] = true
  exact Cond.laysStatic_of h1 h2 h3 h4 h5 h6 h7 h8 h9
/-- .. and what it holds: null or some reference -/
def vx_Zq (C n d : String) (A : Nat → Prop) (U : State) (H : Heap) : Prop := va_Zq C n d A U H ∧ vx_L C n d A U H
theorem vx_Zq.moved {C n d : String} {A : Nat → Prop} {u U : State} {H : Heap} (hvm : u.vm.Alike U.vm) (h : vx_Zq C n d A u H) : vx_Zq C n d A U H := ⟨va_Zq.moved hvm h.1, vx_L.moved hvm h.2⟩
theorem vx_Zq.kept {C n d : String} {A : Nat → Prop} {U : State} {H H1 : Heap} (h : vx_Zq C n d A U H) (hq : ∀ a : Nat, a < H.size → ¬ A a → H1[a]? = H[a]?) : vx_Zq C n d A U H1 := ⟨va_Zq.kept h.1 hq, vx_L.kept h.2 hq⟩
theorem vx_Zq.narrow {C n d : String} {A B : Nat → Prop} {U : State} {H : Heap} (h : vx_Zq C n d A U H) (hAB : ∀ q, B q → A q) : vx_Zq C n d B U H := ⟨va_Zq.narrow h.1 hAB, vx_L.narrow h.2 hAB⟩
theorem vx_Zqof {args : Array Value} {s : State} {C n d : String} {A : Nat → Prop} (hl : (Cond.laysStatic C n d).before args s = true) (hini : (Cond.initialized C).before args s = true) (h : (Cond.isRef (.static C n d)).before args s = true) (hA : ∀ a : Nat, a < s.heap.size → ¬ A a) : vx_Zq C n d A s s.heap := by
  refine ⟨va_Zqof hl hini h hA, ?_⟩
  obtain ⟨c, k, i, f, a, cell, h1, h2, h3, h4, h5, h6, h7, h8, h9⟩ := Cond.laysStatic_spec hl
  exact ⟨c, k, i, f, a, cell, h1, h2, h3, h4, h5, h6, h7, h8, h9, hA a (Array.getElem?_eq_some_iff.mp h5).1⟩
theorem vx_isRef {C n d : String} {v : Value} {A : Nat → Prop} {s : State} {args : Array Value} (h : va_Z C n d v A s s.heap) (hv : v.isRef = true) : (Cond.isRef (.static C n d)).before args s = true := by
  obtain ⟨cf, kf, fi, f, a, cell, h1, h2, h3, h4, h5, h6, h7, -⟩ := h
  have he : (Term.static C n d).eval args s none [] s = some v := by
    simp [Term.eval, State.fieldNamed?, h1, h2, h4, h5, h6, h7]
  simp only [Cond.before, Cond.holds, Cond.value, he]
  cases v <;> simp_all [Value.isRef]
theorem vx_isRefq {C n d : String} {A : Nat → Prop} {s : State} {args : Array Value} (h : va_Zq C n d A s s.heap) : (Cond.isRef (.static C n d)).before args s = true := by
  rcases h with h | ⟨t, h⟩
  · exact vx_isRef h rfl
  · exact vx_isRef h rfl
/-- the same frame, seen from here: as if the method were called anew in this heap -/
theorem vx_rebase {T : State} (X : Stand p l e R s m args below meth c T locs cells slots) {R' : Room} (hf : R'.frames ≤ R.frames) (hl : R'.locals ≤ R.locals) (hc : cells + R'.cells ≤ R.cells) (hs : slots + R'.slots ≤ R.slots) :
    Stand p l e R' ((T.setVm s.vm).setFrames (.invoking m args :: below)) m args below meth c T [] 0 0 := by
  have htop : (T.setVm s.vm).topJava?.isSome := X.here.top
  have hF : ((T.setVm s.vm).setFrames (.invoking m args :: below)).frames = .invoking m args :: below := State.frames_setFrames _ (State.cur_lt_of_top htop)
  obtain ⟨g₀, hg0⟩ := Option.isSome_iff_exists.mp htop
  obtain ⟨r, hr⟩ := State.topJava?_eq_some.mp hg0
  have hl9 : e.platform.stackLimits (T.setVm s.vm).me = e.platform.stackLimits s.me := X.limits
  have hb9 : (T.setVm s.vm).me.stackBytes = s.me.stackBytes := X.bytes
  refine ⟨X.admits, X.cas, X.clock, hF, ?_, X.hears, X.method, X.code, X.here, X.tail, X.warmed, ?_, ?_, ?_⟩
  · have h := X.room
    have hU : ((T.setVm s.vm).setFrames (.invoking m args :: below)).localsInUse = s.localsInUse := by
      rw [State.localsInUse_invoking hF (meth := meth) (c := c) X.method X.code, State.localsInUse_invoking X.frames X.method X.code]
    simp only [State.hasRoom, Bool.and_eq_true, decide_eq_true_eq] at h ⊢
    obtain ⟨⟨⟨⟨h1, h2, h3, h4, h5, h6⟩, h7⟩, h8⟩, h9⟩ := h
    rw [X.frames, List.length_cons] at h2 h3
    have q1 := X.heapSize
    have q2 := X.used
    simp only [hF, hU, List.length_cons, State.stackLimits_setFrames, State.stackBytes_setFrames, hl9, hb9]
    refine ⟨⟨⟨⟨by omega, by omega, by omega, by omega, by omega, h6⟩, ?_⟩, ?_⟩, X.book⟩
    · show T.heap.size + R'.cells ≤ e.platform.maxCells
      omega
    · show T.slotsUsed + R'.slots ≤ e.platform.maxSlots
      omega
  · rw [State.stackLimits_setFrames]; rfl
  · rw [State.stackBytes_setFrames]; rfl
  · refine ⟨?_, Nat.le_refl _, Nat.le_refl _, ?_, ?_, fun a c9 h9 => ⟨c9, h9, rfl, rfl, fun _ _ => rfl⟩⟩
    · obtain ⟨t, ht, -⟩ := State.frames_cons hr
      show T.setVm s.vm = { ((T.setVm s.vm).setFrames (.invoking m args :: below)).setFrames (T.setVm s.vm).frames with heap := T.heap, slotsUsed := T.slotsUsed }
      rw [State.setFrames_setFrames, State.setFrames_self ht]
      rfl
    · show T.slotsUsed = T.slotsUsed + ((T.heap.toList.drop T.heap.size).map (·.slots.size)).sum
      rw [List.drop_eq_nil_of_le (Nat.le_of_eq Array.length_toList)]
      rfl
    · show ((T.heap.toList.drop T.heap.size).map (·.slots.size)).sum ≤ 0
      rw [List.drop_eq_nil_of_le (Nat.le_of_eq Array.length_toList)]
      exact Nat.le_refl _
/-- 'throw new E()': new; dup; invokespecial; athrow -/
theorem vx_throw0 {cc : ByteArray} {pc : Nat} (hexec : p.tables.exec = Jvm.exec) (hb : c.code = cc) (hl : l.stackTraces = false) {own cls : String} {names : List String} {ik ic mc ms : Nat} {A : Nat → Prop}
    (hown : s.vm.findClass own = some m.cls) (hcls : Bundle.fit cls = true) (hnames : ∀ n ∈ names, Bundle.fit n = true)
    (hk : (Cond.classLink own ik cls).before args s = true) (hini : (Cond.initialized cls).before args s = true) (hat : ∀ w ∈ vx_at0 own ic cls names, w.before args s = true)
    (hgood : ∀ w ∈ Cond.classLink own ik cls :: Cond.initialized cls :: vx_at0 own ic cls names, vx_ot w = true)
    (hU : vx_Zq Bundle.tN "UNASSIGNED_STACK" Bundle.steD A s s.heap) (hN : vx_Zq Bundle.tN "SUPPRESSED_SENTINEL" Bundle.listD A s s.heap) (hS : va_S A s.heap H locs) (hsize : ls.size = c.maxLocals)
    (d0 : decode cc pc = .ok (.new ik, 3)) (d3 : decode cc (pc + 3) = .ok (.dup, 1)) (d4 : decode cc (pc + 4) = .ok (.invokespecial ic, 3)) (d7 : decode cc (pc + 7) = .ok (.athrow, 1))
    (hout : ∀ x ∈ c.exceptionTable.toList, covers x (pc + 7) = false)
    (hRframes : names.length + 3 < R.frames) (hRlocals : (rest.map fun v => v.category).sum + (13 * (names.length + 1) + 42) ≤ R.locals) (hRcells : cells + 1 ≤ R.cells) (hRslots : slots + 6 ≤ R.slots) (hlocks : meth.locks = false)
    (hx : ∀ t : State, s.vm.Alike t.vm → H.size ≤ t.heap.size → (∀ q : Nat, q < H.size → t.heap[q]? = H[q]?) → XC cls s t)
    (hf : ∀ z ∈ locs, free z.base) (hc : cells + 1 ≤ mc) (hs : slots + 6 ≤ ms) :
    W p l e R s m args below meth c H locs cells slots (vx_MQ below Qc XC args s mc ms free) (F0 m pc ls rest) := by
  intro T hT X
  have htr : e.platform.stackTraces = false := (show e.platform.stackTraces = l.stackTraces by rw [X.admits.platform]).trans hl
  have Y := vx_rebase X (R' := { frames := R.frames, locals := R.locals, cells := 1, slots := 6 }) (Nat.le_refl _) (Nat.le_refl _) hRcells hRslots
  obtain ⟨s', hA⟩ : ∃ z, z = (T.setVm s.vm).setFrames (.invoking m args :: below) := ⟨_, rfl⟩
  rw [← hA] at Y
  have hvm : s'.vm = s.vm := by rw [hA]; rfl
  have hhp : s'.heap = H := by rw [hA]; exact hT
  have hW0 : s.WarmedH s'.vm := by rw [hvm]; exact State.WarmedH.refl s
  have hat' : ∀ w ∈ vx_at0 own ic cls names, w.before args s' = true := fun w hw => vx_ot_at hW0 hvm.symm (hgood w (List.mem_cons_of_mem _ (List.mem_cons_of_mem _ hw))) (hat w hw)
  have hk' : (Cond.classLink own ik cls).before args s' = true := vx_ot_at hW0 hvm.symm (hgood _ List.mem_cons_self) hk
  have hini' : (Cond.initialized cls).before args s' = true := vx_ot_at hW0 hvm.symm (hgood _ (List.mem_cons_of_mem _ List.mem_cons_self)) hini
  have hU' : vx_Zq Bundle.tN "UNASSIGNED_STACK" Bundle.steD A s' s'.heap := by rw [hhp]; exact vx_Zq.moved hW0.alike (hU.kept hS.2.1)
  have hN' : vx_Zq Bundle.tN "SUPPRESSED_SENTINEL" Bundle.listD A s' s'.heap := by rw [hhp]; exact vx_Zq.moved hW0.alike (hN.kept hS.2.1)
  have h : ∀ w ∈ Bundle.ownAtoms0 own ic cls names, w.before args s' = true := vx_own hat' (vx_isRefq hU'.1) (vx_isRefq hN'.1) hU'.2.word hN'.2.word
  have hown' : s'.vm.findClass own = some m.cls := by rw [hvm]; exact hown
  have hins : (Cond.instantiable cls 6).before args s' = true := h _ (by simp [Bundle.ownAtoms0])
  obtain ⟨vm₁, cX, kX, hfX, hkX, -, -, X₁, st1⟩ := Y.newCold hexec (own := own) (C := cls) (index := ik) (n := 6) hown' hk' hins hini'
    (g := F0 m pc ls rest) rfl (by rw [hb]; exact d0) (Nat.le_refl _) (Nat.le_refl _)
  generalize hT1 : (T.setVm vm₁).pushCell { cls := cX, slots := kX.instanceTypes.map defaultValue, vm := .none } = T1 at X₁ st1
  have hcat : (Value.ref T.heap.size).category = 1 := rfl
  have hcellA : T1.heap[T.heap.size]? = some (freshCell cX kX) := by rw [← hT1]; exact State.heap_pushCell_size _ _
  have d3' : decode c.code (pc + 3) = .ok (.dup, 1) := by rw [hb]; exact d3
  obtain ⟨U, hsteps, hrun, hend, hW, hsame, ce, hce, hO⟩ := X₁.ctorThrow0 hexec htr (own := own) (cls := cls) (names := names) (ic := ic) hown' hcls hnames h (fun x hx => nomatch hx) hfX hkX hcellA (by rw [hhp, hT]; exact Nat.le_refl _)
    (g := { method := m, pc := pc + 4, locals := ls, stack := .ref T.heap.size :: .ref T.heap.size :: rest, locked := none }) rfl hsize rfl rfl (rest := rest) rfl
    (by rw [hb]; exact d4) (by rw [hb]; exact d7) hout hRframes (by simp only [List.map_cons, List.sum_cons, hcat]; omega) hlocks
  obtain ⟨f1, f2⟩ := vx_frame hsame
  rw [hhp] at f1 f2
  have hWs : s.WarmedH U.vm := State.WarmedH.trans hW0 hW
  have hcl : s.vm.findClass cls = some ce.cls := by
    have h9 := hO.cls
    rw [hvm] at h9
    exact h9
  have hall : s.sameButNew ({ U with vm := s.vm } : State) locs mc ms := by
    subst hA
    obtain ⟨e1, e2⟩ := hsame
    rw [State.setFrames_setFrames] at e1
    have h2 : (T.setVm s.vm).sameButNew ({ U with vm := s.vm } : State) [] (0 + 1) (0 + 6) := ⟨e1, e2⟩
    have h3 := X.same.trans h2
    rw [List.append_nil] at h3
    exact h3.mono hc hs
  refine ⟨U, ?_, .threw T.heap.size, hrun, hend, Or.inr ⟨T.heap.size, rfl, cls, ce, locs, hx U hWs.alike f1 (fun q hq => f2 q hq (fun z hz => nomatch hz)), hce, hO.vm, hcl, hWs, hall, hf⟩⟩
  refine st1 _ ?_
  show Steps p.tables e below (T1.setTop { method := m, pc := pc + 3, locals := ls, stack := .ref T.heap.size :: rest, locked := none }) _
  jvm_step X₁.here [X₁.here.top, hexec, d3', Value.category]
  exact hsteps
/-- 'throw new E("text")': new; dup; ldc; invokespecial; athrow -/
theorem vx_throwS {cc : ByteArray} {pc : Nat} (hexec : p.tables.exec = Jvm.exec) (hb : c.code = cc) (hl : l.stackTraces = false) {own cls text : String} {names : List String} {ik is ic mc ms sa : Nat} {A : Nat → Prop}
    (hown : s.vm.findClass own = some m.cls) (hcls : Bundle.fit cls = true) (hnames : ∀ n ∈ names, Bundle.fit n = true)
    (hk : (Cond.classLink own ik cls).before args s = true) (hini : (Cond.initialized cls).before args s = true) (hstr : vk_R own is text sa s) (hat : ∀ w ∈ vx_atS own ic cls names, w.before args s = true)
    (hgood : ∀ w ∈ Cond.classLink own ik cls :: Cond.initialized cls :: vx_atS own ic cls names, vx_ot w = true)
    (hU : vx_Zq Bundle.tN "UNASSIGNED_STACK" Bundle.steD A s s.heap) (hN : vx_Zq Bundle.tN "SUPPRESSED_SENTINEL" Bundle.listD A s s.heap) (hS : va_S A s.heap H locs) (hsize : ls.size = c.maxLocals)
    (d0 : decode cc pc = .ok (.new ik, 3)) (d3 : decode cc (pc + 3) = .ok (.dup, 1)) (d4 : decode cc (pc + 4) = .ok (.ldc is, 2)) (d6 : decode cc (pc + 6) = .ok (.invokespecial ic, 3)) (d9 : decode cc (pc + 9) = .ok (.athrow, 1))
    (hout : ∀ x ∈ c.exceptionTable.toList, covers x (pc + 9) = false)
    (hRframes : names.length + 3 < R.frames) (hRlocals : (rest.map fun v => v.category).sum + (13 * (names.length + 1) + 43) ≤ R.locals) (hRcells : cells + 1 ≤ R.cells) (hRslots : slots + 6 ≤ R.slots) (hlocks : meth.locks = false)
    (hx : ∀ t : State, s.vm.Alike t.vm → H.size ≤ t.heap.size → (∀ q : Nat, q < H.size → t.heap[q]? = H[q]?) → XC cls s t)
    (hf : ∀ z ∈ locs, free z.base) (hc : cells + 1 ≤ mc) (hs : slots + 6 ≤ ms) :
    W p l e R s m args below meth c H locs cells slots (vx_MQ below Qc XC args s mc ms free) (F0 m pc ls rest) := by
  intro T hT X
  have htr : e.platform.stackTraces = false := (show e.platform.stackTraces = l.stackTraces by rw [X.admits.platform]).trans hl
  have Y := vx_rebase X (R' := { frames := R.frames, locals := R.locals, cells := 1, slots := 6 }) (Nat.le_refl _) (Nat.le_refl _) hRcells hRslots
  obtain ⟨s', hA⟩ : ∃ z, z = (T.setVm s.vm).setFrames (.invoking m args :: below) := ⟨_, rfl⟩
  rw [← hA] at Y
  have hvm : s'.vm = s.vm := by rw [hA]; rfl
  have hhp : s'.heap = H := by rw [hA]; exact hT
  have hW0 : s.WarmedH s'.vm := by rw [hvm]; exact State.WarmedH.refl s
  have hat' : ∀ w ∈ vx_atS own ic cls names, w.before args s' = true := fun w hw => vx_ot_at hW0 hvm.symm (hgood w (List.mem_cons_of_mem _ (List.mem_cons_of_mem _ hw))) (hat w hw)
  have hk' : (Cond.classLink own ik cls).before args s' = true := vx_ot_at hW0 hvm.symm (hgood _ List.mem_cons_self) hk
  have hini' : (Cond.initialized cls).before args s' = true := vx_ot_at hW0 hvm.symm (hgood _ (List.mem_cons_of_mem _ List.mem_cons_self)) hini
  have hU' : vx_Zq Bundle.tN "UNASSIGNED_STACK" Bundle.steD A s' s'.heap := by rw [hhp]; exact vx_Zq.moved hW0.alike (hU.kept hS.2.1)
  have hN' : vx_Zq Bundle.tN "SUPPRESSED_SENTINEL" Bundle.listD A s' s'.heap := by rw [hhp]; exact vx_Zq.moved hW0.alike (hN.kept hS.2.1)
  have h : ∀ w ∈ Bundle.ownAtoms own ic cls names, w.before args s' = true := vx_own hat' (vx_isRefq hU'.1) (vx_isRefq hN'.1) hU'.2.word hN'.2.word
  have hown' : s'.vm.findClass own = some m.cls := by rw [hvm]; exact hown
  have hins : (Cond.instantiable cls 6).before args s' = true := h _ (by simp [Bundle.ownAtoms])
  obtain ⟨vm₁, cX, kX, hfX, hkX, -, -, X₁, st1⟩ := Y.newCold hexec (own := own) (C := cls) (index := ik) (n := 6) hown' hk' hins hini'
    (g := F0 m pc ls rest) rfl (by rw [hb]; exact d0) (Nat.le_refl _) (Nat.le_refl _)
  generalize hT1 : (T.setVm vm₁).pushCell { cls := cX, slots := kX.instanceTypes.map defaultValue, vm := .none } = T1 at X₁ st1
  have hcat : (Value.ref T.heap.size).category = 1 := rfl
  have hcellA : T1.heap[T.heap.size]? = some (freshCell cX kX) := by rw [← hT1]; exact State.heap_pushCell_size _ _
  have d3' : decode c.code (pc + 3) = .ok (.dup, 1) := by rw [hb]; exact d3
  have d4' : decode c.code (pc + 4) = .ok (.ldc is, 2) := by rw [hb]; exact d4
  have hstr' : vk_R own is text sa s' := vk_R.warm hW0 hstr
  obtain ⟨U, hsteps, hrun, hend, hW, hsame, ce, hce, hO⟩ := X₁.ctorThrowS hexec htr (own := own) (cls := cls) (names := names) (ic := ic) hown' hcls hnames h (fun x hx => nomatch hx) hfX hkX hcellA (by rw [hhp, hT]; exact Nat.le_refl _) (msg := .ref sa) rfl
    (g := { method := m, pc := pc + 6, locals := ls, stack := .ref sa :: .ref T.heap.size :: .ref T.heap.size :: rest, locked := none }) rfl hsize rfl rfl (rest := rest) rfl
    (by rw [hb]; exact d6) (by rw [hb]; exact d9) hout hRframes (by simp only [List.map_cons, List.sum_cons, hcat]; omega) hlocks
  obtain ⟨f1, f2⟩ := vx_frame hsame
  rw [hhp] at f1 f2
  have hWs : s.WarmedH U.vm := State.WarmedH.trans hW0 hW
  have hcl : s.vm.findClass cls = some ce.cls := by
    have h9 := hO.cls
    rw [hvm] at h9
    exact h9
  have hall : s.sameButNew ({ U with vm := s.vm } : State) locs mc ms := by
    subst hA
    obtain ⟨e1, e2⟩ := hsame
    rw [State.setFrames_setFrames] at e1
    have h2 : (T.setVm s.vm).sameButNew ({ U with vm := s.vm } : State) [] (0 + 1) (0 + 6) := ⟨e1, e2⟩
    have h3 := X.same.trans h2
    rw [List.append_nil] at h3
    exact h3.mono hc hs
  refine ⟨U, ?_, .threw T.heap.size, hrun, hend, Or.inr ⟨T.heap.size, rfl, cls, ce, locs, hx U hWs.alike f1 (fun q hq => f2 q hq (fun z hz => nomatch hz)), hce, hO.vm, hcl, hWs, hall, hf⟩⟩
  refine st1 _ ?_
  show Steps p.tables e below (T1.setTop { method := m, pc := pc + 3, locals := ls, stack := .ref T.heap.size :: rest, locked := none }) _
  jvm_step X₁.here [X₁.here.top, hexec, d3', Value.category]
  exact X₁.ldcString hexec (own := own) (text := text) (index := is) (a := sa) hown' hstr'.1 hstr'.2
    (g := { method := m, pc := pc + 4, locals := ls, stack := .ref T.heap.size :: .ref T.heap.size :: rest, locked := none }) rfl d4' _ hsteps
/-- 'throw new E("text")', the text by a wide index -/
theorem vx_throwSW {cc : ByteArray} {pc : Nat} (hexec : p.tables.exec = Jvm.exec) (hb : c.code = cc) (hl : l.stackTraces = false) {own cls text : String} {names : List String} {ik is ic mc ms sa : Nat} {A : Nat → Prop}
    (hown : s.vm.findClass own = some m.cls) (hcls : Bundle.fit cls = true) (hnames : ∀ n ∈ names, Bundle.fit n = true)
    (hk : (Cond.classLink own ik cls).before args s = true) (hini : (Cond.initialized cls).before args s = true) (hstr : vk_R own is text sa s) (hat : ∀ w ∈ vx_atS own ic cls names, w.before args s = true)
    (hgood : ∀ w ∈ Cond.classLink own ik cls :: Cond.initialized cls :: vx_atS own ic cls names, vx_ot w = true)
    (hU : vx_Zq Bundle.tN "UNASSIGNED_STACK" Bundle.steD A s s.heap) (hN : vx_Zq Bundle.tN "SUPPRESSED_SENTINEL" Bundle.listD A s s.heap) (hS : va_S A s.heap H locs) (hsize : ls.size = c.maxLocals)
    (d0 : decode cc pc = .ok (.new ik, 3)) (d3 : decode cc (pc + 3) = .ok (.dup, 1)) (d4 : decode cc (pc + 4) = .ok (.ldc_w is, 3)) (d7 : decode cc (pc + 7) = .ok (.invokespecial ic, 3)) (d10 : decode cc (pc + 10) = .ok (.athrow, 1))
    (hout : ∀ x ∈ c.exceptionTable.toList, covers x (pc + 10) = false)
    (hRframes : names.length + 3 < R.frames) (hRlocals : (rest.map fun v => v.category).sum + (13 * (names.length + 1) + 43) ≤ R.locals) (hRcells : cells + 1 ≤ R.cells) (hRslots : slots + 6 ≤ R.slots) (hlocks : meth.locks = false)
    (hx : ∀ t : State, s.vm.Alike t.vm → H.size ≤ t.heap.size → (∀ q : Nat, q < H.size → t.heap[q]? = H[q]?) → XC cls s t)
    (hf : ∀ z ∈ locs, free z.base) (hc : cells + 1 ≤ mc) (hs : slots + 6 ≤ ms) :
    W p l e R s m args below meth c H locs cells slots (vx_MQ below Qc XC args s mc ms free) (F0 m pc ls rest) := by
  intro T hT X
  have htr : e.platform.stackTraces = false := (show e.platform.stackTraces = l.stackTraces by rw [X.admits.platform]).trans hl
  have Y := vx_rebase X (R' := { frames := R.frames, locals := R.locals, cells := 1, slots := 6 }) (Nat.le_refl _) (Nat.le_refl _) hRcells hRslots
  obtain ⟨s', hA⟩ : ∃ z, z = (T.setVm s.vm).setFrames (.invoking m args :: below) := ⟨_, rfl⟩
  rw [← hA] at Y
  have hvm : s'.vm = s.vm := by rw [hA]; rfl
  have hhp : s'.heap = H := by rw [hA]; exact hT
  have hW0 : s.WarmedH s'.vm := by rw [hvm]; exact State.WarmedH.refl s
  have hat' : ∀ w ∈ vx_atS own ic cls names, w.before args s' = true := fun w hw => vx_ot_at hW0 hvm.symm (hgood w (List.mem_cons_of_mem _ (List.mem_cons_of_mem _ hw))) (hat w hw)
  have hk' : (Cond.classLink own ik cls).before args s' = true := vx_ot_at hW0 hvm.symm (hgood _ List.mem_cons_self) hk
  have hini' : (Cond.initialized cls).before args s' = true := vx_ot_at hW0 hvm.symm (hgood _ (List.mem_cons_of_mem _ List.mem_cons_self)) hini
  have hU' : vx_Zq Bundle.tN "UNASSIGNED_STACK" Bundle.steD A s' s'.heap := by rw [hhp]; exact vx_Zq.moved hW0.alike (hU.kept hS.2.1)
  have hN' : vx_Zq Bundle.tN "SUPPRESSED_SENTINEL" Bundle.listD A s' s'.heap := by rw [hhp]; exact vx_Zq.moved hW0.alike (hN.kept hS.2.1)
  have h : ∀ w ∈ Bundle.ownAtoms own ic cls names, w.before args s' = true := vx_own hat' (vx_isRefq hU'.1) (vx_isRefq hN'.1) hU'.2.word hN'.2.word
  have hown' : s'.vm.findClass own = some m.cls := by rw [hvm]; exact hown
  have hins : (Cond.instantiable cls 6).before args s' = true := h _ (by simp [Bundle.ownAtoms])
  obtain ⟨vm₁, cX, kX, hfX, hkX, -, -, X₁, st1⟩ := Y.newCold hexec (own := own) (C := cls) (index := ik) (n := 6) hown' hk' hins hini'
    (g := F0 m pc ls rest) rfl (by rw [hb]; exact d0) (Nat.le_refl _) (Nat.le_refl _)
  generalize hT1 : (T.setVm vm₁).pushCell { cls := cX, slots := kX.instanceTypes.map defaultValue, vm := .none } = T1 at X₁ st1
  have hcat : (Value.ref T.heap.size).category = 1 := rfl
  have hcellA : T1.heap[T.heap.size]? = some (freshCell cX kX) := by rw [← hT1]; exact State.heap_pushCell_size _ _
  have d3' : decode c.code (pc + 3) = .ok (.dup, 1) := by rw [hb]; exact d3
  have d4' : decode c.code (pc + 4) = .ok (.ldc_w is, 3) := by rw [hb]; exact d4
  have hstr' : vk_R own is text sa s' := vk_R.warm hW0 hstr
  obtain ⟨U, hsteps, hrun, hend, hW, hsame, ce, hce, hO⟩ := X₁.ctorThrowS hexec htr (own := own) (cls := cls) (names := names) (ic := ic) hown' hcls hnames h (fun x hx => nomatch hx) hfX hkX hcellA (by rw [hhp, hT]; exact Nat.le_refl _) (msg := .ref sa) rfl
    (g := { method := m, pc := pc + 7, locals := ls, stack := .ref sa :: .ref T.heap.size :: .ref T.heap.size :: rest, locked := none }) rfl hsize rfl rfl (rest := rest) rfl
    (by rw [hb]; exact d7) (by rw [hb]; exact d10) hout hRframes (by simp only [List.map_cons, List.sum_cons, hcat]; omega) hlocks
  obtain ⟨f1, f2⟩ := vx_frame hsame
  rw [hhp] at f1 f2
  have hWs : s.WarmedH U.vm := State.WarmedH.trans hW0 hW
  have hcl : s.vm.findClass cls = some ce.cls := by
    have h9 := hO.cls
    rw [hvm] at h9
    exact h9
  have hall : s.sameButNew ({ U with vm := s.vm } : State) locs mc ms := by
    subst hA
    obtain ⟨e1, e2⟩ := hsame
    rw [State.setFrames_setFrames] at e1
    have h2 : (T.setVm s.vm).sameButNew ({ U with vm := s.vm } : State) [] (0 + 1) (0 + 6) := ⟨e1, e2⟩
    have h3 := X.same.trans h2
    rw [List.append_nil] at h3
    exact h3.mono hc hs
  refine ⟨U, ?_, .threw T.heap.size, hrun, hend, Or.inr ⟨T.heap.size, rfl, cls, ce, locs, hx U hWs.alike f1 (fun q hq => f2 q hq (fun z hz => nomatch hz)), hce, hO.vm, hcl, hWs, hall, hf⟩⟩
  refine st1 _ ?_
  show Steps p.tables e below (T1.setTop { method := m, pc := pc + 3, locals := ls, stack := .ref T.heap.size :: rest, locked := none }) _
  jvm_step X₁.here [X₁.here.top, hexec, d3', Value.category]
  exact X₁.ldcStringW hexec (own := own) (text := text) (index := is) (a := sa) hown' hstr'.1 hstr'.2
    (g := { method := m, pc := pc + 4, locals := ls, stack := .ref T.heap.size :: .ref T.heap.size :: rest, locked := none }) rfl d4' _ hsteps
end Ends
section Bodies
variable {l : Launch}
theorem vx_ofW {y : MethodName} {ws ws' : List Cond} {rm : Room} {Pc : Array Value → State → Prop} {Qc : Array Value → State → Outcome → State → Prop} {XC : String → State → State → Prop} {mc ms : Nat} {free : Addr → Prop} {cc : ByteArray} {maxL : Nat} {ret : Option FieldType}
    (hy : plainName y.cls = true) (hw : ws = Cond.code y cc maxL ret :: ws')
    (body : ∀ p e s m args below meth c s₁, BodyLoose p l y (headSpec ws rm) cc maxL ret e s m args below meth c s₁ → c.maxLocals = maxL → (∀ x ∈ c.exceptionTable.toList, False) → Pc args s →
      W p l e (headSpec ws rm).room s m args below meth c s.heap [] 0 0 (vx_MQ below Qc XC args s mc ms free) (entryFrame m args maxL)) : vx_Met l y ws rm Pc Qc XC mc ms free := by
  refine MetFree.of_bodyS (code := cc) (maxLocals := maxL) (ret := ret) hy ?_ ?_
  · intro args s m h hn
    obtain ⟨meth, c, h1, h2, h3, h4, h5, h6, -, -⟩ := Cond.code_spec hn (atoms_spec (ws := ws) h _ (by rw [hw]; exact List.mem_cons_self))
    exact ⟨meth, c, h1, h2, h3, h4, h5, h6⟩
  · intro p e s m args below meth c s₁ B hml hP _
    have hh0 : s₁.heap = s.heap := by rw [B.state]; rfl
    have ht : ∀ x ∈ c.exceptionTable.toList, False := by
      obtain ⟨meth9, c9, h1, h2, -, -, -, -, h7, -⟩ := Cond.code_spec B.named (atoms_spec (ws := ws) B.pre _ (by rw [hw]; exact List.mem_cons_self))
      cases Option.some.inj (h1.symm.trans B.method)
      cases Option.some.inj (h2.symm.trans (Stand.of_body B).code)
      intro x hx
      rw [Array.isEmpty_iff.mp h7] at hx
      cases hx
    obtain ⟨t, a1, o, b1, b2, b3⟩ := body p e s m args below meth c s₁ B hml ht hP s₁ hh0 (Stand.of_body B)
    exact ⟨t, o, a1, b1, b2, b3⟩
/-- the table of a body with handlers -/
theorem vx_table {p : Program} {x y : MethodName} {S : Spec} {cc bytes : ByteArray} {maxL maxL' : Nat} {ret ret' : Option FieldType} {e : Env} {s s₁ : State} {m : MethodId} {args : Array Value} {below : List Frame} {meth : Method} {c : Code} {hh : List (Nat × Nat × Nat × Nat)}
    (B : BodyLoose p l y S cc maxL ret e s m args below meth c s₁) (h : (Cond.codeWith y bytes maxL' ret' hh).before args s = true) : c.exceptionTable.toList = tableOf hh := by
  obtain ⟨m9, meth9, c9, hn9, h1, h2, -, -, h6, -⟩ := Cond.codeWith_spec h
  cases Option.some.inj (hn9.symm.trans B.named)
  cases Option.some.inj (h1.symm.trans B.method)
  cases Option.some.inj (h2.symm.trans (Stand.of_body B).code)
  rw [← h6, table_eq]
end Bodies
end VXA
/-! ===== END ===== -/
/-! ===== BEGIN a static call of a method with an exception table ===== -/
section VXS
variable {p : Program} {l : Launch} {e : Env} {R : Room} {s : State} {m : MethodId} {args : Array Value} {below : List Frame} {meth : Method} {c : Code} {T : State} {H : Heap} {locs : List Loc} {cells slots : Nat}
abbrev vx_CSW (R : Room) (s : State) (args : Array Value) (own : String) (index : Nat) (y : MethodName) (bytes : ByteArray) (maxL : Nat) (ret : Option FieldType) (hh : List (Nat × Nat × Nat × Nat)) (ws : List Cond) (rm : Room) (mc ms n : Nat) : Prop :=
  (rm.cells = mc ∧ rm.slots = ms ∧ rm.frames + 1 ≤ R.frames ∧ 8 + (maxL + 11) + rm.locals ≤ R.locals ∧ (∀ w ∈ ws, ∀ (a' : Array Value) (U : State), s.WarmedH U.vm → w.before a' U = true) ∧ Cond.codeWith y bytes maxL ret hh ∈ ws) ∧
  (Cond.codeWith y bytes maxL ret hh).before args s = true ∧ (Cond.initialized y.cls).before args s = true ∧ (y.cls ≠ "java/lang/invoke/MethodHandle" ∧ y.cls ≠ "java/lang/invoke/VarHandle") ∧
  (∀ sig, parseMethodDescriptor y.desc = some sig → n = sig.parameters.length) ∧ (Cond.methodLink own index y).before args s = true ∧ (Cond.static y).before args s = true
theorem vx_cwSW {own : String} {index maxL mc ms : Nat} {y : MethodName} {bytes : ByteArray} {ret : Option FieldType} {hh : List (Nat × Nat × Nat × Nat)} {Ts ws ws' : List Cond} {rm : Room} (n : Nat) (ht : ∀ w ∈ Ts, w.before args s = true) (hT : GoodIn Ts (va_wsS own index y ws)) (hw : ws = Cond.codeWith y bytes maxL ret hh :: ws') (hrc : rm.cells = mc) (hrs : rm.slots = ms)
    (hd : y.cls ≠ "java/lang/invoke/MethodHandle" ∧ y.cls ≠ "java/lang/invoke/VarHandle" ∧ (parseMethodDescriptor y.desc).map (fun d => d.parameters.length) = some n) (hR : rm.frames + 1 ≤ R.frames ∧ 8 + (maxL + 11) + rm.locals ≤ R.locals) :
    vx_CSW R s args own index y bytes maxL ret hh ws rm mc ms n := by
  have ok : ∀ w ∈ va_wsS own index y ws, w.before args s = true := fun w h => ht w (hT w h).1
  have hG : GoodIn Ts ws := fun w h => hT w (by unfold va_wsS; exact List.mem_append_right _ h)
  have hc : Cond.codeWith y bytes maxL ret hh ∈ ws := by rw [hw]; exact List.mem_cons_self
  refine ⟨⟨hrc, hrs, hR.1, hR.2, pay_in ht hG, hc⟩, ht _ (hG _ hc).1, ok _ (by simp [va_wsS]), ⟨hd.1, hd.2.1⟩, fun sig h => ?_, ok _ (by simp [va_wsS]), ok _ (by simp [va_wsS])⟩
  have h2 := hd.2.2
  rw [h] at h2
  exact (Option.some.inj h2).symm
theorem vx_callSW (X : Stand p l e R s m args below meth c T locs cells slots) (hexec : p.tables.exec = Jvm.exec) {own : String} {index : Nat} {y : MethodName} {bytes : ByteArray} {maxL : Nat} {ret : Option FieldType} {hh : List (Nat × Nat × Nat × Nat)}
    (hown : s.vm.findClass own = some m.cls) (hlink : (Cond.methodLink own index y).before args s = true) (hstat : (Cond.static y).before args s = true) (hinit : (Cond.initialized y.cls).before args s = true)
    (hcode : (Cond.codeWith y bytes maxL ret hh).before args s = true) (hy : y.cls ≠ "java/lang/invoke/MethodHandle" ∧ y.cls ≠ "java/lang/invoke/VarHandle")
    {W9 : Nat} {Pre : Pt → Array Value → Prop} {Post : Pt → Array Value → Option Value → Pt → Prop} (hK : Back l R p e below s args y 3 W9 Pre Post)
    {g : JFrame} (hg : g.method = m) (hsize : g.locals.size = c.maxLocals) {argsL rest : List Value} (hlen : ∀ sig, parseMethodDescriptor y.desc = some sig → argsL.length = sig.parameters.length)
    (hstack : g.stack = argsL.reverse ++ rest) (hW : 2 * g.monitorRoom + (rest.map fun v => v.category).sum ≤ W9) (hdg : decode c.code g.pc = .ok (.invokestatic index, 3))
    (hpre : ∀ vm₁, s.WarmedH vm₁ → Pre ⟨T.setVm vm₁, locs, cells, slots⟩ argsL.toArray) :
    ∃ (v : Option Value) (vm₁ : Vm) (B : Pt), s.WarmedH vm₁ ∧ Stand p l e R s m args below meth c B.U B.locs B.cells B.slots ∧ Post ⟨T.setVm vm₁, locs, cells, slots⟩ argsL.toArray v B ∧
      ∀ target, Steps p.tables e below (B.U.setTop { g with pc := g.pc + 3, stack := v.toList ++ rest }) target → Steps p.tables e below (T.setTop g) target := by
  obtain ⟨mk, methM, cM, hnamed, hmethM, -, -, -, -, -, -, hsigM⟩ := Cond.codeWith_spec hcode
  have hstatic : methM.isStatic = true := Cond.static_spec hnamed hmethM hstat
  obtain ⟨kP, hkP, -⟩ := className_of_methodNamed hnamed
  have hinitP : kP.init = .initialized := Cond.initialized_spec (findClass_of_methodNamed hnamed) hkP hinit
  obtain ⟨vm₁, X₁, hstep₁⟩ := X.invokestatic hexec hown hlink hnamed hmethM hstatic hkP hinitP hy (g := g) hg (argsL := argsL) (rest := rest) (hlen _ hsigM) hstack hdg
  obtain ⟨v, B, X', hpost, hsteps⟩ := hK m meth c ⟨T.setVm vm₁, locs, cells, slots⟩ { g with stack := rest } (.invokestatic index) mk argsL.toArray X₁ hg hsize hdg hW (X₁.named hnamed) (hpre vm₁ X₁.warmed)
  exact ⟨v, vm₁, B, X₁.warmed, X', hpost, fun target h => hstep₁ _ fun acts => by rw [doInvoke_state]; exact hsteps.trans h⟩
theorem vx_runSW {y : MethodName} {bytes cc : ByteArray} {maxL nL mc ms n index : Nat} {ret : Option FieldType} {hh : List (Nat × Nat × Nat × Nat)} {ws : List Cond} {rm : Room} {Pc : Array Value → State → Prop} {Qc : Array Value → State → Outcome → State → Prop} {free : Addr → Prop} {Ts : List Cond} {own : String} {As rest : List Value} {g : JFrame}
    (S : CallFix p m c cc nL s args Ts own) (hM : Met l y ws rm Pc Qc mc ms free) (cw : vx_CSW R s args own index y bytes maxL ret hh ws rm mc ms n) (hp : PreS s H Pc As)
    (hg : g.method = m) (hn : As.length = n) (hsize : g.locals.size = nL) (hstack : g.stack = As.reverse ++ rest) (hW : 2 * g.monitorRoom + (rest.map fun v => v.category).sum ≤ 8) (hdg : decode cc g.pc = .ok (.invokestatic index, 3)) (hf : cells + mc ≤ R.cells ∧ slots + ms ≤ R.slots) :
    va_Run p l e R s m args below meth c H locs cells slots mc ms g rest (Qc As.toArray) (free) := by
  obtain ⟨⟨hrc, hrs, hfr, hlo, hws, hcw⟩, hcode, hini, hy, hlen, hl, hstt⟩ := cw
  have hK : Back l R p e below s args y 3 8 (PreOf R mc ms Pc) (PostOf Qc mc ms free) := va_backW (hh := hh) (bytes := bytes) (maxL := maxL) (ret := ret) hM hp.1 hrc hrs hfr hlo hws hcw (fun a' U hW => word_at hW (Or.inl (by first | rfl | simp [Cond.onTables, Cond.keeps, Cond.steady])) hini)
  obtain ⟨hx, hb, hml, ho, -⟩ := S
  intro T hT X
  obtain ⟨v, vm₁, ⟨U', l2, c2, s2⟩, hW₁, X', ⟨g', mk, t, L, e1, e2, hq, h1, hL, h2, h3⟩, st⟩ := vx_callSW X hx (hh := hh) (bytes := bytes) (maxL := maxL) (ret := ret) ho hl hstt hini hcode hy hK hg (hsize.trans hml.symm) (argsL := As) (rest := rest) (fun sig h => hn.trans (hlen sig h)) hstack hW (by rw [hb]; exact hdg)
    (fun vm₁ hW₁ => ⟨hf.1, hf.2, hp.2 (T.setVm vm₁) hT hW₁⟩)
  dsimp only [Pt.U, Pt.locs, Pt.cells, Pt.slots] at X' e1 e2 h1 h2 h3 st
  subst h1; subst h2; subst h3
  exact ⟨v, (T.setVm vm₁).calling g' mk As.toArray, t, U', L, hT, X', hL, e1, e2, hq, st⟩
/-- not caught here, past rows that name other classes: it goes on to the caller -/
theorem vx_outP {p : Program} {l : Launch} {e : Env} {R : Room} {s : State} {m : MethodId} {args : Array Value} {below : List Frame} {meth : Method} {c : Code} {H : Heap} {locs : List Loc} {cells slots : Nat} {free : Addr → Prop} {ls : Array Slot} {rest : List Value} {Qc : Array Value → State → Outcome → State → Prop} {XC : String → State → State → Prop}
    {pc : Nat} {own E : String} {ce : Cell} {q : Addr} {mc ms : Nat} (hown : s.vm.findClass own = some m.cls) (hlocks : meth.locks = false)
    (hpass : ∀ z ∈ c.exceptionTable.toList, covers z pc = false ∨ (z.catchType ≠ 0 ∧ ∃ nm : String, (Cond.classLink own z.catchType nm).before args s = true ∧ va_Nc E nm s)) (hcell : H[q]? = some ce) (hv : ce.vm = .none) (hcl : s.vm.findClass E = some ce.cls)
    (hx : ∀ t : State, t.heap = H → s.vm.Alike t.vm → XC E s t) (hf : ∀ z ∈ locs, free z.base) (hc : cells ≤ mc) (hs : slots ≤ ms) :
    vx_W p l e R s m args below meth c H locs cells slots (vx_MQ below Qc XC args s mc ms free) (F0 m pc ls rest) q := by
  intro T hT X
  have hpl : e.platform.magicAccessors = ({} : Platform).magicAccessors := by rw [X.admits.platform]
  obtain ⟨vm', hW', X', st⟩ := X.outThrough hlocks q (g := F0 m pc ls rest) rfl rfl rfl (cell := ce) (by rw [hT]; exact hcell) (by rw [hv]; rfl)
    (by obtain ⟨k9, h9, -⟩ := Vm.findClass_spec hcl; exact ⟨k9, h9⟩) (fun z hz => by
      rcases hpass z hz with h | ⟨hz0, nm, hl1, hn1⟩
      · exact Or.inl h
      · obtain ⟨c6, hc6, hcl6⟩ := Cond.classLink_spec hown hl1 e.platform hpl
        obtain ⟨a8, b8, h1, h2, h3⟩ := hn1
        cases Option.some.inj (h1.symm.trans hcl)
        cases Option.some.inj (h2.symm.trans hc6)
        exact Or.inr ⟨hz0, _, hcl6, h3⟩)
  obtain ⟨g₀, hfr⟩ := X'.frames_eq
  have hcell9 : ((T.setVm vm').setFrames (.throwing q :: below)).heap[q]? = some ce := by
    show T.heap[q]? = some ce
    rw [hT]; exact hcell
  have hend : Ended ((T.setVm vm').setFrames (.throwing q :: below)) below (.threw q) := State.frames_setFrames _ (State.cur_lt_of_frames hfr)
  refine ⟨(T.setVm vm').setFrames (.throwing q :: below), ?_, .threw q, X'.here.running, hend, Or.inr ⟨q, rfl, E, ce, locs, hx _ hT (X'.ends _).1.alike, hcell9, hv, hcl, (X'.ends _).1, (X'.ends _).2.mono hc hs, hf⟩⟩
  rw [X.pushThrowing_eq]
  exact st
/-- a thing of a world lies in the heap -/
theorem vx_lt {D : va_G} {cl : List vw_C} {ws : va_W} {H1 : Heap} (h : va_P D cl ws H1) {k : Nat} {q : Nat × va_E} (hk : ws[k]? = some q) : q.1 < H1.size := (h k q hk).lt
end VXS
/-! ===== END ===== -/
/-! ===== BEGIN methods with a table of their own: called by a name, returning or throwing ===== -/
section VXH
/-! vx_backW, vx_callVX, vx_callSX, vx_callVW, vx_runVW, vx_runVX, vx_runSX, vx_ofWH follow the same proofs as their sisters above (Free/Laws.lean, Shelf42/LK1.lean); vx_outP calls Shelf42/NT130.lean (outThrough). -/
section
variable {l : Launch} {R : Room} {p : Program} {e : Env} {below : List Frame} {s : State} {sargs : Array Value} {y : MethodName} {len W9 : Nat}
theorem vx_backW {ws : List Cond} {rm : Room} {Pc : Array Value → State → Prop} {Qc : Array Value → State → Outcome → State → Prop} {XC : String → State → State → Prop} {mc ms : Nat} {free : Addr → Prop} {bytes : ByteArray} {maxL : Nat} {ret : Option FieldType} {hh : List (Nat × Nat × Nat × Nat)}
    (hM : vx_Met l y ws rm Pc Qc XC mc ms free) (hblind : FrameBlind Pc) (hrc : rm.cells = mc) (hrs : rm.slots = ms)
    (hframes : rm.frames + 1 ≤ R.frames) (hlocals : W9 + (maxL + 11) + rm.locals ≤ R.locals)
    (hws : ∀ w ∈ ws, ∀ a' U, s.WarmedH U.vm → w.before a' U = true) (hcode : Cond.codeWith y bytes maxL ret hh ∈ ws) (hinit : ∀ a' U, s.WarmedH U.vm → (Cond.initialized y.cls).before a' U = true) :
    vx_Back l R p e below s sargs y len W9 (PreOf R mc ms Pc) (PostOf Qc mc ms free) (vx_Post XC mc ms free) := by
  intro m meth c A g ig mk a X hg hsize hdg hW hn hp
  have h1 : (headSpec ws rm).pre.before a A.U = true := atoms_intro fun w hw => hws w hw _ _ X.warmed
  have h2 : (Cond.codeWith y bytes maxL ret hh).before a A.U = true := hws _ hcode _ _ X.warmed
  have h3 : (Cond.initialized y.cls).before a A.U = true := hinit _ _ X.warmed
  have h4 : A.cells + (headSpec ws rm).room.cells ≤ R.cells := by rw [show (headSpec ws rm).room.cells = mc from hrc]; exact hp.1
  have h5 : A.slots + (headSpec ws rm).room.slots ≤ R.slots := by rw [show (headSpec ws rm).room.slots = ms from hrs]; exact hp.2.1
  have hPc : Pc a (A.U.calling g mk a) := hblind _ _ _ _ hp.2.2
  obtain ⟨U, Ls, c0, s0⟩ := A
  dsimp only [Pt.U, Pt.locs, Pt.cells, Pt.slots] at h1 h2 h3 h4 h5 X hn hPc ⊢
  obtain ⟨m9, methY, cY, hn9, hmY, hcY, -, hlY, -⟩ := Cond.codeWith_spec h2
  cases Option.some.inj (hn9.symm.trans hn)
  obtain ⟨kY, hkY, -⟩ := className_of_methodNamed hn
  have hinitY : kY.init = .initialized := Cond.initialized_spec (findClass_of_methodNamed hn) hkY h3
  have h : At U g.method c below := by rw [hg]; exact X.here
  have hlocals9 : W9 + (maxL + 11) + (headSpec ws rm).room.locals ≤ R.locals := hlocals
  have happ : (headSpec ws rm).appliesLoose y e.platform (U.calling g mk a) = true :=
    Spec.appliesLoose_calling (g := g) h hdg hn hkY hinitY
      (X.room_calling (g := g) (R' := (headSpec ws rm).room) hsize hmY hcY hframes (by rw [hlY]; omega) h4 h5) h1
  obtain ⟨mid, hmid⟩ := h.above
  have hfr : (U.setTop g).frames = (.java g :: mid) ++ below := by rw [State.frames_setTop' g h.top, hmid]; rfl
  obtain ⟨o, s₂, hsteps, -, hend, hq⟩ := Steps.callFree hM p X.admits X.cas X.clock (acts := []) hfr happ hPc trivial
  have hq' : vx_Q Qc XC mc ms free a (U.calling g mk a) o s₂ := hq
  rw [State.frames_setTop' g h.top] at hend
  obtain ⟨g₀, hg0⟩ := Option.isSome_iff_exists.mp h.top
  obtain ⟨r, hr⟩ := State.topJava?_eq_some.mp hg0
  have hr' : (({ U with heap := s₂.heap, slotsUsed := s₂.slotsUsed } : State).setVm s₂.vm).frames = .java g₀ :: r := hr
  rcases hq' with ⟨hqc, L, hfe, hL⟩ | ⟨q, rfl, E, ce, L, hx, hce, hcv, hcl, hW₂, hsm, hL⟩
  · obtain ⟨⟨v, rfl⟩, hW₂, e2, q2, q3, q4, q5, q6⟩ := id hfe
    have e3 : s₂ = ({ (U.calling g mk a).setFrames s₂.frames with heap := s₂.heap, slotsUsed := s₂.slotsUsed } : State).setVm s₂.vm := by
      have : s₂ = ({ s₂ with vm := (U.calling g mk a).vm } : State).setVm s₂.vm := rfl
      rw [e2] at this
      exact this
    obtain ⟨c₂, i₂, len₂, hc₂, hd₂, hf₂⟩ := hend
    have hW' : U.WarmedH s₂.vm := hW₂
    have hcc : c₂ = c := by
      have h1 : s₂.code? g.method = U.code? g.method := by
        rw [State.code?_eq, State.code?_eq, hW'.alike.method?]
      exact Option.some.inj (hc₂.symm.trans (h1.trans h.code))
    subst hcc
    have hlen : len₂ = len := by rw [hdg] at hd₂; cases hd₂; rfl
    subst hlen
    have hs₂ : s₂ = (({ U with heap := s₂.heap, slotsUsed := s₂.slotsUsed } : State).setVm s₂.vm).setTop { g with pc := g.pc + len₂, stack := v.toList ++ g.stack } := by
      refine e3.trans ?_
      rw [hf₂, State.calling_eq h.top, State.setFrames_setFrames, State.setTop_of_frames _ hr', hr]
      rfl
    have hsame : U.sameButNew ({ U with heap := s₂.heap, slotsUsed := s₂.slotsUsed } : State) L mc ms := by
      refine ⟨?_, q2, q3, q4, q5, q6⟩
      obtain ⟨t, ht, -⟩ := State.frames_cons hr
      show ({ U with heap := s₂.heap, slotsUsed := s₂.slotsUsed } : State) = { U.setFrames U.frames with heap := s₂.heap, slotsUsed := s₂.slotsUsed }
      rw [State.setFrames_self ht]
    subst hg
    refine Or.inl ⟨v, ⟨(({ U with heap := s₂.heap, slotsUsed := s₂.slotsUsed } : State).setVm s₂.vm), Ls ++ L, c0 + mc, s0 + ms⟩,
      ⟨X.admits, X.cas, X.clock, X.frames, X.room, X.hears, X.method, X.code, (X.here.setHeapUsed s₂.heap s₂.slotsUsed).setVm hW'.alike, X.tail, State.WarmedH.trans X.warmed hW', X.limits, X.bytes, X.same.trans (hsame.setVm s.vm)⟩,
      ⟨g, mk, s₂, L, rfl, rfl, hqc, rfl, hL, rfl, rfl⟩, ?_⟩
    show Steps p.tables e below _ ((({ U with heap := s₂.heap, slotsUsed := s₂.slotsUsed } : State).setVm s₂.vm).setTop { g with pc := g.pc + len₂, stack := v.toList ++ g.stack })
    rw [← hs₂]
    exact hsteps
  · obtain ⟨e2, q2, q3, q4, q5, q6⟩ := id hsm
    have e3 : s₂ = ({ (U.calling g mk a).setFrames s₂.frames with heap := s₂.heap, slotsUsed := s₂.slotsUsed } : State).setVm s₂.vm := by
      have : s₂ = ({ s₂ with vm := (U.calling g mk a).vm } : State).setVm s₂.vm := rfl
      rw [e2] at this
      exact this
    have hf₂ : s₂.frames = .throwing q :: .java g :: U.frames.tail := hend
    have hW' : U.WarmedH s₂.vm := hW₂
    have hs₂ : s₂ = ((({ U with heap := s₂.heap, slotsUsed := s₂.slotsUsed } : State).setVm s₂.vm).setTop g).pushFrame (.throwing q) := by
      refine e3.trans ?_
      rw [hf₂, State.calling_eq h.top, State.setFrames_setFrames, State.pushFrame, State.frames_setTop _ hr', State.setTop_of_frames _ hr', State.setFrames_setFrames, hr]
      rfl
    have hsame : U.sameButNew ({ U with heap := s₂.heap, slotsUsed := s₂.slotsUsed } : State) L mc ms := by
      refine ⟨?_, q2, q3, q4, q5, q6⟩
      obtain ⟨t, ht, -⟩ := State.frames_cons hr
      show ({ U with heap := s₂.heap, slotsUsed := s₂.slotsUsed } : State) = { U.setFrames U.frames with heap := s₂.heap, slotsUsed := s₂.slotsUsed }
      rw [State.setFrames_self ht]
    subst hg
    refine Or.inr ⟨q, ⟨(({ U with heap := s₂.heap, slotsUsed := s₂.slotsUsed } : State).setVm s₂.vm), Ls ++ L, c0 + mc, s0 + ms⟩,
      ⟨X.admits, X.cas, X.clock, X.frames, X.room, X.hears, X.method, X.code, (X.here.setHeapUsed s₂.heap s₂.slotsUsed).setVm hW'.alike, X.tail, State.WarmedH.trans X.warmed hW', X.limits, X.bytes, X.same.trans (hsame.setVm s.vm)⟩,
      ⟨g, mk, s₂, L, E, ce, rfl, rfl, hx, hce, hcv, hcl, rfl, hL, rfl, rfl⟩, ?_⟩
    show Steps p.tables e below _ (((({ U with heap := s₂.heap, slotsUsed := s₂.slotsUsed } : State).setVm s₂.vm).setTop g).pushFrame (.throwing q))
    rw [← hs₂]
    exact hsteps
end
variable {p : Program} {l : Launch} {e : Env} {R : Room} {s : State} {m : MethodId} {args : Array Value} {below : List Frame} {meth : Method} {c : Code} {T : State} {H : Heap} {locs : List Loc} {cells slots : Nat}
theorem vx_callVX (X : Stand p l e R s m args below meth c T locs cells slots) (hexec : p.tables.exec = Jvm.exec) {own C : String} {index : Nat} {y : MethodName} {bytes : ByteArray} {maxL : Nat} {ret : Option FieldType} {hh : List (Nat × Nat × Nat × Nat)}
    (hown : s.vm.findClass own = some m.cls) (hlink : (Cond.methodLink own index y).before args s = true) (hinst : (Cond.instanceMethod y).before args s = true) (hsel : (Cond.selects C y y).before args s = true)
    (hcode : (Cond.codeWith y bytes maxL ret hh).before args s = true) (hy : y.cls ≠ "java/lang/invoke/MethodHandle" ∧ y.cls ≠ "java/lang/invoke/VarHandle")
    {W9 : Nat} {Pre : Pt → Array Value → Prop} {Post : Pt → Array Value → Option Value → Pt → Prop} {PostX : Pt → Array Value → Addr → Pt → Prop} (hK : vx_Back l R p e below s args y 3 W9 Pre Post PostX)
    {b : Addr} {cellB : Cell} (hcell : T.heap[b]? = some cellB) (hobj : cellB.vm.isStatics = false) (hcls : s.vm.findClass C = some cellB.cls)
    {g : JFrame} (hg : g.method = m) (hsize : g.locals.size = c.maxLocals) {argsL rest : List Value} (hlen : ∀ sig, parseMethodDescriptor y.desc = some sig → argsL.length = sig.parameters.length)
    (hstack : g.stack = argsL.reverse ++ .ref b :: rest) (hW : 2 * g.monitorRoom + (rest.map fun v => v.category).sum ≤ W9) (hdg : decode c.code g.pc = .ok (.invokevirtual index, 3))
    (hpre : ∀ vm₁, s.WarmedH vm₁ → Pre ⟨T.setVm vm₁, locs, cells, slots⟩ (Value.ref b :: argsL).toArray) :
    (∃ (v : Option Value) (vm₁ : Vm) (B : Pt), s.WarmedH vm₁ ∧ Stand p l e R s m args below meth c B.U B.locs B.cells B.slots ∧ Post ⟨T.setVm vm₁, locs, cells, slots⟩ (Value.ref b :: argsL).toArray v B ∧
      ∀ target, Steps p.tables e below (B.U.setTop { g with pc := g.pc + 3, stack := v.toList ++ rest }) target → Steps p.tables e below (T.setTop g) target) ∨
    (∃ (q : Addr) (vm₁ : Vm) (B : Pt), s.WarmedH vm₁ ∧ Stand p l e R s m args below meth c B.U B.locs B.cells B.slots ∧ PostX ⟨T.setVm vm₁, locs, cells, slots⟩ (Value.ref b :: argsL).toArray q B ∧
      Steps p.tables e below (T.setTop g) ((B.U.setTop { g with stack := rest }).pushFrame (.throwing q))) := by
  obtain ⟨mk, methM, hnamed, hmethM, hstM, habM⟩ := Cond.instanceMethod_spec hinst
  obtain ⟨m8, methM', cM, hn8, hmethM', -, -, -, -, -, -, hsigM⟩ := Cond.codeWith_spec hcode
  cases Option.some.inj (hn8.symm.trans hnamed)
  cases hmethM.symm.trans hmethM'
  obtain ⟨c2, r2, m2, q1, q2, q3, q4, kP, hkP, hkPi⟩ := Cond.selects_spec hsel
  cases hcls.symm.trans q1
  cases (State.methodFound?_of_named hnamed hy).symm.trans q2
  cases hnamed.symm.trans q3
  have hselP : selectMethod e.platform s.vm cellB.cls mk = .method mk := by rw [Launch.admits_selectMethod X.admits]; exact q4
  obtain ⟨vm₁, X₁, hstep₁⟩ := X.invokevirtual hexec hown hlink hnamed hmethM hstM hkP hkPi hy (a := b) (cell := cellB) hcell
    (fun z h => by rw [h] at hobj; cases hobj) hselP hmethM habM hkP hkPi (g := g) hg (argsL := argsL) (rest := rest) (hlen _ hsigM) hstack hdg
  rcases hK m meth c ⟨T.setVm vm₁, locs, cells, slots⟩ { g with stack := rest } (.invokevirtual index) mk (Value.ref b :: argsL).toArray X₁ hg hsize hdg hW (X₁.named hnamed) (hpre vm₁ X₁.warmed) with ⟨v, B, X', hpost, hsteps⟩ | ⟨q, B, X', hpost, hsteps⟩
  · exact Or.inl ⟨v, vm₁, B, X₁.warmed, X', hpost, fun target h => hstep₁ _ fun acts => by rw [doInvoke_state]; exact hsteps.trans h⟩
  · exact Or.inr ⟨q, vm₁, B, X₁.warmed, X', hpost, hstep₁ _ fun acts => by rw [doInvoke_state]; exact hsteps⟩
theorem vx_callSX (X : Stand p l e R s m args below meth c T locs cells slots) (hexec : p.tables.exec = Jvm.exec) {own : String} {index : Nat} {y : MethodName} {bytes : ByteArray} {maxL : Nat} {ret : Option FieldType} {hh : List (Nat × Nat × Nat × Nat)}
    (hown : s.vm.findClass own = some m.cls) (hlink : (Cond.methodLink own index y).before args s = true) (hstat : (Cond.static y).before args s = true) (hinit : (Cond.initialized y.cls).before args s = true)
    (hcode : (Cond.codeWith y bytes maxL ret hh).before args s = true) (hy : y.cls ≠ "java/lang/invoke/MethodHandle" ∧ y.cls ≠ "java/lang/invoke/VarHandle")
    {W9 : Nat} {Pre : Pt → Array Value → Prop} {Post : Pt → Array Value → Option Value → Pt → Prop} {PostX : Pt → Array Value → Addr → Pt → Prop} (hK : vx_Back l R p e below s args y 3 W9 Pre Post PostX)
    {g : JFrame} (hg : g.method = m) (hsize : g.locals.size = c.maxLocals) {argsL rest : List Value} (hlen : ∀ sig, parseMethodDescriptor y.desc = some sig → argsL.length = sig.parameters.length)
    (hstack : g.stack = argsL.reverse ++ rest) (hW : 2 * g.monitorRoom + (rest.map fun v => v.category).sum ≤ W9) (hdg : decode c.code g.pc = .ok (.invokestatic index, 3))
    (hpre : ∀ vm₁, s.WarmedH vm₁ → Pre ⟨T.setVm vm₁, locs, cells, slots⟩ argsL.toArray) :
    (∃ (v : Option Value) (vm₁ : Vm) (B : Pt), s.WarmedH vm₁ ∧ Stand p l e R s m args below meth c B.U B.locs B.cells B.slots ∧ Post ⟨T.setVm vm₁, locs, cells, slots⟩ argsL.toArray v B ∧
      ∀ target, Steps p.tables e below (B.U.setTop { g with pc := g.pc + 3, stack := v.toList ++ rest }) target → Steps p.tables e below (T.setTop g) target) ∨
    (∃ (q : Addr) (vm₁ : Vm) (B : Pt), s.WarmedH vm₁ ∧ Stand p l e R s m args below meth c B.U B.locs B.cells B.slots ∧ PostX ⟨T.setVm vm₁, locs, cells, slots⟩ argsL.toArray q B ∧
      Steps p.tables e below (T.setTop g) ((B.U.setTop { g with stack := rest }).pushFrame (.throwing q))) := by
  obtain ⟨mk, methM, cM, hnamed, hmethM, -, -, -, -, -, -, hsigM⟩ := Cond.codeWith_spec hcode
  have hstatic : methM.isStatic = true := Cond.static_spec hnamed hmethM hstat
  obtain ⟨kP, hkP, -⟩ := className_of_methodNamed hnamed
  have hinitP : kP.init = .initialized := Cond.initialized_spec (findClass_of_methodNamed hnamed) hkP hinit
  obtain ⟨vm₁, X₁, hstep₁⟩ := X.invokestatic hexec hown hlink hnamed hmethM hstatic hkP hinitP hy (g := g) hg (argsL := argsL) (rest := rest) (hlen _ hsigM) hstack hdg
  rcases hK m meth c ⟨T.setVm vm₁, locs, cells, slots⟩ { g with stack := rest } (.invokestatic index) mk argsL.toArray X₁ hg hsize hdg hW (X₁.named hnamed) (hpre vm₁ X₁.warmed) with ⟨v, B, X', hpost, hsteps⟩ | ⟨q, B, X', hpost, hsteps⟩
  · exact Or.inl ⟨v, vm₁, B, X₁.warmed, X', hpost, fun target h => hstep₁ _ fun acts => by rw [doInvoke_state]; exact hsteps.trans h⟩
  · exact Or.inr ⟨q, vm₁, B, X₁.warmed, X', hpost, hstep₁ _ fun acts => by rw [doInvoke_state]; exact hsteps⟩
theorem vx_callVW (X : Stand p l e R s m args below meth c T locs cells slots) (hexec : p.tables.exec = Jvm.exec) {own C : String} {index : Nat} {y : MethodName} {bytes : ByteArray} {maxL : Nat} {ret : Option FieldType} {hh : List (Nat × Nat × Nat × Nat)}
    (hown : s.vm.findClass own = some m.cls) (hlink : (Cond.methodLink own index y).before args s = true) (hinst : (Cond.instanceMethod y).before args s = true) (hsel : (Cond.selects C y y).before args s = true)
    (hcode : (Cond.codeWith y bytes maxL ret hh).before args s = true) (hy : y.cls ≠ "java/lang/invoke/MethodHandle" ∧ y.cls ≠ "java/lang/invoke/VarHandle")
    {W9 : Nat} {Pre : Pt → Array Value → Prop} {Post : Pt → Array Value → Option Value → Pt → Prop} (hK : Back l R p e below s args y 3 W9 Pre Post)
    {b : Addr} {cellB : Cell} (hcell : T.heap[b]? = some cellB) (hobj : cellB.vm.isStatics = false) (hcls : s.vm.findClass C = some cellB.cls)
    {g : JFrame} (hg : g.method = m) (hsize : g.locals.size = c.maxLocals) {argsL rest : List Value} (hlen : ∀ sig, parseMethodDescriptor y.desc = some sig → argsL.length = sig.parameters.length)
    (hstack : g.stack = argsL.reverse ++ .ref b :: rest) (hW : 2 * g.monitorRoom + (rest.map fun v => v.category).sum ≤ W9) (hdg : decode c.code g.pc = .ok (.invokevirtual index, 3))
    (hpre : ∀ vm₁, s.WarmedH vm₁ → Pre ⟨T.setVm vm₁, locs, cells, slots⟩ (Value.ref b :: argsL).toArray) :
    ∃ (v : Option Value) (vm₁ : Vm) (B : Pt), s.WarmedH vm₁ ∧ Stand p l e R s m args below meth c B.U B.locs B.cells B.slots ∧ Post ⟨T.setVm vm₁, locs, cells, slots⟩ (Value.ref b :: argsL).toArray v B ∧
      ∀ target, Steps p.tables e below (B.U.setTop { g with pc := g.pc + 3, stack := v.toList ++ rest }) target → Steps p.tables e below (T.setTop g) target := by
  obtain ⟨mk, methM, hnamed, hmethM, hstM, habM⟩ := Cond.instanceMethod_spec hinst
  obtain ⟨m8, methM', cM, hn8, hmethM', -, -, -, -, -, -, hsigM⟩ := Cond.codeWith_spec hcode
  cases Option.some.inj (hn8.symm.trans hnamed)
  cases hmethM.symm.trans hmethM'
  obtain ⟨c2, r2, m2, q1, q2, q3, q4, kP, hkP, hkPi⟩ := Cond.selects_spec hsel
  cases hcls.symm.trans q1
  cases (State.methodFound?_of_named hnamed hy).symm.trans q2
  cases hnamed.symm.trans q3
  have hselP : selectMethod e.platform s.vm cellB.cls mk = .method mk := by rw [Launch.admits_selectMethod X.admits]; exact q4
  obtain ⟨vm₁, X₁, hstep₁⟩ := X.invokevirtual hexec hown hlink hnamed hmethM hstM hkP hkPi hy (a := b) (cell := cellB) hcell
    (fun z h => by rw [h] at hobj; cases hobj) hselP hmethM habM hkP hkPi (g := g) hg (argsL := argsL) (rest := rest) (hlen _ hsigM) hstack hdg
  obtain ⟨v, B, X', hpost, hsteps⟩ := hK m meth c ⟨T.setVm vm₁, locs, cells, slots⟩ { g with stack := rest } (.invokevirtual index) mk (Value.ref b :: argsL).toArray X₁ hg hsize hdg hW (X₁.named hnamed) (hpre vm₁ X₁.warmed)
  exact ⟨v, vm₁, B, X₁.warmed, X', hpost, fun target h => hstep₁ _ fun acts => by rw [doInvoke_state]; exact hsteps.trans h⟩
abbrev vx_CVW (R : Room) (s : State) (args : Array Value) (own C : String) (index : Nat) (y : MethodName) (bytes : ByteArray) (maxL : Nat) (ret : Option FieldType) (hh : List (Nat × Nat × Nat × Nat)) (ws : List Cond) (rm : Room) (mc ms n : Nat) : Prop :=
  (rm.cells = mc ∧ rm.slots = ms ∧ rm.frames + 1 ≤ R.frames ∧ 8 + (maxL + 11) + rm.locals ≤ R.locals ∧ (∀ w ∈ ws, ∀ (a' : Array Value) (U : State), s.WarmedH U.vm → w.before a' U = true) ∧ Cond.codeWith y bytes maxL ret hh ∈ ws) ∧
  (Cond.codeWith y bytes maxL ret hh).before args s = true ∧ (Cond.initialized y.cls).before args s = true ∧ (y.cls ≠ "java/lang/invoke/MethodHandle" ∧ y.cls ≠ "java/lang/invoke/VarHandle") ∧
  (∀ sig, parseMethodDescriptor y.desc = some sig → n = sig.parameters.length) ∧ (Cond.methodLink own index y).before args s = true ∧ (Cond.instanceMethod y).before args s = true ∧ (Cond.selects C y y).before args s = true
theorem vx_cwVW {own C : String} {index maxL mc ms : Nat} {y : MethodName} {bytes : ByteArray} {ret : Option FieldType} {hh : List (Nat × Nat × Nat × Nat)} {Ts ws ws' : List Cond} {rm : Room} (n : Nat) (ht : ∀ w ∈ Ts, w.before args s = true) (hT : GoodIn Ts (wsV own index C y ws)) (hw : ws = Cond.codeWith y bytes maxL ret hh :: ws') (hrc : rm.cells = mc) (hrs : rm.slots = ms)
    (hd : y.cls = C ∧ y.cls ≠ "java/lang/invoke/MethodHandle" ∧ y.cls ≠ "java/lang/invoke/VarHandle" ∧ (parseMethodDescriptor y.desc).map (fun d => d.parameters.length) = some n) (hR : rm.frames + 1 ≤ R.frames ∧ 8 + (maxL + 11) + rm.locals ≤ R.locals) :
    vx_CVW R s args own C index y bytes maxL ret hh ws rm mc ms n := by
  obtain ⟨hC, hd⟩ := hd
  subst hC
  have ok : ∀ w ∈ wsV own index y.cls y ws, w.before args s = true := fun w h => ht w (hT w h).1
  have hG : GoodIn Ts ws := fun w h => hT w (by unfold wsV; exact List.mem_append_right _ h)
  have hc : Cond.codeWith y bytes maxL ret hh ∈ ws := by rw [hw]; exact List.mem_cons_self
  refine ⟨⟨hrc, hrs, hR.1, hR.2, pay_in ht hG, hc⟩, ht _ (hG _ hc).1, ok _ (by simp [wsV]), ⟨hd.1, hd.2.1⟩, fun sig h => ?_, ok _ (by simp [wsV]), ok _ (by simp [wsV]), ok _ (by simp [wsV])⟩
  have h2 := hd.2.2
  rw [h] at h2
  exact (Option.some.inj h2).symm
theorem vx_runVW {y : MethodName} {bytes cc : ByteArray} {maxL nL mc ms n index : Nat} {ret : Option FieldType} {hh : List (Nat × Nat × Nat × Nat)} {ws : List Cond} {rm : Room} {Pc : Array Value → State → Prop} {Qc : Array Value → State → Outcome → State → Prop} {free : Addr → Prop} {Ts : List Cond} {own C : String} {b : Addr} {As rest : List Value} {g : JFrame}
    (S : CallFix p m c cc nL s args Ts own) (hM : Met l y ws rm Pc Qc mc ms free) (cw : vx_CVW R s args own C index y bytes maxL ret hh ws rm mc ms n) (hp : PreV s H C b Pc As)
    (hg : g.method = m) (hn : As.length = n) (hsize : g.locals.size = nL) (hstack : g.stack = As.reverse ++ .ref b :: rest) (hW : 2 * g.monitorRoom + (rest.map fun v => v.category).sum ≤ 8) (hdg : decode cc g.pc = .ok (.invokevirtual index, 3)) (hf : cells + mc ≤ R.cells ∧ slots + ms ≤ R.slots) :
    va_Run p l e R s m args below meth c H locs cells slots mc ms g rest (Qc (Value.ref b :: As).toArray) free := by
  obtain ⟨⟨hrc, hrs, hfr, hlo, hws, hcw⟩, hcode, hini, hy, hlen, hl, hin, hse⟩ := cw
  have hK : Back l R p e below s args y 3 8 (PreOf R mc ms Pc) (PostOf Qc mc ms free) := va_backW (hh := hh) (bytes := bytes) (maxL := maxL) (ret := ret) hM hp.1 hrc hrs hfr hlo hws hcw (fun a' U hW => word_at hW (Or.inl (by first | rfl | simp [Cond.onTables, Cond.keeps, Cond.steady])) hini)
  obtain ⟨hx, hb, hml, ho, -⟩ := S
  obtain ⟨-, ⟨cellB, hcB, hoB, hclB⟩, hPc⟩ := hp
  intro T hT X
  obtain ⟨v, vm₁, ⟨U', l2, c2, s2⟩, hW₁, X', ⟨g', mk, t, L, e1, e2, hq, h1, hL, h2, h3⟩, st⟩ := vx_callVW X hx (C := C) (hh := hh) (bytes := bytes) (maxL := maxL) (ret := ret) ho hl hin hse hcode hy hK (by rw [hT]; exact hcB) hoB hclB hg (hsize.trans hml.symm) (argsL := As) (rest := rest) (fun sig h => hn.trans (hlen sig h)) hstack hW (by rw [hb]; exact hdg)
    (fun vm₁ hW₁ => ⟨hf.1, hf.2, hPc (T.setVm vm₁) hT hW₁⟩)
  dsimp only [Pt.U, Pt.locs, Pt.cells, Pt.slots] at X' e1 e2 h1 h2 h3 st
  subst h1; subst h2; subst h3
  exact ⟨v, (T.setVm vm₁).calling g' mk (Value.ref b :: As).toArray, t, U', L, hT, X', hL, e1, e2, hq, st⟩
section
variable {y : MethodName} {bytes cc : ByteArray} {maxL nL mc ms n index : Nat} {ret : Option FieldType} {ws : List Cond} {rm : Room} {Pc : Array Value → State → Prop} {Qc : Array Value → State → Outcome → State → Prop} {XC : String → State → State → Prop} {free : Addr → Prop} {Ts : List Cond} {own C : String} {b : Addr} {As rest : List Value} {g : JFrame}
theorem vx_runVX {hh : List (Nat × Nat × Nat × Nat)} (S : CallFix p m c cc nL s args Ts own) (hM : vx_Met l y ws rm Pc Qc XC mc ms free) (cw : vx_CVW R s args own C index y bytes maxL ret hh ws rm mc ms n) (hp : PreV s H C b Pc As)
    (hg : g.method = m) (hn : As.length = n) (hsize : g.locals.size = nL) (hstack : g.stack = As.reverse ++ .ref b :: rest) (hW : 2 * g.monitorRoom + (rest.map fun v => v.category).sum ≤ 8) (hdg : decode cc g.pc = .ok (.invokevirtual index, 3)) (hf : cells + mc ≤ R.cells ∧ slots + ms ≤ R.slots) :
    vx_Run p l e R s m args below meth c H locs cells slots mc ms g rest (Qc (Value.ref b :: As).toArray) XC free := by
  obtain ⟨⟨hrc, hrs, hfr, hlo, hws, hcw⟩, hcode, hini, hy, hlen, hl, hin, hse⟩ := cw
  have hK : vx_Back l R p e below s args y 3 8 (PreOf R mc ms Pc) (PostOf Qc mc ms free) (vx_Post XC mc ms free) := vx_backW (hh := hh) (bytes := bytes) (maxL := maxL) (ret := ret) hM hp.1 hrc hrs hfr hlo hws hcw (fun a' U hW => word_at hW (Or.inl (by first | rfl | simp [Cond.onTables, Cond.keeps, Cond.steady])) hini)
  obtain ⟨hx, hb, hml, ho, -⟩ := S
  obtain ⟨-, ⟨cellB, hcB, hoB, hclB⟩, hPc⟩ := hp
  intro T hT X
  rcases vx_callVX X hx (C := C) (hh := hh) (bytes := bytes) (maxL := maxL) (ret := ret) ho hl hin hse hcode hy hK (by rw [hT]; exact hcB) hoB hclB hg (hsize.trans hml.symm) (argsL := As) (rest := rest) (fun sig h => hn.trans (hlen sig h)) hstack hW (by rw [hb]; exact hdg)
    (fun vm₁ hW₁ => ⟨hf.1, hf.2, hPc (T.setVm vm₁) hT hW₁⟩) with ⟨v, vm₁, ⟨U', l2, c2, s2⟩, hW₁, X', ⟨g', mk, t, L, e1, e2, hq, h1, hL, h2, h3⟩, st⟩ | ⟨q, vm₁, ⟨U', l2, c2, s2⟩, hW₁, X', ⟨g', mk, t, L, E, ce, e1, e2, hq, hce, hcv, hcl, h1, hL, h2, h3⟩, st⟩
  · dsimp only [Pt.U, Pt.locs, Pt.cells, Pt.slots] at X' e1 e2 h1 h2 h3 st
    subst h1; subst h2; subst h3
    exact Or.inl ⟨v, (T.setVm vm₁).calling g' mk (Value.ref b :: As).toArray, t, U', L, hT, X', hL, e1, e2, hq, st⟩
  · dsimp only [Pt.U, Pt.locs, Pt.cells, Pt.slots] at X' e1 e2 h1 h2 h3 st hcl
    subst h1; subst h2; subst h3
    exact Or.inr ⟨q, (T.setVm vm₁).calling g' mk (Value.ref b :: As).toArray, t, U', L, E, ce, hT, X', hL, e1, e2, hq, hce, hcv, vx_cls hW₁ hcl, st⟩
theorem vx_runSX {hh : List (Nat × Nat × Nat × Nat)} (S : CallFix p m c cc nL s args Ts own) (hM : vx_Met l y ws rm Pc Qc XC mc ms free) (cw : vx_CSW R s args own index y bytes maxL ret hh ws rm mc ms n) (hp : PreS s H Pc As)
    (hg : g.method = m) (hn : As.length = n) (hsize : g.locals.size = nL) (hstack : g.stack = As.reverse ++ rest) (hW : 2 * g.monitorRoom + (rest.map fun v => v.category).sum ≤ 8) (hdg : decode cc g.pc = .ok (.invokestatic index, 3)) (hf : cells + mc ≤ R.cells ∧ slots + ms ≤ R.slots) :
    vx_Run p l e R s m args below meth c H locs cells slots mc ms g rest (Qc As.toArray) XC free := by
  obtain ⟨⟨hrc, hrs, hfr, hlo, hws, hcw⟩, hcode, hini, hy, hlen, hl, hstt⟩ := cw
  have hK : vx_Back l R p e below s args y 3 8 (PreOf R mc ms Pc) (PostOf Qc mc ms free) (vx_Post XC mc ms free) := vx_backW (hh := hh) (bytes := bytes) (maxL := maxL) (ret := ret) hM hp.1 hrc hrs hfr hlo hws hcw (fun a' U hW => word_at hW (Or.inl (by first | rfl | simp [Cond.onTables, Cond.keeps, Cond.steady])) hini)
  obtain ⟨hx, hb, hml, ho, -⟩ := S
  intro T hT X
  rcases vx_callSX X hx (hh := hh) (bytes := bytes) (maxL := maxL) (ret := ret) ho hl hstt hini hcode hy hK hg (hsize.trans hml.symm) (argsL := As) (rest := rest) (fun sig h => hn.trans (hlen sig h)) hstack hW (by rw [hb]; exact hdg)
    (fun vm₁ hW₁ => ⟨hf.1, hf.2, hp.2 (T.setVm vm₁) hT hW₁⟩) with ⟨v, vm₁, ⟨U', l2, c2, s2⟩, hW₁, X', ⟨g', mk, t, L, e1, e2, hq, h1, hL, h2, h3⟩, st⟩ | ⟨q, vm₁, ⟨U', l2, c2, s2⟩, hW₁, X', ⟨g', mk, t, L, E, ce, e1, e2, hq, hce, hcv, hcl, h1, hL, h2, h3⟩, st⟩
  · dsimp only [Pt.U, Pt.locs, Pt.cells, Pt.slots] at X' e1 e2 h1 h2 h3 st
    subst h1; subst h2; subst h3
    exact Or.inl ⟨v, (T.setVm vm₁).calling g' mk As.toArray, t, U', L, hT, X', hL, e1, e2, hq, st⟩
  · dsimp only [Pt.U, Pt.locs, Pt.cells, Pt.slots] at X' e1 e2 h1 h2 h3 st hcl
    subst h1; subst h2; subst h3
    exact Or.inr ⟨q, (T.setVm vm₁).calling g' mk As.toArray, t, U', L, E, ce, hT, X', hL, e1, e2, hq, hce, hcv, vx_cls hW₁ hcl, st⟩
end
end VXH
theorem vx_ofWH {l : Launch} {y : MethodName} {ws ws' : List Cond} {rm : Room} {Pc : Array Value → State → Prop} {Qc : Array Value → State → Outcome → State → Prop} {XC : String → State → State → Prop} {mc ms : Nat} {free : Addr → Prop} {cc : ByteArray} {maxL : Nat} {ret : Option FieldType} {hh : List (Nat × Nat × Nat × Nat)}
    (hy : plainName y.cls = true) (hw : ws = Cond.codeWith y cc maxL ret hh :: ws')
    (body : ∀ p e s m args below meth c s₁, BodyLoose p l y (headSpec ws rm) cc maxL ret e s m args below meth c s₁ → c.maxLocals = maxL → Pc args s →
      W p l e (headSpec ws rm).room s m args below meth c s.heap [] 0 0 (vx_MQ below Qc XC args s mc ms free) (entryFrame m args maxL)) : vx_Met l y ws rm Pc Qc XC mc ms free := by
  refine MetFree.of_bodyS (code := cc) (maxLocals := maxL) (ret := ret) hy ?_ ?_
  · intro args s m h hn
    obtain ⟨m9, meth, c, hn9, h1, h2, h3, h4, -, h5, h6, -⟩ := Cond.codeWith_spec (atoms_spec (ws := ws) h _ (by rw [hw]; exact List.mem_cons_self))
    cases hn.symm.trans hn9
    exact ⟨meth, c, h1, h2, h3, h4, h5, h6⟩
  · intro p e s m args below meth c s₁ B hml hP _
    have hh0 : s₁.heap = s.heap := by rw [B.state]; rfl
    obtain ⟨t, a1, o, b1, b2, b3⟩ := body p e s m args below meth c s₁ B hml hP s₁ hh0 (Stand.of_body B)
    exact ⟨t, o, a1, b1, b2, b3⟩
/-! ===== END ===== -/
end
section
def RX0 : String := "SharedBoard$CellSet"
def TX0 : u_T := fun k => match k with
  | _ => ("SharedBoard$CellSet", "rows", "[I", true)
def tyX0 : Nat → FieldType := fun k => match k with
  | _ => .array .int
theorem nmX0 : ∀ a, a < 1 → ∀ b, b < 1 → a ≠ b → (TX0 a).2.1 ≠ (TX0 b).2.1 := by decide +kernel
theorem tyX0_ok : ∀ k, k < 1 → parseFieldDescriptor (TX0 k).2.2.1 = some (tyX0 k) := by decide +kernel
abbrev cX0_init : ByteArray := prog_2_method_1_code
def yX0_init : MethodName := ⟨RX0, "<init>", "()V"⟩
abbrev cX0_becomeEmpty : ByteArray := prog_2_method_2_code
def yX0_becomeEmpty : MethodName := ⟨RX0, "becomeEmpty", "()V"⟩
abbrev cX0_becomeCopy : ByteArray := prog_2_method_3_code
def yX0_becomeCopy : MethodName := ⟨RX0, "becomeCopy", "(LSharedBoard$CellSet;)V"⟩
abbrev cX0_becomeRectangle : ByteArray := prog_2_method_4_code
def yX0_becomeRectangle : MethodName := ⟨RX0, "becomeRectangle", "(II)V"⟩
abbrev cX0_meetsRectangle : ByteArray := prog_2_method_5_code
def yX0_meetsRectangle : MethodName := ⟨RX0, "meetsRectangle", "(II)Z"⟩
abbrev cX0_columnsBetween : ByteArray := prog_2_method_6_code
def yX0_columnsBetween : MethodName := ⟨RX0, "columnsBetween", "(II)I"⟩
abbrev cX0_rowOf : ByteArray := prog_2_method_7_code
def yX0_rowOf : MethodName := ⟨RX0, "rowOf", "(I)I"⟩
abbrev cX0_columnOf : ByteArray := prog_2_method_8_code
def yX0_columnOf : MethodName := ⟨RX0, "columnOf", "(I)I"⟩
abbrev cX0_contains : ByteArray := prog_2_method_9_code
def yX0_contains : MethodName := ⟨RX0, "contains", "(I)Z"⟩
abbrev cX0_include : ByteArray := prog_2_method_10_code
def yX0_include : MethodName := ⟨RX0, "include", "(I)V"⟩
abbrev cX0_exclude : ByteArray := prog_2_method_11_code
def yX0_exclude : MethodName := ⟨RX0, "exclude", "(I)V"⟩
abbrev cX0_addAll : ByteArray := prog_2_method_12_code
def yX0_addAll : MethodName := ⟨RX0, "addAll", "(LSharedBoard$CellSet;)V"⟩
abbrev cX0_takeAway : ByteArray := prog_2_method_13_code
def yX0_takeAway : MethodName := ⟨RX0, "takeAway", "(LSharedBoard$CellSet;)V"⟩
abbrev cX0_meets : ByteArray := prog_2_method_14_code
def yX0_meets : MethodName := ⟨RX0, "meets", "(LSharedBoard$CellSet;)Z"⟩
abbrev cX0_size : ByteArray := prog_2_method_15_code
def yX0_size : MethodName := ⟨RX0, "size", "()I"⟩
def RX1 : String := "SharedBoard$Leases"
def TX1 : u_T := fun k => match k with
  | 0 => ("SharedBoard$Leases", "areas", "[LSharedBoard$CellSet;", true)
  | 1 => ("SharedBoard$Leases", "owners", "[I", true)
  | _ => ("SharedBoard$Leases", "ends", "[I", true)
def tyX1 : Nat → FieldType := fun k => match k with
  | 0 => .array (.object "SharedBoard$CellSet")
  | 1 => .array .int
  | _ => .array .int
theorem nmX1 : ∀ a, a < 3 → ∀ b, b < 3 → a ≠ b → (TX1 a).2.1 ≠ (TX1 b).2.1 := by decide +kernel
theorem tyX1_ok : ∀ k, k < 3 → parseFieldDescriptor (TX1 k).2.2.1 = some (tyX1 k) := by decide +kernel
abbrev cX1_init : ByteArray := prog_3_method_1_code
def yX1_init : MethodName := ⟨RX1, "<init>", "()V"⟩
abbrev cX1_freeSlot : ByteArray := prog_3_method_2_code
def yX1_freeSlot : MethodName := ⟨RX1, "freeSlot", "(I)I"⟩
abbrev cX1_begin : ByteArray := prog_3_method_3_code
def yX1_begin : MethodName := ⟨RX1, "begin", "(III)V"⟩
abbrev cX1_endAll : ByteArray := prog_3_method_4_code
def yX1_endAll : MethodName := ⟨RX1, "endAll", "()V"⟩
abbrev cX1_endAllOf : ByteArray := prog_3_method_5_code
def yX1_endAllOf : MethodName := ⟨RX1, "endAllOf", "(II)I"⟩
abbrev cX1_inForce : ByteArray := prog_3_method_6_code
def yX1_inForce : MethodName := ⟨RX1, "inForce", "(I)I"⟩
abbrev cX1_inForceOf : ByteArray := prog_3_method_7_code
def yX1_inForceOf : MethodName := ⟨RX1, "inForceOf", "(II)I"⟩
abbrev cX1_lowestOwner : ByteArray := prog_3_method_8_code
def yX1_lowestOwner : MethodName := ⟨RX1, "lowestOwner", "(II)I"⟩
abbrev cX1_collectClosed : ByteArray := prog_3_method_9_code
def yX1_collectClosed : MethodName := ⟨RX1, "collectClosed", "(IILSharedBoard$CellSet;)V"⟩
def RX2 : String := "SharedBoard$Log"
def TX2 : u_T := fun k => match k with
  | 0 => ("SharedBoard$Log", "entries", "[LSharedBoard$Operation;", true)
  | 1 => ("SharedBoard$Log", "size", "I", false)
  | _ => ("SharedBoard$Log", "undos", "I", false)
def tyX2 : Nat → FieldType := fun k => match k with
  | 0 => .array (.object "SharedBoard$Operation")
  | 1 => .int
  | _ => .int
theorem nmX2 : ∀ a, a < 3 → ∀ b, b < 3 → a ≠ b → (TX2 a).2.1 ≠ (TX2 b).2.1 := by decide +kernel
theorem tyX2_ok : ∀ k, k < 3 → parseFieldDescriptor (TX2 k).2.2.1 = some (tyX2 k) := by decide +kernel
abbrev cX2_init : ByteArray := prog_4_method_1_code
def yX2_init : MethodName := ⟨RX2, "<init>", "()V"⟩
abbrev cX2_contains : ByteArray := prog_4_method_2_code
def yX2_contains : MethodName := ⟨RX2, "contains", "(I)Z"⟩
abbrev cX2_begin : ByteArray := prog_4_method_3_code
def yX2_begin : MethodName := ⟨RX2, "begin", "(IIII)LSharedBoard$Operation;"⟩
abbrev cX2_forgetRedoOf : ByteArray := prog_4_method_4_code
def yX2_forgetRedoOf : MethodName := ⟨RX2, "forgetRedoOf", "(I)V"⟩
abbrev cX2_latestActive : ByteArray := prog_4_method_5_code
def yX2_latestActive : MethodName := ⟨RX2, "latestActive", "(I)I"⟩
abbrev cX2_lastUndone : ByteArray := prog_4_method_6_code
def yX2_lastUndone : MethodName := ⟨RX2, "lastUndone", "(I)I"⟩
abbrev cX2_switchOff : ByteArray := prog_4_method_7_code
def yX2_switchOff : MethodName := ⟨RX2, "switchOff", "(I)V"⟩
abbrev cX2_switchOn : ByteArray := prog_4_method_8_code
def yX2_switchOn : MethodName := ⟨RX2, "switchOn", "(I)V"⟩
abbrev cX2_goBack : ByteArray := prog_4_method_9_code
def yX2_goBack : MethodName := ⟨RX2, "goBack", "(LSharedBoard$Mark;)V"⟩
abbrev cX2_activeOperations : ByteArray := prog_4_method_10_code
def yX2_activeOperations : MethodName := ⟨RX2, "activeOperations", "()I"⟩
abbrev cX2_operationsOf : ByteArray := prog_4_method_11_code
def yX2_operationsOf : MethodName := ⟨RX2, "operationsOf", "(I)I"⟩
abbrev cX2_activeOf : ByteArray := prog_4_method_12_code
def yX2_activeOf : MethodName := ⟨RX2, "activeOf", "(I)I"⟩
abbrev cX2_redoableOf : ByteArray := prog_4_method_13_code
def yX2_redoableOf : MethodName := ⟨RX2, "redoableOf", "(I)I"⟩
def RX3 : String := "SharedBoard$Mark"
def TX3 : u_T := fun k => match k with
  | 0 => ("SharedBoard$Mark", "isSet", "Z", false)
  | 1 => ("SharedBoard$Mark", "size", "I", false)
  | 2 => ("SharedBoard$Mark", "active", "[Z", true)
  | _ => ("SharedBoard$Mark", "colors", "[I", true)
def tyX3 : Nat → FieldType := fun k => match k with
  | 0 => .boolean
  | 1 => .int
  | 2 => .array .boolean
  | _ => .array .int
theorem nmX3 : ∀ a, a < 4 → ∀ b, b < 4 → a ≠ b → (TX3 a).2.1 ≠ (TX3 b).2.1 := by decide +kernel
theorem tyX3_ok : ∀ k, k < 4 → parseFieldDescriptor (TX3 k).2.2.1 = some (tyX3 k) := by decide +kernel
abbrev cX3_init : ByteArray := prog_5_method_1_code
def yX3_init : MethodName := ⟨RX3, "<init>", "()V"⟩
abbrev cX3_keep : ByteArray := prog_5_method_2_code
def yX3_keep : MethodName := ⟨RX3, "keep", "(LSharedBoard$Log;LSharedBoard$Scene;)V"⟩
def RX4 : String := "SharedBoard$Operation"
def TX4 : u_T := fun k => match k with
  | 0 => ("SharedBoard$Operation", "sort", "I", false)
  | 1 => ("SharedBoard$Operation", "owner", "I", false)
  | 2 => ("SharedBoard$Operation", "layer", "I", false)
  | 3 => ("SharedBoard$Operation", "paint", "I", false)
  | 4 => ("SharedBoard$Operation", "fade", "I", false)
  | 5 => ("SharedBoard$Operation", "born", "I", false)
  | 6 => ("SharedBoard$Operation", "active", "Z", false)
  | 7 => ("SharedBoard$Operation", "undoneBy", "I", false)
  | _ => ("SharedBoard$Operation", "cells", "LSharedBoard$CellSet;", true)
def tyX4 : Nat → FieldType := fun k => match k with
  | 0 => .int
  | 1 => .int
  | 2 => .int
  | 3 => .int
  | 4 => .int
  | 5 => .int
  | 6 => .boolean
  | 7 => .int
  | _ => .object "SharedBoard$CellSet"
theorem nmX4 : ∀ a, a < 9 → ∀ b, b < 9 → a ≠ b → (TX4 a).2.1 ≠ (TX4 b).2.1 := by decide +kernel
theorem tyX4_ok : ∀ k, k < 9 → parseFieldDescriptor (TX4 k).2.2.1 = some (tyX4 k) := by decide +kernel
abbrev cX4_init : ByteArray := prog_6_method_1_code
def yX4_init : MethodName := ⟨RX4, "<init>", "()V"⟩
abbrev cX4_hasVanished : ByteArray := prog_6_method_2_code
def yX4_hasVanished : MethodName := ⟨RX4, "hasVanished", "(I)Z"⟩
abbrev cX4_strengthAt : ByteArray := prog_6_method_3_code
def yX4_strengthAt : MethodName := ⟨RX4, "strengthAt", "(I)I"⟩
def RX5 : String := "SharedBoard$PathText"
def TX5 : u_T := fun k => match k with
  | 0 => ("SharedBoard$PathText", "codes", "[I", true)
  | 1 => ("SharedBoard$PathText", "length", "I", false)
  | 2 => ("SharedBoard$PathText", "columns", "[I", true)
  | 3 => ("SharedBoard$PathText", "rows", "[I", true)
  | 4 => ("SharedBoard$PathText", "point", "I", false)
  | 5 => ("SharedBoard$PathText", "inRow", "Z", false)
  | _ => ("SharedBoard$PathText", "number", "I", false)
def tyX5 : Nat → FieldType := fun k => match k with
  | 0 => .array .int
  | 1 => .int
  | 2 => .array .int
  | 3 => .array .int
  | 4 => .int
  | 5 => .boolean
  | _ => .int
theorem nmX5 : ∀ a, a < 7 → ∀ b, b < 7 → a ≠ b → (TX5 a).2.1 ≠ (TX5 b).2.1 := by decide +kernel
theorem tyX5_ok : ∀ k, k < 7 → parseFieldDescriptor (TX5 k).2.2.1 = some (tyX5 k) := by decide +kernel
abbrev cX5_init : ByteArray := prog_7_method_1_code
def yX5_init : MethodName := ⟨RX5, "<init>", "()V"⟩
abbrev cX5_readToError : ByteArray := prog_7_method_2_code
def yX5_readToError : MethodName := ⟨RX5, "readToError", "()I"⟩
abbrev cX5_isPath : ByteArray := prog_7_method_3_code
def yX5_isPath : MethodName := ⟨RX5, "isPath", "()Z"⟩
abbrev cX5_takes : ByteArray := prog_7_method_4_code
def yX5_takes : MethodName := ⟨RX5, "takes", "(I)Z"⟩
abbrev cX5_takesDigit : ByteArray := prog_7_method_5_code
def yX5_takesDigit : MethodName := ⟨RX5, "takesDigit", "(I)Z"⟩
abbrev cX5_drawInto : ByteArray := prog_7_method_6_code
def yX5_drawInto : MethodName := ⟨RX5, "drawInto", "(LSharedBoard$CellSet;)V"⟩
abbrev cX5_drawLine : ByteArray := prog_7_method_7_code
def yX5_drawLine : MethodName := ⟨RX5, "drawLine", "(IILSharedBoard$CellSet;)V"⟩
abbrev cX5_roundedQuotient : ByteArray := prog_7_method_8_code
def yX5_roundedQuotient : MethodName := ⟨RX5, "roundedQuotient", "(II)I"⟩
def RX6 : String := "SharedBoard$Regions"
def TX6 : u_T := fun k => match k with
  | 0 => ("SharedBoard$Regions", "rest", "LSharedBoard$CellSet;", true)
  | 1 => ("SharedBoard$Regions", "queue", "[I", true)
  | _ => ("SharedBoard$Regions", "queued", "I", false)
def tyX6 : Nat → FieldType := fun k => match k with
  | 0 => .object "SharedBoard$CellSet"
  | 1 => .array .int
  | _ => .int
theorem nmX6 : ∀ a, a < 3 → ∀ b, b < 3 → a ≠ b → (TX6 a).2.1 ≠ (TX6 b).2.1 := by decide +kernel
theorem tyX6_ok : ∀ k, k < 3 → parseFieldDescriptor (TX6 k).2.2.1 = some (tyX6 k) := by decide +kernel
abbrev cX6_init : ByteArray := prog_8_method_1_code
def yX6_init : MethodName := ⟨RX6, "<init>", "()V"⟩
abbrev cX6_parts : ByteArray := prog_8_method_2_code
def yX6_parts : MethodName := ⟨RX6, "parts", "(LSharedBoard$CellSet;Z)I"⟩
abbrev cX6_reach : ByteArray := prog_8_method_3_code
def yX6_reach : MethodName := ⟨RX6, "reach", "(ILSharedBoard$CellSet;LSharedBoard$CellSet;)V"⟩
abbrev cX6_spread : ByteArray := prog_8_method_4_code
def yX6_spread : MethodName := ⟨RX6, "spread", "(IZ)V"⟩
abbrev cX6_enqueue : ByteArray := prog_8_method_5_code
def yX6_enqueue : MethodName := ⟨RX6, "enqueue", "(II)V"⟩
def RX7 : String := "SharedBoard$Scene"
def TX7 : u_T := fun k => match k with
  | 0 => ("SharedBoard$Scene", "left", "[LSharedBoard$CellSet;", true)
  | 1 => ("SharedBoard$Scene", "tops", "[I", true)
  | 2 => ("SharedBoard$Scene", "colors", "[I", true)
  | _ => ("SharedBoard$Scene", "onTop", "[I", true)
def tyX7 : Nat → FieldType := fun k => match k with
  | 0 => .array (.object "SharedBoard$CellSet")
  | 1 => .array .int
  | 2 => .array .int
  | _ => .array .int
theorem nmX7 : ∀ a, a < 4 → ∀ b, b < 4 → a ≠ b → (TX7 a).2.1 ≠ (TX7 b).2.1 := by decide +kernel
theorem tyX7_ok : ∀ k, k < 4 → parseFieldDescriptor (TX7 k).2.2.1 = some (tyX7 k) := by decide +kernel
abbrev cX7_init : ByteArray := prog_9_method_1_code
def yX7_init : MethodName := ⟨RX7, "<init>", "()V"⟩
abbrev cX7_show : ByteArray := prog_9_method_2_code
def yX7_show : MethodName := ⟨RX7, "show", "(LSharedBoard$Log;II)V"⟩
abbrev cX7_takeEffect : ByteArray := prog_9_method_3_code
def yX7_takeEffect : MethodName := ⟨RX7, "takeEffect", "(LSharedBoard$Log;I)V"⟩
abbrev cX7_eraseFrom : ByteArray := prog_9_method_4_code
def yX7_eraseFrom : MethodName := ⟨RX7, "eraseFrom", "(IILSharedBoard$Operation;)V"⟩
abbrev cX7_becomeBlank : ByteArray := prog_9_method_5_code
def yX7_becomeBlank : MethodName := ⟨RX7, "becomeBlank", "()V"⟩
abbrev cX7_paint : ByteArray := prog_9_method_6_code
def yX7_paint : MethodName := ⟨RX7, "paint", "(II)V"⟩
abbrev cX7_paintRow : ByteArray := prog_9_method_7_code
def yX7_paintRow : MethodName := ⟨RX7, "paintRow", "(III)V"⟩
abbrev cX7_countTops : ByteArray := prog_9_method_8_code
def yX7_countTops : MethodName := ⟨RX7, "countTops", "()V"⟩
abbrev cX7_paintedCells : ByteArray := prog_9_method_9_code
def yX7_paintedCells : MethodName := ⟨RX7, "paintedCells", "()I"⟩
abbrev cX7_hiddenOperations : ByteArray := prog_9_method_10_code
def yX7_hiddenOperations : MethodName := ⟨RX7, "hiddenOperations", "(LSharedBoard$Log;I)I"⟩
abbrev cX7_collectColor : ByteArray := prog_9_method_11_code
def yX7_collectColor : MethodName := ⟨RX7, "collectColor", "(ILSharedBoard$CellSet;)V"⟩
def RX8 : String := "SharedBoard"
def TX8 : u_T := fun k => match k with
  | 0 => ("SharedBoard", "buffer", "LSharedBoard$PathText;", true)
  | 1 => ("SharedBoard", "log", "LSharedBoard$Log;", true)
  | 2 => ("SharedBoard", "leases", "LSharedBoard$Leases;", true)
  | 3 => ("SharedBoard", "marks", "[LSharedBoard$Mark;", true)
  | 4 => ("SharedBoard", "now", "LSharedBoard$Scene;", true)
  | 5 => ("SharedBoard", "supposed", "LSharedBoard$Scene;", true)
  | 6 => ("SharedBoard", "regions", "LSharedBoard$Regions;", true)
  | 7 => ("SharedBoard", "scratch", "LSharedBoard$CellSet;", true)
  | _ => ("SharedBoard", "tick", "I", false)
def tyX8 : Nat → FieldType := fun k => match k with
  | 0 => .object "SharedBoard$PathText"
  | 1 => .object "SharedBoard$Log"
  | 2 => .object "SharedBoard$Leases"
  | 3 => .array (.object "SharedBoard$Mark")
  | 4 => .object "SharedBoard$Scene"
  | 5 => .object "SharedBoard$Scene"
  | 6 => .object "SharedBoard$Regions"
  | 7 => .object "SharedBoard$CellSet"
  | _ => .int
theorem nmX8 : ∀ a, a < 9 → ∀ b, b < 9 → a ≠ b → (TX8 a).2.1 ≠ (TX8 b).2.1 := by decide +kernel
theorem tyX8_ok : ∀ k, k < 9 → parseFieldDescriptor (TX8 k).2.2.1 = some (tyX8 k) := by decide +kernel
abbrev cX8_init : ByteArray := prog_1_method_1_code
def yX8_init : MethodName := ⟨RX8, "<init>", "()V"⟩
abbrev cX8_clear : ByteArray := prog_1_method_2_code
def yX8_clear : MethodName := ⟨RX8, "clear", "()I"⟩
abbrev cX8_pass : ByteArray := prog_1_method_3_code
def yX8_pass : MethodName := ⟨RX8, "pass", "(I)I"⟩
abbrev cX8_append : ByteArray := prog_1_method_4_code
def yX8_append : MethodName := ⟨RX8, "append", "(I)I"⟩
abbrev cX8_clearBuffer : ByteArray := prog_1_method_5_code
def yX8_clearBuffer : MethodName := ⟨RX8, "clearBuffer", "()I"⟩
abbrev cX8_firstError : ByteArray := prog_1_method_6_code
def yX8_firstError : MethodName := ⟨RX8, "firstError", "()I"⟩
abbrev cX8_stroke : ByteArray := prog_1_method_7_code
def yX8_stroke : MethodName := ⟨RX8, "stroke", "(IIII)I"⟩
abbrev cX8_erase : ByteArray := prog_1_method_8_code
def yX8_erase : MethodName := ⟨RX8, "erase", "(III)I"⟩
abbrev cX8_fill : ByteArray := prog_1_method_9_code
def yX8_fill : MethodName := ⟨RX8, "fill", "(IIII)I"⟩
abbrev cX8_undo : ByteArray := prog_1_method_10_code
def yX8_undo : MethodName := ⟨RX8, "undo", "(I)I"⟩
abbrev cX8_redo : ByteArray := prog_1_method_11_code
def yX8_redo : MethodName := ⟨RX8, "redo", "(I)I"⟩
abbrev cX8_lease : ByteArray := prog_1_method_12_code
def yX8_lease : MethodName := ⟨RX8, "lease", "(IIII)I"⟩
abbrev cX8_release : ByteArray := prog_1_method_13_code
def yX8_release : MethodName := ⟨RX8, "release", "(I)I"⟩
abbrev cX8_holder : ByteArray := prog_1_method_14_code
def yX8_holder : MethodName := ⟨RX8, "holder", "(I)I"⟩
abbrev cX8_setMark : ByteArray := prog_1_method_15_code
def yX8_setMark : MethodName := ⟨RX8, "setMark", "(I)I"⟩
abbrev cX8_replay : ByteArray := prog_1_method_16_code
def yX8_replay : MethodName := ⟨RX8, "replay", "(II)I"⟩
abbrev cX8_difference : ByteArray := prog_1_method_17_code
def yX8_difference : MethodName := ⟨RX8, "difference", "(I)I"⟩
abbrev cX8_rewind : ByteArray := prog_1_method_18_code
def yX8_rewind : MethodName := ⟨RX8, "rewind", "(I)I"⟩
abbrev cX8_color : ByteArray := prog_1_method_19_code
def yX8_color : MethodName := ⟨RX8, "color", "(I)I"⟩
abbrev cX8_colorLater : ByteArray := prog_1_method_20_code
def yX8_colorLater : MethodName := ⟨RX8, "colorLater", "(II)I"⟩
abbrev cX8_top : ByteArray := prog_1_method_21_code
def yX8_top : MethodName := ⟨RX8, "top", "(I)I"⟩
abbrev cX8_count : ByteArray := prog_1_method_22_code
def yX8_count : MethodName := ⟨RX8, "count", "(I)I"⟩
abbrev cX8_operation : ByteArray := prog_1_method_23_code
def yX8_operation : MethodName := ⟨RX8, "operation", "(II)I"⟩
abbrev cX8_ifSwitched : ByteArray := prog_1_method_24_code
def yX8_ifSwitched : MethodName := ⟨RX8, "ifSwitched", "(I)I"⟩
abbrev cX8_user : ByteArray := prog_1_method_25_code
def yX8_user : MethodName := ⟨RX8, "user", "(II)I"⟩
abbrev cX8_meanStrength : ByteArray := prog_1_method_26_code
def yX8_meanStrength : MethodName := ⟨RX8, "meanStrength", "()D"⟩
abbrev cX8_digest : ByteArray := prog_1_method_27_code
def yX8_digest : MethodName := ⟨RX8, "digest", "()J"⟩
abbrev cX8_refuseWrongUser : ByteArray := prog_1_method_28_code
def yX8_refuseWrongUser : MethodName := ⟨RX8, "refuseWrongUser", "(I)V"⟩
abbrev cX8_refuseWrongLayer : ByteArray := prog_1_method_29_code
def yX8_refuseWrongLayer : MethodName := ⟨RX8, "refuseWrongLayer", "(I)V"⟩
abbrev cX8_refuseWrongCell : ByteArray := prog_1_method_30_code
def yX8_refuseWrongCell : MethodName := ⟨RX8, "refuseWrongCell", "(I)V"⟩
abbrev cX8_refuseWrongMark : ByteArray := prog_1_method_31_code
def yX8_refuseWrongMark : MethodName := ⟨RX8, "refuseWrongMark", "(I)V"⟩
abbrev cX8_refuseWrongOperation : ByteArray := prog_1_method_32_code
def yX8_refuseWrongOperation : MethodName := ⟨RX8, "refuseWrongOperation", "(I)V"⟩
abbrev cX8_refuseWrongColor : ByteArray := prog_1_method_33_code
def yX8_refuseWrongColor : MethodName := ⟨RX8, "refuseWrongColor", "(I)V"⟩
abbrev cX8_refuseWrongPath : ByteArray := prog_1_method_34_code
def yX8_refuseWrongPath : MethodName := ⟨RX8, "refuseWrongPath", "()V"⟩
abbrev cX8_refuseFullLog : ByteArray := prog_1_method_35_code
def yX8_refuseFullLog : MethodName := ⟨RX8, "refuseFullLog", "()V"⟩
abbrev cX8_refuseUnsetMark : ByteArray := prog_1_method_36_code
def yX8_refuseUnsetMark : MethodName := ⟨RX8, "refuseUnsetMark", "(I)V"⟩
abbrev cX8_showNow : ByteArray := prog_1_method_37_code
def yX8_showNow : MethodName := ⟨RX8, "showNow", "()V"⟩
abbrev cX8_takeCellsFromBuffer : ByteArray := prog_1_method_38_code
def yX8_takeCellsFromBuffer : MethodName := ⟨RX8, "takeCellsFromBuffer", "(LSharedBoard$Operation;)V"⟩
abbrev cX8_leaveOutClosedCells : ByteArray := prog_1_method_39_code
def yX8_leaveOutClosedCells : MethodName := ⟨RX8, "leaveOutClosedCells", "(LSharedBoard$Operation;)V"⟩
abbrev cX8_changedBySwitching : ByteArray := prog_1_method_40_code
def yX8_changedBySwitching : MethodName := ⟨RX8, "changedBySwitching", "(I)I"⟩
abbrev cX8_changedCells : ByteArray := prog_1_method_41_code
def yX8_changedCells : MethodName := ⟨RX8, "changedCells", "([I[I)I"⟩
abbrev cX8_boardProperty : ByteArray := prog_1_method_42_code
def yX8_boardProperty : MethodName := ⟨RX8, "boardProperty", "(I)I"⟩
abbrev cX8_differentColors : ByteArray := prog_1_method_43_code
def yX8_differentColors : MethodName := ⟨RX8, "differentColors", "()I"⟩
abbrev cX8_marksSet : ByteArray := prog_1_method_44_code
def yX8_marksSet : MethodName := ⟨RX8, "marksSet", "()I"⟩
abbrev cX8_colorRegions : ByteArray := prog_1_method_45_code
def yX8_colorRegions : MethodName := ⟨RX8, "colorRegions", "()I"⟩
abbrev cX8_operationProperty : ByteArray := prog_1_method_46_code
def yX8_operationProperty : MethodName := ⟨RX8, "operationProperty", "(II)I"⟩
abbrev cX8_userProperty : ByteArray := prog_1_method_47_code
def yX8_userProperty : MethodName := ⟨RX8, "userProperty", "(II)I"⟩
abbrev cX8_cellsOf : ByteArray := prog_1_method_48_code
def yX8_cellsOf : MethodName := ⟨RX8, "cellsOf", "(I)I"⟩
def RX9 : String := "SharedBoardModel"
def TX9 : u_T := fun k => match k with
  | 0 => ("SharedBoardModel", "thrown", "I", false)
  | 1 => ("SharedBoardModel", "tick", "I", false)
  | 2 => ("SharedBoardModel", "many", "I", false)
  | 3 => ("SharedBoardModel", "sort", "[I", true)
  | 4 => ("SharedBoardModel", "userOf", "[I", true)
  | 5 => ("SharedBoardModel", "layerOf", "[I", true)
  | 6 => ("SharedBoardModel", "colorOf", "[I", true)
  | 7 => ("SharedBoardModel", "fadeOf", "[I", true)
  | 8 => ("SharedBoardModel", "tickOf", "[I", true)
  | 9 => ("SharedBoardModel", "isActive", "[Z", true)
  | 10 => ("SharedBoardModel", "undone", "[I", true)
  | 11 => ("SharedBoardModel", "undos", "I", false)
  | 12 => ("SharedBoardModel", "cells", "[J", true)
  | 13 => ("SharedBoardModel", "leases", "I", false)
  | 14 => ("SharedBoardModel", "leaseUser", "[I", true)
  | 15 => ("SharedBoardModel", "leaseFirst", "[I", true)
  | 16 => ("SharedBoardModel", "leaseLast", "[I", true)
  | 17 => ("SharedBoardModel", "leaseEnd", "[I", true)
  | 18 => ("SharedBoardModel", "markMany", "[I", true)
  | 19 => ("SharedBoardModel", "markTick", "[I", true)
  | 20 => ("SharedBoardModel", "markActive", "[J", true)
  | 21 => ("SharedBoardModel", "isMarked", "[Z", true)
  | 22 => ("SharedBoardModel", "length", "I", false)
  | 23 => ("SharedBoardModel", "text", "[I", true)
  | 24 => ("SharedBoardModel", "left", "[J", true)
  | 25 => ("SharedBoardModel", "goes", "[Z", true)
  | 26 => ("SharedBoardModel", "top", "[I", true)
  | 27 => ("SharedBoardModel", "picture", "[I", true)
  | 28 => ("SharedBoardModel", "numbers", "I", false)
  | 29 => ("SharedBoardModel", "number", "[I", true)
  | 30 => ("SharedBoardModel", "region", "[J", true)
  | 31 => ("SharedBoardModel", "isMet", "[Z", true)
  | _ => ("SharedBoardModel", "h", "J", false)
def tyX9 : Nat → FieldType := fun k => match k with
  | 0 => .int
  | 1 => .int
  | 2 => .int
  | 3 => .array .int
  | 4 => .array .int
  | 5 => .array .int
  | 6 => .array .int
  | 7 => .array .int
  | 8 => .array .int
  | 9 => .array .boolean
  | 10 => .array .int
  | 11 => .int
  | 12 => .array .long
  | 13 => .int
  | 14 => .array .int
  | 15 => .array .int
  | 16 => .array .int
  | 17 => .array .int
  | 18 => .array .int
  | 19 => .array .int
  | 20 => .array .long
  | 21 => .array .boolean
  | 22 => .int
  | 23 => .array .int
  | 24 => .array .long
  | 25 => .array .boolean
  | 26 => .array .int
  | 27 => .array .int
  | 28 => .int
  | 29 => .array .int
  | 30 => .array .long
  | 31 => .array .boolean
  | _ => .long
theorem nmX9 : ∀ a, a < 33 → ∀ b, b < 33 → a ≠ b → (TX9 a).2.1 ≠ (TX9 b).2.1 := by decide +kernel
theorem tyX9_ok : ∀ k, k < 33 → parseFieldDescriptor (TX9 k).2.2.1 = some (tyX9 k) := by decide +kernel
abbrev cX9_init : ByteArray := prog_11_method_1_code
def yX9_init : MethodName := ⟨RX9, "<init>", "()V"⟩
abbrev cX9_thrown : ByteArray := prog_11_method_2_code
def yX9_thrown : MethodName := ⟨RX9, "thrown", "()I"⟩
abbrev cX9_within : ByteArray := prog_11_method_3_code
def yX9_within : MethodName := ⟨RX9, "within", "(III)Z"⟩
abbrev cX9_isUser : ByteArray := prog_11_method_4_code
def yX9_isUser : MethodName := ⟨RX9, "isUser", "(I)Z"⟩
abbrev cX9_isCell : ByteArray := prog_11_method_5_code
def yX9_isCell : MethodName := ⟨RX9, "isCell", "(I)Z"⟩
abbrev cX9_isMark : ByteArray := prog_11_method_6_code
def yX9_isMark : MethodName := ⟨RX9, "isMark", "(I)Z"⟩
abbrev cX9_isOperation : ByteArray := prog_11_method_7_code
def yX9_isOperation : MethodName := ⟨RX9, "isOperation", "(I)Z"⟩
abbrev cX9_size : ByteArray := prog_11_method_8_code
def yX9_size : MethodName := ⟨RX9, "size", "(J)I"⟩
abbrev cX9_hasIn : ByteArray := prog_11_method_9_code
def yX9_hasIn : MethodName := ⟨RX9, "hasIn", "([JII)Z"⟩
abbrev cX9_sizeIn : ByteArray := prog_11_method_10_code
def yX9_sizeIn : MethodName := ⟨RX9, "sizeIn", "([JI)I"⟩
abbrev cX9_meets : ByteArray := prog_11_method_11_code
def yX9_meets : MethodName := ⟨RX9, "meets", "(II)Z"⟩
abbrev cX9_eraseBy : ByteArray := prog_11_method_12_code
def yX9_eraseBy : MethodName := ⟨RX9, "eraseBy", "(I)V"⟩
abbrev cX9_isVanished : ByteArray := prog_11_method_13_code
def yX9_isVanished : MethodName := ⟨RX9, "isVanished", "(II)Z"⟩
abbrev cX9_layLeft : ByteArray := prog_11_method_14_code
def yX9_layLeft : MethodName := ⟨RX9, "layLeft", "(I)V"⟩
abbrev cX9_layTop : ByteArray := prog_11_method_15_code
def yX9_layTop : MethodName := ⟨RX9, "layTop", "(II)V"⟩
abbrev cX9_layAt : ByteArray := prog_11_method_16_code
def yX9_layAt : MethodName := ⟨RX9, "layAt", "(I)V"⟩
abbrev cX9_layNow : ByteArray := prog_11_method_17_code
def yX9_layNow : MethodName := ⟨RX9, "layNow", "()V"⟩
abbrev cX9_shown : ByteArray := prog_11_method_18_code
def yX9_shown : MethodName := ⟨RX9, "shown", "(I)I"⟩
abbrev cX9_keepPicture : ByteArray := prog_11_method_19_code
def yX9_keepPicture : MethodName := ⟨RX9, "keepPicture", "()V"⟩
abbrev cX9_others : ByteArray := prog_11_method_20_code
def yX9_others : MethodName := ⟨RX9, "others", "()I"⟩
abbrev cX9_clear : ByteArray := prog_11_method_21_code
def yX9_clear : MethodName := ⟨RX9, "clear", "()I"⟩
abbrev cX9_dropLeases : ByteArray := prog_11_method_22_code
def yX9_dropLeases : MethodName := ⟨RX9, "dropLeases", "(I)V"⟩
abbrev cX9_pass : ByteArray := prog_11_method_23_code
def yX9_pass : MethodName := ⟨RX9, "pass", "(I)I"⟩
abbrev cX9_append : ByteArray := prog_11_method_24_code
def yX9_append : MethodName := ⟨RX9, "append", "(I)I"⟩
abbrev cX9_clearBuffer : ByteArray := prog_11_method_25_code
def yX9_clearBuffer : MethodName := ⟨RX9, "clearBuffer", "()I"⟩
abbrev cX9_takes : ByteArray := prog_11_method_26_code
def yX9_takes : MethodName := ⟨RX9, "takes", "(I)Z"⟩
abbrev cX9_read : ByteArray := prog_11_method_27_code
def yX9_read : MethodName := ⟨RX9, "read", "()I"⟩
abbrev cX9_firstError : ByteArray := prog_11_method_28_code
def yX9_firstError : MethodName := ⟨RX9, "firstError", "()I"⟩
abbrev cX9_isPath : ByteArray := prog_11_method_29_code
def yX9_isPath : MethodName := ⟨RX9, "isPath", "()Z"⟩
abbrev cX9_rounded : ByteArray := prog_11_method_30_code
def yX9_rounded : MethodName := ⟨RX9, "rounded", "(II)I"⟩
abbrev cX9_addCell : ByteArray := prog_11_method_31_code
def yX9_addCell : MethodName := ⟨RX9, "addCell", "(I)V"⟩
abbrev cX9_addLine : ByteArray := prog_11_method_32_code
def yX9_addLine : MethodName := ⟨RX9, "addLine", "(IIII)V"⟩
abbrev cX9_isInLease : ByteArray := prog_11_method_33_code
def yX9_isInLease : MethodName := ⟨RX9, "isInLease", "(II)Z"⟩
abbrev cX9_isClosed : ByteArray := prog_11_method_34_code
def yX9_isClosed : MethodName := ⟨RX9, "isClosed", "(II)Z"⟩
abbrev cX9_freshCells : ByteArray := prog_11_method_35_code
def yX9_freshCells : MethodName := ⟨RX9, "freshCells", "()V"⟩
abbrev cX9_add : ByteArray := prog_11_method_36_code
def yX9_add : MethodName := ⟨RX9, "add", "(IIIII)I"⟩
abbrev cX9_layPath : ByteArray := prog_11_method_37_code
def yX9_layPath : MethodName := ⟨RX9, "layPath", "()V"⟩
abbrev cX9_isPlace : ByteArray := prog_11_method_38_code
def yX9_isPlace : MethodName := ⟨RX9, "isPlace", "(II)Z"⟩
abbrev cX9_stroke : ByteArray := prog_11_method_39_code
def yX9_stroke : MethodName := ⟨RX9, "stroke", "(IIII)I"⟩
abbrev cX9_erase : ByteArray := prog_11_method_40_code
def yX9_erase : MethodName := ⟨RX9, "erase", "(III)I"⟩
abbrev cX9_isInRegion : ByteArray := prog_11_method_41_code
def yX9_isInRegion : MethodName := ⟨RX9, "isInRegion", "(I)Z"⟩
abbrev cX9_isBeside : ByteArray := prog_11_method_42_code
def yX9_isBeside : MethodName := ⟨RX9, "isBeside", "(III)Z"⟩
abbrev cX9_isTouched : ByteArray := prog_11_method_43_code
def yX9_isTouched : MethodName := ⟨RX9, "isTouched", "(IZ)Z"⟩
abbrev cX9_put : ByteArray := prog_11_method_44_code
def yX9_put : MethodName := ⟨RX9, "put", "(I)V"⟩
abbrev cX9_layRegion : ByteArray := prog_11_method_45_code
def yX9_layRegion : MethodName := ⟨RX9, "layRegion", "(II)V"⟩
abbrev cX9_fill : ByteArray := prog_11_method_46_code
def yX9_fill : MethodName := ⟨RX9, "fill", "(IIII)I"⟩
abbrev cX9_latestOf : ByteArray := prog_11_method_47_code
def yX9_latestOf : MethodName := ⟨RX9, "latestOf", "(I)I"⟩
abbrev cX9_undo : ByteArray := prog_11_method_48_code
def yX9_undo : MethodName := ⟨RX9, "undo", "(I)I"⟩
abbrev cX9_redoOf : ByteArray := prog_11_method_49_code
def yX9_redoOf : MethodName := ⟨RX9, "redoOf", "(I)I"⟩
abbrev cX9_redo : ByteArray := prog_11_method_50_code
def yX9_redo : MethodName := ⟨RX9, "redo", "(I)I"⟩
abbrev cX9_mayLease : ByteArray := prog_11_method_51_code
def yX9_mayLease : MethodName := ⟨RX9, "mayLease", "(I)Z"⟩
abbrev cX9_lease : ByteArray := prog_11_method_52_code
def yX9_lease : MethodName := ⟨RX9, "lease", "(IIII)I"⟩
abbrev cX9_leasesOf : ByteArray := prog_11_method_53_code
def yX9_leasesOf : MethodName := ⟨RX9, "leasesOf", "(I)I"⟩
abbrev cX9_release : ByteArray := prog_11_method_54_code
def yX9_release : MethodName := ⟨RX9, "release", "(I)I"⟩
abbrev cX9_holderOf : ByteArray := prog_11_method_55_code
def yX9_holderOf : MethodName := ⟨RX9, "holderOf", "(I)I"⟩
abbrev cX9_holder : ByteArray := prog_11_method_56_code
def yX9_holder : MethodName := ⟨RX9, "holder", "(I)I"⟩
abbrev cX9_setMark : ByteArray := prog_11_method_57_code
def yX9_setMark : MethodName := ⟨RX9, "setMark", "(I)I"⟩
abbrev cX9_wasActive : ByteArray := prog_11_method_58_code
def yX9_wasActive : MethodName := ⟨RX9, "wasActive", "(II)Z"⟩
abbrev cX9_layMark : ByteArray := prog_11_method_59_code
def yX9_layMark : MethodName := ⟨RX9, "layMark", "(I)V"⟩
abbrev cX9_replay : ByteArray := prog_11_method_60_code
def yX9_replay : MethodName := ⟨RX9, "replay", "(II)I"⟩
abbrev cX9_differenceNow : ByteArray := prog_11_method_61_code
def yX9_differenceNow : MethodName := ⟨RX9, "differenceNow", "(I)I"⟩
abbrev cX9_difference : ByteArray := prog_11_method_62_code
def yX9_difference : MethodName := ⟨RX9, "difference", "(I)I"⟩
abbrev cX9_rewind : ByteArray := prog_11_method_63_code
def yX9_rewind : MethodName := ⟨RX9, "rewind", "(I)I"⟩
abbrev cX9_color : ByteArray := prog_11_method_64_code
def yX9_color : MethodName := ⟨RX9, "color", "(I)I"⟩
abbrev cX9_colorLater : ByteArray := prog_11_method_65_code
def yX9_colorLater : MethodName := ⟨RX9, "colorLater", "(II)I"⟩
abbrev cX9_top : ByteArray := prog_11_method_66_code
def yX9_top : MethodName := ⟨RX9, "top", "(I)I"⟩
abbrev cX9_actives : ByteArray := prog_11_method_67_code
def yX9_actives : MethodName := ⟨RX9, "actives", "()I"⟩
abbrev cX9_colored : ByteArray := prog_11_method_68_code
def yX9_colored : MethodName := ⟨RX9, "colored", "()I"⟩
abbrev cX9_colors : ByteArray := prog_11_method_69_code
def yX9_colors : MethodName := ⟨RX9, "colors", "()I"⟩
abbrev cX9_held : ByteArray := prog_11_method_70_code
def yX9_held : MethodName := ⟨RX9, "held", "()I"⟩
abbrev cX9_marks : ByteArray := prog_11_method_71_code
def yX9_marks : MethodName := ⟨RX9, "marks", "()I"⟩
abbrev cX9_onTop : ByteArray := prog_11_method_72_code
def yX9_onTop : MethodName := ⟨RX9, "onTop", "(I)I"⟩
abbrev cX9_covered : ByteArray := prog_11_method_73_code
def yX9_covered : MethodName := ⟨RX9, "covered", "()I"⟩
abbrev cX9_meetRegion : ByteArray := prog_11_method_74_code
def yX9_meetRegion : MethodName := ⟨RX9, "meetRegion", "()V"⟩
abbrev cX9_parts : ByteArray := prog_11_method_75_code
def yX9_parts : MethodName := ⟨RX9, "parts", "(I)I"⟩
abbrev cX9_counted : ByteArray := prog_11_method_76_code
def yX9_counted : MethodName := ⟨RX9, "counted", "(I)I"⟩
abbrev cX9_count : ByteArray := prog_11_method_77_code
def yX9_count : MethodName := ⟨RX9, "count", "(I)I"⟩
abbrev cX9_strength : ByteArray := prog_11_method_78_code
def yX9_strength : MethodName := ⟨RX9, "strength", "(I)I"⟩
abbrev cX9_told : ByteArray := prog_11_method_79_code
def yX9_told : MethodName := ⟨RX9, "told", "(II)I"⟩
abbrev cX9_operation : ByteArray := prog_11_method_80_code
def yX9_operation : MethodName := ⟨RX9, "operation", "(II)I"⟩
abbrev cX9_ifSwitched : ByteArray := prog_11_method_81_code
def yX9_ifSwitched : MethodName := ⟨RX9, "ifSwitched", "(I)I"⟩
abbrev cX9_userNow : ByteArray := prog_11_method_82_code
def yX9_userNow : MethodName := ⟨RX9, "userNow", "(II)I"⟩
abbrev cX9_user : ByteArray := prog_11_method_83_code
def yX9_user : MethodName := ⟨RX9, "user", "(II)I"⟩
abbrev cX9_meanStrength : ByteArray := prog_11_method_84_code
def yX9_meanStrength : MethodName := ⟨RX9, "meanStrength", "()D"⟩
abbrev cX9_mix : ByteArray := prog_11_method_85_code
def yX9_mix : MethodName := ⟨RX9, "mix", "(J)V"⟩
abbrev cX9_digest : ByteArray := prog_11_method_86_code
def yX9_digest : MethodName := ⟨RX9, "digest", "()J"⟩
def RJ6 : String := "java/lang/Integer"
def TJ6 : u_T := fun k => match k with
  | _ => ("", "", "", false)
def tyJ6 : Nat → FieldType := fun k => match k with
  | _ => .int
abbrev cJ6_bitCount_0f7a4 : ByteArray := prog_16_method_49_code
def yJ6_bitCount_0f7a4 : MethodName := ⟨RJ6, "bitCount", "(I)I"⟩
def RJ9 : String := "java/lang/Math"
def TJ9 : u_T := fun k => match k with
  | _ => ("", "", "", false)
def tyJ9 : Nat → FieldType := fun k => match k with
  | _ => .int
abbrev cJ9_abs_0f7a4 : ByteArray := prog_17_method_59_code
def yJ9_abs_0f7a4 : MethodName := ⟨RJ9, "abs", "(I)I"⟩
abbrev cJ9_max_7cf53 : ByteArray := prog_17_method_65_code
def yJ9_max_7cf53 : MethodName := ⟨RJ9, "max", "(II)I"⟩
abbrev cJ9_min_7cf53 : ByteArray := prog_17_method_69_code
def yJ9_min_7cf53 : MethodName := ⟨RJ9, "min", "(II)I"⟩
def RJ0 : String := "java/lang/String"
def TJ0 : u_T := fun k => match k with
  | _ => ("", "", "", false)
def tyJ0 : Nat → FieldType := fun k => match k with
  | _ => .int
def RL : String := "SharedBoardLaw"
abbrev cL_pass : ByteArray := method_3_code
def yL_pass : MethodName := ⟨RL, "pass", "(LSharedBoard;I[J)I"⟩
abbrev cL_append : ByteArray := method_4_code
def yL_append : MethodName := ⟨RL, "append", "(LSharedBoard;I[J)I"⟩
abbrev cL_stroke : ByteArray := method_5_code
def yL_stroke : MethodName := ⟨RL, "stroke", "(LSharedBoard;IIII[J)I"⟩
abbrev cL_erase : ByteArray := method_6_code
def yL_erase : MethodName := ⟨RL, "erase", "(LSharedBoard;III[J)I"⟩
abbrev cL_fill : ByteArray := method_7_code
def yL_fill : MethodName := ⟨RL, "fill", "(LSharedBoard;IIII[J)I"⟩
abbrev cL_undo : ByteArray := method_8_code
def yL_undo : MethodName := ⟨RL, "undo", "(LSharedBoard;I[J)I"⟩
abbrev cL_redo : ByteArray := method_9_code
def yL_redo : MethodName := ⟨RL, "redo", "(LSharedBoard;I[J)I"⟩
abbrev cL_lease : ByteArray := method_10_code
def yL_lease : MethodName := ⟨RL, "lease", "(LSharedBoard;IIII[J)I"⟩
abbrev cL_release : ByteArray := method_11_code
def yL_release : MethodName := ⟨RL, "release", "(LSharedBoard;I[J)I"⟩
abbrev cL_holder : ByteArray := method_12_code
def yL_holder : MethodName := ⟨RL, "holder", "(LSharedBoard;I[J)I"⟩
abbrev cL_setMark : ByteArray := method_13_code
def yL_setMark : MethodName := ⟨RL, "setMark", "(LSharedBoard;I[J)I"⟩
abbrev cL_replay : ByteArray := method_14_code
def yL_replay : MethodName := ⟨RL, "replay", "(LSharedBoard;II[J)I"⟩
abbrev cL_difference : ByteArray := method_15_code
def yL_difference : MethodName := ⟨RL, "difference", "(LSharedBoard;I[J)I"⟩
abbrev cL_rewind : ByteArray := method_16_code
def yL_rewind : MethodName := ⟨RL, "rewind", "(LSharedBoard;I[J)I"⟩
abbrev cL_color : ByteArray := method_17_code
def yL_color : MethodName := ⟨RL, "color", "(LSharedBoard;I[J)I"⟩
abbrev cL_colorLater : ByteArray := method_18_code
def yL_colorLater : MethodName := ⟨RL, "colorLater", "(LSharedBoard;II[J)I"⟩
abbrev cL_top : ByteArray := method_19_code
def yL_top : MethodName := ⟨RL, "top", "(LSharedBoard;I[J)I"⟩
abbrev cL_count : ByteArray := method_20_code
def yL_count : MethodName := ⟨RL, "count", "(LSharedBoard;I[J)I"⟩
abbrev cL_operation : ByteArray := method_21_code
def yL_operation : MethodName := ⟨RL, "operation", "(LSharedBoard;II[J)I"⟩
abbrev cL_ifSwitched : ByteArray := method_22_code
def yL_ifSwitched : MethodName := ⟨RL, "ifSwitched", "(LSharedBoard;I[J)I"⟩
abbrev cL_user : ByteArray := method_23_code
def yL_user : MethodName := ⟨RL, "user", "(LSharedBoard;II[J)I"⟩
abbrev cL_law : ByteArray := code
def yL_law : MethodName := ⟨RL, "law", "([I)Z"⟩
abbrev vwCl : List vw_C := [(RX0, TX0, 1), (RX1, TX1, 3), (RX2, TX2, 3), (RX3, TX3, 4), (RX4, TX4, 9), (RX5, TX5, 7), (RX6, TX6, 3), (RX7, TX7, 4), (RX8, TX8, 9), (RX9, TX9, 33)]
/-- the one list of words: the tables' good ones -/
def gl : List Cond := lw_tbl.filter goodWord
theorem gl_in {w : Cond} (h : w ∈ lw_tbl) (g : goodWord w = true) : w ∈ gl := List.mem_filter.mpr ⟨h, g⟩
theorem gl_tb {w : Cond} (h : w ∈ tables_1) (g : goodWord w = true) : w ∈ gl := gl_in (List.mem_append_right _ h) g
theorem gl_pv {w : Cond} (h : w ∈ k2_sels lw_privs) (g : goodWord w = true) : w ∈ gl := gl_in (List.mem_append_left _ h) g
theorem gl_good {w : Cond} (h : w ∈ gl) : (w.onTables && w.keeps) = true ∨ ∃ ty, w = .arrayClass ty := good_of_word (List.mem_filter.mp h).2
/-- an instance method of class C, its code among the words -/
def vwM (C : String) (y : MethodName) (cw : Cond) : Prop := Cond.instanceMethod y ∈ gl ∧ Cond.selects C y y ∈ gl ∧ Cond.initialized C ∈ gl ∧ cw ∈ gl
/-- a static method -/
def vwS (y : MethodName) (cw : Cond) : Prop := Cond.static y ∈ gl ∧ Cond.initialized y.cls ∈ gl ∧ cw ∈ gl
theorem gl_V {own C : String} {idx : Nat} {y : MethodName} {cx cy : Cond} (h : Cond.methodLink own idx y ∈ gl) (v : vwM C y cy) : GoodIn (cx :: gl) (wsV own idx C y (cy :: gl)) := by
  have q : ∀ w ∈ wsV own idx C y (cy :: gl), w ∈ gl := by
    intro w hw
    simp only [wsV, List.mem_append, List.mem_cons, List.not_mem_nil, or_false] at hw
    rcases hw with (rfl | rfl | rfl | rfl) | rfl | hw
    · exact h
    · exact v.1
    · exact v.2.1
    · exact v.2.2.1
    · exact v.2.2.2
    · exact hw
  exact fun w hw => ⟨List.mem_cons_of_mem _ (q w hw), gl_good (q w hw)⟩
theorem gl_S {own : String} {idx : Nat} {y : MethodName} {cx cy : Cond} (h : Cond.methodLink own idx y ∈ gl) (v : vwS y cy) : GoodIn (cx :: gl) (va_wsS own idx y (cy :: gl)) := by
  have q : ∀ w ∈ va_wsS own idx y (cy :: gl), w ∈ gl := by
    intro w hw
    simp only [va_wsS, List.mem_append, List.mem_cons, List.not_mem_nil, or_false] at hw
    rcases hw with (rfl | rfl | rfl) | rfl | hw
    · exact h
    · exact v.1
    · exact v.2.1
    · exact v.2.2
    · exact hw
  exact fun w hw => ⟨List.mem_cons_of_mem _ (q w hw), gl_good (q w hw)⟩
theorem gl_C {cx cy : Cond} (v : cy ∈ gl) : GoodIn (cx :: gl) (cy :: gl) := by
  intro w hw
  have q : w ∈ gl := by
    rcases List.mem_cons.mp hw with rfl | hw
    · exact v
    · exact hw
  exact ⟨List.mem_cons_of_mem _ q, gl_good q⟩
set_option maxRecDepth 100000 in
theorem lay_X0 : ∀ w ∈ u_ws RX0 TX0 1, w ∈ gl := by
  have h : (u_ws RX0 TX0 1).all (fun w => decide (w ∈ tables_1) && goodWord w) = true := by decide +kernel
  intro w hw
  have h2 := List.all_eq_true.mp h w hw
  simp only [Bool.and_eq_true, decide_eq_true_eq] at h2
  exact gl_tb h2.1 h2.2
set_option maxRecDepth 100000 in
theorem lay_X1 : ∀ w ∈ u_ws RX1 TX1 3, w ∈ gl := by
  have h : (u_ws RX1 TX1 3).all (fun w => decide (w ∈ tables_1) && goodWord w) = true := by decide +kernel
  intro w hw
  have h2 := List.all_eq_true.mp h w hw
  simp only [Bool.and_eq_true, decide_eq_true_eq] at h2
  exact gl_tb h2.1 h2.2
set_option maxRecDepth 100000 in
theorem lay_X2 : ∀ w ∈ u_ws RX2 TX2 3, w ∈ gl := by
  have h : (u_ws RX2 TX2 3).all (fun w => decide (w ∈ tables_1) && goodWord w) = true := by decide +kernel
  intro w hw
  have h2 := List.all_eq_true.mp h w hw
  simp only [Bool.and_eq_true, decide_eq_true_eq] at h2
  exact gl_tb h2.1 h2.2
set_option maxRecDepth 100000 in
theorem lay_X3 : ∀ w ∈ u_ws RX3 TX3 4, w ∈ gl := by
  have h : (u_ws RX3 TX3 4).all (fun w => decide (w ∈ tables_1) && goodWord w) = true := by decide +kernel
  intro w hw
  have h2 := List.all_eq_true.mp h w hw
  simp only [Bool.and_eq_true, decide_eq_true_eq] at h2
  exact gl_tb h2.1 h2.2
set_option maxRecDepth 100000 in
theorem lay_X4 : ∀ w ∈ u_ws RX4 TX4 9, w ∈ gl := by
  have h : (u_ws RX4 TX4 9).all (fun w => decide (w ∈ tables_1) && goodWord w) = true := by decide +kernel
  intro w hw
  have h2 := List.all_eq_true.mp h w hw
  simp only [Bool.and_eq_true, decide_eq_true_eq] at h2
  exact gl_tb h2.1 h2.2
set_option maxRecDepth 100000 in
theorem lay_X5 : ∀ w ∈ u_ws RX5 TX5 7, w ∈ gl := by
  have h : (u_ws RX5 TX5 7).all (fun w => decide (w ∈ tables_1) && goodWord w) = true := by decide +kernel
  intro w hw
  have h2 := List.all_eq_true.mp h w hw
  simp only [Bool.and_eq_true, decide_eq_true_eq] at h2
  exact gl_tb h2.1 h2.2
set_option maxRecDepth 100000 in
theorem lay_X6 : ∀ w ∈ u_ws RX6 TX6 3, w ∈ gl := by
  have h : (u_ws RX6 TX6 3).all (fun w => decide (w ∈ tables_1) && goodWord w) = true := by decide +kernel
  intro w hw
  have h2 := List.all_eq_true.mp h w hw
  simp only [Bool.and_eq_true, decide_eq_true_eq] at h2
  exact gl_tb h2.1 h2.2
set_option maxRecDepth 100000 in
theorem lay_X7 : ∀ w ∈ u_ws RX7 TX7 4, w ∈ gl := by
  have h : (u_ws RX7 TX7 4).all (fun w => decide (w ∈ tables_1) && goodWord w) = true := by decide +kernel
  intro w hw
  have h2 := List.all_eq_true.mp h w hw
  simp only [Bool.and_eq_true, decide_eq_true_eq] at h2
  exact gl_tb h2.1 h2.2
set_option maxRecDepth 100000 in
theorem lay_X8 : ∀ w ∈ u_ws RX8 TX8 9, w ∈ gl := by
  have h : (u_ws RX8 TX8 9).all (fun w => decide (w ∈ tables_1) && goodWord w) = true := by decide +kernel
  intro w hw
  have h2 := List.all_eq_true.mp h w hw
  simp only [Bool.and_eq_true, decide_eq_true_eq] at h2
  exact gl_tb h2.1 h2.2
set_option maxRecDepth 100000 in
theorem lay_X9 : ∀ w ∈ u_ws RX9 TX9 33, w ∈ gl := by
  have h : (u_ws RX9 TX9 33).all (fun w => decide (w ∈ tables_1) && goodWord w) = true := by decide +kernel
  intro w hw
  have h2 := List.all_eq_true.mp h w hw
  simp only [Bool.and_eq_true, decide_eq_true_eq] at h2
  exact gl_tb h2.1 h2.2
end
section
/-! the one memory: ints and longs of every cell, by the cell's number and the slot -/
abbrev Mm : Type := (Nat → Nat → Int32) × (Nat → Nat → Int64)
def wA (M : Mm) (k : Nat) (g : Nat → Int32) : Mm := (fun a => if a = k then g else M.1 a, M.2)
def wL (M : Mm) (k : Nat) (g : Nat → Int64) : Mm := (M.1, fun a => if a = k then g else M.2 a)
theorem wA_s (M : Mm) (k : Nat) (g : Nat → Int32) : (wA M k g).1 k = g := by simp [wA]
theorem wA_n {M : Mm} {k a : Nat} {g : Nat → Int32} (h : a ≠ k) : (wA M k g).1 a = M.1 a := by simp [wA, h]
theorem wA_2 (M : Mm) (k : Nat) (g : Nat → Int32) : (wA M k g).2 = M.2 := rfl
theorem wL_s (M : Mm) (k : Nat) (g : Nat → Int64) : (wL M k g).2 k = g := by simp [wL]
theorem wL_n {M : Mm} {k a : Nat} {g : Nat → Int64} (h : a ≠ k) : (wL M k g).2 a = M.2 a := by simp [wL, h]
theorem wL_1 (M : Mm) (k : Nat) (g : Nat → Int64) : (wL M k g).1 = M.1 := rfl
theorem wA_same (M : Mm) (k : Nat) : wA M k (M.1 k) = M := by
  refine Prod.ext ?_ rfl
  funext a
  by_cases h : a = k
  · subst h; simp [wA]
  · simp [wA, h]
theorem wL_same (M : Mm) (k : Nat) : wL M k (M.2 k) = M := by
  refine Prod.ext rfl ?_
  funext a
  by_cases h : a = k
  · subst h; simp [wL]
  · simp [wL, h]
theorem wA_wA (M : Mm) (k : Nat) (g g2 : Nat → Int32) : wA (wA M k g) k g2 = wA M k g2 := by
  refine Prod.ext ?_ rfl
  funext a
  by_cases h : a = k <;> simp [wA, h]
theorem wL_wL (M : Mm) (k : Nat) (g g2 : Nat → Int64) : wL (wL M k g) k g2 = wL M k g2 := by
  refine Prod.ext rfl ?_
  funext a
  by_cases h : a = k <;> simp [wL, h]
/-! the layout: cell k is an object (class, a code a field: 0 an int, 1 a long, r + 2 the cell r) or an array (kind, length, first cell, stride) -/
abbrev Kd : Type := (Nat × List Nat) ⊕ (Nat × Nat × Nat × Nat)

def kdM : List Kd := [.inl (9, [0, 0, 0, 481, 482, 483, 484, 485, 486, 487, 488, 0, 489, 0, 490, 491, 492, 493, 494, 495, 496, 497, 0, 498, 499, 500, 501, 502, 0, 503, 504, 505, 1]), .inr (0, 60, 0, 0), .inr (0, 60, 0, 0), .inr (0, 60, 0, 0), .inr (0, 60, 0, 0), .inr (0, 60, 0, 0), .inr (0, 60, 0, 0), .inr (1, 60, 0, 0), .inr (0, 60, 0, 0), .inr (2, 240, 0, 0), .inr (0, 6, 0, 0), .inr (0, 6, 0, 0), .inr (0, 6, 0, 0), .inr (0, 6, 0, 0), .inr (0, 6, 0, 0), .inr (0, 6, 0, 0), .inr (2, 6, 0, 0), .inr (1, 6, 0, 0), .inr (0, 40, 0, 0), .inr (2, 240, 0, 0), .inr (1, 60, 0, 0), .inr (0, 256, 0, 0), .inr (0, 256, 0, 0), .inr (0, 12, 0, 0), .inr (2, 4, 0, 0), .inr (1, 256, 0, 0), .inr (2, 1, 0, 0)]
def kdCS (k : Nat) : Kd := .inl (0, [k + 3])
def kdRow : Kd := .inr (0, 16, 0, 0)
def kdScene (b i : Nat) : Kd := match i with
  | 0 => .inl (7, [b + 3, b + 4, b + 5, b + 6])
  | 1 => .inr (3, 60, b + 5, 2)
  | 2 => .inr (0, 256, 0, 0)
  | 3 => .inr (0, 256, 0, 0)
  | 4 => .inr (0, 60, 0, 0)
  | n + 5 => if n % 2 = 0 then kdCS (b + 5 + n) else kdRow
def kd (k : Nat) : Kd :=
  if k < 7 then (match k with
    | 0 => .inl (8, [3, 7, 189, 205, 206, 331, 456, 460, 0])
    | 1 => .inl (5, [4, 0, 5, 6, 0, 0, 0])
    | 2 => .inr (0, 40, 0, 0)
    | 3 => .inr (0, 6, 0, 0)
    | 4 => .inr (0, 6, 0, 0)
    | 5 => .inl (2, [8, 0, 0])
    | _ => .inr (5, 60, 7, 3))
  else if k < 187 then (if (k - 7) % 3 = 0 then .inl (4, [0, 0, 0, 0, 0, 0, 0, 0, k + 3]) else if (k - 7) % 3 = 1 then kdCS k else kdRow)
  else if k < 191 then (match k - 187 with
    | 0 => .inl (1, [190, 191, 192])
    | 1 => .inr (3, 6, 191, 2)
    | _ => .inr (0, 6, 0, 0))
  else if k < 203 then (if (k - 191) % 2 = 0 then kdCS k else kdRow)
  else if k = 203 then .inr (4, 6, 460, 3)
  else if k < 329 then kdScene 204 (k - 204)
  else if k < 454 then kdScene 329 (k - 329)
  else if k < 460 then (match k - 454 with
    | 0 => .inl (6, [457, 459, 0])
    | 1 => kdCS 455
    | 2 => kdRow
    | 3 => .inr (0, 256, 0, 0)
    | 4 => kdCS 458
    | _ => kdRow)
  else if k < 478 then (if (k - 460) % 3 = 0 then .inl (3, [0, 0, k + 3, k + 4]) else if (k - 460) % 3 = 1 then .inr (1, 60, 0, 0) else .inr (0, 256, 0, 0))
  else kdM.getD (k - 478) (.inr (0, 0, 0, 0))
/-- the tables' numbers, the array classes, the cells' addresses -/
abbrev Ee : Type := va_G × (ClassId × ClassId × ClassId × (Nat → ClassId)) × (Nat → Nat)
def lf (E : Ee) (M : Mm) (k : Nat) : Nat → List Nat → List Value
  | _, [] => []
  | j, 0 :: t => .int (M.1 k j) :: lf E M k (j + 1) t
  | j, 1 :: t => .long (M.2 k j) :: lf E M k (j + 1) t
  | j, (r + 2) :: t => .ref (E.2.2 r) :: lf E M k (j + 1) t
def lcK (E : Ee) (M : Mm) (k : Nat) : Kd → va_E
  | .inl (ci, fl) => .inr (ci, lf E M k 0 fl)
  | .inr (0, n, _, _) => .inl (E.2.1.1, n, .inl (M.1 k))
  | .inr (1, n, _, _) => .inl (E.2.1.2.1, n, .inl (M.1 k))
  | .inr (2, n, _, _) => .inl (E.2.1.2.2.1, n, .inr (.inl (M.2 k)))
  | .inr (t + 3, n, b, d) => .inl (E.2.1.2.2.2 t, n, .inr (.inr (.inr (.inr (fun i => some (E.2.2 (b + d * i)))))))
def lc (E : Ee) (M : Mm) (k : Nat) : va_E := lcK E M k (kd k)
def lw (E : Ee) (M : Mm) : va_W := (List.range 505).map (fun k => (E.2.2 k, lc E M k))
def ltys (E : Ee) : List (ClassId × FieldType) := [(E.2.1.1, .int), (E.2.1.2.1, .boolean), (E.2.1.2.2.1, .long), (E.2.1.2.2.2 0, .object RX0), (E.2.1.2.2.2 1, .object RX3), (E.2.1.2.2.2 2, .object RX4)]
theorem lw_get (E : Ee) (M : Mm) {k : Nat} (h : k < 505) : (lw E M)[k]? = some (E.2.2 k, lc E M k) := by
  simp [lw, h]
theorem lw_len (E : Ee) (M : Mm) : (lw E M).length = 505 := by simp [lw]
theorem lf_cong (E : Ee) {M M2 : Mm} {k : Nat} (h1 : M.1 k = M2.1 k) (h2 : M.2 k = M2.2 k) : ∀ (fl : List Nat) (j : Nat), lf E M k j fl = lf E M2 k j fl
  | [], _ => rfl
  | 0 :: t, j => by simp only [lf]; rw [lf_cong E h1 h2 t, h1]
  | 1 :: t, j => by simp only [lf]; rw [lf_cong E h1 h2 t, h2]
  | (r + 2) :: t, j => by simp only [lf]; rw [lf_cong E h1 h2 t]
theorem lc_cong (E : Ee) {M M2 : Mm} {k : Nat} (h1 : M.1 k = M2.1 k) (h2 : M.2 k = M2.2 k) : lc E M k = lc E M2 k := by
  unfold lc
  generalize kd k = q
  match q with
  | .inl (ci, fl) => simp only [lcK]; rw [lf_cong E h1 h2]
  | .inr (0, n, _, _) => simp only [lcK]; rw [h1]
  | .inr (1, n, _, _) => simp only [lcK]; rw [h1]
  | .inr (2, n, _, _) => simp only [lcK]; rw [h2]
  | .inr (t + 3, n, b, d) => simp only [lcK]
theorem lw_set (E : Ee) {M M2 : Mm} {k : Nat} {e : va_E} (he : lc E M2 k = e) (ho : ∀ j, j ≠ k → lc E M2 j = lc E M j) : (lw E M).set k (E.2.2 k, e) = lw E M2 := by
  apply List.ext_getElem?
  intro i
  by_cases hi : i < 505
  · rw [lw_get E M2 hi]
    by_cases hk : i = k
    · subst hk
      rw [List.getElem?_set_self (by rw [lw_len]; exact hi), he]
    · rw [List.getElem?_set_ne (fun h => hk h.symm), lw_get E M hi, ho i hk]
  · rw [List.getElem?_eq_none (by rw [List.length_set, lw_len]; omega), List.getElem?_eq_none (by rw [lw_len]; omega)]
theorem lw_wA (E : Ee) (M : Mm) {k : Nat} {g : Nat → Int32} {e : va_E} (he : lc E (wA M k g) k = e) : (lw E M).set k (E.2.2 k, e) = lw E (wA M k g) := lw_set E he (fun j hj => lc_cong E (wA_n hj) rfl)
theorem lw_wL (E : Ee) (M : Mm) {k : Nat} {g : Nat → Int64} {e : va_E} (he : lc E (wL M k g) k = e) : (lw E M).set k (E.2.2 k, e) = lw E (wL M k g) := lw_set E he (fun j hj => lc_cong E rfl (wL_n hj))
theorem lf_get (E : Ee) (M : Mm) (k : Nat) : ∀ (fl : List Nat) (i j c : Nat), fl[j]? = some c → (lf E M k i fl)[j]? = some (match c with
    | 0 => .int (M.1 k (i + j))
    | 1 => .long (M.2 k (i + j))
    | r + 2 => .ref (E.2.2 r))
  | [], _, _, _, h => by simp at h
  | a :: t, i, 0, c, h => by
    simp at h
    subst h
    match a with
    | 0 => rfl
    | 1 => rfl
    | r + 2 => rfl
  | a :: t, i, j + 1, c, h => by
    have h2 : t[j]? = some c := by simpa using h
    have ih := lf_get E M k t (i + 1) j c h2
    have e : i + 1 + j = i + (j + 1) := by omega
    rw [e] at ih
    match a with
    | 0 => simpa [lf] using ih
    | 1 => simpa [lf] using ih
    | r + 2 => simpa [lf] using ih
theorem lf_len (E : Ee) (M : Mm) (k : Nat) : ∀ (fl : List Nat) (i : Nat), (lf E M k i fl).length = fl.length
  | [], _ => rfl
  | 0 :: t, i => by simp [lf, lf_len E M k t]
  | 1 :: t, i => by simp [lf, lf_len E M k t]
  | (r + 2) :: t, i => by simp [lf, lf_len E M k t]
theorem lf_setI_out (E : Ee) (M : Mm) (k : Nat) (v : Int32) : ∀ (fl : List Nat) (i j : Nat), j < i → lf E M k i fl = lf E (wA M k (upd (M.1 k) j v)) k i fl
  | [], _, _, _ => rfl
  | 0 :: t, i, j, h => by simp only [lf]; rw [← lf_setI_out E M k v t (i + 1) j (by omega), wA_s]; simp [upd, show ¬ i = j by omega]
  | 1 :: t, i, j, h => by simp only [lf]; rw [← lf_setI_out E M k v t (i + 1) j (by omega), wA_2]
  | (r + 2) :: t, i, j, h => by simp only [lf]; rw [← lf_setI_out E M k v t (i + 1) j (by omega)]
theorem lf_setI (E : Ee) (M : Mm) (k : Nat) (v : Int32) : ∀ (fl : List Nat) (i j : Nat), fl[j]? = some 0 → (lf E M k i fl).set j (.int v) = lf E (wA M k (upd (M.1 k) (i + j) v)) k i fl
  | [], _, _, h => by simp at h
  | a :: t, i, 0, h => by
    simp at h
    subst h
    have e : lf E M k (i + 1) t = lf E (wA M k (upd (M.1 k) (i + 0) v)) k (i + 1) t := by
      exact lf_setI_out E M k v t (i + 1) (i + 0) (by omega)
    simp only [lf, List.set_cons_zero]
    rw [e]
    simp [wA_s, upd]
  | a :: t, i, j + 1, h => by
    have h2 : t[j]? = some 0 := by simpa using h
    have ih := lf_setI E M k v t (i + 1) j h2
    have e : i + 1 + j = i + (j + 1) := by omega
    rw [e] at ih
    match a with
    | 0 => simp only [lf, List.set_cons_succ]; rw [ih, wA_s]; simp [upd]
    | 1 => simp only [lf, List.set_cons_succ]; rw [ih, wA_2]
    | r + 2 => simp only [lf, List.set_cons_succ]; rw [ih]

theorem lf_setL_out (E : Ee) (M : Mm) (k : Nat) (v : Int64) : ∀ (fl : List Nat) (i j : Nat), j < i → lf E M k i fl = lf E (wL M k (vp_updL (M.2 k) j v)) k i fl
  | [], _, _, _ => rfl
  | 0 :: t, i, j, h => by simp only [lf]; rw [← lf_setL_out E M k v t (i + 1) j (by omega), wL_1]
  | 1 :: t, i, j, h => by simp only [lf]; rw [← lf_setL_out E M k v t (i + 1) j (by omega), wL_s]; simp [vp_updL, show ¬ i = j by omega]
  | (r + 2) :: t, i, j, h => by simp only [lf]; rw [← lf_setL_out E M k v t (i + 1) j (by omega)]
theorem lf_setL (E : Ee) (M : Mm) (k : Nat) (v : Int64) : ∀ (fl : List Nat) (i j : Nat), fl[j]? = some 1 → (lf E M k i fl).set j (.long v) = lf E (wL M k (vp_updL (M.2 k) (i + j) v)) k i fl
  | [], _, _, h => by simp at h
  | a :: t, i, 0, h => by
    simp at h
    subst h
    have e : lf E M k (i + 1) t = lf E (wL M k (vp_updL (M.2 k) (i + 0) v)) k (i + 1) t := by
      exact lf_setL_out E M k v t (i + 1) (i + 0) (by omega)
    simp only [lf, List.set_cons_zero]
    rw [e]
    simp [wL_s, vp_updL]
  | a :: t, i, j + 1, h => by
    have h2 : t[j]? = some 1 := by simpa using h
    have ih := lf_setL E M k v t (i + 1) j h2
    have e : i + 1 + j = i + (j + 1) := by omega
    rw [e] at ih
    match a with
    | 0 => simp only [lf, List.set_cons_succ]; rw [ih, wL_1]
    | 1 => simp only [lf, List.set_cons_succ]; rw [ih, wL_s]; simp [vp_updL]
    | r + 2 => simp only [lf, List.set_cons_succ]; rw [ih]
end
section
/-! locals as a list: none = not known -/
def lq_clr : Option Value → Option Value
  | some (.long _) => none
  | some (.double _) => none
  | o => o
def lq_st : List (Option Value) → Nat → Value → List (Option Value)
  | [], _, _ => []
  | _ :: t, 0, v => some v :: t
  | o :: t, 1, v => lq_clr o :: lq_st t 0 v
  | o :: t, i + 2, v => o :: lq_st t (i + 1) v
def lq_no : List (Option Value) → Nat → List (Option Value)
  | [], _ => []
  | _ :: t, 0 => none :: t
  | o :: t, i + 1 => o :: lq_no t i
def lq_has (ls : Array Slot) (nL : Nat) (L : List (Option Value)) : Prop := ls.size = nL ∧ lv_wf ls ∧ ∀ (i : Nat) (v : Value), L[i]? = some (some v) → ls[i]? = some (.val v)
def lq_pr : Nat → List (Option Value) → List (Nat × Value)
  | _, [] => []
  | i, none :: t => lq_pr (i + 1) t
  | i, some v :: t => (i, v) :: lq_pr (i + 1) t
theorem lq_pr_mem : ∀ (L : List (Option Value)) (b i : Nat) (v : Value), (i, v) ∈ lq_pr b L → b ≤ i ∧ L[i - b]? = some (some v)
  | [], _, _, _, h => by simp [lq_pr] at h
  | none :: t, b, i, v, h => by
    have := lq_pr_mem t (b + 1) i v (by simpa [lq_pr] using h)
    refine ⟨by omega, ?_⟩
    rw [show i - b = (i - (b + 1)) + 1 by omega]
    simpa using this.2
  | some u :: t, b, i, v, h => by
    simp only [lq_pr, List.mem_cons, Prod.mk.injEq] at h
    rcases h with ⟨rfl, rfl⟩ | h
    · exact ⟨Nat.le_refl _, by simp⟩
    · have := lq_pr_mem t (b + 1) i v h
      refine ⟨by omega, ?_⟩
      rw [show i - b = (i - (b + 1)) + 1 by omega]
      simpa using this.2
theorem lq_pr_in : ∀ (L : List (Option Value)) (b i : Nat) (v : Value), L[i]? = some (some v) → (b + i, v) ∈ lq_pr b L
  | [], _, _, _, h => by simp at h
  | none :: t, b, 0, v, h => by simp at h
  | some u :: t, b, 0, v, h => by simp at h; subst h; simp [lq_pr]
  | none :: t, b, i + 1, v, h => by
    have := lq_pr_in t (b + 1) i v (by simpa using h)
    rw [show b + (i + 1) = b + 1 + i by omega]
    simpa [lq_pr] using this
  | some u :: t, b, i + 1, v, h => by
    have := lq_pr_in t (b + 1) i v (by simpa using h)
    rw [show b + (i + 1) = b + 1 + i by omega]
    simp only [lq_pr, List.mem_cons]
    exact Or.inr this
theorem lq_lv {ls : Array Slot} {nL : Nat} {L : List (Option Value)} (h : lq_has ls nL L) : lv_has ls nL (lq_pr 0 L) := ⟨h.1, h.2.1, fun q hq => h.2.2 q.1 q.2 (by have := lq_pr_mem L 0 q.1 q.2 hq; simpa using this.2)⟩
theorem lq_of {ls : Array Slot} {nL : Nat} {L : List (Option Value)} (h : lv_has ls nL (lq_pr 0 L)) : lq_has ls nL L := ⟨h.1, h.2.1, fun i v hi => h.2.2 (i, v) (by have := lq_pr_in L 0 i v hi; simpa using this)⟩
theorem lq_clr_some {o : Option Value} {v : Value} (h : lq_clr o = some v) : o = some v ∧ v.category = 1 := by
  match o with
  | none => simp [lq_clr] at h
  | some (.long _) => simp [lq_clr] at h
  | some (.double _) => simp [lq_clr] at h
  | some (.int x) => simp [lq_clr] at h; subst h; exact ⟨rfl, rfl⟩
  | some (.float x) => simp [lq_clr] at h; subst h; exact ⟨rfl, rfl⟩
  | some (.ref x) => simp [lq_clr] at h; subst h; exact ⟨rfl, rfl⟩
  | some .null => simp [lq_clr] at h; subst h; exact ⟨rfl, rfl⟩
  | some (.retAddr _) => simp [lq_clr] at h; subst h; exact ⟨rfl, rfl⟩
theorem lq_st_get : ∀ (L : List (Option Value)) (i : Nat) (x : Value) (j : Nat) (v : Value), (lq_st L i x)[j]? = some (some v) → (j = i ∧ v = x) ∨ (j ≠ i ∧ L[j]? = some (some v) ∧ (j + 1 = i → v.category = 1))
  | [], _, _, _, _, h => by simp [lq_st] at h
  | o :: t, 0, x, 0, v, h => by simp [lq_st] at h; exact Or.inl ⟨rfl, h.symm⟩
  | o :: t, 0, x, j + 1, v, h => Or.inr ⟨by omega, by simpa [lq_st] using h, by omega⟩
  | o :: t, 1, x, 0, v, h => by
    have := lq_clr_some (o := o) (v := v) (by simpa [lq_st] using h)
    exact Or.inr ⟨by omega, by simp [this.1], fun _ => this.2⟩
  | o :: t, 1, x, j + 1, v, h => by
    have := lq_st_get t 0 x j v (by simpa [lq_st] using h)
    rcases this with ⟨a, b⟩ | ⟨a, b, c⟩
    · exact Or.inl ⟨by omega, b⟩
    · exact Or.inr ⟨by omega, by simpa using b, by omega⟩
  | o :: t, i + 2, x, 0, v, h => Or.inr ⟨by omega, by simpa [lq_st] using h, by omega⟩
  | o :: t, i + 2, x, j + 1, v, h => by
    have := lq_st_get t (i + 1) x j v (by simpa [lq_st] using h)
    rcases this with ⟨a, b⟩ | ⟨a, b, c⟩
    · exact Or.inl ⟨by omega, b⟩
    · exact Or.inr ⟨by omega, by simpa using b, fun e => c (by omega)⟩
theorem lq_no_get : ∀ (L : List (Option Value)) (i : Nat) (j : Nat) (v : Value), (lq_no L i)[j]? = some (some v) → j ≠ i ∧ L[j]? = some (some v)
  | [], _, _, _, h => by simp [lq_no] at h
  | o :: t, 0, 0, v, h => by simp [lq_no] at h
  | o :: t, 0, j + 1, v, h => ⟨by omega, by simpa [lq_no] using h⟩
  | o :: t, i + 1, 0, v, h => ⟨by omega, by simpa [lq_no] using h⟩
  | o :: t, i + 1, j + 1, v, h => by
    have := lq_no_get t i j v (by simpa [lq_no] using h)
    exact ⟨by omega, by simpa using this.2⟩
theorem lq_store1 {ls' : Array Slot} {nL : Nat} {L : List (Option Value)} {i : Nat} {x : Value} (h : lv_has ls' nL ((i, x) :: (lq_pr 0 L).filter (fun q => !(q.1 == i) && !(q.1 + 1 == i && q.2.category == 2)))) : lq_has ls' nL (lq_st L i x) := by
  refine ⟨h.1, h.2.1, fun j v hj => ?_⟩
  rcases lq_st_get L i x j v hj with ⟨rfl, rfl⟩ | ⟨a, b, c⟩
  · exact h.2.2 (j, v) List.mem_cons_self
  · refine h.2.2 (j, v) (List.mem_cons_of_mem _ (List.mem_filter.mpr ⟨by simpa using lq_pr_in L 0 j v b, ?_⟩))
    by_cases e : j + 1 = i
    · simp [a, c e]
    · simp [a, e]
theorem lq_store2 {ls' : Array Slot} {nL : Nat} {L : List (Option Value)} {i : Nat} {x : Value} (h : lv_has ls' nL ((i, x) :: (lq_pr 0 L).filter (fun q => !(q.1 == i) && (!(q.1 == i + 1) && !(q.1 + 1 == i && q.2.category == 2))))) : lq_has ls' nL (lq_no (lq_st L i x) (i + 1)) := by
  refine ⟨h.1, h.2.1, fun j v hj => ?_⟩
  obtain ⟨hn, hj⟩ := lq_no_get _ _ _ _ hj
  rcases lq_st_get L i x j v hj with ⟨rfl, rfl⟩ | ⟨a, b, c⟩
  · exact h.2.2 (j, v) List.mem_cons_self
  · refine h.2.2 (j, v) (List.mem_cons_of_mem _ (List.mem_filter.mpr ⟨by simpa using lq_pr_in L 0 j v b, ?_⟩))
    by_cases e : j + 1 = i
    · simp [a, hn, c e]
    · simp [a, hn, e]
/-! the judgement: a machine (Zt), what it owes, and a state of the walk -/
abbrev Zt : Type := (Program × Launch × Env × Room × State × MethodId × Array Value × List Frame × Method × Code) × (Ee × (Nat → Prop) × Heap × (State → Prop) × Nat)
abbrev zp (Z : Zt) : Program := Z.1.1
abbrev zl (Z : Zt) : Launch := Z.1.2.1
abbrev ze (Z : Zt) : Env := Z.1.2.2.1
abbrev zR (Z : Zt) : Room := Z.1.2.2.2.1
abbrev zs (Z : Zt) : State := Z.1.2.2.2.2.1
abbrev zm (Z : Zt) : MethodId := Z.1.2.2.2.2.2.1
abbrev za (Z : Zt) : Array Value := Z.1.2.2.2.2.2.2.1
abbrev zb (Z : Zt) : List Frame := Z.1.2.2.2.2.2.2.2.1
abbrev zt (Z : Zt) : Method := Z.1.2.2.2.2.2.2.2.2.1
abbrev zc (Z : Zt) : Code := Z.1.2.2.2.2.2.2.2.2.2
abbrev zE (Z : Zt) : Ee := Z.2.1
abbrev zA (Z : Zt) : Nat → Prop := Z.2.2.1
abbrev zH (Z : Zt) : Heap := Z.2.2.2.1
abbrev zQ (Z : Zt) : State → Prop := Z.2.2.2.2.1
abbrev zn (Z : Zt) : Nat := Z.2.2.2.2.2
abbrev zW (Z : Zt) (H : Heap) (locs : List Loc) (κ : Nat × Nat) (g : JFrame) : Prop := W (zp Z) (zl Z) (ze Z) (zR Z) (zs Z) (zm Z) (za Z) (zb Z) (zt Z) (zc Z) H locs κ.1 κ.2 (zQ Z) g
def JJ (Z : Zt) (κ : Nat × Nat) (M : Mm) (pc : Nat) (L : List (Option Value)) (st : List Value) : Prop :=
  ∀ (H : Heap) (locs : List Loc) (ls : Array Slot), va_P (zE Z).1 vwCl (lw (zE Z) M) H → va_D (zA Z) (lw (zE Z) M) → va_S (zA Z) (zH Z) H locs → lq_has ls (zn Z) L → zW Z H locs κ (F0 (zm Z) pc ls st)
/-- the facts of a machine at a method: its code, its words, its class, its room -/
def ZF (Z : Zt) (cc : ByteArray) (Ts : List Cond) (own : String) (rm : Room) : Prop :=
  CallFix (zp Z) (zm Z) (zc Z) cc (zn Z) (zs Z) (za Z) Ts own ∧ va_K (zE Z).1 vwCl (ltys (zE Z)) (zs Z) ∧ (∀ q, (zH Z).size ≤ q → zA Z q) ∧ zR Z = rm ∧ (∀ k, k < 505 → zA Z ((zE Z).2.2 k))
section JR
variable {Z : Zt} {cc : ByteArray} {Ts : List Cond} {own : String} {rm : Room} {κ : Nat × Nat} {M : Mm} {pc : Nat} {L : List (Option Value)} {st : List Value}
theorem ZF.x (F : ZF Z cc Ts own rm) : (zp Z).tables.exec = Jvm.exec := F.1.1
theorem ZF.b (F : ZF Z cc Ts own rm) : (zc Z).code = cc := F.1.2.1
theorem ZF.ml (F : ZF Z cc Ts own rm) : (zc Z).maxLocals = zn Z := F.1.2.2.1
theorem ZF.ow (F : ZF Z cc Ts own rm) : (zs Z).vm.findClass own = some (zm Z).cls := F.1.2.2.2.1
theorem ZF.hts (F : ZF Z cc Ts own rm) : ∀ w ∈ Ts, w.before (za Z) (zs Z) = true := F.1.2.2.2.2
theorem ZF.K (F : ZF Z cc Ts own rm) : va_K (zE Z).1 vwCl (ltys (zE Z)) (zs Z) := F.2.1
theorem ZF.A (F : ZF Z cc Ts own rm) : ∀ q, (zH Z).size ≤ q → zA Z q := F.2.2.1
theorem ZF.R (F : ZF Z cc Ts own rm) : zR Z = rm := F.2.2.2.1
theorem ZF.N (F : ZF Z cc Ts own rm) : ∀ k, k < 505 → zA Z ((zE Z).2.2 k) := F.2.2.2.2
theorem jj_eqM {M2 : Mm} (h : M = M2) (k : JJ Z κ M2 pc L st) : JJ Z κ M pc L st := h ▸ k
theorem jj_eqL {L2 : List (Option Value)} (h : L = L2) (k : JJ Z κ M pc L2 st) : JJ Z κ M pc L st := h ▸ k
theorem jj_eqs {st2 : List Value} (h : st = st2) (k : JJ Z κ M pc L st2) : JJ Z κ M pc L st := h ▸ k
theorem jj_topi {x y : Int32} (h : x = y) (k : JJ Z κ M pc L (.int y :: st)) : JJ Z κ M pc L (.int x :: st) := h ▸ k
theorem jj_wid {κ2 : Nat × Nat} (h1 : κ.1 ≤ κ2.1) (h2 : κ.2 ≤ κ2.2) (k : JJ Z κ2 M pc L st) : JJ Z κ M pc L st := fun H locs ls a b c d => W.widen h1 h2 (k H locs ls a b c d)
/-- fewer known locals -/
theorem jj_less {L2 : List (Option Value)} (h : ∀ (i : Nat) (v : Value), L2[i]? = some (some v) → L[i]? = some (some v)) (k : JJ Z κ M pc L2 st) : JJ Z κ M pc L st := fun H locs ls a b c d => k H locs ls a b c ⟨d.1, d.2.1, fun i v hi => d.2.2 i v (h i v hi)⟩

theorem jj_iconst (F : ZF Z cc Ts own rm) {n : Int} {v : Int32} (hd : decode cc pc = .ok (.iconst n, 1)) (hv : Int32.ofInt n = v) (k : JJ Z κ M (pc + 1) L (.int v :: st)) : JJ Z κ M pc L (st) := fun H locs ls a b c d => lv_iconst F.x F.b hd hv (k H locs ls a b c d)
theorem jj_bipush (F : ZF Z cc Ts own rm) {n : Int} {v : Int32} (hd : decode cc pc = .ok (.bipush n, 2)) (hv : (Int8.ofInt n).toInt32 = v) (k : JJ Z κ M (pc + 2) L (.int v :: st)) : JJ Z κ M pc L (st) := fun H locs ls a b c d => lv_bipush F.x F.b hd hv (k H locs ls a b c d)
theorem jj_sipush (F : ZF Z cc Ts own rm) {n : Int} {v : Int32} (hd : decode cc pc = .ok (.sipush n, 3)) (hv : (Int16.ofInt n).toInt32 = v) (k : JJ Z κ M (pc + 3) L (.int v :: st)) : JJ Z κ M pc L (st) := fun H locs ls a b c d => lv_sipush F.x F.b hd hv (k H locs ls a b c d)
theorem jj_lconst (F : ZF Z cc Ts own rm) {n : Fin 2} {v : Int64} (hd : decode cc pc = .ok (.lconst n, 1)) (hv : Int64.ofNat (n : Nat) = v) (k : JJ Z κ M (pc + 1) L (.long v :: st)) : JJ Z κ M pc L (st) := fun H locs ls a b c d => lv_lconst F.x F.b hd hv (k H locs ls a b c d)
theorem jj_ldc (F : ZF Z cc Ts own rm) {index : Nat} {v : Int32} (hd : decode cc pc = .ok (.ldc index, 2)) (hc : (Jvm.Cond.constant own index v).before (za Z) (zs Z) = true) (k : JJ Z κ M (pc + 2) L (.int v :: st)) : JJ Z κ M pc L (st) := fun H locs ls a b c d => lv_ldc F.x F.b F.ow hc hd (k H locs ls a b c d)
theorem jj_ldc2 (F : ZF Z cc Ts own rm) {index : Nat} {v : Int64} (hd : decode cc pc = .ok (.ldc2_w index, 3)) (hc : (Jvm.Cond.constantLong own index v).before (za Z) (zs Z) = true) (k : JJ Z κ M (pc + 3) L (.long v :: st)) : JJ Z κ M pc L (st) := fun H locs ls a b c d => lv_ldc2 F.x F.b F.ow hc hd (k H locs ls a b c d)
theorem jj_dconst0 (F : ZF Z cc Ts own rm) (hd : decode cc pc = .ok (.dconst 0, 1)) (k : JJ Z κ M (pc + 1) L (.double (0 : UInt64) :: st)) : JJ Z κ M pc L (st) := fun H locs ls a b c d => lv_dconst0 F.x F.b hd (k H locs ls a b c d)
theorem jj_dconst1 (F : ZF Z cc Ts own rm) (hd : decode cc pc = .ok (.dconst 1, 1)) (k : JJ Z κ M (pc + 1) L (.double (0x3ff0000000000000 : UInt64) :: st)) : JJ Z κ M pc L (st) := fun H locs ls a b c d => lv_dconst1 F.x F.b hd (k H locs ls a b c d)
theorem jj_iload_n (F : ZF Z cc Ts own rm) {i : Fin 4} {x : Int32} (hd : decode cc pc = .ok (.iload_n i, 1)) (hl : L[(i : Nat)]? = some (some (.int x))) (k : JJ Z κ M (pc + 1) L (.int x :: st)) : JJ Z κ M pc L (st) := fun H locs ls a b c d => lv_iload_n F.x F.b hd rfl (d.2.2 _ _ hl) (k H locs ls a b c d)
theorem jj_iload (F : ZF Z cc Ts own rm) {i : Nat} {x : Int32} (hd : decode cc pc = .ok (.iload i, 2)) (hl : L[i]? = some (some (.int x))) (k : JJ Z κ M (pc + 2) L (.int x :: st)) : JJ Z κ M pc L (st) := fun H locs ls a b c d => lv_iload F.x F.b hd (d.2.2 _ _ hl) (k H locs ls a b c d)
theorem jj_lload_n (F : ZF Z cc Ts own rm) {i : Fin 4} {x : Int64} (hd : decode cc pc = .ok (.lload_n i, 1)) (hl : L[(i : Nat)]? = some (some (.long x))) (k : JJ Z κ M (pc + 1) L (.long x :: st)) : JJ Z κ M pc L (st) := fun H locs ls a b c d => lv_lload_n F.x F.b hd rfl (d.2.2 _ _ hl) (k H locs ls a b c d)
theorem jj_lload (F : ZF Z cc Ts own rm) {i : Nat} {x : Int64} (hd : decode cc pc = .ok (.lload i, 2)) (hl : L[i]? = some (some (.long x))) (k : JJ Z κ M (pc + 2) L (.long x :: st)) : JJ Z κ M pc L (st) := fun H locs ls a b c d => lv_lload F.x F.b hd (d.2.2 _ _ hl) (k H locs ls a b c d)
theorem jj_aload_n (F : ZF Z cc Ts own rm) {i : Fin 4} {x : Nat} (hd : decode cc pc = .ok (.aload_n i, 1)) (hl : L[(i : Nat)]? = some (some (.ref x))) (k : JJ Z κ M (pc + 1) L (.ref x :: st)) : JJ Z κ M pc L (st) := fun H locs ls a b c d => lv_aload_n F.x F.b hd rfl (d.2.2 _ _ hl) (k H locs ls a b c d)
theorem jj_aload (F : ZF Z cc Ts own rm) {i : Nat} {x : Nat} (hd : decode cc pc = .ok (.aload i, 2)) (hl : L[i]? = some (some (.ref x))) (k : JJ Z κ M (pc + 2) L (.ref x :: st)) : JJ Z κ M pc L (st) := fun H locs ls a b c d => lv_aload F.x F.b hd (d.2.2 _ _ hl) (k H locs ls a b c d)
theorem jj_dload_n (F : ZF Z cc Ts own rm) {i : Fin 4} {x : UInt64} (hd : decode cc pc = .ok (.dload_n i, 1)) (hl : L[(i : Nat)]? = some (some (.double x))) (k : JJ Z κ M (pc + 1) L (.double x :: st)) : JJ Z κ M pc L (st) := fun H locs ls a b c d => lv_dload_n F.x F.b hd rfl (d.2.2 _ _ hl) (k H locs ls a b c d)
theorem jj_dload (F : ZF Z cc Ts own rm) {i : Nat} {x : UInt64} (hd : decode cc pc = .ok (.dload i, 2)) (hl : L[i]? = some (some (.double x))) (k : JJ Z κ M (pc + 2) L (.double x :: st)) : JJ Z κ M pc L (st) := fun H locs ls a b c d => lv_dload F.x F.b hd (d.2.2 _ _ hl) (k H locs ls a b c d)
theorem jj_istore_n (F : ZF Z cc Ts own rm) {i : Fin 4} {x : Int32} (hd : decode cc pc = .ok (.istore_n i, 1)) (hn : (i : Nat) < zn Z) (k : JJ Z κ M (pc + 1) (lq_st L i (.int x)) st) : JJ Z κ M pc L (.int x :: st) := fun H locs ls a b c d => lv_istore_n F.x F.b hd rfl (lq_lv d) hn rfl (fun ls2 h2 => k H locs ls2 a b c (lq_store1 h2))
theorem jj_istore (F : ZF Z cc Ts own rm) {i : Nat} {x : Int32} (hd : decode cc pc = .ok (.istore i, 2)) (hn : (i : Nat) < zn Z) (k : JJ Z κ M (pc + 2) (lq_st L i (.int x)) st) : JJ Z κ M pc L (.int x :: st) := fun H locs ls a b c d => lv_istore F.x F.b hd (lq_lv d) hn rfl (fun ls2 h2 => k H locs ls2 a b c (lq_store1 h2))
theorem jj_lstore_n (F : ZF Z cc Ts own rm) {i : Fin 4} {x : Int64} (hd : decode cc pc = .ok (.lstore_n i, 1)) (hn : (i : Nat) + 1 < zn Z) (k : JJ Z κ M (pc + 1) (lq_no (lq_st L i (.long x)) (i + 1)) st) : JJ Z κ M pc L (.long x :: st) := fun H locs ls a b c d => lv_lstore_n F.x F.b hd rfl (lq_lv d) hn rfl (fun ls2 h2 => k H locs ls2 a b c (lq_store2 h2))
theorem jj_lstore (F : ZF Z cc Ts own rm) {i : Nat} {x : Int64} (hd : decode cc pc = .ok (.lstore i, 2)) (hn : (i : Nat) + 1 < zn Z) (k : JJ Z κ M (pc + 2) (lq_no (lq_st L i (.long x)) (i + 1)) st) : JJ Z κ M pc L (.long x :: st) := fun H locs ls a b c d => lv_lstore F.x F.b hd (lq_lv d) hn rfl (fun ls2 h2 => k H locs ls2 a b c (lq_store2 h2))
theorem jj_astore_n (F : ZF Z cc Ts own rm) {i : Fin 4} {x : Nat} (hd : decode cc pc = .ok (.astore_n i, 1)) (hn : (i : Nat) < zn Z) (k : JJ Z κ M (pc + 1) (lq_st L i (.ref x)) st) : JJ Z κ M pc L (.ref x :: st) := fun H locs ls a b c d => lv_astore_n F.x F.b hd rfl (lq_lv d) hn rfl (fun ls2 h2 => k H locs ls2 a b c (lq_store1 h2))
theorem jj_astore (F : ZF Z cc Ts own rm) {i : Nat} {x : Nat} (hd : decode cc pc = .ok (.astore i, 2)) (hn : (i : Nat) < zn Z) (k : JJ Z κ M (pc + 2) (lq_st L i (.ref x)) st) : JJ Z κ M pc L (.ref x :: st) := fun H locs ls a b c d => lv_astore F.x F.b hd (lq_lv d) hn rfl (fun ls2 h2 => k H locs ls2 a b c (lq_store1 h2))
theorem jj_dstore_n (F : ZF Z cc Ts own rm) {i : Fin 4} {x : UInt64} (hd : decode cc pc = .ok (.dstore_n i, 1)) (hn : (i : Nat) + 1 < zn Z) (k : JJ Z κ M (pc + 1) (lq_no (lq_st L i (.double x)) (i + 1)) st) : JJ Z κ M pc L (.double x :: st) := fun H locs ls a b c d => lv_dstore_n F.x F.b hd rfl (lq_lv d) hn rfl (fun ls2 h2 => k H locs ls2 a b c (lq_store2 h2))
theorem jj_dstore (F : ZF Z cc Ts own rm) {i : Nat} {x : UInt64} (hd : decode cc pc = .ok (.dstore i, 2)) (hn : (i : Nat) + 1 < zn Z) (k : JJ Z κ M (pc + 2) (lq_no (lq_st L i (.double x)) (i + 1)) st) : JJ Z κ M pc L (.double x :: st) := fun H locs ls a b c d => lv_dstore F.x F.b hd (lq_lv d) hn rfl (fun ls2 h2 => k H locs ls2 a b c (lq_store2 h2))
theorem jj_iinc (F : ZF Z cc Ts own rm) {i : Nat} {n : Int} {x v : Int32} (hd : decode cc pc = .ok (.iinc i n, 3)) (hl : L[i]? = some (some (.int x))) (hv : x + Int32.ofInt n = v) (hn : i < zn Z) (k : JJ Z κ M (pc + 3) (lq_st L i (.int v)) st) : JJ Z κ M pc L st := fun H locs ls a b c d => by
  obtain ⟨q, hq⟩ := List.getElem?_of_mem (lq_pr_in L 0 i (.int x) hl)
  rw [Nat.zero_add] at hq
  exact lv_iinc F.x F.b hd (lq_lv d) hq hv hn rfl (fun ls2 h2 => k H locs ls2 a b c (lq_store1 h2))
theorem jj_iadd (F : ZF Z cc Ts own rm) {x y : Int32} (hd : decode cc pc = .ok (.iadd, 1)) (k : JJ Z κ M (pc + 1) L (.int (x + y) :: st)) : JJ Z κ M pc L (.int y :: .int x :: st) := fun H locs ls a b c d => lv_iadd F.x F.b hd (k H locs ls a b c d)
theorem jj_isub (F : ZF Z cc Ts own rm) {x y : Int32} (hd : decode cc pc = .ok (.isub, 1)) (k : JJ Z κ M (pc + 1) L (.int (x - y) :: st)) : JJ Z κ M pc L (.int y :: .int x :: st) := fun H locs ls a b c d => lv_isub F.x F.b hd (k H locs ls a b c d)
theorem jj_imul (F : ZF Z cc Ts own rm) {x y : Int32} (hd : decode cc pc = .ok (.imul, 1)) (k : JJ Z κ M (pc + 1) L (.int (x * y) :: st)) : JJ Z κ M pc L (.int y :: .int x :: st) := fun H locs ls a b c d => lv_imul F.x F.b hd (k H locs ls a b c d)
theorem jj_iand (F : ZF Z cc Ts own rm) {x y : Int32} (hd : decode cc pc = .ok (.iand, 1)) (k : JJ Z κ M (pc + 1) L (.int (x &&& y) :: st)) : JJ Z κ M pc L (.int y :: .int x :: st) := fun H locs ls a b c d => lv_iand F.x F.b hd (k H locs ls a b c d)
theorem jj_ior (F : ZF Z cc Ts own rm) {x y : Int32} (hd : decode cc pc = .ok (.ior, 1)) (k : JJ Z κ M (pc + 1) L (.int (x ||| y) :: st)) : JJ Z κ M pc L (.int y :: .int x :: st) := fun H locs ls a b c d => lv_ior F.x F.b hd (k H locs ls a b c d)
theorem jj_ixor (F : ZF Z cc Ts own rm) {x y : Int32} (hd : decode cc pc = .ok (.ixor, 1)) (k : JJ Z κ M (pc + 1) L (.int (x ^^^ y) :: st)) : JJ Z κ M pc L (.int y :: .int x :: st) := fun H locs ls a b c d => lv_ixor F.x F.b hd (k H locs ls a b c d)
theorem jj_ishl (F : ZF Z cc Ts own rm) {x y : Int32} (hd : decode cc pc = .ok (.ishl, 1)) (k : JJ Z κ M (pc + 1) L (.int (x <<< (y &&& 31)) :: st)) : JJ Z κ M pc L (.int y :: .int x :: st) := fun H locs ls a b c d => lv_ishl F.x F.b hd (k H locs ls a b c d)
theorem jj_ishr (F : ZF Z cc Ts own rm) {x y : Int32} (hd : decode cc pc = .ok (.ishr, 1)) (k : JJ Z κ M (pc + 1) L (.int (x >>> (y &&& 31)) :: st)) : JJ Z κ M pc L (.int y :: .int x :: st) := fun H locs ls a b c d => lv_ishr F.x F.b hd (k H locs ls a b c d)
theorem jj_idiv (F : ZF Z cc Ts own rm) {x y : Int32} (hd : decode cc pc = .ok (.idiv, 1)) (hne : ¬ y = 0) (k : JJ Z κ M (pc + 1) L (.int (x / y) :: st)) : JJ Z κ M pc L (.int y :: .int x :: st) := fun H locs ls a b c d => lv_idiv F.x F.b hd hne (k H locs ls a b c d)
theorem jj_irem (F : ZF Z cc Ts own rm) {x y : Int32} (hd : decode cc pc = .ok (.irem, 1)) (hne : ¬ y = 0) (k : JJ Z κ M (pc + 1) L (.int (x - x / y * y) :: st)) : JJ Z κ M pc L (.int y :: .int x :: st) := fun H locs ls a b c d => lv_irem F.x F.b hd hne (k H locs ls a b c d)
theorem jj_ineg (F : ZF Z cc Ts own rm) {x : Int32} (hd : decode cc pc = .ok (.ineg, 1)) (k : JJ Z κ M (pc + 1) L (.int (-x) :: st)) : JJ Z κ M pc L (.int x :: st) := fun H locs ls a b c d => lv_ineg F.x F.b hd (k H locs ls a b c d)
theorem jj_ladd (F : ZF Z cc Ts own rm) {x y : Int64} (hd : decode cc pc = .ok (.ladd, 1)) (k : JJ Z κ M (pc + 1) L (.long (x + y) :: st)) : JJ Z κ M pc L (.long y :: .long x :: st) := fun H locs ls a b c d => lv_ladd F.x F.b hd (k H locs ls a b c d)
theorem jj_lmul (F : ZF Z cc Ts own rm) {x y : Int64} (hd : decode cc pc = .ok (.lmul, 1)) (k : JJ Z κ M (pc + 1) L (.long (x * y) :: st)) : JJ Z κ M pc L (.long y :: .long x :: st) := fun H locs ls a b c d => lv_lmul F.x F.b hd (k H locs ls a b c d)
theorem jj_land (F : ZF Z cc Ts own rm) {x y : Int64} (hd : decode cc pc = .ok (.land, 1)) (k : JJ Z κ M (pc + 1) L (.long (x &&& y) :: st)) : JJ Z κ M pc L (.long y :: .long x :: st) := fun H locs ls a b c d => lv_land F.x F.b hd (k H locs ls a b c d)
theorem jj_lor (F : ZF Z cc Ts own rm) {x y : Int64} (hd : decode cc pc = .ok (.lor, 1)) (k : JJ Z κ M (pc + 1) L (.long (x ||| y) :: st)) : JJ Z κ M pc L (.long y :: .long x :: st) := fun H locs ls a b c d => lv_lor F.x F.b hd (k H locs ls a b c d)
theorem jj_lxor (F : ZF Z cc Ts own rm) {x y : Int64} (hd : decode cc pc = .ok (.lxor, 1)) (k : JJ Z κ M (pc + 1) L (.long (x ^^^ y) :: st)) : JJ Z κ M pc L (.long y :: .long x :: st) := fun H locs ls a b c d => lv_lxor F.x F.b hd (k H locs ls a b c d)
theorem jj_lshl (F : ZF Z cc Ts own rm) {x : Int64} {y : Int32} (hd : decode cc pc = .ok (.lshl, 1)) (k : JJ Z κ M (pc + 1) L (.long (x <<< (y.toInt64 &&& 63)) :: st)) : JJ Z κ M pc L (.int y :: .long x :: st) := fun H locs ls a b c d => lv_lshl F.x F.b hd rfl (k H locs ls a b c d)
theorem jj_lushr (F : ZF Z cc Ts own rm) {x : Int64} {y : Int32} (hd : decode cc pc = .ok (.lushr, 1)) (k : JJ Z κ M (pc + 1) L (.long ((x.toUInt64 >>> (y.toInt64.toUInt64 &&& Int64.toUInt64 63)).toInt64) :: st)) : JJ Z κ M pc L (.int y :: .long x :: st) := fun H locs ls a b c d => lv_lushr F.x F.b hd rfl (k H locs ls a b c d)
theorem jj_i2l (F : ZF Z cc Ts own rm) {x : Int32} (hd : decode cc pc = .ok (.i2l, 1)) (k : JJ Z κ M (pc + 1) L (.long x.toInt64 :: st)) : JJ Z κ M pc L (.int x :: st) := fun H locs ls a b c d => lv_i2l F.x F.b hd rfl (k H locs ls a b c d)
theorem jj_l2i (F : ZF Z cc Ts own rm) {x : Int64} (hd : decode cc pc = .ok (.l2i, 1)) (k : JJ Z κ M (pc + 1) L (.int x.toInt32 :: st)) : JJ Z κ M pc L (.long x :: st) := fun H locs ls a b c d => lv_l2i F.x F.b hd rfl (k H locs ls a b c d)
theorem jj_i2d (F : ZF Z cc Ts own rm) {x : Int32} (hd : decode cc pc = .ok (.i2d, 1)) (k : JJ Z κ M (pc + 1) L (.double (FP.i2d x) :: st)) : JJ Z κ M pc L (.int x :: st) := fun H locs ls a b c d => lv_i2d F.x F.b hd (k H locs ls a b c d)
theorem jj_lcmp (F : ZF Z cc Ts own rm) {x y : Int64} (hd : decode cc pc = .ok (.lcmp, 1)) (k : JJ Z κ M (pc + 1) L (.int (lg_cmp x y) :: st)) : JJ Z κ M pc L (.long y :: .long x :: st) := fun H locs ls a b c d => W.lcmp F.x F.b hd (k H locs ls a b c d)
theorem jj_dcmp (F : ZF Z cc Ts own rm) {x y : UInt64} {op : CmpOp} (hd : decode cc pc = .ok (.dcmp op, 1)) (k : JJ Z κ M (pc + 1) L (.int (Op.cmpValue (FP.dcmp x y) op) :: st)) : JJ Z κ M pc L (.double y :: .double x :: st) := fun H locs ls a b c d => lv_dcmp F.x F.b hd (k H locs ls a b c d)
theorem jj_dup (F : ZF Z cc Ts own rm) {v : Value} (hd : decode cc pc = .ok (.dup, 1)) (hv : v.category = 1) (k : JJ Z κ M (pc + 1) L (v :: v :: st)) : JJ Z κ M pc L (v :: st) := fun H locs ls a b c d => lv_dup F.x F.b hd hv (k H locs ls a b c d)
theorem jj_pop (F : ZF Z cc Ts own rm) {v : Value} (hd : decode cc pc = .ok (.pop, 1)) (hv : v.category = 1) (k : JJ Z κ M (pc + 1) L (st)) : JJ Z κ M pc L (v :: st) := fun H locs ls a b c d => lv_pop F.x F.b hd hv (k H locs ls a b c d)
theorem jj_dup2 (F : ZF Z cc Ts own rm) {v u : Value} (hd : decode cc pc = .ok (.dup2, 1)) (hv : v.category = 1) (hu : u.category = 1) (k : JJ Z κ M (pc + 1) L (v :: u :: v :: u :: st)) : JJ Z κ M pc L (v :: u :: st) := fun H locs ls a b c d => lv_dup2_11 F.x F.b hd hv hu (k H locs ls a b c d)
theorem jj_goto (F : ZF Z cc Ts own rm) {off : Int} {tgt : Nat} (hd : decode cc pc = .ok (.goto off, 3)) (ht : (pc : Int) + off = (tgt : Int)) (k : JJ Z κ M tgt L st) : JJ Z κ M pc L st := fun H locs ls a b c d => lv_goto F.x F.b hd ht (k H locs ls a b c d)
theorem jj_icmp_eq (F : ZF Z cc Ts own rm) {x y : Int32} {off : Int} {tgt : Nat} (hd : decode cc pc = .ok (.if_icmp .eq off, 3)) (ht : (pc : Int) + off = (tgt : Int)) (kt : x = y → JJ Z κ M tgt L st) (kf : ¬ x = y → JJ Z κ M (pc + 3) L st) : JJ Z κ M pc L (.int y :: .int x :: st) := fun H locs ls a b c d => lv_icmp_eq F.x F.b hd ht (fun h => kt h H locs ls a b c d) (fun h => kf h H locs ls a b c d)
theorem jj_if_eq (F : ZF Z cc Ts own rm) {x : Int32} {off : Int} {tgt : Nat} (hd : decode cc pc = .ok (.ifCond .eq off, 3)) (ht : (pc : Int) + off = (tgt : Int)) (kt : x = 0 → JJ Z κ M tgt L st) (kf : ¬ x = 0 → JJ Z κ M (pc + 3) L st) : JJ Z κ M pc L (.int x :: st) := fun H locs ls a b c d => lv_if_eq F.x F.b hd ht (fun h => kt h H locs ls a b c d) (fun h => kf h H locs ls a b c d)
theorem jj_icmp_ne (F : ZF Z cc Ts own rm) {x y : Int32} {off : Int} {tgt : Nat} (hd : decode cc pc = .ok (.if_icmp .ne off, 3)) (ht : (pc : Int) + off = (tgt : Int)) (kt : ¬ x = y → JJ Z κ M tgt L st) (kf : x = y → JJ Z κ M (pc + 3) L st) : JJ Z κ M pc L (.int y :: .int x :: st) := fun H locs ls a b c d => lv_icmp_ne F.x F.b hd ht (fun h => kt h H locs ls a b c d) (fun h => kf h H locs ls a b c d)
theorem jj_if_ne (F : ZF Z cc Ts own rm) {x : Int32} {off : Int} {tgt : Nat} (hd : decode cc pc = .ok (.ifCond .ne off, 3)) (ht : (pc : Int) + off = (tgt : Int)) (kt : ¬ x = 0 → JJ Z κ M tgt L st) (kf : x = 0 → JJ Z κ M (pc + 3) L st) : JJ Z κ M pc L (.int x :: st) := fun H locs ls a b c d => lv_if_ne F.x F.b hd ht (fun h => kt h H locs ls a b c d) (fun h => kf h H locs ls a b c d)
theorem jj_icmp_lt (F : ZF Z cc Ts own rm) {x y : Int32} {off : Int} {tgt : Nat} (hd : decode cc pc = .ok (.if_icmp .lt off, 3)) (ht : (pc : Int) + off = (tgt : Int)) (kt : x < y → JJ Z κ M tgt L st) (kf : ¬ x < y → JJ Z κ M (pc + 3) L st) : JJ Z κ M pc L (.int y :: .int x :: st) := fun H locs ls a b c d => lv_icmp_lt F.x F.b hd ht (fun h => kt h H locs ls a b c d) (fun h => kf h H locs ls a b c d)
theorem jj_if_lt (F : ZF Z cc Ts own rm) {x : Int32} {off : Int} {tgt : Nat} (hd : decode cc pc = .ok (.ifCond .lt off, 3)) (ht : (pc : Int) + off = (tgt : Int)) (kt : x < 0 → JJ Z κ M tgt L st) (kf : ¬ x < 0 → JJ Z κ M (pc + 3) L st) : JJ Z κ M pc L (.int x :: st) := fun H locs ls a b c d => lv_if_lt F.x F.b hd ht (fun h => kt h H locs ls a b c d) (fun h => kf h H locs ls a b c d)
theorem jj_icmp_ge (F : ZF Z cc Ts own rm) {x y : Int32} {off : Int} {tgt : Nat} (hd : decode cc pc = .ok (.if_icmp .ge off, 3)) (ht : (pc : Int) + off = (tgt : Int)) (kt : y ≤ x → JJ Z κ M tgt L st) (kf : ¬ y ≤ x → JJ Z κ M (pc + 3) L st) : JJ Z κ M pc L (.int y :: .int x :: st) := fun H locs ls a b c d => lv_icmp_ge F.x F.b hd ht (fun h => kt h H locs ls a b c d) (fun h => kf h H locs ls a b c d)
theorem jj_if_ge (F : ZF Z cc Ts own rm) {x : Int32} {off : Int} {tgt : Nat} (hd : decode cc pc = .ok (.ifCond .ge off, 3)) (ht : (pc : Int) + off = (tgt : Int)) (kt : 0 ≤ x → JJ Z κ M tgt L st) (kf : ¬ 0 ≤ x → JJ Z κ M (pc + 3) L st) : JJ Z κ M pc L (.int x :: st) := fun H locs ls a b c d => lv_if_ge F.x F.b hd ht (fun h => kt h H locs ls a b c d) (fun h => kf h H locs ls a b c d)
theorem jj_icmp_gt (F : ZF Z cc Ts own rm) {x y : Int32} {off : Int} {tgt : Nat} (hd : decode cc pc = .ok (.if_icmp .gt off, 3)) (ht : (pc : Int) + off = (tgt : Int)) (kt : y < x → JJ Z κ M tgt L st) (kf : ¬ y < x → JJ Z κ M (pc + 3) L st) : JJ Z κ M pc L (.int y :: .int x :: st) := fun H locs ls a b c d => lv_icmp_gt F.x F.b hd ht (fun h => kt h H locs ls a b c d) (fun h => kf h H locs ls a b c d)
theorem jj_if_gt (F : ZF Z cc Ts own rm) {x : Int32} {off : Int} {tgt : Nat} (hd : decode cc pc = .ok (.ifCond .gt off, 3)) (ht : (pc : Int) + off = (tgt : Int)) (kt : 0 < x → JJ Z κ M tgt L st) (kf : ¬ 0 < x → JJ Z κ M (pc + 3) L st) : JJ Z κ M pc L (.int x :: st) := fun H locs ls a b c d => lv_if_gt F.x F.b hd ht (fun h => kt h H locs ls a b c d) (fun h => kf h H locs ls a b c d)
theorem jj_icmp_le (F : ZF Z cc Ts own rm) {x y : Int32} {off : Int} {tgt : Nat} (hd : decode cc pc = .ok (.if_icmp .le off, 3)) (ht : (pc : Int) + off = (tgt : Int)) (kt : x ≤ y → JJ Z κ M tgt L st) (kf : ¬ x ≤ y → JJ Z κ M (pc + 3) L st) : JJ Z κ M pc L (.int y :: .int x :: st) := fun H locs ls a b c d => lv_icmp_le F.x F.b hd ht (fun h => kt h H locs ls a b c d) (fun h => kf h H locs ls a b c d)
theorem jj_if_le (F : ZF Z cc Ts own rm) {x : Int32} {off : Int} {tgt : Nat} (hd : decode cc pc = .ok (.ifCond .le off, 3)) (ht : (pc : Int) + off = (tgt : Int)) (kt : x ≤ 0 → JJ Z κ M tgt L st) (kf : ¬ x ≤ 0 → JJ Z κ M (pc + 3) L st) : JJ Z κ M pc L (.int x :: st) := fun H locs ls a b c d => lv_if_le F.x F.b hd ht (fun h => kt h H locs ls a b c d) (fun h => kf h H locs ls a b c d)
end JR
/-! the cells by their numbers -/
def kdOk (q : Kd) : Bool := match q with
  | .inl (ci, fl) => decide (ci < 10) && decide ((vwCl.map (fun q => q.2.2))[ci]? = some fl.length)
  | .inr (t, n, _, _) => decide (t < 6) && decide (n ≤ 256)
theorem kd_lt505 : ∀ k, k < 505 → kdOk (kd k) = true := by decide +kernel
theorem kd_big {k : Nat} (h : ¬ k < 505) : kd k = .inr (0, 0, 0, 0) := by
  unfold kd
  rw [if_neg (by omega), if_neg (by omega), if_neg (by omega), if_neg (by omega), if_neg (by omega), if_neg (by omega), if_neg (by omega), if_neg (by omega), if_neg (by omega)]
  rw [List.getD_eq_getElem?_getD, List.getElem?_eq_none (by show 27 ≤ _; omega)]
  rfl
theorem kd_obj {k ci : Nat} {fl : List Nat} (h : kd k = .inl (ci, fl)) : k < 505 := by
  by_cases hk : k < 505
  · exact hk
  · rw [kd_big hk] at h; cases h
theorem kd_arr {k t n x y a : Nat} (h : kd k = .inr (t, n, x, y)) (ha : a < n) : k < 505 ∧ n ≤ 256 := by
  by_cases hk : k < 505
  · have h2 := kd_lt505 k hk
    rw [h] at h2
    simp only [kdOk, Bool.and_eq_true, decide_eq_true_eq] at h2
    exact ⟨hk, h2.2⟩
  · rw [kd_big hk] at h
    cases h
    omega
theorem lc_obj (E : Ee) (M : Mm) {k ci : Nat} {fl : List Nat} (h : kd k = .inl (ci, fl)) : lc E M k = .inr (ci, lf E M k 0 fl) := by unfold lc; rw [h]; rfl
theorem lc_i (E : Ee) (M : Mm) {k n x y : Nat} (h : kd k = .inr (0, n, x, y)) : lc E M k = .inl (E.2.1.1, n, .inl (M.1 k)) := by unfold lc; rw [h]; rfl
theorem lc_z (E : Ee) (M : Mm) {k n x y : Nat} (h : kd k = .inr (1, n, x, y)) : lc E M k = .inl (E.2.1.2.1, n, .inl (M.1 k)) := by unfold lc; rw [h]; rfl
theorem lc_l (E : Ee) (M : Mm) {k n x y : Nat} (h : kd k = .inr (2, n, x, y)) : lc E M k = .inl (E.2.1.2.2.1, n, .inr (.inl (M.2 k))) := by unfold lc; rw [h]; rfl
theorem lc_r (E : Ee) (M : Mm) {k t n x y : Nat} (h : kd k = .inr (t + 3, n, x, y)) : lc E M k = .inl (E.2.1.2.2.2 t, n, .inr (.inr (.inr (.inr (fun i => some (E.2.2 (x + y * i))))))) := by unfold lc; rw [h]; rfl
theorem lw_at (E : Ee) (M : Mm) {k : Nat} {e : va_E} (hk : k < 505) (h : lc E M k = e) : (lw E M)[k]? = some (E.2.2 k, e) := by rw [lw_get E M hk, h]
/-- a field may be read here -/
def FG (Z : Zt) (idx ci j : Nat) : Prop := ∃ (C : String) (T : u_T) (N : Nat) (own : String) (Ts : List Cond), vwCl[ci]? = some (C, T, N) ∧ j < N ∧ (∀ w ∈ Ts, w.before (za Z) (zs Z) = true) ∧ (∀ w ∈ u_ws C T N, w ∈ Ts) ∧ (zs Z).vm.findClass own = some (zm Z).cls ∧ (T j).1 = C ∧ (Cond.fieldLink own idx C (T j).2.1 (T j).2.2.1).before (za Z) (zs Z) = true
/-- a field may be written here -/
def FP (Z : Zt) (idx ci j : Nat) (ty : FieldType) : Prop := ∃ (C : String) (T : u_T) (N : Nat) (own : String) (Ts : List Cond) (ty0 : Nat → FieldType), vwCl[ci]? = some (C, T, N) ∧ j < N ∧ (∀ w ∈ Ts, w.before (za Z) (zs Z) = true) ∧ (∀ w ∈ u_ws C T N, w ∈ Ts) ∧ (zs Z).vm.findClass own = some (zm Z).cls ∧ (T j).1 = C ∧ (Cond.fieldLink own idx C (T j).2.1 (T j).2.2.1).before (za Z) (zs Z) = true ∧ (∀ k, k < N → parseFieldDescriptor (T k).2.2.1 = some (ty0 k)) ∧ (∀ a, a < N → ∀ b, b < N → a ≠ b → (T a).2.1 ≠ (T b).2.1) ∧ (T j).2.2.2 = false ∧ parseFieldDescriptor (T j).2.2.1 = some ty
section JH
variable {Z : Zt} {cc : ByteArray} {Ts : List Cond} {own : String} {rm : Room} {κ : Nat × Nat} {M : Mm} {pc : Nat} {L : List (Option Value)} {st : List Value}
theorem fg_mk (F : ZF Z cc Ts own rm) {idx ci j : Nat} {C : String} {T : u_T} {N : Nat} (hin : ∀ w ∈ u_ws C T N, w ∈ Ts) (hc : vwCl[ci]? = some (C, T, N)) (hj : j < N) (h1 : (T j).1 = C) (hl : Cond.fieldLink own idx C (T j).2.1 (T j).2.2.1 ∈ Ts) : FG Z idx ci j := ⟨C, T, N, own, Ts, hc, hj, F.hts, hin, F.ow, h1, F.hts _ hl⟩
theorem fp_mk (F : ZF Z cc Ts own rm) {idx ci j : Nat} {C : String} {T : u_T} {N : Nat} {ty : FieldType} (hin : ∀ w ∈ u_ws C T N, w ∈ Ts) {ty0 : Nat → FieldType} (hty : ∀ k, k < N → parseFieldDescriptor (T k).2.2.1 = some (ty0 k)) (hnm : ∀ a, a < N → ∀ b, b < N → a ≠ b → (T a).2.1 ≠ (T b).2.1) (hc : vwCl[ci]? = some (C, T, N)) (hj : j < N) (h1 : (T j).1 = C) (hl : Cond.fieldLink own idx C (T j).2.1 (T j).2.2.1 ∈ Ts) (hf : (T j).2.2.2 = false) (hd : parseFieldDescriptor (T j).2.2.1 = some ty) : FP Z idx ci j ty := ⟨C, T, N, own, Ts, ty0, hc, hj, F.hts, hin, F.ow, h1, F.hts _ hl, hty, hnm, hf, hd⟩
theorem jj_get (F : ZF Z cc Ts own rm) {idx ci j k : Nat} {fl : List Nat} (g : FG Z idx ci j) (hkd : kd k = .inl (ci, fl)) {v : Value} (hv : (lf (zE Z) M k 0 fl)[j]? = some v) (hd : decode cc pc = .ok (.getfield idx, 3)) (kk : JJ Z κ M (pc + 3) L (v :: st)) : JJ Z κ M pc L (.ref ((zE Z).2.2 k) :: st) := fun H locs ls a b c d => by
  obtain ⟨C, T, N, own, Ts, hc, hj, hts, hin, hown, h1, hl⟩ := g
  exact va_get F.x F.b hts hin hown F.K a k (lw_at _ _ (kd_obj hkd) (lc_obj _ _ hkd)) hc j hj hl (fun x hx => by rw [h1] at hx; exact hx) hv hd (kk H locs ls a b c d)
theorem jj_geti (F : ZF Z cc Ts own rm) {idx ci j k : Nat} {fl : List Nat} (g : FG Z idx ci j) (hkd : kd k = .inl (ci, fl)) (hj : fl[j]? = some 0) (hd : decode cc pc = .ok (.getfield idx, 3)) (kk : JJ Z κ M (pc + 3) L (.int (M.1 k j) :: st)) : JJ Z κ M pc L (.ref ((zE Z).2.2 k) :: st) :=
  jj_get F g hkd (by have := lf_get (zE Z) M k fl 0 j 0 hj; simpa using this) hd kk
theorem jj_getl (F : ZF Z cc Ts own rm) {idx ci j k : Nat} {fl : List Nat} (g : FG Z idx ci j) (hkd : kd k = .inl (ci, fl)) (hj : fl[j]? = some 1) (hd : decode cc pc = .ok (.getfield idx, 3)) (kk : JJ Z κ M (pc + 3) L (.long (M.2 k j) :: st)) : JJ Z κ M pc L (.ref ((zE Z).2.2 k) :: st) :=
  jj_get F g hkd (by have := lf_get (zE Z) M k fl 0 j 1 hj; simpa using this) hd kk
theorem jj_getr (F : ZF Z cc Ts own rm) {idx ci j k r : Nat} {fl : List Nat} (g : FG Z idx ci j) (hkd : kd k = .inl (ci, fl)) (hj : fl[j]? = some (r + 2)) (hd : decode cc pc = .ok (.getfield idx, 3)) (kk : JJ Z κ M (pc + 3) L (.ref ((zE Z).2.2 r) :: st)) : JJ Z κ M pc L (.ref ((zE Z).2.2 k) :: st) :=
  jj_get F g hkd (by have := lf_get (zE Z) M k fl 0 j (r + 2) hj; simpa using this) hd kk
theorem jj_puti0 (F : ZF Z cc Ts own rm) {idx ci j k : Nat} {fl : List Nat} {ty : FieldType} {x : Int32} (g : FP Z idx ci j ty) (hkd : kd k = .inl (ci, fl)) (hj : fl[j]? = some 0) (hn : narrow ty (.int x) = .int x) (hfit : fits ty (.int x) = true) (hd : decode cc pc = .ok (.putfield idx, 3)) (kk : JJ Z κ (wA M k (upd (M.1 k) j x)) (pc + 3) L st) : JJ Z κ M pc L (.int x :: .ref ((zE Z).2.2 k) :: st) := fun H locs ls a b c d => by
  obtain ⟨C, T, N, own, Ts, ty0, hc, hjN, hts, hin, hown, h1, hl, hty, hnm, hf, hpd⟩ := g
  refine va_put F.x F.b hts hin ty0 hty hnm hown F.K a b c k (lw_at _ _ (kd_obj hkd) (lc_obj _ _ hkd)) hc j hjN hl (fun x hx => by rw [h1] at hx; exact hx) hf hpd hn hfit (by rw [lf_len]; exact (List.getElem?_eq_some_iff.mp hj).1) hd (fun H1 locs1 a1 b1 c1 => ?_)
  have e : (lw (zE Z) M).set k ((zE Z).2.2 k, .inr (ci, (lf (zE Z) M k 0 fl).set j (.int x))) = lw (zE Z) (wA M k (upd (M.1 k) j x)) := lw_wA _ _ (by
    rw [lc_obj _ _ hkd, lf_setI (zE Z) M k x fl 0 j hj, Nat.zero_add])
  rw [e] at a1 b1
  exact kk H1 locs1 ls a1 b1 c1 d
theorem jj_puti (F : ZF Z cc Ts own rm) {idx ci j k : Nat} {fl : List Nat} {x : Int32} (g : FP Z idx ci j .int) (hkd : kd k = .inl (ci, fl)) (hj : fl[j]? = some 0) (hd : decode cc pc = .ok (.putfield idx, 3)) (kk : JJ Z κ (wA M k (upd (M.1 k) j x)) (pc + 3) L st) : JJ Z κ M pc L (.int x :: .ref ((zE Z).2.2 k) :: st) := jj_puti0 F g hkd hj rfl rfl hd kk
theorem jj_putz (F : ZF Z cc Ts own rm) {idx ci j k : Nat} {fl : List Nat} {x : Int32} (g : FP Z idx ci j .boolean) (hkd : kd k = .inl (ci, fl)) (hj : fl[j]? = some 0) (hx : x = 0 ∨ x = 1) (hd : decode cc pc = .ok (.putfield idx, 3)) (kk : JJ Z κ (wA M k (upd (M.1 k) j x)) (pc + 3) L st) : JJ Z κ M pc L (.int x :: .ref ((zE Z).2.2 k) :: st) := jj_puti0 F g hkd hj (by rcases hx with rfl | rfl <;> rfl) (by rcases hx with rfl | rfl <;> rfl) hd kk
theorem jj_putl (F : ZF Z cc Ts own rm) {idx ci j k : Nat} {fl : List Nat} {x : Int64} (g : FP Z idx ci j .long) (hkd : kd k = .inl (ci, fl)) (hj : fl[j]? = some 1) (hd : decode cc pc = .ok (.putfield idx, 3)) (kk : JJ Z κ (wL M k (vp_updL (M.2 k) j x)) (pc + 3) L st) : JJ Z κ M pc L (.long x :: .ref ((zE Z).2.2 k) :: st) := fun H locs ls a b c d => by
  obtain ⟨C, T, N, own, Ts, ty0, hc, hjN, hts, hin, hown, h1, hl, hty, hnm, hf, hpd⟩ := g
  refine va_put F.x F.b hts hin ty0 hty hnm hown F.K a b c k (lw_at _ _ (kd_obj hkd) (lc_obj _ _ hkd)) hc j hjN hl (fun x hx => by rw [h1] at hx; exact hx) hf hpd rfl rfl (by rw [lf_len]; exact (List.getElem?_eq_some_iff.mp hj).1) hd (fun H1 locs1 a1 b1 c1 => ?_)
  have e : (lw (zE Z) M).set k ((zE Z).2.2 k, .inr (ci, (lf (zE Z) M k 0 fl).set j (.long x))) = lw (zE Z) (wL M k (vp_updL (M.2 k) j x)) := lw_wL _ _ (by
    rw [lc_obj _ _ hkd, lf_setL (zE Z) M k x fl 0 j hj, Nat.zero_add])
  rw [e] at a1 b1
  exact kk H1 locs1 ls a1 b1 c1 d
theorem vp_inA {i : Int32} {a n : Nat} (hi : i = nI a) (ha : a < n) (hn : n ≤ 256) : vp_in i n ∧ i.toNatClampNeg = a := by
  subst hi
  exact ⟨vp_in_nI ha (by omega), nI_clamp (by omega)⟩

theorem jj_iald (F : ZF Z cc Ts own rm) {k n x0 y0 : Nat} {i : Int32} {q : Nat} (hkd : kd k = .inr (0, n, x0, y0)) (hi : i = nI q) (hq : q < n) (hd : decode cc pc = .ok (.iaload, 1)) (kk : JJ Z κ M (pc + 1) L (.int (M.1 k q) :: st)) : JJ Z κ M pc L (.int i :: .ref ((zE Z).2.2 k) :: st) := fun H locs ls a b c d => by
  obtain ⟨h1, h2⟩ := kd_arr hkd hq
  obtain ⟨h3, h4⟩ := vp_inA hi hq h2
  refine va_iald F.x F.b F.K a k 0 (lw_at _ _ h1 (lc_i _ _ hkd)) rfl h3 hd ?_
  rw [h4]
  exact kk H locs ls a b c d
theorem jj_iast (F : ZF Z cc Ts own rm) {k n x0 y0 : Nat} {i : Int32} {q : Nat} {x : Int32} (hkd : kd k = .inr (0, n, x0, y0)) (hi : i = nI q) (hq : q < n) (hd : decode cc pc = .ok (.iastore, 1)) (kk : JJ Z κ (wA M k (upd (M.1 k) q x)) (pc + 1) L st) : JJ Z κ M pc L (.int x :: .int i :: .ref ((zE Z).2.2 k) :: st) := fun H locs ls a b c d => by
  obtain ⟨h1, h2⟩ := kd_arr hkd hq
  obtain ⟨h3, h4⟩ := vp_inA hi hq h2
  refine va_iast F.x F.b F.K a b c k 0 (lw_at _ _ h1 (lc_i _ _ hkd)) rfl h3 hd (fun H1 locs1 a1 b1 c1 => ?_)
  rw [h4] at a1 b1
  rw [lw_wA (zE Z) M (g := upd (M.1 k) q x) (by rw [lc_i _ _ hkd, wA_s])] at a1 b1
  exact kk H1 locs1 ls a1 b1 c1 d
theorem jj_zald (F : ZF Z cc Ts own rm) {k n x0 y0 : Nat} {i : Int32} {q : Nat} (hkd : kd k = .inr (1, n, x0, y0)) (hi : i = nI q) (hq : q < n) (hd : decode cc pc = .ok (.baload, 1)) (kk : JJ Z κ M (pc + 1) L (.int (M.1 k q) :: st)) : JJ Z κ M pc L (.int i :: .ref ((zE Z).2.2 k) :: st) := fun H locs ls a b c d => by
  obtain ⟨h1, h2⟩ := kd_arr hkd hq
  obtain ⟨h3, h4⟩ := vp_inA hi hq h2
  refine va_zald F.x F.b F.K a k 1 (lw_at _ _ h1 (lc_z _ _ hkd)) rfl h3 hd ?_
  rw [h4]
  exact kk H locs ls a b c d
theorem jj_zast (F : ZF Z cc Ts own rm) {k n x0 y0 : Nat} {i : Int32} {q : Nat} {x : Int32} (hkd : kd k = .inr (1, n, x0, y0)) (hi : i = nI q) (hq : q < n) (hx : x = 0 ∨ x = 1) (hd : decode cc pc = .ok (.bastore, 1)) (kk : JJ Z κ (wA M k (upd (M.1 k) q x)) (pc + 1) L st) : JJ Z κ M pc L (.int x :: .int i :: .ref ((zE Z).2.2 k) :: st) := fun H locs ls a b c d => by
  obtain ⟨h1, h2⟩ := kd_arr hkd hq
  obtain ⟨h3, h4⟩ := vp_inA hi hq h2
  refine va_zast F.x F.b F.K a b c k 1 (lw_at _ _ h1 (lc_z _ _ hkd)) rfl h3 hd (fun H1 locs1 a1 b1 c1 => ?_)
  rw [h4] at a1 b1
  have hz : vp_nar .boolean x = x := by rcases hx with rfl | rfl <;> rfl
  rw [hz] at a1 b1
  rw [lw_wA (zE Z) M (g := upd (M.1 k) q x) (by rw [lc_z _ _ hkd, wA_s])] at a1 b1
  exact kk H1 locs1 ls a1 b1 c1 d
theorem jj_lald (F : ZF Z cc Ts own rm) {k n x0 y0 : Nat} {i : Int32} {q : Nat} (hkd : kd k = .inr (2, n, x0, y0)) (hi : i = nI q) (hq : q < n) (hd : decode cc pc = .ok (.laload, 1)) (kk : JJ Z κ M (pc + 1) L (.long (M.2 k q) :: st)) : JJ Z κ M pc L (.int i :: .ref ((zE Z).2.2 k) :: st) := fun H locs ls a b c d => by
  obtain ⟨h1, h2⟩ := kd_arr hkd hq
  obtain ⟨h3, h4⟩ := vp_inA hi hq h2
  refine va_lald F.x F.b F.K a k 2 (lw_at _ _ h1 (lc_l _ _ hkd)) rfl h3 hd ?_
  rw [h4]
  exact kk H locs ls a b c d
theorem jj_last (F : ZF Z cc Ts own rm) {k n x0 y0 : Nat} {i : Int32} {q : Nat} {x : Int64} (hkd : kd k = .inr (2, n, x0, y0)) (hi : i = nI q) (hq : q < n) (hd : decode cc pc = .ok (.lastore, 1)) (kk : JJ Z κ (wL M k (vp_updL (M.2 k) q x)) (pc + 1) L st) : JJ Z κ M pc L (.long x :: .int i :: .ref ((zE Z).2.2 k) :: st) := fun H locs ls a b c d => by
  obtain ⟨h1, h2⟩ := kd_arr hkd hq
  obtain ⟨h3, h4⟩ := vp_inA hi hq h2
  refine va_last F.x F.b F.K a b c k 2 (lw_at _ _ h1 (lc_l _ _ hkd)) rfl h3 hd (fun H1 locs1 a1 b1 c1 => ?_)
  rw [h4] at a1 b1
  rw [lw_wL (zE Z) M (g := vp_updL (M.2 k) q x) (by rw [lc_l _ _ hkd, wL_s])] at a1 b1
  exact kk H1 locs1 ls a1 b1 c1 d
theorem jj_aald (F : ZF Z cc Ts own rm) {k t n x0 y0 : Nat} {i : Int32} {q : Nat} (hkd : kd k = .inr (t + 3, n, x0, y0)) (hi : i = nI q) (hq : q < n) (hd : decode cc pc = .ok (.aaload, 1)) (kk : JJ Z κ M (pc + 1) L (.ref ((zE Z).2.2 (x0 + y0 * q)) :: st)) : JJ Z κ M pc L (.int i :: .ref ((zE Z).2.2 k) :: st) := fun H locs ls a b c d => by
  obtain ⟨h1, h2⟩ := kd_arr hkd hq
  obtain ⟨h3, h4⟩ := vp_inA hi hq h2
  have h5 := kd_lt505 k h1
  rw [hkd] at h5
  simp only [kdOk, Bool.and_eq_true, decide_eq_true_eq] at h5
  have h6 : t + 3 < 6 := h5.1
  have hty : ∃ C : String, (ltys (zE Z))[3 + t]? = some ((zE Z).2.1.2.2.2 t, .object C) := by
    match t, h6 with
    | 0, _ => exact ⟨_, rfl⟩
    | 1, _ => exact ⟨_, rfl⟩
    | 2, _ => exact ⟨_, rfl⟩
    | t + 3, h => omega
  obtain ⟨C, hty⟩ := hty
  refine va_aldq F.x F.b F.K a k (3 + t) (lw_at _ _ h1 (lc_r _ _ hkd)) hty h3 hd ?_
  rw [h4]
  exact kk H locs ls a b c d
end JH
/-! contracts -/
def GB (E : Ee) (A : Nat → Prop) (M : Mm) (t : State) : Prop := va_P E.1 vwCl (lw E M) t.heap ∧ va_K E.1 vwCl (ltys E) t ∧ va_D A (lw E M)
def AA (E : Ee) (sz : Nat) : Nat → Prop := fun q => (∃ k, k < 505 ∧ q = E.2.2 k) ∨ sz ≤ q
def PB (E : Ee) (M : Mm) (sz : Nat) (av : List Value) : Array Value → State → Prop := va_Pc av (fun U => U.heap.size = sz ∧ GB E (fun _ => True) M U)
def CtI (l : Launch) (E : Ee) (y : MethodName) (ws : List Cond) (rm : Room) (M : Mm) (av : List Value) (mc ms : Nat) (post : Int32 → Mm → Prop) : Prop := ∀ sz, Met l y ws rm (PB E M sz av) (va_Qi post (GB E (AA E sz)) (AA E sz)) mc ms (AA E sz)
def CtL (l : Launch) (E : Ee) (y : MethodName) (ws : List Cond) (rm : Room) (M : Mm) (av : List Value) (mc ms : Nat) (post : Int64 → Mm → Prop) : Prop := ∀ sz, Met l y ws rm (PB E M sz av) (va_Ql post (GB E (AA E sz)) (AA E sz)) mc ms (AA E sz)
def CtV (l : Launch) (E : Ee) (y : MethodName) (ws : List Cond) (rm : Room) (M : Mm) (av : List Value) (mc ms : Nat) (post : Mm → Prop) : Prop := ∀ sz, Met l y ws rm (PB E M sz av) (va_Qv post (GB E (AA E sz)) (AA E sz)) mc ms (AA E sz)
def CtR (l : Launch) (E : Ee) (y : MethodName) (ws : List Cond) (rm : Room) (M : Mm) (av : List Value) (mc ms : Nat) (post : Mm × Nat → Prop) : Prop := ∀ sz, Met l y ws rm (PB E M sz av) (va_Qr post (fun u a t => a = E.2.2 u.2 ∧ GB E (AA E sz) u.1 t) (AA E sz)) mc ms (AA E sz)
theorem gb_blind {E : Ee} {M : Mm} {sz : Nat} {av : List Value} : FrameBlind (PB E M sz av) := fun a U g mk q => by
  obtain ⟨q0, q1, qP, qK, qD⟩ := q
  exact ⟨q0, q1, qP, va_K.moved (u := U) (U := U.calling g mk a) (Vm.Alike.refl U.vm) qK, qD⟩
theorem aa_D {E : Ee} {A : Nat → Prop} {M : Mm} {sz : Nat} (h : va_D A (lw E M)) : va_D (AA E sz) (lw E M) := ⟨h.1, fun k q hq => by
  have hk : k < 505 := by have := (List.getElem?_eq_some_iff.mp hq).1; rw [lw_len] at this; exact this
  rw [lw_get E M hk] at hq
  cases hq
  exact Or.inl ⟨k, hk, rfl⟩⟩
theorem aa_N {E : Ee} {A : Nat → Prop} {M : Mm} (hN : ∀ k, k < 505 → A (E.2.2 k)) {B : Nat → Prop} (h : va_D B (lw E M)) : va_D A (lw E M) := ⟨h.1, fun k q hq => by
  have hk : k < 505 := by have := (List.getElem?_eq_some_iff.mp hq).1; rw [lw_len] at this; exact this
  rw [lw_get E M hk] at hq
  cases hq
  exact hN k hk⟩
section JC
variable {Z : Zt} {cc : ByteArray} {Ts : List Cond} {own : String} {rm : Room} {κ : Nat × Nat} {M : Mm} {pc : Nat} {L : List (Option Value)} {st stk : List Value}
variable {y : MethodName} {wsy wsy' : List Cond} {rmy : Room} {bytes : ByteArray} {maxL idx ci k mc ms na : Nat} {ret : Option FieldType} {As : List Value} {C : String} {T : u_T} {N : Nat} {fl : List Nat}
theorem zf_free (F : ZF Z cc Ts own rm) {H : Heap} {locs : List Loc} (c : va_S (zA Z) (zH Z) H locs) : ∀ q, AA (zE Z) H.size q → zA Z q := fun q h => by
  rcases h with ⟨k, hk, rfl⟩ | h
  · exact F.N k hk
  · exact F.A q (Nat.le_trans c.1 h)

theorem jj_callVi (F : ZF Z cc Ts own rm) {post : Int32 → Mm → Prop} (hM : CtI (zl Z) (zE Z) y wsy rmy M (.ref ((zE Z).2.2 k) :: As) mc ms post) (hG : GoodIn Ts (wsV own idx C y wsy)) (hw : wsy = Cond.code y bytes maxL ret :: wsy') (hrc : rmy.cells = mc) (hrs : rmy.slots = ms) (hd0 : y.cls = C ∧ y.cls ≠ "java/lang/invoke/MethodHandle" ∧ y.cls ≠ "java/lang/invoke/VarHandle" ∧ (parseMethodDescriptor y.desc).map (fun d => d.parameters.length) = some na) (hR : rmy.frames + 1 ≤ rm.frames ∧ 8 + (maxL + 11) + rmy.locals ≤ rm.locals) (hkd : kd k = .inl (ci, fl)) (hc : vwCl[ci]? = some (C, T, N)) (hna : As.length = na) (hst : stk = As.reverse ++ .ref ((zE Z).2.2 k) :: st) (hW : (st.map fun v => v.category).sum ≤ 8) (hro : κ.1 + mc ≤ rm.cells ∧ κ.2 + ms ≤ rm.slots) (hd : decode cc pc = .ok (.invokevirtual idx, 3)) (kk : ∀ r M2, post r M2 → JJ Z (κ.1 + mc, κ.2 + ms) M2 (pc + 3) L (.int r :: st)) : JJ Z κ M pc L stk := fun H locs ls a b c d => by
  refine va_calli (va_runV F.1 (hM H.size) (cwV na F.hts hG hw hrc hrs hd0 (by rw [F.R]; exact hR)) ⟨gb_blind, va_recv F.K a hc (lw_at _ _ (kd_obj hkd) (lc_obj _ _ hkd)), fun U hU hW1 => ⟨rfl, by rw [hU], by rw [hU]; exact a, va_K.moved hW1.alike F.K, ⟨b.1, fun _ _ _ => trivial⟩⟩⟩ rfl hna d.1 hst (lv_room hW) hd (by rw [F.R]; exact hro)) c (fun q _ h => zf_free F c q h) (zf_free F c) (fun r u t H1 locs1 ht hvm hw1 hB hz1 hk1 hS => ?_)
  obtain ⟨qP, qK, qD⟩ := hB
  rw [ht] at qP
  exact kk r u hw1 H1 locs1 ls qP (aa_N F.N qD) hS d
theorem jj_callSi (F : ZF Z cc Ts own rm) {post : Int32 → Mm → Prop} (hM : CtI (zl Z) (zE Z) y wsy rmy M As mc ms post) (hG : GoodIn Ts (va_wsS own idx y wsy)) (hw : wsy = Cond.code y bytes maxL ret :: wsy') (hrc : rmy.cells = mc) (hrs : rmy.slots = ms) (hd0 : y.cls ≠ "java/lang/invoke/MethodHandle" ∧ y.cls ≠ "java/lang/invoke/VarHandle" ∧ (parseMethodDescriptor y.desc).map (fun d => d.parameters.length) = some na) (hR : rmy.frames + 1 ≤ rm.frames ∧ 8 + (maxL + 11) + rmy.locals ≤ rm.locals) (hna : As.length = na) (hst : stk = As.reverse ++ st) (hW : (st.map fun v => v.category).sum ≤ 8) (hro : κ.1 + mc ≤ rm.cells ∧ κ.2 + ms ≤ rm.slots) (hd : decode cc pc = .ok (.invokestatic idx, 3)) (kk : ∀ r M2, post r M2 → JJ Z (κ.1 + mc, κ.2 + ms) M2 (pc + 3) L (.int r :: st)) : JJ Z κ M pc L stk := fun H locs ls a b c d => by
  refine va_calli (va_runS F.1 (hM H.size) (va_cwS na F.hts hG hw hrc hrs hd0 (by rw [F.R]; exact hR)) ⟨gb_blind, fun U hU hW1 => ⟨rfl, by rw [hU], by rw [hU]; exact a, va_K.moved hW1.alike F.K, ⟨b.1, fun _ _ _ => trivial⟩⟩⟩ rfl hna d.1 hst (lv_room hW) hd (by rw [F.R]; exact hro)) c (fun q _ h => zf_free F c q h) (zf_free F c) (fun r u t H1 locs1 ht hvm hw1 hB hz1 hk1 hS => ?_)
  obtain ⟨qP, qK, qD⟩ := hB
  rw [ht] at qP
  exact kk r u hw1 H1 locs1 ls qP (aa_N F.N qD) hS d
theorem jj_callVl (F : ZF Z cc Ts own rm) {post : Int64 → Mm → Prop} (hM : CtL (zl Z) (zE Z) y wsy rmy M (.ref ((zE Z).2.2 k) :: As) mc ms post) (hG : GoodIn Ts (wsV own idx C y wsy)) (hw : wsy = Cond.code y bytes maxL ret :: wsy') (hrc : rmy.cells = mc) (hrs : rmy.slots = ms) (hd0 : y.cls = C ∧ y.cls ≠ "java/lang/invoke/MethodHandle" ∧ y.cls ≠ "java/lang/invoke/VarHandle" ∧ (parseMethodDescriptor y.desc).map (fun d => d.parameters.length) = some na) (hR : rmy.frames + 1 ≤ rm.frames ∧ 8 + (maxL + 11) + rmy.locals ≤ rm.locals) (hkd : kd k = .inl (ci, fl)) (hc : vwCl[ci]? = some (C, T, N)) (hna : As.length = na) (hst : stk = As.reverse ++ .ref ((zE Z).2.2 k) :: st) (hW : (st.map fun v => v.category).sum ≤ 8) (hro : κ.1 + mc ≤ rm.cells ∧ κ.2 + ms ≤ rm.slots) (hd : decode cc pc = .ok (.invokevirtual idx, 3)) (kk : ∀ r M2, post r M2 → JJ Z (κ.1 + mc, κ.2 + ms) M2 (pc + 3) L (.long r :: st)) : JJ Z κ M pc L stk := fun H locs ls a b c d => by
  refine va_calll (va_runV F.1 (hM H.size) (cwV na F.hts hG hw hrc hrs hd0 (by rw [F.R]; exact hR)) ⟨gb_blind, va_recv F.K a hc (lw_at _ _ (kd_obj hkd) (lc_obj _ _ hkd)), fun U hU hW1 => ⟨rfl, by rw [hU], by rw [hU]; exact a, va_K.moved hW1.alike F.K, ⟨b.1, fun _ _ _ => trivial⟩⟩⟩ rfl hna d.1 hst (lv_room hW) hd (by rw [F.R]; exact hro)) c (fun q _ h => zf_free F c q h) (zf_free F c) (fun r u t H1 locs1 ht hvm hw1 hB hz1 hk1 hS => ?_)
  obtain ⟨qP, qK, qD⟩ := hB
  rw [ht] at qP
  exact kk r u hw1 H1 locs1 ls qP (aa_N F.N qD) hS d
theorem jj_callSl (F : ZF Z cc Ts own rm) {post : Int64 → Mm → Prop} (hM : CtL (zl Z) (zE Z) y wsy rmy M As mc ms post) (hG : GoodIn Ts (va_wsS own idx y wsy)) (hw : wsy = Cond.code y bytes maxL ret :: wsy') (hrc : rmy.cells = mc) (hrs : rmy.slots = ms) (hd0 : y.cls ≠ "java/lang/invoke/MethodHandle" ∧ y.cls ≠ "java/lang/invoke/VarHandle" ∧ (parseMethodDescriptor y.desc).map (fun d => d.parameters.length) = some na) (hR : rmy.frames + 1 ≤ rm.frames ∧ 8 + (maxL + 11) + rmy.locals ≤ rm.locals) (hna : As.length = na) (hst : stk = As.reverse ++ st) (hW : (st.map fun v => v.category).sum ≤ 8) (hro : κ.1 + mc ≤ rm.cells ∧ κ.2 + ms ≤ rm.slots) (hd : decode cc pc = .ok (.invokestatic idx, 3)) (kk : ∀ r M2, post r M2 → JJ Z (κ.1 + mc, κ.2 + ms) M2 (pc + 3) L (.long r :: st)) : JJ Z κ M pc L stk := fun H locs ls a b c d => by
  refine va_calll (va_runS F.1 (hM H.size) (va_cwS na F.hts hG hw hrc hrs hd0 (by rw [F.R]; exact hR)) ⟨gb_blind, fun U hU hW1 => ⟨rfl, by rw [hU], by rw [hU]; exact a, va_K.moved hW1.alike F.K, ⟨b.1, fun _ _ _ => trivial⟩⟩⟩ rfl hna d.1 hst (lv_room hW) hd (by rw [F.R]; exact hro)) c (fun q _ h => zf_free F c q h) (zf_free F c) (fun r u t H1 locs1 ht hvm hw1 hB hz1 hk1 hS => ?_)
  obtain ⟨qP, qK, qD⟩ := hB
  rw [ht] at qP
  exact kk r u hw1 H1 locs1 ls qP (aa_N F.N qD) hS d
theorem jj_callVv (F : ZF Z cc Ts own rm) {post : Mm → Prop} (hM : CtV (zl Z) (zE Z) y wsy rmy M (.ref ((zE Z).2.2 k) :: As) mc ms post) (hG : GoodIn Ts (wsV own idx C y wsy)) (hw : wsy = Cond.code y bytes maxL ret :: wsy') (hrc : rmy.cells = mc) (hrs : rmy.slots = ms) (hd0 : y.cls = C ∧ y.cls ≠ "java/lang/invoke/MethodHandle" ∧ y.cls ≠ "java/lang/invoke/VarHandle" ∧ (parseMethodDescriptor y.desc).map (fun d => d.parameters.length) = some na) (hR : rmy.frames + 1 ≤ rm.frames ∧ 8 + (maxL + 11) + rmy.locals ≤ rm.locals) (hkd : kd k = .inl (ci, fl)) (hc : vwCl[ci]? = some (C, T, N)) (hna : As.length = na) (hst : stk = As.reverse ++ .ref ((zE Z).2.2 k) :: st) (hW : (st.map fun v => v.category).sum ≤ 8) (hro : κ.1 + mc ≤ rm.cells ∧ κ.2 + ms ≤ rm.slots) (hd : decode cc pc = .ok (.invokevirtual idx, 3)) (kk : ∀ M2, post M2 → JJ Z (κ.1 + mc, κ.2 + ms) M2 (pc + 3) L st) : JJ Z κ M pc L stk := fun H locs ls a b c d => by
  refine va_callv (va_runV F.1 (hM H.size) (cwV na F.hts hG hw hrc hrs hd0 (by rw [F.R]; exact hR)) ⟨gb_blind, va_recv F.K a hc (lw_at _ _ (kd_obj hkd) (lc_obj _ _ hkd)), fun U hU hW1 => ⟨rfl, by rw [hU], by rw [hU]; exact a, va_K.moved hW1.alike F.K, ⟨b.1, fun _ _ _ => trivial⟩⟩⟩ rfl hna d.1 hst (lv_room hW) hd (by rw [F.R]; exact hro)) c (fun q _ h => zf_free F c q h) (zf_free F c) (fun u t H1 locs1 ht hvm hw1 hB hz1 hk1 hS => ?_)
  obtain ⟨qP, qK, qD⟩ := hB
  rw [ht] at qP
  exact kk u hw1 H1 locs1 ls qP (aa_N F.N qD) hS d
theorem jj_callVr (F : ZF Z cc Ts own rm) {post : Mm × Nat → Prop} (hM : CtR (zl Z) (zE Z) y wsy rmy M (.ref ((zE Z).2.2 k) :: As) mc ms post) (hG : GoodIn Ts (wsV own idx C y wsy)) (hw : wsy = Cond.code y bytes maxL ret :: wsy') (hrc : rmy.cells = mc) (hrs : rmy.slots = ms) (hd0 : y.cls = C ∧ y.cls ≠ "java/lang/invoke/MethodHandle" ∧ y.cls ≠ "java/lang/invoke/VarHandle" ∧ (parseMethodDescriptor y.desc).map (fun d => d.parameters.length) = some na) (hR : rmy.frames + 1 ≤ rm.frames ∧ 8 + (maxL + 11) + rmy.locals ≤ rm.locals) (hkd : kd k = .inl (ci, fl)) (hc : vwCl[ci]? = some (C, T, N)) (hna : As.length = na) (hst : stk = As.reverse ++ .ref ((zE Z).2.2 k) :: st) (hW : (st.map fun v => v.category).sum ≤ 8) (hro : κ.1 + mc ≤ rm.cells ∧ κ.2 + ms ≤ rm.slots) (hd : decode cc pc = .ok (.invokevirtual idx, 3)) (kk : ∀ (M2 : Mm) (r : Nat), post (M2, r) → JJ Z (κ.1 + mc, κ.2 + ms) M2 (pc + 3) L (.ref ((zE Z).2.2 r) :: st)) : JJ Z κ M pc L stk := fun H locs ls a b c d => by
  refine va_callr (va_runV F.1 (hM H.size) (cwV na F.hts hG hw hrc hrs hd0 (by rw [F.R]; exact hR)) ⟨gb_blind, va_recv F.K a hc (lw_at _ _ (kd_obj hkd) (lc_obj _ _ hkd)), fun U hU hW1 => ⟨rfl, by rw [hU], by rw [hU]; exact a, va_K.moved hW1.alike F.K, ⟨b.1, fun _ _ _ => trivial⟩⟩⟩ rfl hna d.1 hst (lv_room hW) hd (by rw [F.R]; exact hro)) c (fun q _ h => zf_free F c q h) (zf_free F c) (fun u aq t H1 locs1 ht hvm hw1 hB hz1 hk1 hS => ?_)
  obtain ⟨rfl, qP, qK, qD⟩ := hB
  rw [ht] at qP
  exact kk u.1 u.2 hw1 H1 locs1 ls qP (aa_N F.N qD) hS d
theorem jj_callSv (F : ZF Z cc Ts own rm) {post : Mm → Prop} (hM : CtV (zl Z) (zE Z) y wsy rmy M As mc ms post) (hG : GoodIn Ts (va_wsS own idx y wsy)) (hw : wsy = Cond.code y bytes maxL ret :: wsy') (hrc : rmy.cells = mc) (hrs : rmy.slots = ms) (hd0 : y.cls ≠ "java/lang/invoke/MethodHandle" ∧ y.cls ≠ "java/lang/invoke/VarHandle" ∧ (parseMethodDescriptor y.desc).map (fun d => d.parameters.length) = some na) (hR : rmy.frames + 1 ≤ rm.frames ∧ 8 + (maxL + 11) + rmy.locals ≤ rm.locals) (hna : As.length = na) (hst : stk = As.reverse ++ st) (hW : (st.map fun v => v.category).sum ≤ 8) (hro : κ.1 + mc ≤ rm.cells ∧ κ.2 + ms ≤ rm.slots) (hd : decode cc pc = .ok (.invokestatic idx, 3)) (kk : ∀ M2, post M2 → JJ Z (κ.1 + mc, κ.2 + ms) M2 (pc + 3) L st) : JJ Z κ M pc L stk := fun H locs ls a b c d => by
  refine va_callv (va_runS F.1 (hM H.size) (va_cwS na F.hts hG hw hrc hrs hd0 (by rw [F.R]; exact hR)) ⟨gb_blind, fun U hU hW1 => ⟨rfl, by rw [hU], by rw [hU]; exact a, va_K.moved hW1.alike F.K, ⟨b.1, fun _ _ _ => trivial⟩⟩⟩ rfl hna d.1 hst (lv_room hW) hd (by rw [F.R]; exact hro)) c (fun q _ h => zf_free F c q h) (zf_free F c) (fun u t H1 locs1 ht hvm hw1 hB hz1 hk1 hS => ?_)
  obtain ⟨qP, qK, qD⟩ := hB
  rw [ht] at qP
  exact kk u hw1 H1 locs1 ls qP (aa_N F.N qD) hS d
theorem jj_callSr (F : ZF Z cc Ts own rm) {post : Mm × Nat → Prop} (hM : CtR (zl Z) (zE Z) y wsy rmy M As mc ms post) (hG : GoodIn Ts (va_wsS own idx y wsy)) (hw : wsy = Cond.code y bytes maxL ret :: wsy') (hrc : rmy.cells = mc) (hrs : rmy.slots = ms) (hd0 : y.cls ≠ "java/lang/invoke/MethodHandle" ∧ y.cls ≠ "java/lang/invoke/VarHandle" ∧ (parseMethodDescriptor y.desc).map (fun d => d.parameters.length) = some na) (hR : rmy.frames + 1 ≤ rm.frames ∧ 8 + (maxL + 11) + rmy.locals ≤ rm.locals) (hna : As.length = na) (hst : stk = As.reverse ++ st) (hW : (st.map fun v => v.category).sum ≤ 8) (hro : κ.1 + mc ≤ rm.cells ∧ κ.2 + ms ≤ rm.slots) (hd : decode cc pc = .ok (.invokestatic idx, 3)) (kk : ∀ (M2 : Mm) (r : Nat), post (M2, r) → JJ Z (κ.1 + mc, κ.2 + ms) M2 (pc + 3) L (.ref ((zE Z).2.2 r) :: st)) : JJ Z κ M pc L stk := fun H locs ls a b c d => by
  refine va_callr (va_runS F.1 (hM H.size) (va_cwS na F.hts hG hw hrc hrs hd0 (by rw [F.R]; exact hR)) ⟨gb_blind, fun U hU hW1 => ⟨rfl, by rw [hU], by rw [hU]; exact a, va_K.moved hW1.alike F.K, ⟨b.1, fun _ _ _ => trivial⟩⟩⟩ rfl hna d.1 hst (lv_room hW) hd (by rw [F.R]; exact hro)) c (fun q _ h => zf_free F c q h) (zf_free F c) (fun u aq t H1 locs1 ht hvm hw1 hB hz1 hk1 hS => ?_)
  obtain ⟨rfl, qP, qK, qD⟩ := hB
  rw [ht] at qP
  exact kk u.1 u.2 hw1 H1 locs1 ls qP (aa_N F.N qD) hS d
end JC
theorem ctI_of {l : Launch} {E : Ee} {y : MethodName} {ws ws' : List Cond} {rm : Room} {M : Mm} {av : List Value} {mc ms : Nat} {post : Int32 → Mm → Prop} {cc : ByteArray} {maxL : Nat} {ty : FieldType} (hy : plainName y.cls = true) (hw : ws = Cond.code y cc maxL (some ty) :: ws') (hav : (lg_sl av).length ≤ maxL) {L0 : List (Option Value)} (hL : lq_pr 0 L0 = lv_args 0 av)
    (body : ∀ Z : Zt, zl Z = l → zE Z = E → zn Z = maxL → ZF Z cc ws y.cls rm → (∀ (pc : Nat) (r : Int32) (M2 : Mm) (L : List (Option Value)), decode cc pc = .ok (.ireturn, 1) → narrow ty (.int r) = .int r → post r M2 → JJ Z (mc, ms) M2 pc L [.int r]) → JJ Z (0, 0) M 0 L0 []) : CtI l E y ws rm M av mc ms post := by
  intro sz
  refine Met.ofW (cc := cc) (maxL := maxL) (ret := (some ty)) hy hw ?_
  intro p e s m args below meth c s₁ B hml hv
  obtain ⟨rfl, hsz, hP, hK, hD0⟩ := hv
  have hx := B.exec
  have hb := B.bytes
  have hr := B.returns
  have hts := atoms_spec (ws := ws) B.pre
  have hown : s.vm.findClass y.cls = some m.cls := findClass_of_methodNamed B.named
  have hlocks := B.notSynchronized
  subst hsz
  have hl := lv_entry av (n := maxL) hav
  rw [lg_entry_eq]
  generalize (lg_sl av ++ List.replicate (maxL - (lg_sl av).length) Slot.unset).toArray = ls at hl ⊢
  rw [← hL] at hl
  refine body ((p, l, e, (headSpec ws rm).room, s, m, av.toArray, below, meth, c), (E, AA E s.heap.size, s.heap, MQ below (va_Qi post (GB E (AA E s.heap.size)) (AA E s.heap.size)) av.toArray s mc ms (AA E s.heap.size), maxL)) rfl rfl rfl ⟨⟨hx, hb, hml, hown, hts⟩, hK, fun q h => Or.inr h, rfl, fun k hk => Or.inl ⟨k, hk, rfl⟩⟩ ?_ s.heap [] ls hP (aa_D hD0) va_S.rf (lq_of hl)
  · intro pc r M2 L hd hn hpost H locs ls a b c d
    exact W.zret hx hb hr hn (fun t ht hW => ⟨⟨r, M2, rfl, hpost, by rw [ht]; exact a, va_K.moved hW.alike hK, b⟩, c.F ht⟩) c.2.2 hd
theorem ctL_of {l : Launch} {E : Ee} {y : MethodName} {ws ws' : List Cond} {rm : Room} {M : Mm} {av : List Value} {mc ms : Nat} {post : Int64 → Mm → Prop} {cc : ByteArray} {maxL : Nat} (hy : plainName y.cls = true) (hw : ws = Cond.code y cc maxL (some .long) :: ws') (hav : (lg_sl av).length ≤ maxL) {L0 : List (Option Value)} (hL : lq_pr 0 L0 = lv_args 0 av)
    (body : ∀ Z : Zt, zl Z = l → zE Z = E → zn Z = maxL → ZF Z cc ws y.cls rm → (∀ (pc : Nat) (r : Int64) (M2 : Mm) (L : List (Option Value)), decode cc pc = .ok (.lreturn, 1) → post r M2 → JJ Z (mc, ms) M2 pc L [.long r]) → JJ Z (0, 0) M 0 L0 []) : CtL l E y ws rm M av mc ms post := by
  intro sz
  refine Met.ofW (cc := cc) (maxL := maxL) (ret := (some .long)) hy hw ?_
  intro p e s m args below meth c s₁ B hml hv
  obtain ⟨rfl, hsz, hP, hK, hD0⟩ := hv
  have hx := B.exec
  have hb := B.bytes
  have hr := B.returns
  have hts := atoms_spec (ws := ws) B.pre
  have hown : s.vm.findClass y.cls = some m.cls := findClass_of_methodNamed B.named
  have hlocks := B.notSynchronized
  subst hsz
  have hl := lv_entry av (n := maxL) hav
  rw [lg_entry_eq]
  generalize (lg_sl av ++ List.replicate (maxL - (lg_sl av).length) Slot.unset).toArray = ls at hl ⊢
  rw [← hL] at hl
  refine body ((p, l, e, (headSpec ws rm).room, s, m, av.toArray, below, meth, c), (E, AA E s.heap.size, s.heap, MQ below (va_Ql post (GB E (AA E s.heap.size)) (AA E s.heap.size)) av.toArray s mc ms (AA E s.heap.size), maxL)) rfl rfl rfl ⟨⟨hx, hb, hml, hown, hts⟩, hK, fun q h => Or.inr h, rfl, fun k hk => Or.inl ⟨k, hk, rfl⟩⟩ ?_ s.heap [] ls hP (aa_D hD0) va_S.rf (lq_of hl)
  · intro pc r M2 L hd hpost H locs ls a b c d
    exact W.lret hx hb hr (fun t ht hW => ⟨⟨r, M2, rfl, hpost, by rw [ht]; exact a, va_K.moved hW.alike hK, b⟩, c.F ht⟩) c.2.2 hd
theorem ctV_of {l : Launch} {E : Ee} {y : MethodName} {ws ws' : List Cond} {rm : Room} {M : Mm} {av : List Value} {mc ms : Nat} {post : Mm → Prop} {cc : ByteArray} {maxL : Nat} (hy : plainName y.cls = true) (hw : ws = Cond.code y cc maxL none :: ws') (hav : (lg_sl av).length ≤ maxL) {L0 : List (Option Value)} (hL : lq_pr 0 L0 = lv_args 0 av)
    (body : ∀ Z : Zt, zl Z = l → zE Z = E → zn Z = maxL → ZF Z cc ws y.cls rm → (∀ (pc : Nat) (M2 : Mm) (L : List (Option Value)), decode cc pc = .ok (.return_, 1) → post M2 → JJ Z (mc, ms) M2 pc L []) → JJ Z (0, 0) M 0 L0 []) : CtV l E y ws rm M av mc ms post := by
  intro sz
  refine Met.ofW (cc := cc) (maxL := maxL) (ret := none) hy hw ?_
  intro p e s m args below meth c s₁ B hml hv
  obtain ⟨rfl, hsz, hP, hK, hD0⟩ := hv
  have hx := B.exec
  have hb := B.bytes
  have hr := B.returns
  have hts := atoms_spec (ws := ws) B.pre
  have hown : s.vm.findClass y.cls = some m.cls := findClass_of_methodNamed B.named
  have hlocks := B.notSynchronized
  subst hsz
  have hl := lv_entry av (n := maxL) hav
  rw [lg_entry_eq]
  generalize (lg_sl av ++ List.replicate (maxL - (lg_sl av).length) Slot.unset).toArray = ls at hl ⊢
  rw [← hL] at hl
  refine body ((p, l, e, (headSpec ws rm).room, s, m, av.toArray, below, meth, c), (E, AA E s.heap.size, s.heap, MQ below (va_Qv post (GB E (AA E s.heap.size)) (AA E s.heap.size)) av.toArray s mc ms (AA E s.heap.size), maxL)) rfl rfl rfl ⟨⟨hx, hb, hml, hown, hts⟩, hK, fun q h => Or.inr h, rfl, fun k hk => Or.inl ⟨k, hk, rfl⟩⟩ ?_ s.heap [] ls hP (aa_D hD0) va_S.rf (lq_of hl)
  · intro pc M2 L hd hpost H locs ls a b c d
    exact W.vret hx hb hr (fun t ht hW => ⟨⟨M2, rfl, hpost, by rw [ht]; exact a, va_K.moved hW.alike hK, b⟩, c.F ht⟩) c.2.2 hd
theorem ctR_of {l : Launch} {E : Ee} {y : MethodName} {ws ws' : List Cond} {rm : Room} {M : Mm} {av : List Value} {mc ms : Nat} {post : Mm × Nat → Prop} {cc : ByteArray} {maxL : Nat} {ty : FieldType} (hty : ∃ n, ty = .object n) (hy : plainName y.cls = true) (hw : ws = Cond.code y cc maxL (some ty) :: ws') (hav : (lg_sl av).length ≤ maxL) {L0 : List (Option Value)} (hL : lq_pr 0 L0 = lv_args 0 av)
    (body : ∀ Z : Zt, zl Z = l → zE Z = E → zn Z = maxL → ZF Z cc ws y.cls rm → (∀ (pc : Nat) (r : Nat) (M2 : Mm) (L : List (Option Value)), decode cc pc = .ok (.areturn, 1) → post (M2, r) → JJ Z (mc, ms) M2 pc L [.ref (E.2.2 r)]) → JJ Z (0, 0) M 0 L0 []) : CtR l E y ws rm M av mc ms post := by
  intro sz
  refine Met.ofW (cc := cc) (maxL := maxL) (ret := (some ty)) hy hw ?_
  intro p e s m args below meth c s₁ B hml hv
  obtain ⟨rfl, hsz, hP, hK, hD0⟩ := hv
  have hx := B.exec
  have hb := B.bytes
  have hr := B.returns
  have hts := atoms_spec (ws := ws) B.pre
  have hown : s.vm.findClass y.cls = some m.cls := findClass_of_methodNamed B.named
  have hlocks := B.notSynchronized
  subst hsz
  have hl := lv_entry av (n := maxL) hav
  rw [lg_entry_eq]
  generalize (lg_sl av ++ List.replicate (maxL - (lg_sl av).length) Slot.unset).toArray = ls at hl ⊢
  rw [← hL] at hl
  refine body ((p, l, e, (headSpec ws rm).room, s, m, av.toArray, below, meth, c), (E, AA E s.heap.size, s.heap, MQ below (va_Qr post (fun u a t => a = E.2.2 u.2 ∧ GB E (AA E s.heap.size) u.1 t) (AA E s.heap.size)) av.toArray s mc ms (AA E s.heap.size), maxL)) rfl rfl rfl ⟨⟨hx, hb, hml, hown, hts⟩, hK, fun q h => Or.inr h, rfl, fun k hk => Or.inl ⟨k, hk, rfl⟩⟩ ?_ s.heap [] ls hP (aa_D hD0) va_S.rf (lq_of hl)
  · intro pc r M2 L hd hpost H locs ls a b c d
    exact W.aret hx hb hr (Or.inl hty) (Or.inr ⟨_, rfl⟩) (fun t ht hW => ⟨⟨(M2, r), E.2.2 r, rfl, hpost, rfl, by rw [ht]; exact a, va_K.moved hW.alike hK, b⟩, c.F ht⟩) c.2.2 hd
end
section
theorem dX0_init_0 : decode cX0_init 0 = .ok (.aload_n 0, 1) := by decide +kernel
theorem dX0_init_1 : decode cX0_init 1 = .ok (.invokespecial 3, 3) := by decide +kernel
theorem dX0_init_4 : decode cX0_init 4 = .ok (.aload_n 0, 1) := by decide +kernel
theorem dX0_init_5 : decode cX0_init 5 = .ok (.bipush 16, 2) := by decide +kernel
theorem dX0_init_7 : decode cX0_init 7 = .ok (.newarray .int, 2) := by decide +kernel
theorem dX0_init_9 : decode cX0_init 9 = .ok (.putfield 9, 3) := by decide +kernel
theorem dX0_init_12 : decode cX0_init 12 = .ok (.return_, 1) := by decide +kernel
theorem dX0_becomeEmpty_0 : decode cX0_becomeEmpty 0 = .ok (.iconst 0, 1) := by decide +kernel
theorem dX0_becomeEmpty_1 : decode cX0_becomeEmpty 1 = .ok (.istore_n 1, 1) := by decide +kernel
theorem dX0_becomeEmpty_2 : decode cX0_becomeEmpty 2 = .ok (.iload_n 1, 1) := by decide +kernel
theorem dX0_becomeEmpty_3 : decode cX0_becomeEmpty 3 = .ok (.bipush 16, 2) := by decide +kernel
theorem dX0_becomeEmpty_5 : decode cX0_becomeEmpty 5 = .ok (.if_icmp .ge 16, 3) := by decide +kernel
theorem dX0_becomeEmpty_8 : decode cX0_becomeEmpty 8 = .ok (.aload_n 0, 1) := by decide +kernel
theorem dX0_becomeEmpty_9 : decode cX0_becomeEmpty 9 = .ok (.getfield 9, 3) := by decide +kernel
theorem dX0_becomeEmpty_12 : decode cX0_becomeEmpty 12 = .ok (.iload_n 1, 1) := by decide +kernel
theorem dX0_becomeEmpty_13 : decode cX0_becomeEmpty 13 = .ok (.iconst 0, 1) := by decide +kernel
theorem dX0_becomeEmpty_14 : decode cX0_becomeEmpty 14 = .ok (.iastore, 1) := by decide +kernel
theorem dX0_becomeEmpty_15 : decode cX0_becomeEmpty 15 = .ok (.iinc 1 1, 3) := by decide +kernel
theorem dX0_becomeEmpty_18 : decode cX0_becomeEmpty 18 = .ok (.goto (-16), 3) := by decide +kernel
theorem dX0_becomeEmpty_21 : decode cX0_becomeEmpty 21 = .ok (.return_, 1) := by decide +kernel
theorem dX0_becomeCopy_0 : decode cX0_becomeCopy 0 = .ok (.iconst 0, 1) := by decide +kernel
theorem dX0_becomeCopy_1 : decode cX0_becomeCopy 1 = .ok (.istore_n 2, 1) := by decide +kernel
theorem dX0_becomeCopy_2 : decode cX0_becomeCopy 2 = .ok (.iload_n 2, 1) := by decide +kernel
theorem dX0_becomeCopy_3 : decode cX0_becomeCopy 3 = .ok (.bipush 16, 2) := by decide +kernel
theorem dX0_becomeCopy_5 : decode cX0_becomeCopy 5 = .ok (.if_icmp .ge 21, 3) := by decide +kernel
theorem dX0_becomeCopy_8 : decode cX0_becomeCopy 8 = .ok (.aload_n 0, 1) := by decide +kernel
theorem dX0_becomeCopy_9 : decode cX0_becomeCopy 9 = .ok (.getfield 9, 3) := by decide +kernel
theorem dX0_becomeCopy_12 : decode cX0_becomeCopy 12 = .ok (.iload_n 2, 1) := by decide +kernel
theorem dX0_becomeCopy_13 : decode cX0_becomeCopy 13 = .ok (.aload_n 1, 1) := by decide +kernel
theorem dX0_becomeCopy_14 : decode cX0_becomeCopy 14 = .ok (.getfield 9, 3) := by decide +kernel
theorem dX0_becomeCopy_17 : decode cX0_becomeCopy 17 = .ok (.iload_n 2, 1) := by decide +kernel
theorem dX0_becomeCopy_18 : decode cX0_becomeCopy 18 = .ok (.iaload, 1) := by decide +kernel
theorem dX0_becomeCopy_19 : decode cX0_becomeCopy 19 = .ok (.iastore, 1) := by decide +kernel
theorem dX0_becomeCopy_20 : decode cX0_becomeCopy 20 = .ok (.iinc 2 1, 3) := by decide +kernel
theorem dX0_becomeCopy_23 : decode cX0_becomeCopy 23 = .ok (.goto (-21), 3) := by decide +kernel
theorem dX0_becomeCopy_26 : decode cX0_becomeCopy 26 = .ok (.return_, 1) := by decide +kernel
theorem dX0_becomeRectangle_0 : decode cX0_becomeRectangle 0 = .ok (.aload_n 0, 1) := by decide +kernel
theorem dX0_becomeRectangle_1 : decode cX0_becomeRectangle 1 = .ok (.invokevirtual 15, 3) := by decide +kernel
theorem dX0_becomeRectangle_4 : decode cX0_becomeRectangle 4 = .ok (.iload_n 1, 1) := by decide +kernel
theorem dX0_becomeRectangle_5 : decode cX0_becomeRectangle 5 = .ok (.iload_n 2, 1) := by decide +kernel
theorem dX0_becomeRectangle_6 : decode cX0_becomeRectangle 6 = .ok (.invokestatic 18, 3) := by decide +kernel
theorem dX0_becomeRectangle_9 : decode cX0_becomeRectangle 9 = .ok (.istore_n 3, 1) := by decide +kernel
theorem dX0_becomeRectangle_10 : decode cX0_becomeRectangle 10 = .ok (.iload_n 1, 1) := by decide +kernel
theorem dX0_becomeRectangle_11 : decode cX0_becomeRectangle 11 = .ok (.invokestatic 22, 3) := by decide +kernel
theorem dX0_becomeRectangle_14 : decode cX0_becomeRectangle 14 = .ok (.iload_n 2, 1) := by decide +kernel
theorem dX0_becomeRectangle_15 : decode cX0_becomeRectangle 15 = .ok (.invokestatic 22, 3) := by decide +kernel
theorem dX0_becomeRectangle_18 : decode cX0_becomeRectangle 18 = .ok (.invokestatic 26, 3) := by decide +kernel
theorem dX0_becomeRectangle_21 : decode cX0_becomeRectangle 21 = .ok (.istore 4, 2) := by decide +kernel
theorem dX0_becomeRectangle_23 : decode cX0_becomeRectangle 23 = .ok (.iload_n 1, 1) := by decide +kernel
theorem dX0_becomeRectangle_24 : decode cX0_becomeRectangle 24 = .ok (.invokestatic 22, 3) := by decide +kernel
theorem dX0_becomeRectangle_27 : decode cX0_becomeRectangle 27 = .ok (.iload_n 2, 1) := by decide +kernel
theorem dX0_becomeRectangle_28 : decode cX0_becomeRectangle 28 = .ok (.invokestatic 22, 3) := by decide +kernel
theorem dX0_becomeRectangle_31 : decode cX0_becomeRectangle 31 = .ok (.invokestatic 31, 3) := by decide +kernel
theorem dX0_becomeRectangle_34 : decode cX0_becomeRectangle 34 = .ok (.istore 5, 2) := by decide +kernel
theorem dX0_becomeRectangle_36 : decode cX0_becomeRectangle 36 = .ok (.iload 5, 2) := by decide +kernel
theorem dX0_becomeRectangle_38 : decode cX0_becomeRectangle 38 = .ok (.iload 4, 2) := by decide +kernel
theorem dX0_becomeRectangle_40 : decode cX0_becomeRectangle 40 = .ok (.if_icmp .gt 17, 3) := by decide +kernel
theorem dX0_becomeRectangle_43 : decode cX0_becomeRectangle 43 = .ok (.aload_n 0, 1) := by decide +kernel
theorem dX0_becomeRectangle_44 : decode cX0_becomeRectangle 44 = .ok (.getfield 9, 3) := by decide +kernel
theorem dX0_becomeRectangle_47 : decode cX0_becomeRectangle 47 = .ok (.iload 5, 2) := by decide +kernel
theorem dX0_becomeRectangle_49 : decode cX0_becomeRectangle 49 = .ok (.iload_n 3, 1) := by decide +kernel
theorem dX0_becomeRectangle_50 : decode cX0_becomeRectangle 50 = .ok (.iastore, 1) := by decide +kernel
theorem dX0_becomeRectangle_51 : decode cX0_becomeRectangle 51 = .ok (.iinc 5 1, 3) := by decide +kernel
theorem dX0_becomeRectangle_54 : decode cX0_becomeRectangle 54 = .ok (.goto (-18), 3) := by decide +kernel
theorem dX0_becomeRectangle_57 : decode cX0_becomeRectangle 57 = .ok (.return_, 1) := by decide +kernel
theorem dX0_meetsRectangle_0 : decode cX0_meetsRectangle 0 = .ok (.iload_n 1, 1) := by decide +kernel
theorem dX0_meetsRectangle_1 : decode cX0_meetsRectangle 1 = .ok (.iload_n 2, 1) := by decide +kernel
theorem dX0_meetsRectangle_2 : decode cX0_meetsRectangle 2 = .ok (.invokestatic 18, 3) := by decide +kernel
theorem dX0_meetsRectangle_5 : decode cX0_meetsRectangle 5 = .ok (.istore_n 3, 1) := by decide +kernel
theorem dX0_meetsRectangle_6 : decode cX0_meetsRectangle 6 = .ok (.iload_n 1, 1) := by decide +kernel
theorem dX0_meetsRectangle_7 : decode cX0_meetsRectangle 7 = .ok (.invokestatic 22, 3) := by decide +kernel
theorem dX0_meetsRectangle_10 : decode cX0_meetsRectangle 10 = .ok (.iload_n 2, 1) := by decide +kernel
theorem dX0_meetsRectangle_11 : decode cX0_meetsRectangle 11 = .ok (.invokestatic 22, 3) := by decide +kernel
theorem dX0_meetsRectangle_14 : decode cX0_meetsRectangle 14 = .ok (.invokestatic 26, 3) := by decide +kernel
theorem dX0_meetsRectangle_17 : decode cX0_meetsRectangle 17 = .ok (.istore 4, 2) := by decide +kernel
theorem dX0_meetsRectangle_19 : decode cX0_meetsRectangle 19 = .ok (.iload_n 1, 1) := by decide +kernel
theorem dX0_meetsRectangle_20 : decode cX0_meetsRectangle 20 = .ok (.invokestatic 22, 3) := by decide +kernel
theorem dX0_meetsRectangle_23 : decode cX0_meetsRectangle 23 = .ok (.iload_n 2, 1) := by decide +kernel
theorem dX0_meetsRectangle_24 : decode cX0_meetsRectangle 24 = .ok (.invokestatic 22, 3) := by decide +kernel
theorem dX0_meetsRectangle_27 : decode cX0_meetsRectangle 27 = .ok (.invokestatic 31, 3) := by decide +kernel
theorem dX0_meetsRectangle_30 : decode cX0_meetsRectangle 30 = .ok (.istore 5, 2) := by decide +kernel
theorem dX0_meetsRectangle_32 : decode cX0_meetsRectangle 32 = .ok (.iload 5, 2) := by decide +kernel
theorem dX0_meetsRectangle_34 : decode cX0_meetsRectangle 34 = .ok (.iload 4, 2) := by decide +kernel
theorem dX0_meetsRectangle_36 : decode cX0_meetsRectangle 36 = .ok (.if_icmp .gt 23, 3) := by decide +kernel
theorem dX0_meetsRectangle_39 : decode cX0_meetsRectangle 39 = .ok (.aload_n 0, 1) := by decide +kernel
theorem dX0_meetsRectangle_40 : decode cX0_meetsRectangle 40 = .ok (.getfield 9, 3) := by decide +kernel
theorem dX0_meetsRectangle_43 : decode cX0_meetsRectangle 43 = .ok (.iload 5, 2) := by decide +kernel
theorem dX0_meetsRectangle_45 : decode cX0_meetsRectangle 45 = .ok (.iaload, 1) := by decide +kernel
theorem dX0_meetsRectangle_46 : decode cX0_meetsRectangle 46 = .ok (.iload_n 3, 1) := by decide +kernel
theorem dX0_meetsRectangle_47 : decode cX0_meetsRectangle 47 = .ok (.iand, 1) := by decide +kernel
theorem dX0_meetsRectangle_48 : decode cX0_meetsRectangle 48 = .ok (.ifCond .eq 5, 3) := by decide +kernel
theorem dX0_meetsRectangle_51 : decode cX0_meetsRectangle 51 = .ok (.iconst 1, 1) := by decide +kernel
theorem dX0_meetsRectangle_52 : decode cX0_meetsRectangle 52 = .ok (.ireturn, 1) := by decide +kernel
theorem dX0_meetsRectangle_53 : decode cX0_meetsRectangle 53 = .ok (.iinc 5 1, 3) := by decide +kernel
theorem dX0_meetsRectangle_56 : decode cX0_meetsRectangle 56 = .ok (.goto (-24), 3) := by decide +kernel
theorem dX0_meetsRectangle_59 : decode cX0_meetsRectangle 59 = .ok (.iconst 0, 1) := by decide +kernel
theorem dX0_meetsRectangle_60 : decode cX0_meetsRectangle 60 = .ok (.ireturn, 1) := by decide +kernel
theorem dX0_columnsBetween_0 : decode cX0_columnsBetween 0 = .ok (.iload_n 0, 1) := by decide +kernel
theorem dX0_columnsBetween_1 : decode cX0_columnsBetween 1 = .ok (.invokestatic 34, 3) := by decide +kernel
theorem dX0_columnsBetween_4 : decode cX0_columnsBetween 4 = .ok (.iload_n 1, 1) := by decide +kernel
theorem dX0_columnsBetween_5 : decode cX0_columnsBetween 5 = .ok (.invokestatic 34, 3) := by decide +kernel
theorem dX0_columnsBetween_8 : decode cX0_columnsBetween 8 = .ok (.invokestatic 31, 3) := by decide +kernel
theorem dX0_columnsBetween_11 : decode cX0_columnsBetween 11 = .ok (.istore_n 2, 1) := by decide +kernel
theorem dX0_columnsBetween_12 : decode cX0_columnsBetween 12 = .ok (.iload_n 0, 1) := by decide +kernel
theorem dX0_columnsBetween_13 : decode cX0_columnsBetween 13 = .ok (.invokestatic 34, 3) := by decide +kernel
theorem dX0_columnsBetween_16 : decode cX0_columnsBetween 16 = .ok (.iload_n 1, 1) := by decide +kernel
theorem dX0_columnsBetween_17 : decode cX0_columnsBetween 17 = .ok (.invokestatic 34, 3) := by decide +kernel
theorem dX0_columnsBetween_20 : decode cX0_columnsBetween 20 = .ok (.invokestatic 26, 3) := by decide +kernel
theorem dX0_columnsBetween_23 : decode cX0_columnsBetween 23 = .ok (.istore_n 3, 1) := by decide +kernel
theorem dX0_columnsBetween_24 : decode cX0_columnsBetween 24 = .ok (.iconst 1, 1) := by decide +kernel
theorem dX0_columnsBetween_25 : decode cX0_columnsBetween 25 = .ok (.iload_n 3, 1) := by decide +kernel
theorem dX0_columnsBetween_26 : decode cX0_columnsBetween 26 = .ok (.iconst 1, 1) := by decide +kernel
theorem dX0_columnsBetween_27 : decode cX0_columnsBetween 27 = .ok (.iadd, 1) := by decide +kernel
theorem dX0_columnsBetween_28 : decode cX0_columnsBetween 28 = .ok (.ishl, 1) := by decide +kernel
theorem dX0_columnsBetween_29 : decode cX0_columnsBetween 29 = .ok (.iconst 1, 1) := by decide +kernel
theorem dX0_columnsBetween_30 : decode cX0_columnsBetween 30 = .ok (.iload_n 2, 1) := by decide +kernel
theorem dX0_columnsBetween_31 : decode cX0_columnsBetween 31 = .ok (.ishl, 1) := by decide +kernel
theorem dX0_columnsBetween_32 : decode cX0_columnsBetween 32 = .ok (.isub, 1) := by decide +kernel
theorem dX0_columnsBetween_33 : decode cX0_columnsBetween 33 = .ok (.ireturn, 1) := by decide +kernel
theorem dX0_rowOf_0 : decode cX0_rowOf 0 = .ok (.iload_n 0, 1) := by decide +kernel
theorem dX0_rowOf_1 : decode cX0_rowOf 1 = .ok (.iconst 4, 1) := by decide +kernel
theorem dX0_rowOf_2 : decode cX0_rowOf 2 = .ok (.ishr, 1) := by decide +kernel
theorem dX0_rowOf_3 : decode cX0_rowOf 3 = .ok (.bipush 15, 2) := by decide +kernel
theorem dX0_rowOf_5 : decode cX0_rowOf 5 = .ok (.iand, 1) := by decide +kernel
theorem dX0_rowOf_6 : decode cX0_rowOf 6 = .ok (.ireturn, 1) := by decide +kernel
theorem dX0_columnOf_0 : decode cX0_columnOf 0 = .ok (.iload_n 0, 1) := by decide +kernel
theorem dX0_columnOf_1 : decode cX0_columnOf 1 = .ok (.bipush 15, 2) := by decide +kernel
theorem dX0_columnOf_3 : decode cX0_columnOf 3 = .ok (.iand, 1) := by decide +kernel
theorem dX0_columnOf_4 : decode cX0_columnOf 4 = .ok (.ireturn, 1) := by decide +kernel
theorem dX0_contains_0 : decode cX0_contains 0 = .ok (.aload_n 0, 1) := by decide +kernel
theorem dX0_contains_1 : decode cX0_contains 1 = .ok (.getfield 9, 3) := by decide +kernel
theorem dX0_contains_4 : decode cX0_contains 4 = .ok (.iload_n 1, 1) := by decide +kernel
theorem dX0_contains_5 : decode cX0_contains 5 = .ok (.iconst 4, 1) := by decide +kernel
theorem dX0_contains_6 : decode cX0_contains 6 = .ok (.ishr, 1) := by decide +kernel
theorem dX0_contains_7 : decode cX0_contains 7 = .ok (.bipush 15, 2) := by decide +kernel
theorem dX0_contains_9 : decode cX0_contains 9 = .ok (.iand, 1) := by decide +kernel
theorem dX0_contains_10 : decode cX0_contains 10 = .ok (.iaload, 1) := by decide +kernel
theorem dX0_contains_11 : decode cX0_contains 11 = .ok (.iload_n 1, 1) := by decide +kernel
theorem dX0_contains_12 : decode cX0_contains 12 = .ok (.bipush 15, 2) := by decide +kernel
theorem dX0_contains_14 : decode cX0_contains 14 = .ok (.iand, 1) := by decide +kernel
theorem dX0_contains_15 : decode cX0_contains 15 = .ok (.ishr, 1) := by decide +kernel
theorem dX0_contains_16 : decode cX0_contains 16 = .ok (.iconst 1, 1) := by decide +kernel
theorem dX0_contains_17 : decode cX0_contains 17 = .ok (.iand, 1) := by decide +kernel
theorem dX0_contains_18 : decode cX0_contains 18 = .ok (.iconst 1, 1) := by decide +kernel
theorem dX0_contains_19 : decode cX0_contains 19 = .ok (.if_icmp .ne 7, 3) := by decide +kernel
theorem dX0_contains_22 : decode cX0_contains 22 = .ok (.iconst 1, 1) := by decide +kernel
theorem dX0_contains_23 : decode cX0_contains 23 = .ok (.goto 4, 3) := by decide +kernel
theorem dX0_contains_26 : decode cX0_contains 26 = .ok (.iconst 0, 1) := by decide +kernel
theorem dX0_contains_27 : decode cX0_contains 27 = .ok (.ireturn, 1) := by decide +kernel
theorem dX0_include_0 : decode cX0_include 0 = .ok (.aload_n 0, 1) := by decide +kernel
theorem dX0_include_1 : decode cX0_include 1 = .ok (.getfield 9, 3) := by decide +kernel
theorem dX0_include_4 : decode cX0_include 4 = .ok (.iload_n 1, 1) := by decide +kernel
theorem dX0_include_5 : decode cX0_include 5 = .ok (.iconst 4, 1) := by decide +kernel
theorem dX0_include_6 : decode cX0_include 6 = .ok (.ishr, 1) := by decide +kernel
theorem dX0_include_7 : decode cX0_include 7 = .ok (.bipush 15, 2) := by decide +kernel
theorem dX0_include_9 : decode cX0_include 9 = .ok (.iand, 1) := by decide +kernel
theorem dX0_include_10 : decode cX0_include 10 = .ok (.dup2, 1) := by decide +kernel
theorem dX0_include_11 : decode cX0_include 11 = .ok (.iaload, 1) := by decide +kernel
theorem dX0_include_12 : decode cX0_include 12 = .ok (.iconst 1, 1) := by decide +kernel
theorem dX0_include_13 : decode cX0_include 13 = .ok (.iload_n 1, 1) := by decide +kernel
theorem dX0_include_14 : decode cX0_include 14 = .ok (.bipush 15, 2) := by decide +kernel
theorem dX0_include_16 : decode cX0_include 16 = .ok (.iand, 1) := by decide +kernel
theorem dX0_include_17 : decode cX0_include 17 = .ok (.ishl, 1) := by decide +kernel
theorem dX0_include_18 : decode cX0_include 18 = .ok (.ior, 1) := by decide +kernel
theorem dX0_include_19 : decode cX0_include 19 = .ok (.iastore, 1) := by decide +kernel
theorem dX0_include_20 : decode cX0_include 20 = .ok (.return_, 1) := by decide +kernel
theorem dX0_exclude_0 : decode cX0_exclude 0 = .ok (.aload_n 0, 1) := by decide +kernel
theorem dX0_exclude_1 : decode cX0_exclude 1 = .ok (.getfield 9, 3) := by decide +kernel
theorem dX0_exclude_4 : decode cX0_exclude 4 = .ok (.iload_n 1, 1) := by decide +kernel
theorem dX0_exclude_5 : decode cX0_exclude 5 = .ok (.iconst 4, 1) := by decide +kernel
theorem dX0_exclude_6 : decode cX0_exclude 6 = .ok (.ishr, 1) := by decide +kernel
theorem dX0_exclude_7 : decode cX0_exclude 7 = .ok (.bipush 15, 2) := by decide +kernel
theorem dX0_exclude_9 : decode cX0_exclude 9 = .ok (.iand, 1) := by decide +kernel
theorem dX0_exclude_10 : decode cX0_exclude 10 = .ok (.dup2, 1) := by decide +kernel
theorem dX0_exclude_11 : decode cX0_exclude 11 = .ok (.iaload, 1) := by decide +kernel
theorem dX0_exclude_12 : decode cX0_exclude 12 = .ok (.iconst 1, 1) := by decide +kernel
theorem dX0_exclude_13 : decode cX0_exclude 13 = .ok (.iload_n 1, 1) := by decide +kernel
theorem dX0_exclude_14 : decode cX0_exclude 14 = .ok (.bipush 15, 2) := by decide +kernel
theorem dX0_exclude_16 : decode cX0_exclude 16 = .ok (.iand, 1) := by decide +kernel
theorem dX0_exclude_17 : decode cX0_exclude 17 = .ok (.ishl, 1) := by decide +kernel
theorem dX0_exclude_18 : decode cX0_exclude 18 = .ok (.iconst (-1), 1) := by decide +kernel
theorem dX0_exclude_19 : decode cX0_exclude 19 = .ok (.ixor, 1) := by decide +kernel
theorem dX0_exclude_20 : decode cX0_exclude 20 = .ok (.iand, 1) := by decide +kernel
theorem dX0_exclude_21 : decode cX0_exclude 21 = .ok (.iastore, 1) := by decide +kernel
theorem dX0_exclude_22 : decode cX0_exclude 22 = .ok (.return_, 1) := by decide +kernel
theorem dX0_addAll_0 : decode cX0_addAll 0 = .ok (.iconst 0, 1) := by decide +kernel
theorem dX0_addAll_1 : decode cX0_addAll 1 = .ok (.istore_n 2, 1) := by decide +kernel
theorem dX0_addAll_2 : decode cX0_addAll 2 = .ok (.iload_n 2, 1) := by decide +kernel
theorem dX0_addAll_3 : decode cX0_addAll 3 = .ok (.bipush 16, 2) := by decide +kernel
theorem dX0_addAll_5 : decode cX0_addAll 5 = .ok (.if_icmp .ge 24, 3) := by decide +kernel
theorem dX0_addAll_8 : decode cX0_addAll 8 = .ok (.aload_n 0, 1) := by decide +kernel
theorem dX0_addAll_9 : decode cX0_addAll 9 = .ok (.getfield 9, 3) := by decide +kernel
theorem dX0_addAll_12 : decode cX0_addAll 12 = .ok (.iload_n 2, 1) := by decide +kernel
theorem dX0_addAll_13 : decode cX0_addAll 13 = .ok (.dup2, 1) := by decide +kernel
theorem dX0_addAll_14 : decode cX0_addAll 14 = .ok (.iaload, 1) := by decide +kernel
theorem dX0_addAll_15 : decode cX0_addAll 15 = .ok (.aload_n 1, 1) := by decide +kernel
theorem dX0_addAll_16 : decode cX0_addAll 16 = .ok (.getfield 9, 3) := by decide +kernel
theorem dX0_addAll_19 : decode cX0_addAll 19 = .ok (.iload_n 2, 1) := by decide +kernel
theorem dX0_addAll_20 : decode cX0_addAll 20 = .ok (.iaload, 1) := by decide +kernel
theorem dX0_addAll_21 : decode cX0_addAll 21 = .ok (.ior, 1) := by decide +kernel
theorem dX0_addAll_22 : decode cX0_addAll 22 = .ok (.iastore, 1) := by decide +kernel
theorem dX0_addAll_23 : decode cX0_addAll 23 = .ok (.iinc 2 1, 3) := by decide +kernel
theorem dX0_addAll_26 : decode cX0_addAll 26 = .ok (.goto (-24), 3) := by decide +kernel
theorem dX0_addAll_29 : decode cX0_addAll 29 = .ok (.return_, 1) := by decide +kernel
theorem dX0_takeAway_0 : decode cX0_takeAway 0 = .ok (.iconst 0, 1) := by decide +kernel
theorem dX0_takeAway_1 : decode cX0_takeAway 1 = .ok (.istore_n 2, 1) := by decide +kernel
theorem dX0_takeAway_2 : decode cX0_takeAway 2 = .ok (.iload_n 2, 1) := by decide +kernel
theorem dX0_takeAway_3 : decode cX0_takeAway 3 = .ok (.bipush 16, 2) := by decide +kernel
theorem dX0_takeAway_5 : decode cX0_takeAway 5 = .ok (.if_icmp .ge 26, 3) := by decide +kernel
theorem dX0_takeAway_8 : decode cX0_takeAway 8 = .ok (.aload_n 0, 1) := by decide +kernel
theorem dX0_takeAway_9 : decode cX0_takeAway 9 = .ok (.getfield 9, 3) := by decide +kernel
theorem dX0_takeAway_12 : decode cX0_takeAway 12 = .ok (.iload_n 2, 1) := by decide +kernel
theorem dX0_takeAway_13 : decode cX0_takeAway 13 = .ok (.dup2, 1) := by decide +kernel
theorem dX0_takeAway_14 : decode cX0_takeAway 14 = .ok (.iaload, 1) := by decide +kernel
theorem dX0_takeAway_15 : decode cX0_takeAway 15 = .ok (.aload_n 1, 1) := by decide +kernel
theorem dX0_takeAway_16 : decode cX0_takeAway 16 = .ok (.getfield 9, 3) := by decide +kernel
theorem dX0_takeAway_19 : decode cX0_takeAway 19 = .ok (.iload_n 2, 1) := by decide +kernel
theorem dX0_takeAway_20 : decode cX0_takeAway 20 = .ok (.iaload, 1) := by decide +kernel
theorem dX0_takeAway_21 : decode cX0_takeAway 21 = .ok (.iconst (-1), 1) := by decide +kernel
theorem dX0_takeAway_22 : decode cX0_takeAway 22 = .ok (.ixor, 1) := by decide +kernel
theorem dX0_takeAway_23 : decode cX0_takeAway 23 = .ok (.iand, 1) := by decide +kernel
theorem dX0_takeAway_24 : decode cX0_takeAway 24 = .ok (.iastore, 1) := by decide +kernel
theorem dX0_takeAway_25 : decode cX0_takeAway 25 = .ok (.iinc 2 1, 3) := by decide +kernel
theorem dX0_takeAway_28 : decode cX0_takeAway 28 = .ok (.goto (-26), 3) := by decide +kernel
theorem dX0_takeAway_31 : decode cX0_takeAway 31 = .ok (.return_, 1) := by decide +kernel
theorem dX0_meets_0 : decode cX0_meets 0 = .ok (.iconst 0, 1) := by decide +kernel
theorem dX0_meets_1 : decode cX0_meets 1 = .ok (.istore_n 2, 1) := by decide +kernel
theorem dX0_meets_2 : decode cX0_meets 2 = .ok (.iload_n 2, 1) := by decide +kernel
theorem dX0_meets_3 : decode cX0_meets 3 = .ok (.bipush 16, 2) := by decide +kernel
theorem dX0_meets_5 : decode cX0_meets 5 = .ok (.if_icmp .ge 27, 3) := by decide +kernel
theorem dX0_meets_8 : decode cX0_meets 8 = .ok (.aload_n 0, 1) := by decide +kernel
theorem dX0_meets_9 : decode cX0_meets 9 = .ok (.getfield 9, 3) := by decide +kernel
theorem dX0_meets_12 : decode cX0_meets 12 = .ok (.iload_n 2, 1) := by decide +kernel
theorem dX0_meets_13 : decode cX0_meets 13 = .ok (.iaload, 1) := by decide +kernel
theorem dX0_meets_14 : decode cX0_meets 14 = .ok (.aload_n 1, 1) := by decide +kernel
theorem dX0_meets_15 : decode cX0_meets 15 = .ok (.getfield 9, 3) := by decide +kernel
theorem dX0_meets_18 : decode cX0_meets 18 = .ok (.iload_n 2, 1) := by decide +kernel
theorem dX0_meets_19 : decode cX0_meets 19 = .ok (.iaload, 1) := by decide +kernel
theorem dX0_meets_20 : decode cX0_meets 20 = .ok (.iand, 1) := by decide +kernel
theorem dX0_meets_21 : decode cX0_meets 21 = .ok (.ifCond .eq 5, 3) := by decide +kernel
theorem dX0_meets_24 : decode cX0_meets 24 = .ok (.iconst 1, 1) := by decide +kernel
theorem dX0_meets_25 : decode cX0_meets 25 = .ok (.ireturn, 1) := by decide +kernel
theorem dX0_meets_26 : decode cX0_meets 26 = .ok (.iinc 2 1, 3) := by decide +kernel
theorem dX0_meets_29 : decode cX0_meets 29 = .ok (.goto (-27), 3) := by decide +kernel
theorem dX0_meets_32 : decode cX0_meets 32 = .ok (.iconst 0, 1) := by decide +kernel
theorem dX0_meets_33 : decode cX0_meets 33 = .ok (.ireturn, 1) := by decide +kernel
theorem dX0_size_0 : decode cX0_size 0 = .ok (.iconst 0, 1) := by decide +kernel
theorem dX0_size_1 : decode cX0_size 1 = .ok (.istore_n 1, 1) := by decide +kernel
theorem dX0_size_2 : decode cX0_size 2 = .ok (.iconst 0, 1) := by decide +kernel
theorem dX0_size_3 : decode cX0_size 3 = .ok (.istore_n 2, 1) := by decide +kernel
theorem dX0_size_4 : decode cX0_size 4 = .ok (.iload_n 2, 1) := by decide +kernel
theorem dX0_size_5 : decode cX0_size 5 = .ok (.bipush 16, 2) := by decide +kernel
theorem dX0_size_7 : decode cX0_size 7 = .ok (.if_icmp .ge 21, 3) := by decide +kernel
theorem dX0_size_10 : decode cX0_size 10 = .ok (.iload_n 1, 1) := by decide +kernel
theorem dX0_size_11 : decode cX0_size 11 = .ok (.aload_n 0, 1) := by decide +kernel
theorem dX0_size_12 : decode cX0_size 12 = .ok (.getfield 9, 3) := by decide +kernel
theorem dX0_size_15 : decode cX0_size 15 = .ok (.iload_n 2, 1) := by decide +kernel
theorem dX0_size_16 : decode cX0_size 16 = .ok (.iaload, 1) := by decide +kernel
theorem dX0_size_17 : decode cX0_size 17 = .ok (.invokestatic 37, 3) := by decide +kernel
theorem dX0_size_20 : decode cX0_size 20 = .ok (.iadd, 1) := by decide +kernel
theorem dX0_size_21 : decode cX0_size 21 = .ok (.istore_n 1, 1) := by decide +kernel
theorem dX0_size_22 : decode cX0_size 22 = .ok (.iinc 2 1, 3) := by decide +kernel
theorem dX0_size_25 : decode cX0_size 25 = .ok (.goto (-21), 3) := by decide +kernel
theorem dX0_size_28 : decode cX0_size 28 = .ok (.iload_n 1, 1) := by decide +kernel
theorem dX0_size_29 : decode cX0_size 29 = .ok (.ireturn, 1) := by decide +kernel
theorem dJ6_bitCount_0f7a4_0 : decode cJ6_bitCount_0f7a4 0 = .ok (.iload_n 0, 1) := by decide +kernel
theorem dJ6_bitCount_0f7a4_1 : decode cJ6_bitCount_0f7a4 1 = .ok (.iload_n 0, 1) := by decide +kernel
theorem dJ6_bitCount_0f7a4_2 : decode cJ6_bitCount_0f7a4 2 = .ok (.iconst 1, 1) := by decide +kernel
theorem dJ6_bitCount_0f7a4_3 : decode cJ6_bitCount_0f7a4 3 = .ok (.iushr, 1) := by decide +kernel
theorem dJ6_bitCount_0f7a4_4 : decode cJ6_bitCount_0f7a4 4 = .ok (.ldc_w 265, 3) := by decide +kernel
theorem dJ6_bitCount_0f7a4_7 : decode cJ6_bitCount_0f7a4 7 = .ok (.iand, 1) := by decide +kernel
theorem dJ6_bitCount_0f7a4_8 : decode cJ6_bitCount_0f7a4 8 = .ok (.isub, 1) := by decide +kernel
theorem dJ6_bitCount_0f7a4_9 : decode cJ6_bitCount_0f7a4 9 = .ok (.istore_n 0, 1) := by decide +kernel
theorem dJ6_bitCount_0f7a4_10 : decode cJ6_bitCount_0f7a4 10 = .ok (.iload_n 0, 1) := by decide +kernel
theorem dJ6_bitCount_0f7a4_11 : decode cJ6_bitCount_0f7a4 11 = .ok (.ldc_w 266, 3) := by decide +kernel
theorem dJ6_bitCount_0f7a4_14 : decode cJ6_bitCount_0f7a4 14 = .ok (.iand, 1) := by decide +kernel
theorem dJ6_bitCount_0f7a4_15 : decode cJ6_bitCount_0f7a4 15 = .ok (.iload_n 0, 1) := by decide +kernel
theorem dJ6_bitCount_0f7a4_16 : decode cJ6_bitCount_0f7a4 16 = .ok (.iconst 2, 1) := by decide +kernel
theorem dJ6_bitCount_0f7a4_17 : decode cJ6_bitCount_0f7a4 17 = .ok (.iushr, 1) := by decide +kernel
theorem dJ6_bitCount_0f7a4_18 : decode cJ6_bitCount_0f7a4 18 = .ok (.ldc_w 266, 3) := by decide +kernel
theorem dJ6_bitCount_0f7a4_21 : decode cJ6_bitCount_0f7a4 21 = .ok (.iand, 1) := by decide +kernel
theorem dJ6_bitCount_0f7a4_22 : decode cJ6_bitCount_0f7a4 22 = .ok (.iadd, 1) := by decide +kernel
theorem dJ6_bitCount_0f7a4_23 : decode cJ6_bitCount_0f7a4 23 = .ok (.istore_n 0, 1) := by decide +kernel
theorem dJ6_bitCount_0f7a4_24 : decode cJ6_bitCount_0f7a4 24 = .ok (.iload_n 0, 1) := by decide +kernel
theorem dJ6_bitCount_0f7a4_25 : decode cJ6_bitCount_0f7a4 25 = .ok (.iload_n 0, 1) := by decide +kernel
theorem dJ6_bitCount_0f7a4_26 : decode cJ6_bitCount_0f7a4 26 = .ok (.iconst 4, 1) := by decide +kernel
theorem dJ6_bitCount_0f7a4_27 : decode cJ6_bitCount_0f7a4 27 = .ok (.iushr, 1) := by decide +kernel
theorem dJ6_bitCount_0f7a4_28 : decode cJ6_bitCount_0f7a4 28 = .ok (.iadd, 1) := by decide +kernel
theorem dJ6_bitCount_0f7a4_29 : decode cJ6_bitCount_0f7a4 29 = .ok (.ldc_w 267, 3) := by decide +kernel
theorem dJ6_bitCount_0f7a4_32 : decode cJ6_bitCount_0f7a4 32 = .ok (.iand, 1) := by decide +kernel
theorem dJ6_bitCount_0f7a4_33 : decode cJ6_bitCount_0f7a4 33 = .ok (.istore_n 0, 1) := by decide +kernel
theorem dJ6_bitCount_0f7a4_34 : decode cJ6_bitCount_0f7a4 34 = .ok (.iload_n 0, 1) := by decide +kernel
theorem dJ6_bitCount_0f7a4_35 : decode cJ6_bitCount_0f7a4 35 = .ok (.iload_n 0, 1) := by decide +kernel
theorem dJ6_bitCount_0f7a4_36 : decode cJ6_bitCount_0f7a4 36 = .ok (.bipush 8, 2) := by decide +kernel
theorem dJ6_bitCount_0f7a4_38 : decode cJ6_bitCount_0f7a4 38 = .ok (.iushr, 1) := by decide +kernel
theorem dJ6_bitCount_0f7a4_39 : decode cJ6_bitCount_0f7a4 39 = .ok (.iadd, 1) := by decide +kernel
theorem dJ6_bitCount_0f7a4_40 : decode cJ6_bitCount_0f7a4 40 = .ok (.istore_n 0, 1) := by decide +kernel
theorem dJ6_bitCount_0f7a4_41 : decode cJ6_bitCount_0f7a4 41 = .ok (.iload_n 0, 1) := by decide +kernel
theorem dJ6_bitCount_0f7a4_42 : decode cJ6_bitCount_0f7a4 42 = .ok (.iload_n 0, 1) := by decide +kernel
theorem dJ6_bitCount_0f7a4_43 : decode cJ6_bitCount_0f7a4 43 = .ok (.bipush 16, 2) := by decide +kernel
theorem dJ6_bitCount_0f7a4_45 : decode cJ6_bitCount_0f7a4 45 = .ok (.iushr, 1) := by decide +kernel
theorem dJ6_bitCount_0f7a4_46 : decode cJ6_bitCount_0f7a4 46 = .ok (.iadd, 1) := by decide +kernel
theorem dJ6_bitCount_0f7a4_47 : decode cJ6_bitCount_0f7a4 47 = .ok (.istore_n 0, 1) := by decide +kernel
theorem dJ6_bitCount_0f7a4_48 : decode cJ6_bitCount_0f7a4 48 = .ok (.iload_n 0, 1) := by decide +kernel
theorem dJ6_bitCount_0f7a4_49 : decode cJ6_bitCount_0f7a4 49 = .ok (.bipush 63, 2) := by decide +kernel
theorem dJ6_bitCount_0f7a4_51 : decode cJ6_bitCount_0f7a4 51 = .ok (.iand, 1) := by decide +kernel
theorem dJ6_bitCount_0f7a4_52 : decode cJ6_bitCount_0f7a4 52 = .ok (.ireturn, 1) := by decide +kernel
theorem fk_X0_9 : Cond.fieldLink RX0 9 RX0 (TX0 0).2.1 (TX0 0).2.2.1 ∈ gl := gl_tb (by decide +kernel) rfl
theorem mk_X0_15 : Cond.methodLink RX0 15 yX0_becomeEmpty ∈ gl := gl_tb (by decide +kernel) rfl
theorem mk_X0_18 : Cond.methodLink RX0 18 yX0_columnsBetween ∈ gl := gl_tb (by decide +kernel) rfl
theorem mk_X0_22 : Cond.methodLink RX0 22 yX0_rowOf ∈ gl := gl_tb (by decide +kernel) rfl
theorem mk_X0_26 : Cond.methodLink RX0 26 Lib.Math.max.name ∈ gl := gl_tb (by decide +kernel) rfl
theorem mk_X0_31 : Cond.methodLink RX0 31 Lib.Math.min.name ∈ gl := gl_tb (by decide +kernel) rfl
theorem mk_X0_34 : Cond.methodLink RX0 34 yX0_columnOf ∈ gl := gl_tb (by decide +kernel) rfl
theorem mk_X0_37 : Cond.methodLink RX0 37 yJ6_bitCount_0f7a4 ∈ gl := gl_tb (by decide +kernel) rfl
theorem vw_X0_becomeEmpty : vwM RX0 yX0_becomeEmpty (.code yX0_becomeEmpty cX0_becomeEmpty 2 none) := ⟨gl_tb (by decide +kernel) rfl, by first | exact gl_tb (by decide +kernel) rfl | exact gl_pv (by decide +kernel) rfl, gl_tb (by decide +kernel) rfl, gl_tb (by decide +kernel) rfl⟩
theorem vw_X0_becomeCopy : vwM RX0 yX0_becomeCopy (.code yX0_becomeCopy cX0_becomeCopy 3 none) := ⟨gl_tb (by decide +kernel) rfl, by first | exact gl_tb (by decide +kernel) rfl | exact gl_pv (by decide +kernel) rfl, gl_tb (by decide +kernel) rfl, gl_tb (by decide +kernel) rfl⟩
theorem vw_X0_becomeRectangle : vwM RX0 yX0_becomeRectangle (.code yX0_becomeRectangle cX0_becomeRectangle 6 none) := ⟨gl_tb (by decide +kernel) rfl, by first | exact gl_tb (by decide +kernel) rfl | exact gl_pv (by decide +kernel) rfl, gl_tb (by decide +kernel) rfl, gl_tb (by decide +kernel) rfl⟩
theorem vw_X0_meetsRectangle : vwM RX0 yX0_meetsRectangle (.code yX0_meetsRectangle cX0_meetsRectangle 6 (some .boolean)) := ⟨gl_tb (by decide +kernel) rfl, by first | exact gl_tb (by decide +kernel) rfl | exact gl_pv (by decide +kernel) rfl, gl_tb (by decide +kernel) rfl, gl_tb (by decide +kernel) rfl⟩
theorem vw_X0_columnsBetween : vwS yX0_columnsBetween (.code yX0_columnsBetween cX0_columnsBetween 4 (some .int)) := ⟨gl_tb (by decide +kernel) rfl, gl_tb (by decide +kernel) rfl, gl_tb (by decide +kernel) rfl⟩
theorem vw_X0_rowOf : vwS yX0_rowOf (.code yX0_rowOf cX0_rowOf 1 (some .int)) := ⟨gl_tb (by decide +kernel) rfl, gl_tb (by decide +kernel) rfl, gl_tb (by decide +kernel) rfl⟩
theorem vw_X0_columnOf : vwS yX0_columnOf (.code yX0_columnOf cX0_columnOf 1 (some .int)) := ⟨gl_tb (by decide +kernel) rfl, gl_tb (by decide +kernel) rfl, gl_tb (by decide +kernel) rfl⟩
theorem vw_X0_contains : vwM RX0 yX0_contains (.code yX0_contains cX0_contains 2 (some .boolean)) := ⟨gl_tb (by decide +kernel) rfl, by first | exact gl_tb (by decide +kernel) rfl | exact gl_pv (by decide +kernel) rfl, gl_tb (by decide +kernel) rfl, gl_tb (by decide +kernel) rfl⟩
theorem vw_X0_include : vwM RX0 yX0_include (.code yX0_include cX0_include 2 none) := ⟨gl_tb (by decide +kernel) rfl, by first | exact gl_tb (by decide +kernel) rfl | exact gl_pv (by decide +kernel) rfl, gl_tb (by decide +kernel) rfl, gl_tb (by decide +kernel) rfl⟩
theorem vw_X0_exclude : vwM RX0 yX0_exclude (.code yX0_exclude cX0_exclude 2 none) := ⟨gl_tb (by decide +kernel) rfl, by first | exact gl_tb (by decide +kernel) rfl | exact gl_pv (by decide +kernel) rfl, gl_tb (by decide +kernel) rfl, gl_tb (by decide +kernel) rfl⟩
theorem vw_X0_addAll : vwM RX0 yX0_addAll (.code yX0_addAll cX0_addAll 3 none) := ⟨gl_tb (by decide +kernel) rfl, by first | exact gl_tb (by decide +kernel) rfl | exact gl_pv (by decide +kernel) rfl, gl_tb (by decide +kernel) rfl, gl_tb (by decide +kernel) rfl⟩
theorem vw_X0_takeAway : vwM RX0 yX0_takeAway (.code yX0_takeAway cX0_takeAway 3 none) := ⟨gl_tb (by decide +kernel) rfl, by first | exact gl_tb (by decide +kernel) rfl | exact gl_pv (by decide +kernel) rfl, gl_tb (by decide +kernel) rfl, gl_tb (by decide +kernel) rfl⟩
theorem vw_X0_meets : vwM RX0 yX0_meets (.code yX0_meets cX0_meets 3 (some .boolean)) := ⟨gl_tb (by decide +kernel) rfl, by first | exact gl_tb (by decide +kernel) rfl | exact gl_pv (by decide +kernel) rfl, gl_tb (by decide +kernel) rfl, gl_tb (by decide +kernel) rfl⟩
theorem vw_X0_size : vwM RX0 yX0_size (.code yX0_size cX0_size 3 (some .int)) := ⟨gl_tb (by decide +kernel) rfl, by first | exact gl_tb (by decide +kernel) rfl | exact gl_pv (by decide +kernel) rfl, gl_tb (by decide +kernel) rfl, gl_tb (by decide +kernel) rfl⟩
theorem vw_J6_bitCount_0f7a4 : vwS yJ6_bitCount_0f7a4 (.code yJ6_bitCount_0f7a4 cJ6_bitCount_0f7a4 1 (some .int)) := ⟨gl_tb (by decide +kernel) rfl, gl_tb (by decide +kernel) rfl, gl_tb (by decide +kernel) rfl⟩
theorem vw_mmax : Cond.static Lib.Math.max.name ∈ gl ∧ Cond.initialized "java/lang/Math" ∈ gl ∧ Cond.code Lib.Math.max.name Lib.Math.max.code 2 (some .int) ∈ gl := ⟨gl_tb (by decide +kernel) rfl, gl_tb (by decide +kernel) rfl, gl_tb (by decide +kernel) rfl⟩
theorem vw_mmin : Cond.static Lib.Math.min.name ∈ gl ∧ Cond.initialized "java/lang/Math" ∈ gl ∧ Cond.code Lib.Math.min.name Lib.Math.min.code 2 (some .int) ∈ gl := ⟨gl_tb (by decide +kernel) rfl, gl_tb (by decide +kernel) rfl, gl_tb (by decide +kernel) rfl⟩
theorem vw_mabs : Cond.static Lib.Math.abs.name ∈ gl ∧ Cond.initialized "java/lang/Math" ∈ gl ∧ Cond.code Lib.Math.abs.name Lib.Math.abs.code 1 (some .int) ∈ gl := ⟨gl_tb (by decide +kernel) rfl, gl_tb (by decide +kernel) rfl, gl_tb (by decide +kernel) rfl⟩
end
section
/-! helpers of the walks -/
theorem iinc1 (i : Nat) : nI i + Int32.ofInt 1 = nI (i + 1) := by
  have h : Int32.ofInt 1 = 1 := by decide
  rw [h]
  exact nI_1 i
theorem nar_z {x : Int32} (h : x = 0 ∨ x = 1) : narrow .boolean (.int x) = .int x := by rcases h with rfl | rfl <;> rfl
def b2i (b : Bool) : Int32 := if b then nI 1 else nI 0
theorem b2i_01 (b : Bool) : b2i b = 0 ∨ b2i b = 1 := by cases b <;> decide
theorem b2i_t {b : Bool} (h : b = true) : nI 1 = b2i b := by subst h; rfl
theorem b2i_f {b : Bool} (h : b = false) : nI 0 = b2i b := by subst h; rfl
theorem b2i_0 (b : Bool) : b2i b = 0 ↔ b = false := by cases b <;> decide
theorem b2i_n0 (b : Bool) : ¬ b2i b = 0 ↔ b = true := by cases b <;> decide
/-- a loop's induction -/
theorem jj_loop {P : Nat → Prop} (N : Nat) (he : P N) (hs : ∀ i, i < N → P (i + 1) → P i) : ∀ i, i ≤ N → P i := by
  intro i hi
  obtain ⟨n, rfl⟩ : ∃ n, N = i + n := ⟨N - i, by omega⟩
  clear hi
  induction n generalizing i with
  | zero => exact he
  | succ n ih => exact hs i (by omega) (ih (i + 1) (by rw [show i + 1 + n = i + (n + 1) by omega]; exact he) (fun j hj => hs j (by omega)))
/-- the first n places as F says, the others as they were -/
def fl {α : Type} (n : Nat) (F g : Nat → α) : Nat → α := fun y => if y < n then F y else g y
theorem fl_in {α : Type} {n y : Nat} {F g : Nat → α} (h : y < n) : fl n F g y = F y := if_pos h
theorem fl_out {α : Type} {n y : Nat} {F g : Nat → α} (h : ¬ y < n) : fl n F g y = g y := if_neg h
theorem fl_z {α : Type} (F g : Nat → α) : fl 0 F g = g := by funext y; simp [fl]
theorem fl_0 (M : Mm) (k : Nat) (F : Nat → Int32) : M = wA M k (fl 0 F (M.1 k)) := by rw [fl_z, wA_same]
theorem fl_s {i : Nat} {F g : Nat → Int32} {v : Int32} (hv : v = F i) : upd (fl i F g) i v = fl (i + 1) F g := by
  funext y
  by_cases h : y = i
  · subst h; simp [upd, fl, hv]
  · by_cases h2 : y < i
    · simp [upd, fl, h, h2, show y < i + 1 by omega]
    · simp [upd, fl, h, h2, show ¬ y < i + 1 by omega]
theorem fl_put {M : Mm} {k i : Nat} {F g : Nat → Int32} {v : Int32} (hv : v = F i) : wA (wA M k (fl i F g)) k (upd ((wA M k (fl i F g)).1 k) i v) = wA M k (fl (i + 1) F g) := by
  rw [wA_s, wA_wA, fl_s hv]
theorem fl_0L (M : Mm) (k : Nat) (F : Nat → Int64) : M = wL M k (fl 0 F (M.2 k)) := by rw [fl_z, wL_same]
theorem fl_sL {i : Nat} {F g : Nat → Int64} {v : Int64} (hv : v = F i) : vp_updL (fl i F g) i v = fl (i + 1) F g := by
  funext y
  by_cases h : y = i
  · subst h; simp [vp_updL, fl, hv]
  · by_cases h2 : y < i
    · simp [vp_updL, fl, h, h2, show y < i + 1 by omega]
    · simp [vp_updL, fl, h, h2, show ¬ y < i + 1 by omega]
theorem fl_putL {M : Mm} {k i : Nat} {F g : Nat → Int64} {v : Int64} (hv : v = F i) : wL (wL M k (fl i F g)) k (vp_updL ((wL M k (fl i F g)).2 k) i v) = wL M k (fl (i + 1) F g) := by
  rw [wL_s, wL_wL, fl_sL hv]
/-- bits -/
def bt (x : Int32) (i : Nat) : Bool := x.toBitVec.getLsbD i
theorem ix_row {c : Nat} (hc : c < 256) : (nI c >>> (nI 4 &&& 31)) &&& nI 15 = nI (c / 16) := by
  rw [pk_shrN (n := c) (by omega) (nI 4 &&& 31) 4 (by decide), pk_andN (n := c / 2 ^ 4) (by omega) (m := nI 15) 4 (by decide)]
  congr 1
  omega
theorem ix_col {c : Nat} (hc : c < 256) : nI c &&& nI 15 = nI (c % 16) := pk_andN (n := c) (by omega) (m := nI 15) 4 (by decide)
theorem ix_row1 {c : Nat} (hc : c < 256) : nI c >>> (nI 4 &&& 31) = nI (c / 16) := by
  rw [pk_shrN (n := c) (by omega) (nI 4 &&& 31) 4 (by decide)]
theorem bt_s_l : ∀ n, n < 32 → ((nI n &&& 31).toBitVec.smod 32).toNat = n := by decide +kernel
theorem bt_test (v : Int32) {j : Nat} (hj : j < 32) : (v >>> (nI j &&& 31)) &&& nI 1 = nI 1 ↔ bt v j = true := by
  have e : ((v >>> (nI j &&& 31)) &&& nI 1).toBitVec = (BitVec.ofBool (bt v j)).setWidth 32 := by
    apply BitVec.eq_of_getLsbD_eq
    intro i hi
    have hs := bt_s_l j hj
    show ((v >>> (nI j &&& 31)).toBitVec &&& (nI 1).toBitVec).getLsbD i = _
    rw [show (v >>> (nI j &&& 31)).toBitVec = v.toBitVec.sshiftRight ((nI j &&& 31).toBitVec.smod 32).toNat from rfl, hs]
    by_cases h0 : i = 0
    · subst h0
      have a1 : (v.toBitVec.sshiftRight j).getLsbD 0 = bt v j := by
        rw [BitVec.getLsbD_sshiftRight]
        simp [hj, bt]
      have a2 : (nI 1).toBitVec.getLsbD 0 = true := by decide
      rw [BitVec.getLsbD_and, a1, a2]
      cases bt v j <;> decide
    · have : (nI 1).toBitVec.getLsbD i = false := by
        show (1#32).getLsbD i = false
        simp [BitVec.getLsbD_one, h0]
      rw [BitVec.getLsbD_and, this]
      simp [h0]
  constructor
  · intro h
    rw [h] at e
    cases hb : bt v j
    · rw [hb] at e; revert e; decide
    · rfl
  · intro h
    rw [h] at e
    exact Int32.toBitVec_inj.mp e

theorem symm2 {α β : Type} {a b : α} {c d : β} (h : a = b ∧ c = d) : b = a ∧ d = c := ⟨h.1.symm, h.2.symm⟩
end
section
/-! plain facts to paste, each family by itself; over the kit's nI, lN and upd -/
/-! ===== drawers: more things than places ===== -/
theorem fb_holes : ∀ (m n : Nat) (f : Nat → Nat), (∀ i, i < n → f i < m) → (∀ i j, i < j → j < n → f i ≠ f j) → n ≤ m := by
  intro m
  induction m with
  | zero =>
    intro n f h1 _
    rcases Nat.eq_zero_or_pos n with h | h
    · omega
    · exact absurd (h1 0 h) (Nat.not_lt_zero _)
  | succ m ih =>
    intro n f h1 h2
    by_cases hx : ∃ i, i < n ∧ f i = m
    · obtain ⟨a, ha, hfa⟩ := hx
      have hg := ih (n - 1) (fun i => if i < a then f i else f (i + 1)) (by
        intro i hi
        by_cases q : i < a
        · simp only [if_pos q]
          have b1 := h1 i (by omega)
          have b2 := h2 i a q ha
          omega
        · simp only [if_neg q]
          have b1 := h1 (i + 1) (by omega)
          have b2 := h2 a (i + 1) (by omega) (by omega)
          omega) (by
        intro i j hij hj
        by_cases q : i < a
        · by_cases r : j < a
          · simp only [if_pos q, if_pos r]
            exact h2 i j hij (by omega)
          · simp only [if_pos q, if_neg r]
            exact h2 i (j + 1) (by omega) (by omega)
        · have r : ¬ j < a := by omega
          simp only [if_neg q, if_neg r]
          exact h2 (i + 1) (j + 1) (by omega) (by omega))
      omega
    · have hg := ih n f (fun i hi => by
        have b1 := h1 i hi
        have b2 : f i ≠ m := fun e => hx ⟨i, hi, e⟩
        omega) h2
      omega
/-- two of them in one place -/
theorem fb_twice {m n : Nat} {f : Nat → Nat} (h : ∀ i, i < n → f i < m) (hm : m < n) : ∃ i j, i < j ∧ j < n ∧ f i = f j := by
  refine Classical.byContradiction fun hx => ?_
  have := fb_holes m n f h (fun i j hij hj e => hx ⟨i, j, hij, hj, e⟩)
  omega
/-- as many as places, none twice: each place is taken -/
theorem fb_onto {n : Nat} {f : Nat → Nat} (h : ∀ i, i < n → f i < n) (h2 : ∀ i j, i < j → j < n → f i ≠ f j) {y : Nat} (hy : y < n) : ∃ i, i < n ∧ f i = y := by
  refine Classical.byContradiction fun hx => ?_
  have hne : ∀ i, i < n → f i ≠ y := fun i hi e => hx ⟨i, hi, e⟩
  have := fb_holes (n - 1) n (fun i => if f i < y then f i else f i - 1) (by
    intro i hi
    have b1 := h i hi
    have b2 := hne i hi
    by_cases q : f i < y
    · simp only [if_pos q]; omega
    · simp only [if_neg q]; omega) (by
    intro i j hij hj
    have b1 := hne i (by omega)
    have b2 := hne j hj
    have b3 := h2 i j hij hj
    by_cases q : f i < y
    · by_cases r : f j < y
      · simp only [if_pos q, if_pos r]; exact b3
      · simp only [if_pos q, if_neg r]; omega
    · by_cases r : f j < y
      · simp only [if_neg q, if_pos r]; omega
      · simp only [if_neg q, if_neg r]; omega)
  omega
/-! ===== how many places have a property ===== -/
def fb_ct (p : Nat → Bool) : Nat → Nat
  | 0 => 0
  | n + 1 => fb_ct p n + (if p n then 1 else 0)
theorem fb_ct_succ (p : Nat → Bool) (n : Nat) : fb_ct p (n + 1) = fb_ct p n + (if p n then 1 else 0) := rfl
theorem fb_ct_le (p : Nat → Bool) : ∀ n, fb_ct p n ≤ n
  | 0 => Nat.le_refl _
  | n + 1 => by
    have h := fb_ct_le p n
    rw [fb_ct_succ]
    split <;> omega
theorem fb_ct_step (p : Nat → Bool) (m : Nat) : ∀ n, fb_ct p m ≤ fb_ct p (m + n)
  | 0 => Nat.le_refl _
  | n + 1 => by
    have h := fb_ct_step p m n
    show fb_ct p m ≤ fb_ct p (m + n + 1)
    rw [fb_ct_succ]
    omega
theorem fb_ct_mono (p : Nat → Bool) {m n : Nat} (h : m ≤ n) : fb_ct p m ≤ fb_ct p n := by
  have := fb_ct_step p m (n - m)
  rwa [Nat.add_sub_cancel' h] at this
theorem fb_ct_cong {p q : Nat → Bool} : ∀ {n : Nat}, (∀ k, k < n → p k = q k) → fb_ct p n = fb_ct q n
  | 0, _ => rfl
  | n + 1, h => by
    rw [fb_ct_succ, fb_ct_succ, fb_ct_cong (fun k hk => h k (by omega)), h n (by omega)]
/-- one place changed -/
theorem fb_ct_out (p : Nat → Bool) (b : Bool) {i n : Nat} (h : n ≤ i) : fb_ct (fun k => if k = i then b else p k) n = fb_ct p n :=
  fb_ct_cong fun k hk => if_neg (by omega)
theorem fb_ct_upd (p : Nat → Bool) (b : Bool) {i : Nat} : ∀ {n : Nat}, i < n → fb_ct (fun k => if k = i then b else p k) n + (if p i then 1 else 0) = fb_ct p n + (if b then 1 else 0)
  | 0, h => absurd h (Nat.not_lt_zero i)
  | n + 1, h => by
    rw [fb_ct_succ, fb_ct_succ]
    rcases Nat.lt_or_ge i n with q | q
    · have := fb_ct_upd p b q
      have e : (if n = i then b else p n) = p n := if_neg (by omega)
      rw [e]
      omega
    · have e : i = n := by omega
      subst e
      rw [fb_ct_out p b (Nat.le_refl _)]
      simp only [if_true]
      omega
theorem fb_ct_sub {p q : Nat → Bool} : ∀ {n : Nat}, (∀ k, k < n → p k = true → q k = true) → fb_ct p n ≤ fb_ct q n
  | 0, _ => Nat.le_refl _
  | n + 1, h => by
    have h1 := fb_ct_sub (n := n) (p := p) (q := q) (fun k hk => h k (by omega))
    have h2 := h n (by omega)
    rw [fb_ct_succ, fb_ct_succ]
    cases hp : p n <;> cases hq : q n <;> simp_all <;> omega
theorem fb_ct_or {p q : Nat → Bool} : ∀ {n : Nat}, (∀ k, k < n → ¬ (p k = true ∧ q k = true)) → fb_ct (fun k => p k || q k) n = fb_ct p n + fb_ct q n
  | 0, _ => rfl
  | n + 1, h => by
    have h1 := fb_ct_or (n := n) (p := p) (q := q) (fun k hk => h k (by omega))
    have h2 := h n (by omega)
    rw [fb_ct_succ, fb_ct_succ, fb_ct_succ, h1]
    cases hp : p n <;> cases hq : q n <;> simp_all <;> omega
theorem fb_ct_not (p : Nat → Bool) : ∀ n, fb_ct p n + fb_ct (fun k => !p k) n = n
  | 0 => rfl
  | n + 1 => by
    have h := fb_ct_not p n
    rw [fb_ct_succ, fb_ct_succ]
    cases p n <;> simp <;> omega
theorem fb_ct_split (p : Nat → Bool) (m : Nat) : ∀ n, fb_ct p (m + n) = fb_ct p m + fb_ct (fun k => p (m + k)) n
  | 0 => rfl
  | n + 1 => by
    have h := fb_ct_split p m n
    show fb_ct p (m + n + 1) = _
    rw [fb_ct_succ, fb_ct_succ, h, Nat.add_assoc]
theorem fb_ct_zero {p : Nat → Bool} : ∀ {n : Nat}, fb_ct p n = 0 ↔ ∀ k, k < n → p k = false
  | 0 => ⟨fun _ k hk => absurd hk (Nat.not_lt_zero k), fun _ => rfl⟩
  | n + 1 => by
    have h := fb_ct_zero (p := p) (n := n)
    rw [fb_ct_succ]
    constructor
    · intro e k hk
      have e1 : fb_ct p n = 0 := by omega
      rcases Nat.lt_or_ge k n with q | q
      · exact h.mp e1 k q
      · have ek : k = n := by omega
        subst ek
        cases hp : p k
        · rfl
        · simp [hp] at e
    · intro a
      rw [h.mpr (fun k hk => a k (by omega)), a n (by omega)]
      rfl
theorem fb_ct_pos {p : Nat → Bool} {n : Nat} : 0 < fb_ct p n ↔ ∃ k, k < n ∧ p k = true := by
  constructor
  · intro h
    refine Classical.byContradiction fun hx => ?_
    have := fb_ct_zero.mpr (fun k hk => by
      cases hp : p k
      · rfl
      · exact absurd ⟨k, hk, hp⟩ hx : ∀ k, k < n → p k = false)
    omega
  · rintro ⟨k, hk, hp⟩
    rcases Nat.eq_zero_or_pos (fb_ct p n) with e | e
    · have := fb_ct_zero.mp e k hk
      rw [this] at hp
      cases hp
    · exact e
theorem fb_ct_all {p : Nat → Bool} {n : Nat} : fb_ct p n = n ↔ ∀ k, k < n → p k = true := by
  have h := fb_ct_not p n
  constructor
  · intro e k hk
    have z : fb_ct (fun k => !p k) n = 0 := by omega
    have := fb_ct_zero.mp z k hk
    cases hp : p k
    · simp [hp] at this
    · rfl
  · intro a
    have z : fb_ct (fun k => !p k) n = 0 := fb_ct_zero.mpr (fun k hk => by simp [a k hk])
    omega
/-- the k-th place with the property -/
theorem fb_ct_kth {p : Nat → Bool} {k : Nat} : ∀ {n : Nat}, k < fb_ct p n → ∃ i, i < n ∧ p i = true ∧ fb_ct p i = k
  | 0, h => absurd h (Nat.not_lt_zero k)
  | n + 1, h => by
    rcases Nat.lt_or_ge k (fb_ct p n) with q | q
    · obtain ⟨i, h1, h2⟩ := fb_ct_kth q
      exact ⟨i, by omega, h2⟩
    · rw [fb_ct_succ] at h
      cases hp : p n
      · simp [hp] at h; omega
      · simp [hp] at h
        exact ⟨n, by omega, hp, by omega⟩
theorem fb_ct_kth_one {p : Nat → Bool} {i j : Nat} (hi : p i = true) (hj : p j = true) (e : fb_ct p i = fb_ct p j) : i = j := by
  have key : ∀ a b : Nat, a < b → p a = true → fb_ct p a < fb_ct p b := by
    intro a b hab ha
    have h := fb_ct_mono p (show a + 1 ≤ b from hab)
    rw [fb_ct_succ, ha] at h
    simp at h
    omega
  rcases Nat.lt_trichotomy i j with q | q | q
  · have := key i j q hi; omega
  · exact q
  · have := key j i q hj; omega
/-! ===== sums over a range: one place changed, parts, bounds ===== -/
def fb_sm (f : Nat → Nat) : Nat → Nat
  | 0 => 0
  | n + 1 => fb_sm f n + f n
theorem fb_sm_succ (f : Nat → Nat) (n : Nat) : fb_sm f (n + 1) = fb_sm f n + f n := rfl
theorem fb_sm_cong {f g : Nat → Nat} : ∀ {n : Nat}, (∀ k, k < n → f k = g k) → fb_sm f n = fb_sm g n
  | 0, _ => rfl
  | n + 1, h => by rw [fb_sm_succ, fb_sm_succ, fb_sm_cong (fun k hk => h k (by omega)), h n (by omega)]
theorem fb_sm_out (f : Nat → Nat) (v : Nat) {i n : Nat} (h : n ≤ i) : fb_sm (fun k => if k = i then v else f k) n = fb_sm f n :=
  fb_sm_cong fun k hk => if_neg (by omega)
theorem fb_sm_upd (f : Nat → Nat) (v : Nat) {i : Nat} : ∀ {n : Nat}, i < n → fb_sm (fun k => if k = i then v else f k) n + f i = fb_sm f n + v
  | 0, h => absurd h (Nat.not_lt_zero i)
  | n + 1, h => by
    rw [fb_sm_succ, fb_sm_succ]
    rcases Nat.lt_or_ge i n with q | q
    · have := fb_sm_upd f v q
      have e : (if n = i then v else f n) = f n := if_neg (by omega)
      rw [e]
      omega
    · have e : i = n := by omega
      subst e
      rw [fb_sm_out f v (Nat.le_refl _)]
      simp only [if_true]
      omega
theorem fb_sm_add (f g : Nat → Nat) : ∀ n, fb_sm (fun k => f k + g k) n = fb_sm f n + fb_sm g n
  | 0 => rfl
  | n + 1 => by
    have h := fb_sm_add f g n
    rw [fb_sm_succ, fb_sm_succ, fb_sm_succ, h]
    omega
theorem fb_sm_le {f g : Nat → Nat} : ∀ {n : Nat}, (∀ k, k < n → f k ≤ g k) → fb_sm f n ≤ fb_sm g n
  | 0, _ => Nat.le_refl _
  | n + 1, h => by
    have h1 := fb_sm_le (n := n) (f := f) (g := g) (fun k hk => h k (by omega))
    have h2 := h n (by omega)
    rw [fb_sm_succ, fb_sm_succ]
    omega
theorem fb_sm_const (c : Nat) : ∀ n, fb_sm (fun _ => c) n = n * c
  | 0 => by rw [Nat.zero_mul]; rfl
  | n + 1 => by rw [fb_sm_succ, fb_sm_const c n, Nat.succ_mul]
theorem fb_sm_bound {f : Nat → Nat} {c n : Nat} (h : ∀ k, k < n → f k ≤ c) : fb_sm f n ≤ n * c := by
  rw [← fb_sm_const c n]
  exact fb_sm_le h
theorem fb_sm_mono (f : Nat → Nat) (m : Nat) : ∀ n, fb_sm f m ≤ fb_sm f (m + n)
  | 0 => Nat.le_refl _
  | n + 1 => by
    have h := fb_sm_mono f m n
    show fb_sm f m ≤ fb_sm f (m + n + 1)
    rw [fb_sm_succ]
    omega
theorem fb_sm_part (f : Nat → Nat) {i n : Nat} (h : i < n) : fb_sm f i + f i ≤ fb_sm f n := by
  have := fb_sm_mono f (i + 1) (n - (i + 1))
  rw [fb_sm_succ, show i + 1 + (n - (i + 1)) = n by omega] at this
  exact this
theorem fb_sm_split (f : Nat → Nat) (m : Nat) : ∀ n, fb_sm f (m + n) = fb_sm f m + fb_sm (fun k => f (m + k)) n
  | 0 => rfl
  | n + 1 => by
    have h := fb_sm_split f m n
    show fb_sm f (m + n + 1) = _
    rw [fb_sm_succ, fb_sm_succ, h, Nat.add_assoc]
theorem fb_sm_zero {f : Nat → Nat} {n : Nat} (h : fb_sm f n = 0) : ∀ k, k < n → f k = 0 := fun k hk => by
  have := fb_sm_part f hk
  omega
/-- the same over whole numbers -/
def fb_si (f : Nat → Int) : Nat → Int
  | 0 => 0
  | n + 1 => fb_si f n + f n
theorem fb_si_succ (f : Nat → Int) (n : Nat) : fb_si f (n + 1) = fb_si f n + f n := rfl
theorem fb_si_cong {f g : Nat → Int} : ∀ {n : Nat}, (∀ k, k < n → f k = g k) → fb_si f n = fb_si g n
  | 0, _ => rfl
  | n + 1, h => by rw [fb_si_succ, fb_si_succ, fb_si_cong (fun k hk => h k (by omega)), h n (by omega)]
theorem fb_si_out (f : Nat → Int) (v : Int) {i n : Nat} (h : n ≤ i) : fb_si (fun k => if k = i then v else f k) n = fb_si f n :=
  fb_si_cong fun k hk => if_neg (by omega)
theorem fb_si_upd (f : Nat → Int) (v : Int) {i : Nat} : ∀ {n : Nat}, i < n → fb_si (fun k => if k = i then v else f k) n = fb_si f n - f i + v
  | 0, h => absurd h (Nat.not_lt_zero i)
  | n + 1, h => by
    rw [fb_si_succ, fb_si_succ]
    rcases Nat.lt_or_ge i n with q | q
    · have := fb_si_upd f v q
      have e : (if n = i then v else f n) = f n := if_neg (by omega)
      rw [e]
      omega
    · have e : i = n := by omega
      subst e
      rw [fb_si_out f v (Nat.le_refl _)]
      simp only [if_true]
      omega
theorem fb_si_add (f g : Nat → Int) : ∀ n, fb_si (fun k => f k + g k) n = fb_si f n + fb_si g n
  | 0 => rfl
  | n + 1 => by
    have h := fb_si_add f g n
    rw [fb_si_succ, fb_si_succ, fb_si_succ, h]
    omega
theorem fb_si_sub (f g : Nat → Int) : ∀ n, fb_si (fun k => f k - g k) n = fb_si f n - fb_si g n
  | 0 => rfl
  | n + 1 => by
    have h := fb_si_sub f g n
    rw [fb_si_succ, fb_si_succ, fb_si_succ, h]
    omega
theorem fb_si_mul (c : Int) (f : Nat → Int) : ∀ n, fb_si (fun k => c * f k) n = c * fb_si f n
  | 0 => (Int.mul_zero c).symm
  | n + 1 => by
    have h := fb_si_mul c f n
    rw [fb_si_succ, fb_si_succ, h, Int.mul_add]
theorem fb_si_split (f : Nat → Int) (m : Nat) : ∀ n, fb_si f (m + n) = fb_si f m + fb_si (fun k => f (m + k)) n
  | 0 => (Int.add_zero _).symm
  | n + 1 => by
    have h := fb_si_split f m n
    show fb_si f (m + n + 1) = _
    rw [fb_si_succ, fb_si_succ, h, Int.add_assoc]
theorem fb_si_nat (f : Nat → Nat) : ∀ n, fb_si (fun k => (f k : Int)) n = (fb_sm f n : Int)
  | 0 => rfl
  | n + 1 => by
    have h := fb_si_nat f n
    rw [fb_si_succ, fb_sm_succ, h]
    omega
theorem fb_si_bound {f : Nat → Int} {c : Int} (hc : 0 ≤ c) : ∀ {n : Nat}, (∀ k, k < n → -c ≤ f k ∧ f k ≤ c) → -(n * c) ≤ fb_si f n ∧ fb_si f n ≤ n * c
  | 0, _ => by simp [fb_si]
  | n + 1, h => by
    have h1 := fb_si_bound (n := n) (f := f) hc (fun k hk => h k (by omega))
    have h2 := h n (by omega)
    have e : ((n + 1 : Nat) : Int) * c = n * c + c := by rw [Int.natCast_add, Int.add_mul]; simp
    rw [fb_si_succ, e]
    omega
/-! ===== bits of a long that isn't negative ===== -/
theorem fb_andL (a b : Nat) : lN a &&& lN b = lN (a &&& b) := by
  apply Int64.toBitVec_inj.1
  show BitVec.ofNat 64 a &&& BitVec.ofNat 64 b = BitVec.ofNat 64 (a &&& b)
  apply BitVec.eq_of_getLsbD_eq
  intro i hi
  simp [hi]
theorem fb_orL (a b : Nat) : lN a ||| lN b = lN (a ||| b) := by
  apply Int64.toBitVec_inj.1
  show BitVec.ofNat 64 a ||| BitVec.ofNat 64 b = BitVec.ofNat 64 (a ||| b)
  apply BitVec.eq_of_getLsbD_eq
  intro i hi
  simp [hi]
theorem fb_xorL (a b : Nat) : lN a ^^^ lN b = lN (a ^^^ b) := by
  apply Int64.toBitVec_inj.1
  show BitVec.ofNat 64 a ^^^ BitVec.ofNat 64 b = BitVec.ofNat 64 (a ^^^ b)
  apply BitVec.eq_of_getLsbD_eq
  intro i hi
  simp [hi]
theorem fb_xorI (a b : Nat) : nI a ^^^ nI b = nI (a ^^^ b) := by
  apply Int32.toBitVec_inj.1
  show BitVec.ofNat 32 a ^^^ BitVec.ofNat 32 b = BitVec.ofNat 32 (a ^^^ b)
  apply BitVec.eq_of_getLsbD_eq
  intro i hi
  simp [hi]
theorem fb_maskL (n k : Nat) : lN n &&& lN (2 ^ k - 1) = lN (n % 2 ^ k) := by rw [fb_andL, Nat.and_two_pow_sub_one_eq_mod]
theorem fb_or_sumL {a k : Nat} (b : Nat) (h : a < 2 ^ k) : lN (2 ^ k * b) ||| lN a = lN (2 ^ k * b + a) := by rw [fb_orL, Nat.two_pow_add_eq_or_of_lt h]
theorem fb_lN_inj {a b : Nat} (ha : a < 2 ^ 63) (hb : b < 2 ^ 63) : lN a = lN b ↔ a = b := by
  constructor
  · intro h
    have h1 : (BitVec.ofNat 64 a).toNat = (BitVec.ofNat 64 b).toNat := congrArg (fun x : Int64 => x.toBitVec.toNat) h
    rw [BitVec.toNat_ofNat, BitVec.toNat_ofNat, Nat.mod_eq_of_lt (by omega), Nat.mod_eq_of_lt (by omega)] at h1
    exact h1
  · rintro rfl; rfl
theorem fb_bit_nat (n j : Nat) : n &&& 2 ^ j = 0 ↔ n.testBit j = false := by
  constructor
  · intro h
    have h1 : (n &&& 2 ^ j).testBit j = false := by rw [h]; simp
    rw [Nat.testBit_and] at h1
    simpa using h1
  · intro h
    apply Nat.eq_of_testBit_eq
    intro i
    rw [Nat.testBit_and]
    by_cases hi : j = i
    · subst hi; simp [h]
    · first | (simp [Nat.testBit_two_pow, hi]; done) | (simp [Nat.testBit_two_pow_of_ne hi]; done)
/-- one bit of a long -/
theorem fb_bitL {n j : Nat} (hj : j < 63) : lN n &&& lN (2 ^ j) = 0 ↔ n.testBit j = false := by
  have h2 : (2 : Nat) ^ j < 2 ^ 63 := Nat.pow_lt_pow_right (by decide) hj
  have hle : n &&& 2 ^ j ≤ 2 ^ j := Nat.and_le_right
  rw [fb_andL, ← fb_bit_nat, show (0 : Int64) = lN 0 from rfl]
  exact fb_lN_inj (by omega) (by decide)
/-- a bit set, a bit taken off -/
theorem fb_bit_set (n j i : Nat) : (n ||| 2 ^ j).testBit i = (n.testBit i || decide (i = j)) := by
  rw [Nat.testBit_or]
  by_cases h : j = i
  · subst h; simp
  · have h2 : ¬ i = j := fun e => h e.symm
    first | (simp [Nat.testBit_two_pow, h, h2]; done) | (simp [Nat.testBit_two_pow_of_ne h, h2]; done)
theorem fb_bit_flip (n j i : Nat) : (n ^^^ 2 ^ j).testBit i = (n.testBit i ^^ decide (i = j)) := by
  rw [Nat.testBit_xor]
  by_cases h : j = i
  · subst h; simp
  · have h2 : ¬ i = j := fun e => h e.symm
    first | (simp [Nat.testBit_two_pow, h, h2]; done) | (simp [Nat.testBit_two_pow_of_ne h, h2]; done)
/-! ===== a stretch of an array written over by a function ===== -/
def fb_put {α : Type} (f g : Nat → α) (a n : Nat) : Nat → α := fun k => if a ≤ k ∧ k < a + n then g (k - a) else f k
theorem fb_put_0 {α : Type} (f g : Nat → α) (a : Nat) : fb_put f g a 0 = f := funext fun k => if_neg (by omega)
theorem fb_put_in {α : Type} {f g : Nat → α} {a n k : Nat} (h1 : a ≤ k) (h2 : k < a + n) : fb_put f g a n k = g (k - a) := if_pos ⟨h1, h2⟩
theorem fb_put_out {α : Type} {f g : Nat → α} {a n k : Nat} (h : k < a ∨ a + n ≤ k) : fb_put f g a n k = f k := if_neg (by omega)
theorem fb_put_succ (f g : Nat → Int32) (a n : Nat) : upd (fb_put f g a n) (a + n) (g n) = fb_put f g a (n + 1) := by
  funext k
  by_cases h : k = a + n
  · subst h
    simp [upd, fb_put]
  · by_cases h1 : a ≤ k ∧ k < a + n
    · have h2 : a ≤ k ∧ k < a + (n + 1) := by omega
      simp only [upd, fb_put, if_neg h, if_pos h1, if_pos h2]
    · have h2 : ¬ (a ≤ k ∧ k < a + (n + 1)) := by omega
      simp only [upd, fb_put, if_neg h, if_neg h1, if_neg h2]
/-- .. from the far end down -/
theorem fb_put_down (f g : Nat → Int32) {a n m : Nat} (h : m < n) : upd (fb_put f (fun k => g (k + (m + 1))) (a + (m + 1)) (n - (m + 1))) (a + m) (g m) = fb_put f (fun k => g (k + m)) (a + m) (n - m) := by
  funext k
  by_cases h0 : k = a + m
  · subst h0
    simp only [upd, if_true]
    rw [fb_put_in (by omega) (by omega)]
    exact congrArg g (by omega)
  · simp only [upd, if_neg h0]
    by_cases h1 : a + (m + 1) ≤ k ∧ k < a + (m + 1) + (n - (m + 1))
    · rw [fb_put_in h1.1 h1.2, fb_put_in (by omega) (by omega)]
      exact congrArg g (by omega)
    · rw [fb_put_out (by omega), fb_put_out (by omega)]
theorem fb_put_cong {α : Type} {f f2 g g2 : Nat → α} {a n : Nat} (hf : ∀ k, (k < a ∨ a + n ≤ k) → f k = f2 k) (hg : ∀ k, k < n → g k = g2 k) : fb_put f g a n = fb_put f2 g2 a n := by
  funext k
  by_cases h : a ≤ k ∧ k < a + n
  · rw [fb_put_in h.1 h.2, fb_put_in h.1 h.2, hg _ (by omega)]
  · rw [fb_put_out (by omega), fb_put_out (by omega), hf _ (by omega)]
/-! ===== the least, the first, the best so far; that there is one alone ===== -/
theorem fb_first {p : Nat → Prop} [DecidablePred p] : ∀ {n : Nat}, (∃ i, i < n ∧ p i) → ∃ i, i < n ∧ p i ∧ ∀ j, j < i → ¬ p j
  | 0, h => by obtain ⟨i, hi, -⟩ := h; exact absurd hi (Nat.not_lt_zero i)
  | n + 1, h => by
    by_cases q : ∃ i, i < n ∧ p i
    · obtain ⟨i, h1, h2⟩ := fb_first q
      exact ⟨i, by omega, h2⟩
    · obtain ⟨i, h1, h2⟩ := h
      have e : i = n := by
        rcases Nat.lt_or_ge i n with r | r
        · exact absurd ⟨i, r, h2⟩ q
        · omega
      subst e
      exact ⟨i, by omega, h2, fun j hj hp => q ⟨j, hj, hp⟩⟩
theorem fb_first_one {p : Nat → Prop} {i j : Nat} (hi : p i) (hi2 : ∀ k, k < i → ¬ p k) (hj : p j) (hj2 : ∀ k, k < j → ¬ p k) : i = j := by
  rcases Nat.lt_trichotomy i j with q | q | q
  · exact absurd hi (hj2 i q)
  · exact q
  · exact absurd hj (hi2 j q)
theorem fb_last {p : Nat → Prop} [DecidablePred p] : ∀ {n : Nat}, (∃ i, i < n ∧ p i) → ∃ i, i < n ∧ p i ∧ ∀ j, i < j → j < n → ¬ p j
  | 0, h => by obtain ⟨i, hi, -⟩ := h; exact absurd hi (Nat.not_lt_zero i)
  | n + 1, h => by
    by_cases q : p n
    · exact ⟨n, by omega, q, fun j h1 h2 => by omega⟩
    · obtain ⟨i, h1, h2⟩ := h
      have hi : i < n := by
        rcases Nat.lt_or_ge i n with r | r
        · exact r
        · have e : i = n := by omega
          subst e
          exact absurd h2 q
      obtain ⟨i2, a1, a2, a3⟩ := fb_last (n := n) ⟨i, hi, h2⟩
      refine ⟨i2, by omega, a2, fun j b1 b2 => ?_⟩
      rcases Nat.lt_or_ge j n with r | r
      · exact a3 j b1 r
      · have e : j = n := by omega
        subst e
        exact q
/-- the first greatest -/
theorem fb_best (f : Nat → Int) : ∀ {n : Nat}, 0 < n → ∃ i, i < n ∧ (∀ j, j < n → f j ≤ f i) ∧ ∀ j, j < i → f j < f i
  | 0, h => absurd h (Nat.lt_irrefl 0)
  | 1, _ => ⟨0, by omega, fun j hj => by have e : j = 0 := by omega
                                         subst e; exact Int.le_refl _, fun j hj => absurd hj (Nat.not_lt_zero j)⟩
  | n + 2, _ => by
    obtain ⟨i, h1, h2, h3⟩ := fb_best f (n := n + 1) (by omega)
    by_cases q : f i < f (n + 1)
    · refine ⟨n + 1, by omega, fun j hj => ?_, fun j hj => ?_⟩
      · rcases Nat.lt_or_ge j (n + 1) with r | r
        · have := h2 j r; omega
        · have e : j = n + 1 := by omega
          subst e; exact Int.le_refl _
      · have := h2 j hj; omega
    · refine ⟨i, by omega, fun j hj => ?_, h3⟩
      rcases Nat.lt_or_ge j (n + 1) with r | r
      · exact h2 j r
      · have e : j = n + 1 := by omega
        subst e; omega
theorem fb_best_one {f : Nat → Int} {n i j : Nat} (hi : i < n) (hi2 : ∀ k, k < n → f k ≤ f i) (hi3 : ∀ k, k < i → f k < f i) (hj : j < n) (hj2 : ∀ k, k < n → f k ≤ f j) (hj3 : ∀ k, k < j → f k < f j) : i = j := by
  rcases Nat.lt_trichotomy i j with q | q | q
  · have a := hj3 i q
    have b := hi2 j hj
    omega
  · exact q
  · have a := hi3 j q
    have b := hj2 i hi
    omega
/-- the first least -/
theorem fb_low (f : Nat → Int) {n : Nat} (h : 0 < n) : ∃ i, i < n ∧ (∀ j, j < n → f i ≤ f j) ∧ ∀ j, j < i → f i < f j := by
  obtain ⟨i, h1, h2, h3⟩ := fb_best (fun k => -f k) h
  exact ⟨i, h1, fun j hj => by have := h2 j hj; omega, fun j hj => by have := h3 j hj; omega⟩
/-! ===== signed ints as whole numbers, within bounds ===== -/
theorem fb_rng (x : Int32) : -2147483648 ≤ x.toInt ∧ x.toInt < 2147483648 := by
  have h1 := Int32.le_toInt x
  have h2 := Int32.toInt_lt x
  omega
theorem fb_bmod {z : Int} (h1 : -2147483648 ≤ z) (h2 : z < 2147483648) : z.bmod (2 ^ 32) = z := by
  rw [Int.bmod_eq_of_le (by omega) (by omega)]
theorem fb_addI {x y : Int32} (h1 : -2147483648 ≤ x.toInt + y.toInt) (h2 : x.toInt + y.toInt < 2147483648) : (x + y).toInt = x.toInt + y.toInt := by
  rw [Int32.toInt_add, fb_bmod h1 h2]
theorem fb_subI {x y : Int32} (h1 : -2147483648 ≤ x.toInt - y.toInt) (h2 : x.toInt - y.toInt < 2147483648) : (x - y).toInt = x.toInt - y.toInt := by
  rw [Int32.toInt_sub, fb_bmod h1 h2]
theorem fb_mulI {x y : Int32} (h1 : -2147483648 ≤ x.toInt * y.toInt) (h2 : x.toInt * y.toInt < 2147483648) : (x * y).toInt = x.toInt * y.toInt := by
  rw [Int32.toInt_mul, fb_bmod h1 h2]
theorem fb_negI {x : Int32} (h : x.toInt ≠ -2147483648) : (-x).toInt = -x.toInt := by
  have := fb_rng x
  rw [Int32.toInt_neg, fb_bmod (by omega) (by omega)]
theorem fb_ofI {z : Int} (h1 : -2147483648 ≤ z) (h2 : z < 2147483648) : (Int32.ofInt z).toInt = z := by
  rw [Int32.toInt_ofInt, fb_bmod h1 h2]
theorem fb_asI (x : Int32) : Int32.ofInt x.toInt = x := Int32.ofInt_toInt x
theorem fb_rngL (x : Int64) : -9223372036854775808 ≤ x.toInt ∧ x.toInt < 9223372036854775808 := by
  have h1 := Int64.le_toInt x
  have h2 := Int64.toInt_lt x
  omega
theorem fb_bmodL {z : Int} (h1 : -9223372036854775808 ≤ z) (h2 : z < 9223372036854775808) : z.bmod (2 ^ 64) = z := by
  rw [Int.bmod_eq_of_le (by omega) (by omega)]
theorem fb_addL {x y : Int64} (h1 : -9223372036854775808 ≤ x.toInt + y.toInt) (h2 : x.toInt + y.toInt < 9223372036854775808) : (x + y).toInt = x.toInt + y.toInt := by
  rw [Int64.toInt_add, fb_bmodL h1 h2]
theorem fb_subL {x y : Int64} (h1 : -9223372036854775808 ≤ x.toInt - y.toInt) (h2 : x.toInt - y.toInt < 9223372036854775808) : (x - y).toInt = x.toInt - y.toInt := by
  rw [Int64.toInt_sub, fb_bmodL h1 h2]
theorem fb_mulL {x y : Int64} (h1 : -9223372036854775808 ≤ x.toInt * y.toInt) (h2 : x.toInt * y.toInt < 9223372036854775808) : (x * y).toInt = x.toInt * y.toInt := by
  rw [Int64.toInt_mul, fb_bmodL h1 h2]
/-! ===== cuts of what is narrow already ===== -/
theorem fb_byte {x : Int32} (h1 : -128 ≤ x.toInt) (h2 : x.toInt < 128) : x.toInt8.toInt32 = x := by
  apply Int32.toInt_inj.1
  rw [Int8.toInt_toInt32, Int32.toInt_toInt8, Int.bmod_eq_of_le (by omega) (by omega)]
theorem fb_short {x : Int32} (h1 : -32768 ≤ x.toInt) (h2 : x.toInt < 32768) : x.toInt16.toInt32 = x := by
  apply Int32.toInt_inj.1
  rw [Int16.toInt_toInt32, Int32.toInt_toInt16, Int.bmod_eq_of_le (by omega) (by omega)]
theorem fb_byte_rng (x : Int32) : -128 ≤ x.toInt8.toInt32.toInt ∧ x.toInt8.toInt32.toInt < 128 := by
  rw [Int8.toInt_toInt32]
  have h1 := Int8.le_toInt x.toInt8
  have h2 := Int8.toInt_lt x.toInt8
  omega
theorem fb_short_rng (x : Int32) : -32768 ≤ x.toInt16.toInt32.toInt ∧ x.toInt16.toInt32.toInt < 32768 := by
  rw [Int16.toInt_toInt32]
  have h1 := Int16.le_toInt x.toInt16
  have h2 := Int16.toInt_lt x.toInt16
  omega
theorem fb_byte_twice (x : Int32) : x.toInt8.toInt32.toInt8.toInt32 = x.toInt8.toInt32 := fb_byte (fb_byte_rng x).1 (fb_byte_rng x).2
theorem fb_short_twice (x : Int32) : x.toInt16.toInt32.toInt16.toInt32 = x.toInt16.toInt32 := fb_short (fb_short_rng x).1 (fb_short_rng x).2
theorem fb_char {n : Nat} (h : n < 65536) : (nI n).toUInt32.toUInt16.toUInt32.toInt32 = nI n := by
  apply Int32.toBitVec_inj.1
  apply BitVec.eq_of_toNat_eq
  have e1 : (nI n).toBitVec.toNat = n := by
    show (BitVec.ofNat 32 n).toNat = n
    rw [BitVec.toNat_ofNat, Nat.mod_eq_of_lt (by omega)]
  have e2 : ((nI n).toUInt32.toUInt16.toUInt32).toNat = n := by
    rw [UInt16.toNat_toUInt32, UInt32.toNat_toUInt16]
    show (nI n).toBitVec.toNat % 2 ^ 16 = n
    rw [e1, Nat.mod_eq_of_lt (by omega)]
  rw [e1]
  exact e2
end
section
/-! sets of cells, as rows of ints and as words of longs -/
def bsum (p : Nat → Bool) : Nat → Nat
  | 0 => 0
  | n + 1 => bsum p n + (if p n then 2 ^ n else 0)
theorem bsum_lt (p : Nat → Bool) : ∀ n, bsum p n < 2 ^ n
  | 0 => by simp [bsum]
  | n + 1 => by
    have h := bsum_lt p n
    have e : 2 ^ (n + 1) = 2 ^ n + 2 ^ n := by rw [Nat.pow_succ]; omega
    rw [e]
    unfold bsum
    split <;> omega
theorem bsum_bit (p : Nat → Bool) : ∀ n j, (bsum p n).testBit j = (decide (j < n) && p j)
  | 0, j => by simp [bsum]
  | n + 1, j => by
    have h := bsum_lt p n
    have ih := bsum_bit p n j
    unfold bsum
    cases hp : p n
    · simp only [Bool.false_eq_true, if_false, Nat.add_zero]
      rw [ih]
      by_cases e : j = n
      · subst e; simp [hp]
      · by_cases h1 : j < n
        · simp [h1, show j < n + 1 by omega]
        · simp [h1, show ¬ j < n + 1 by omega]
    · simp only [if_true]
      rw [Nat.add_comm, ← Nat.one_mul (2 ^ n), Nat.mul_comm]
      by_cases e : j = n
      · subst e
        rw [Nat.testBit_two_pow_mul_add 1 h j]
        simp [hp]
      · by_cases h1 : j < n
        · rw [Nat.testBit_two_pow_mul_add 1 h j]
          simp [h1, ih, show j < n + 1 by omega]
        · rw [Nat.testBit_two_pow_mul_add 1 h j]
          rw [if_neg h1]
          have q : Nat.testBit 1 (j - n) = false := by
            cases hq : Nat.testBit 1 (j - n)
            · rfl
            · have := Nat.testBit_one_eq_true_iff_self_eq_zero.mp hq
              omega
          rw [q]
          simp [show ¬ j < n + 1 by omega]
theorem bsum_cong {p q : Nat → Bool} : ∀ {n : Nat}, (∀ x, x < n → p x = q x) → bsum p n = bsum q n
  | 0, _ => rfl
  | n + 1, h => by
    have a := bsum_cong (p := p) (q := q) (n := n) (fun x hx => h x (by omega))
    have b := h n (by omega)
    simp [bsum, a, b]
theorem bt_nI (n j : Nat) (hj : j < 32) : bt (nI n) j = n.testBit j := by
  show (BitVec.ofNat 32 n).getLsbD j = _
  rw [BitVec.getLsbD_ofNat]
  simp [hj]
theorem bt_big {x : Int32} {i : Nat} (h : 32 ≤ i) : bt x i = false := BitVec.getLsbD_of_ge x.toBitVec i h
theorem bt_ext {x y : Int32} (h : ∀ i, i < 32 → bt x i = bt y i) : x = y := Int32.toBitVec_inj.mp (BitVec.eq_of_getLsbD_eq (fun i hi => h i hi))
theorem bt_or (x y : Int32) (i : Nat) : bt (x ||| y) i = (bt x i || bt y i) := BitVec.getLsbD_or
theorem bt_and (x y : Int32) (i : Nat) : bt (x &&& y) i = (bt x i && bt y i) := BitVec.getLsbD_and
theorem bt_xor (x y : Int32) (i : Nat) : bt (x ^^^ y) i = (bt x i ^^ bt y i) := BitVec.getLsbD_xor
theorem bt_m1 : ∀ i, i < 32 → bt (-1) i = true := by decide +kernel
theorem bt_0 (i : Nat) : bt (nI 0) i = false := by
  show (BitVec.ofNat 32 0).getLsbD i = false
  simp
theorem bt_one : ∀ j, j < 16 → ∀ i, i < 32 → bt (nI 1 <<< (nI j &&& 31)) i = decide (i = j) := by decide +kernel
/-- a set's rows -/
def rowsOf (S : Nat → Bool) : Nat → Int32 := fun y => nI (bsum (fun x => S (16 * y + x)) 16)
theorem bt_rows (S : Nat → Bool) (y i : Nat) (hi : i < 32) : bt (rowsOf S y) i = (decide (i < 16) && S (16 * y + i)) := by
  unfold rowsOf
  rw [bt_nI _ _ hi, bsum_bit]
theorem rows_at (S : Nat → Bool) (c : Nat) : bt (rowsOf S (c / 16)) (c % 16) = S c := by
  rw [bt_rows _ _ _ (by omega)]
  have e : 16 * (c / 16) + c % 16 = c := by omega
  simp [e, Nat.mod_lt]
theorem rows_cong {S T : Nat → Bool} {y : Nat} (h : ∀ x, x < 16 → S (16 * y + x) = T (16 * y + x)) : rowsOf S y = rowsOf T y := by
  unfold rowsOf
  rw [bsum_cong h]
theorem rows_0 : (fun _ => nI 0) = rowsOf (fun _ => false) := by
  funext y
  apply bt_ext
  intro i hi
  rw [bt_rows _ _ _ hi, bt_0]
  simp
theorem rows_or (S T : Nat → Bool) (y : Nat) : rowsOf S y ||| rowsOf T y = rowsOf (fun c => S c || T c) y := by
  apply bt_ext
  intro i hi
  rw [bt_or, bt_rows _ _ _ hi, bt_rows _ _ _ hi, bt_rows _ _ _ hi]
  cases decide (i < 16) <;> simp
theorem rows_sub (S T : Nat → Bool) (y : Nat) : rowsOf S y &&& (rowsOf T y ^^^ -1) = rowsOf (fun c => S c && !T c) y := by
  apply bt_ext
  intro i hi
  rw [bt_and, bt_xor, bt_m1 i hi, bt_rows _ _ _ hi, bt_rows _ _ _ hi, bt_rows _ _ _ hi]
  cases decide (i < 16) <;> simp
theorem rows_and0 (S T : Nat → Bool) (y : Nat) : rowsOf S y &&& rowsOf T y = 0 ↔ ∀ x, x < 16 → (S (16 * y + x) && T (16 * y + x)) = false := by
  constructor
  · intro h x hx
    have e : bt (rowsOf S y &&& rowsOf T y) x = bt (nI 0) x := by rw [h]; rfl
    rw [bt_and, bt_rows _ _ _ (by omega), bt_rows _ _ _ (by omega), bt_0] at e
    simpa [hx] using e
  · intro h
    apply bt_ext
    intro i hi
    show _ = bt (nI 0) i
    rw [bt_and, bt_rows _ _ _ hi, bt_rows _ _ _ hi, bt_0]
    by_cases q : i < 16
    · simpa [q] using h i q
    · simp [q]
theorem rows_is0 (S : Nat → Bool) (y : Nat) : rowsOf S y = 0 ↔ ∀ x, x < 16 → S (16 * y + x) = false := by
  constructor
  · intro h x hx
    have e : bt (rowsOf S y) x = bt (nI 0) x := by rw [h]; rfl
    rw [bt_rows _ _ _ (by omega), bt_0] at e
    simpa [hx] using e
  · intro h
    apply bt_ext
    intro i hi
    show _ = bt (nI 0) i
    rw [bt_rows _ _ _ hi, bt_0]
    by_cases q : i < 16
    · simpa [q] using h i q
    · simp [q]
theorem rows_inc (S : Nat → Bool) (c : Nat) : rowsOf S (c / 16) ||| (nI 1 <<< (nI (c % 16) &&& 31)) = rowsOf (fun d => S d || d == c) (c / 16) := by
  apply bt_ext
  intro i hi
  rw [bt_or, bt_one _ (by omega) i hi, bt_rows _ _ _ hi, bt_rows _ _ _ hi]
  by_cases q : i < 16
  · have e : decide (i = c % 16) = (16 * (c / 16) + i == c) := by
      rw [Bool.eq_iff_iff]
      simp
      omega
    simp [q, e]
  · have : ¬ i = c % 16 := by omega
    simp [q, this]
theorem rows_exc (S : Nat → Bool) (c : Nat) : rowsOf S (c / 16) &&& ((nI 1 <<< (nI (c % 16) &&& 31)) ^^^ -1) = rowsOf (fun d => S d && !(d == c)) (c / 16) := by
  apply bt_ext
  intro i hi
  rw [bt_and, bt_xor, bt_m1 i hi, bt_one _ (by omega) i hi, bt_rows _ _ _ hi, bt_rows _ _ _ hi]
  by_cases q : i < 16
  · have e : decide (i = c % 16) = (16 * (c / 16) + i == c) := by
      rw [Bool.eq_iff_iff]
      simp
      omega
    simp [q, e]
  · simp [q]
theorem upd_rows {S T : Nat → Bool} {y : Nat} {v : Int32} (hv : v = rowsOf T y) (ho : ∀ c, c / 16 ≠ y → S c = T c) : upd (rowsOf S) y v = rowsOf T := by
  funext z
  by_cases h : z = y
  · subst h; simp [upd, hv]
  · simp only [upd, if_neg h]
    exact rows_cong (fun x hx => ho _ (by omega))
/-! words of longs -/
def bl (x : Int64) (i : Nat) : Bool := x.toBitVec.getLsbD i
theorem bl_lN (n j : Nat) (hj : j < 64) : bl (lN n) j = n.testBit j := by
  show (BitVec.ofNat 64 n).getLsbD j = _
  rw [BitVec.getLsbD_ofNat]
  simp [hj]
theorem bl_ext {x y : Int64} (h : ∀ i, i < 64 → bl x i = bl y i) : x = y := Int64.toBitVec_inj.mp (BitVec.eq_of_getLsbD_eq (fun i hi => h i hi))
theorem bl_or (x y : Int64) (i : Nat) : bl (x ||| y) i = (bl x i || bl y i) := BitVec.getLsbD_or
theorem bl_and (x y : Int64) (i : Nat) : bl (x &&& y) i = (bl x i && bl y i) := BitVec.getLsbD_and
theorem bl_xor (x y : Int64) (i : Nat) : bl (x ^^^ y) i = (bl x i ^^ bl y i) := BitVec.getLsbD_xor
theorem bl_m1 : ∀ i, i < 64 → bl (-1) i = true := by decide +kernel
theorem bl_0 (i : Nat) : bl (lN 0) i = false := by
  show (BitVec.ofNat 64 0).getLsbD i = false
  simp
def lwOf (S : Nat → Bool) (w : Nat) : Int64 := lN (bsum (fun x => S (64 * w + x)) 64)
theorem bl_lw (S : Nat → Bool) (w i : Nat) (hi : i < 64) : bl (lwOf S w) i = S (64 * w + i) := by
  unfold lwOf
  rw [bl_lN _ _ hi, bsum_bit]
  simp [hi]
end
section
/-! memories that the machine can't tell apart -/
def meq (M M2 : Mm) : Prop := ∀ k, k < 505 → (match kd k with
  | .inl (_, fl) => ∀ j, (fl[j]? = some 0 → M.1 k j = M2.1 k j) ∧ (fl[j]? = some 1 → M.2 k j = M2.2 k j)
  | .inr (0, n, _, _) => ∀ j, j < n → M.1 k j = M2.1 k j
  | .inr (1, n, _, _) => ∀ j, j < n → M.1 k j = M2.1 k j
  | .inr (2, n, _, _) => ∀ j, j < n → M.2 k j = M2.2 k j
  | .inr (_ + 3, _, _, _) => True)
theorem lf_meq (E : Ee) {M M2 : Mm} {k : Nat} : ∀ (fl : List Nat) (i : Nat), (∀ j, (fl[j]? = some 0 → M.1 k (i + j) = M2.1 k (i + j)) ∧ (fl[j]? = some 1 → M.2 k (i + j) = M2.2 k (i + j))) → lf E M k i fl = lf E M2 k i fl
  | [], _, _ => rfl
  | a :: t, i, h => by
    have ih := lf_meq E t (i + 1) (fun j => by
      have := h (j + 1)
      rw [show i + (j + 1) = i + 1 + j by omega] at this
      simpa using this)
    have h0 := h 0
    match a with
    | 0 => simp only [lf]; rw [ih, show M.1 k i = M2.1 k i from h0.1 rfl]
    | 1 => simp only [lf]; rw [ih, show M.2 k i = M2.2 k i from h0.2 rfl]
    | r + 2 => simp only [lf]; rw [ih]
theorem arrV_cong {cA : ClassId} {n : Nat} {f g : Nat → Value} (h : ∀ j, j < n → f j = g j) : arrV cA n f = arrV cA n g := by
  unfold arrV
  congr 1
  apply Array.ext_getElem?
  intro i
  by_cases hi : i < n
  · simp [hi, h i hi]
  · simp [hi]
theorem meq_at (E : Ee) {M M2 : Mm} (h : meq M M2) {k : Nat} (hk : k < 505) {H : Heap} (a : va_at E.1 vwCl (E.2.2 k, lc E M k) H) : va_at E.1 vwCl (E.2.2 k, lc E M2 k) H := by
  have h1 := h k hk
  unfold lc at a ⊢
  revert h1 a
  generalize kd k = q
  intro a h1
  match q, h1, a with
  | .inl (ci, fl), h1, a =>
    have e : lf E M k 0 fl = lf E M2 k 0 fl := lf_meq E fl 0 (fun j => by simpa using h1 j)
    simp only [lcK] at a ⊢
    rw [← e]
    exact a
  | .inr (0, n, _, _), h1, a =>
    simp only [lcK, va_at] at a ⊢
    rw [a, vp_cell_i, vp_cell_i, arrV_cong (fun j hj => by rw [h1 j hj])]
  | .inr (1, n, _, _), h1, a =>
    simp only [lcK, va_at] at a ⊢
    rw [a, vp_cell_i, vp_cell_i, arrV_cong (fun j hj => by rw [h1 j hj])]
  | .inr (2, n, _, _), h1, a =>
    simp only [lcK, va_at] at a ⊢
    rw [a, vp_cell_l, vp_cell_l, arrV_cong (fun j hj => by rw [h1 j hj])]
  | .inr (t + 3, n, b, d), h1, a => exact a
theorem meq_D (E : Ee) {A : Nat → Prop} {M M2 : Mm} (h : va_D A (lw E M)) : va_D A (lw E M2) := by
  have hl : ∀ (i : Nat) (p : Nat × va_E), (lw E M2)[i]? = some p → (lw E M)[i]? = some (p.1, lc E M i) := by
    intro i p hp
    have hi : i < 505 := by have := (List.getElem?_eq_some_iff.mp hp).1; rw [lw_len] at this; exact this
    rw [lw_get E M2 hi] at hp
    cases hp
    exact lw_get E M hi
  exact ⟨fun i j p q hp hq e => h.1 i j _ _ (hl i p hp) (hl j q hq) e, fun k q hq => h.2 k (q.1, lc E M k) (hl k q hq)⟩
theorem meq_P (E : Ee) {M M2 : Mm} (h : meq M M2) {H : Heap} (a : va_P E.1 vwCl (lw E M) H) : va_P E.1 vwCl (lw E M2) H := by
  intro k q hq
  have hk : k < 505 := by have := (List.getElem?_eq_some_iff.mp hq).1; rw [lw_len] at this; exact this
  rw [lw_get E M2 hk] at hq
  cases hq
  exact meq_at E h hk (a k _ (lw_get E M hk))
theorem jj_eqv {Z : Zt} {κ : Nat × Nat} {M M2 : Mm} {pc : Nat} {L : List (Option Value)} {st : List Value} (h : meq M M2) (k : JJ Z κ M2 pc L st) : JJ Z κ M pc L st := fun H locs ls a b c d => k H locs ls (meq_P _ h a) (meq_D _ b) c d
theorem meq_wA {M : Mm} {k n x y t : Nat} {f g : Nat → Int32} (hk : kd k = .inr (t, n, x, y)) (h : ∀ j, j < n → f j = g j) : meq (wA M k f) (wA M k g) := by
  intro a ha
  by_cases e : a = k
  · subst e
    rw [hk]
    match t with
    | 0 => intro j hj; rw [wA_s, wA_s]; exact h j hj
    | 1 => intro j hj; rw [wA_s, wA_s]; exact h j hj
    | 2 => intro j hj; rfl
    | t + 3 => trivial
  · generalize kd a = q
    match q with
    | .inl (_, fl) => intro j; rw [wA_n e, wA_n e]; exact ⟨fun _ => rfl, fun _ => rfl⟩
    | .inr (0, n, _, _) => intro j hj; rw [wA_n e, wA_n e]
    | .inr (1, n, _, _) => intro j hj; rw [wA_n e, wA_n e]
    | .inr (2, n, _, _) => intro j hj; rfl
    | .inr (t + 3, n, _, _) => trivial
theorem meq_wL {M : Mm} {k n x y t : Nat} {f g : Nat → Int64} (hk : kd k = .inr (t, n, x, y)) (h : ∀ j, j < n → f j = g j) : meq (wL M k f) (wL M k g) := by
  intro a ha
  by_cases e : a = k
  · subst e
    rw [hk]
    match t with
    | 0 => intro j hj; rfl
    | 1 => intro j hj; rfl
    | 2 => intro j hj; rw [wL_s, wL_s]; exact h j hj
    | t + 3 => trivial
  · generalize kd a = q
    match q with
    | .inl (_, fl) => intro j; rw [wL_n e, wL_n e]; exact ⟨fun _ => rfl, fun _ => rfl⟩
    | .inr (0, n, _, _) => intro j hj; rfl
    | .inr (1, n, _, _) => intro j hj; rfl
    | .inr (2, n, _, _) => intro j hj; rw [wL_n e, wL_n e]
    | .inr (t + 3, n, _, _) => trivial
theorem meq_fl {M : Mm} {k n x y t : Nat} {F g : Nat → Int32} (hk : kd k = .inr (t, n, x, y)) : meq (wA M k (fl n F g)) (wA M k F) := meq_wA hk (fun _ hj => fl_in hj)
theorem meq_flL {M : Mm} {k n x y t : Nat} {F g : Nat → Int64} (hk : kd k = .inr (t, n, x, y)) : meq (wL M k (fl n F g)) (wL M k F) := meq_wL hk (fun _ hj => fl_in hj)
/-! a family of cells b, b + d, b + 2 d .. -/
def fam (b d n : Nat) (g : Nat → Nat → Int32) (M : Mm) : Mm := (fun a => if b ≤ a ∧ (a - b) % d = 0 ∧ (a - b) / d < n then g ((a - b) / d) else M.1 a, M.2)
theorem fam_2 (b d n : Nat) (g : Nat → Nat → Int32) (M : Mm) : (fam b d n g M).2 = M.2 := rfl
theorem fam_in {b d n i : Nat} {g : Nat → Nat → Int32} {M : Mm} (hd : 0 < d) (hi : i < n) : (fam b d n g M).1 (b + d * i) = g i := by
  have e : b + d * i - b = d * i := by omega
  simp only [fam, e, Nat.mul_mod_right, Nat.mul_div_cancel_left i hd]
  rw [if_pos ⟨by omega, trivial, hi⟩]
theorem fam_out {b d n a : Nat} {g : Nat → Nat → Int32} {M : Mm} (h : ∀ i, i < n → a ≠ b + d * i) : (fam b d n g M).1 a = M.1 a := by
  simp only [fam]
  rw [if_neg]
  rintro ⟨h1, h2, h3⟩
  have := Nat.div_add_mod (a - b) d
  rw [h2] at this
  exact h _ h3 (by omega)
theorem fam_0 (b d : Nat) (g : Nat → Nat → Int32) (M : Mm) : fam b d 0 g M = M := by
  refine Prod.ext ?_ rfl
  funext a
  simp [fam]
theorem fam_s {b d i : Nat} {g : Nat → Nat → Int32} {M : Mm} (hd : 0 < d) : wA (fam b d i g M) (b + d * i) (g i) = fam b d (i + 1) g M := by
  refine Prod.ext ?_ rfl
  funext a
  by_cases h : a = b + d * i
  · subst h
    rw [wA_s, fam_in hd (by omega)]
  · rw [wA_n h]
    by_cases q : ∃ j, j < i ∧ a = b + d * j
    · obtain ⟨j, hj, rfl⟩ := q
      rw [fam_in hd hj, fam_in hd (by omega)]
    · rw [fam_out (fun j hj e => q ⟨j, hj, e⟩), fam_out (fun j hj e => by
        rcases Nat.lt_or_ge j i with w | w
        · exact q ⟨j, w, e⟩
        · have : j = i := by omega
          subst this
          exact h e)]

section JX
variable {Z : Zt} {cc : ByteArray} {cx : Cond} {own : String} {rm : Room} {κ : Nat × Nat} {M : Mm} {pc : Nat} {L : List (Option Value)} {st : List Value}
theorem jj_iushr {Ts : List Cond} (F : ZF Z cc Ts own rm) {x y : Int32} (hd : decode cc pc = .ok (.iushr, 1)) (k : JJ Z κ M (pc + 1) L (.int ((x.toUInt32 >>> (y.toUInt32 &&& Int32.toUInt32 31)).toInt32) :: st)) : JJ Z κ M pc L (.int y :: .int x :: st) := fun H locs ls a b c d => lv_iushr F.x F.b hd rfl (k H locs ls a b c d)
theorem jj_ldcw {Ts : List Cond} (F : ZF Z cc Ts own rm) {index : Nat} {v : Int32} (hd : decode cc pc = .ok (.ldc_w index, 3)) (hc : (Jvm.Cond.constant own index v).before (za Z) (zs Z) = true) (k : JJ Z κ M (pc + 3) L (.int v :: st)) : JJ Z κ M pc L st := fun H locs ls a b c d => lv_ldcw F.x F.b F.ow hc hd (k H locs ls a b c d)
theorem jj_mmax (F : ZF Z cc (cx :: gl) own rm) {idx a0 b0 : Nat} (hl : Cond.methodLink own idx Lib.Math.max.name ∈ gl) (h1 : 1 ≤ rm.frames) (h2 : (st.map fun v => v.category).sum + 13 ≤ rm.locals) (h3 : κ.1 ≤ rm.cells) (h4 : κ.2 ≤ rm.slots) (ha : a0 < 2 ^ 31) (hb : b0 < 2 ^ 31) (hd : decode cc pc = .ok (.invokestatic idx, 3)) (k : JJ Z κ M (pc + 3) L (.int (nI (max a0 b0)) :: st)) : JJ Z κ M pc L (.int (nI b0) :: .int (nI a0) :: st) := fun H locs ls a b c d => by
  refine va_mmax F.x F.b (F.ml.trans d.1.symm) F.ow (F.hts _ (List.mem_cons_of_mem _ hl)) (F.hts _ (List.mem_cons_of_mem _ vw_mmax.1)) (F.hts _ (List.mem_cons_of_mem _ vw_mmax.2.1)) (F.hts _ (List.mem_cons_of_mem _ vw_mmax.2.2)) (by rw [F.R]; exact h1) (by rw [F.R]; exact h2) (by rw [F.R]; exact h3) (by rw [F.R]; exact h4) hd ?_
  have e : (if nI a0 < nI b0 then nI b0 else nI a0) = nI (max a0 b0) := by
    by_cases q : a0 < b0
    · rw [if_pos ((nI_ltI ha hb).mpr q), Nat.max_eq_right (by omega)]
    · rw [if_neg (fun w => q ((nI_ltI ha hb).mp w)), Nat.max_eq_left (by omega)]
  rw [e]
  exact k H locs ls a b c d
theorem jj_mmin (F : ZF Z cc (cx :: gl) own rm) {idx a0 b0 : Nat} (hl : Cond.methodLink own idx Lib.Math.min.name ∈ gl) (h1 : 1 ≤ rm.frames) (h2 : (st.map fun v => v.category).sum + 13 ≤ rm.locals) (h3 : κ.1 ≤ rm.cells) (h4 : κ.2 ≤ rm.slots) (ha : a0 < 2 ^ 31) (hb : b0 < 2 ^ 31) (hd : decode cc pc = .ok (.invokestatic idx, 3)) (k : JJ Z κ M (pc + 3) L (.int (nI (min a0 b0)) :: st)) : JJ Z κ M pc L (.int (nI b0) :: .int (nI a0) :: st) := fun H locs ls a b c d => by
  refine va_mmin F.x F.b (F.ml.trans d.1.symm) F.ow (F.hts _ (List.mem_cons_of_mem _ hl)) (F.hts _ (List.mem_cons_of_mem _ vw_mmin.1)) (F.hts _ (List.mem_cons_of_mem _ vw_mmin.2.1)) (F.hts _ (List.mem_cons_of_mem _ vw_mmin.2.2)) (by rw [F.R]; exact h1) (by rw [F.R]; exact h2) (by rw [F.R]; exact h3) (by rw [F.R]; exact h4) hd ?_
  have e : (if nI b0 < nI a0 then nI b0 else nI a0) = nI (min a0 b0) := by
    by_cases q : b0 < a0
    · rw [if_pos ((nI_ltI hb ha).mpr q), Nat.min_eq_right (by omega)]
    · rw [if_neg (fun w => q ((nI_ltI hb ha).mp w)), Nat.min_eq_left (by omega)]
  rw [e]
  exact k H locs ls a b c d
theorem jj_mabs (F : ZF Z cc (cx :: gl) own rm) {idx : Nat} {x : Int32} (hl : Cond.methodLink own idx Lib.Math.abs.name ∈ gl) (h1 : 1 ≤ rm.frames) (h2 : (st.map fun v => v.category).sum + 13 ≤ rm.locals) (h3 : κ.1 ≤ rm.cells) (h4 : κ.2 ≤ rm.slots) (hd : decode cc pc = .ok (.invokestatic idx, 3)) (k : JJ Z κ M (pc + 3) L (.int (if 0 ≤ x then x else 0 - x) :: st)) : JJ Z κ M pc L (.int x :: st) := fun H locs ls a b c d =>
  va_mabs F.x F.b (F.ml.trans d.1.symm) F.ow (F.hts _ (List.mem_cons_of_mem _ hl)) (F.hts _ (List.mem_cons_of_mem _ vw_mabs.1)) (F.hts _ (List.mem_cons_of_mem _ vw_mabs.2.1)) (F.hts _ (List.mem_cons_of_mem _ vw_mabs.2.2)) (by rw [F.R]; exact h1) (by rw [F.R]; exact h2) (by rw [F.R]; exact h3) (by rw [F.R]; exact h4) hd (k H locs ls a b c d)
end JX
/-! Integer.bitCount over 16 bits -/
def bcE (x : Int32) : Int32 :=
  let u (x y : Int32) : Int32 := (x.toUInt32 >>> (y.toUInt32 &&& Int32.toUInt32 31)).toInt32
  let a := x - (u x (nI 1) &&& 1431655765)
  let b := (a &&& 858993459) + (u a (nI 2) &&& 858993459)
  let c := (b + u b (nI 4)) &&& 252645135
  let d := c + u c (nI 8)
  let e := d + u d (nI 16)
  e &&& nI 63
theorem split_and {a0 a1 m0 m1 : Nat} (ha : a0 < 256) (hm : m0 < 256) : (a0 + 256 * a1) &&& (m0 + 256 * m1) = (a0 &&& m0) + 256 * (a1 &&& m1) := by
  apply Nat.eq_of_testBit_eq
  intro i
  have h1 : a0 &&& m0 < 2 ^ 8 := Nat.lt_of_le_of_lt Nat.and_le_left ha
  rw [Nat.testBit_and, Nat.add_comm a0, Nat.add_comm m0, Nat.add_comm (a0 &&& m0), show (256 : Nat) = 2 ^ 8 from rfl, Nat.testBit_two_pow_mul_add a1 (show a0 < 2 ^ 8 from ha), Nat.testBit_two_pow_mul_add m1 (show m0 < 2 ^ 8 from hm), Nat.testBit_two_pow_mul_add (a1 &&& m1) h1]
  split
  · rw [Nat.testBit_and]
  · rw [Nat.testBit_and]
def p8 (x : Nat) : Nat := x % 2 + x / 2 % 2 + x / 4 % 2 + x / 8 % 2 + x / 16 % 2 + x / 32 % 2 + x / 64 % 2 + x / 128 % 2
def s1 (x : Nat) : Nat := x - (x / 2 &&& 85)
def s2 (x : Nat) : Nat := (x &&& 51) + (x / 4 &&& 51)
def s3 (x : Nat) : Nat := (x + x / 16) &&& 15
theorem st_1 : ∀ x, x < 256 → (∀ r, r < 2 → (x / 2 + 128 * r) &&& 85 = (x / 2 &&& 85)) ∧ s1 x < 256 ∧ (x / 2 &&& 85) ≤ x := by decide +kernel
theorem st_2 : ∀ x, x < 256 → (∀ r, r < 4 → (x / 4 + 64 * r) &&& 51 = (x / 4 &&& 51)) := by decide +kernel
theorem st_2b : ∀ x, x < 256 → s2 (s1 x) ≤ 68 ∧ s2 (s1 x) % 16 ≤ 4 := by decide +kernel
theorem st_3 : ∀ x, x < 69 → ∀ r, r < 5 → (x + x / 16 + 16 * r) &&& 15 = s3 x := by decide +kernel
theorem st_4 : ∀ x, x < 256 → s3 (s2 (s1 x)) = p8 x ∧ p8 x ≤ 8 := by decide +kernel
theorem st_5 : ∀ x, x < 9 → ∀ y, y < 9 → (x + 256 * y + y) &&& 63 = x + y := by decide +kernel
def bcM (n : Nat) : Nat :=
  let a := n - (n / 2 &&& 1431655765)
  let b := (a &&& 858993459) + (a / 4 &&& 858993459)
  let c := (b + b / 16) &&& 252645135
  let d := c + c / 256
  let e := d + d / 65536
  e &&& 63
theorem and_low {x m m0 : Nat} (k : Nat) (hx : x < 2 ^ k) (hm : m % 2 ^ k = m0) : x &&& m = x &&& m0 := by
  apply Nat.eq_of_testBit_eq
  intro i
  rw [Nat.testBit_and, Nat.testBit_and]
  by_cases h : i < k
  · subst hm
    rw [Nat.testBit_mod_two_pow]
    simp [h]
  · rw [Nat.testBit_lt_two_pow (Nat.lt_of_lt_of_le hx (Nat.pow_le_pow_right (by omega) (by omega)))]
    simp
theorem bcM_eq {lo hi : Nat} (h1 : lo < 256) (h2 : hi < 256) : bcM (lo + 256 * hi) = p8 lo + p8 hi := by
  have e1 : (lo + 256 * hi) / 2 &&& 1431655765 = (lo / 2 &&& 85) + 256 * (hi / 2 &&& 85) := by
    rw [and_low 16 (m0 := 85 + 256 * 85) (by omega) (by decide), show (lo + 256 * hi) / 2 = (lo / 2 + 128 * (hi % 2)) + 256 * (hi / 2) by omega, split_and (by omega) (by omega), (st_1 lo h1).1 _ (by omega)]
  have q1 := (st_1 lo h1).2
  have q2 := (st_1 hi h2).2
  have ea : (lo + 256 * hi) - ((lo + 256 * hi) / 2 &&& 1431655765) = s1 lo + 256 * s1 hi := by
    rw [e1]
    unfold s1
    have := q1.2
    have := q2.2
    omega
  have e2 : ∀ x y, x < 256 → y < 256 → (x + 256 * y &&& 858993459) + ((x + 256 * y) / 4 &&& 858993459) = s2 x + 256 * s2 y := by
    intro x y hx hy
    rw [and_low 16 (m0 := 51 + 256 * 51) (by omega) (by decide), and_low (x := (x + 256 * y) / 4) 16 (m0 := 51 + 256 * 51) (by omega) (by decide), split_and hx (by omega), show (x + 256 * y) / 4 = (x / 4 + 64 * (y % 4)) + 256 * (y / 4) by omega, split_and (by omega) (by omega), st_2 x hx _ (by omega)]
    unfold s2
    omega
  have e3 : ∀ x y, x < 69 → y < 69 → y % 16 ≤ 4 → (x + 256 * y + (x + 256 * y) / 16) &&& 252645135 = s3 x + 256 * s3 y := by
    intro x y hx hy hz
    rw [and_low 16 (m0 := 15 + 256 * 15) (by omega) (by decide), show x + 256 * y + (x + 256 * y) / 16 = (x + x / 16 + 16 * (y % 16)) + 256 * (y + y / 16) by omega, split_and (by omega) (by omega), st_3 x hx _ (by omega)]
    unfold s3
    omega
  have f1 := st_2b lo h1
  have f2 := st_2b hi h2
  have g1 := st_4 lo h1
  have g2 := st_4 hi h2
  unfold bcM
  dsimp only
  rw [ea, e2 _ _ q1.1 q2.1, e3 _ _ (by omega) (by omega) f2.2, g1.1, g2.1, show (p8 lo + 256 * p8 hi) / 256 = p8 hi by omega, show (p8 lo + 256 * p8 hi + p8 hi) / 65536 = 0 by omega, Nat.add_zero, st_5 _ (by omega) _ (by omega)]
theorem p8_ct (p : Nat → Bool) (x : Nat) (h : ∀ i, i < 8 → x.testBit i = p i) : p8 x = fb_ct p 8 := by
  have q : ∀ i, i < 8 → x / 2 ^ i % 2 = if p i then 1 else 0 := by
    intro i hi
    rw [← h i hi, Nat.testBit_eq_decide_div_mod_eq]
    have := Nat.mod_lt (x / 2 ^ i) (show 0 < 2 by omega)
    by_cases e : x / 2 ^ i % 2 = 1
    · simp [e]
    · have : x / 2 ^ i % 2 = 0 := by omega
      simp [this]
  have q0 := q 0 (by omega)
  have q1 := q 1 (by omega)
  have q2 := q 2 (by omega)
  have q3 := q 3 (by omega)
  have q4 := q 4 (by omega)
  have q5 := q 5 (by omega)
  have q6 := q 6 (by omega)
  have q7 := q 7 (by omega)
  simp only [Nat.reducePow, Nat.div_one] at q0 q1 q2 q3 q4 q5 q6 q7
  simp only [p8, fb_ct, q0, q1, q2, q3, q4, q5, q6, q7, Nat.zero_add]
theorem bcM_ct {n : Nat} (h : n < 65536) : bcM n = fb_ct (fun i => n.testBit i) 16 := by
  have e : n = n % 256 + 256 * (n / 256) := by omega
  rw [show (16 : Nat) = 8 + 8 from rfl, fb_ct_split]
  rw [← p8_ct (fun i => n.testBit i) (n % 256) (fun i hi => by rw [show (256 : Nat) = 2 ^ 8 from rfl, Nat.testBit_mod_two_pow]; simp [hi])]
  rw [← p8_ct (fun i => n.testBit (8 + i)) (n / 256) (fun i hi => by rw [show (256 : Nat) = 2 ^ 8 from rfl, Nat.testBit_div_two_pow, Nat.add_comm])]
  rw [← bcM_eq (by omega) (by omega), ← e]
theorem nI_and (a b : Nat) : nI a &&& nI b = nI (a &&& b) := by
  apply bt_ext
  intro i hi
  rw [bt_and, bt_nI _ _ hi, bt_nI _ _ hi, bt_nI _ _ hi, Nat.testBit_and]
theorem nI_ushr {n : Nat} (hn : n < 2 ^ 32) (k : Nat) (hk : k < 32) : ((nI n).toUInt32 >>> ((nI k).toUInt32 &&& Int32.toUInt32 31)).toInt32 = nI (n / 2 ^ k) := pk_ushrN hn (nI k) k (by revert k; decide +kernel)
theorem bcE_eq {n : Nat} (h : n < 65536) : bcE (nI n) = nI (bcM n) := by
  have k1 : (1431655765 : Int32) = nI 1431655765 := by decide
  have k2 : (858993459 : Int32) = nI 858993459 := by decide
  have k3 : (252645135 : Int32) = nI 252645135 := by decide
  unfold bcE bcM
  dsimp only
  rw [k1, k2, k3]
  have l1 : n / 2 &&& 1431655765 ≤ n := Nat.le_trans Nat.and_le_left (by omega)
  rw [nI_ushr (by omega) 1 (by omega), nI_and, show n / 2 ^ 1 = n / 2 by omega, pk_sub l1]
  generalize ha : n - (n / 2 &&& 1431655765) = a
  have la : a < 65536 := by omega
  rw [nI_and, nI_ushr (by omega) 2 (by omega), nI_and, show a / 2 ^ 2 = a / 4 by omega, nI_add]
  have lb1 : a &&& 858993459 ≤ a := Nat.and_le_left
  have lb2 : a / 4 &&& 858993459 ≤ a / 4 := Nat.and_le_left
  generalize hb : (a &&& 858993459) + (a / 4 &&& 858993459) = b
  have lb : b < 131072 := by omega
  rw [nI_ushr (by omega) 4 (by omega), nI_add, nI_and, show b / 2 ^ 4 = b / 16 by omega]
  have lc1 : (b + b / 16) &&& 252645135 ≤ b + b / 16 := Nat.and_le_left
  generalize hc : (b + b / 16) &&& 252645135 = c
  have lc : c < 262144 := by omega
  rw [nI_ushr (by omega) 8 (by omega), nI_add, show c / 2 ^ 8 = c / 256 by omega, nI_ushr (by omega) 16 (by omega), nI_add, nI_and, show (c + c / 256) / 2 ^ 16 = (c + c / 256) / 65536 by omega]
end
section
/-! CellSet: cell k, its rows cell k + 1 -/
def isCS (k : Nat) : Prop := kd k = .inl (0, [k + 3]) ∧ kd (k + 1) = .inr (0, 16, 0, 0)
def exB : Nat → (Nat → Bool) → Bool
  | 0, _ => false
  | n + 1, p => exB n p || p n
theorem exB_t {p : Nat → Bool} : ∀ {n i : Nat}, i < n → p i = true → exB n p = true
  | 0, i, h, _ => absurd h (Nat.not_lt_zero i)
  | n + 1, i, h, hp => by
    rcases Nat.lt_or_ge i n with q | q
    · simp [exB, exB_t q hp]
    · have : i = n := by omega
      subst this
      simp [exB, hp]
theorem exB_f {p : Nat → Bool} : ∀ {n : Nat}, (∀ i, i < n → p i = false) → exB n p = false
  | 0, _ => rfl
  | n + 1, h => by
    have a := exB_f (p := p) (n := n) (fun i hi => h i (by omega))
    have b := h n (by omega)
    simp [exB, a, b]
theorem exB_iff {p : Nat → Bool} {n : Nat} : exB n p = true ↔ ∃ i, i < n ∧ p i = true := by
  constructor
  · intro h
    by_cases q : ∃ i, i < n ∧ p i = true
    · exact q
    · rw [exB_f (fun i hi => by
        cases hp : p i
        · rfl
        · exact absurd ⟨i, hi, hp⟩ q)] at h
      cases h
  · rintro ⟨i, hi, hp⟩
    exact exB_t hi hp
theorem rows_and_ex {S T : Nat → Bool} {y : Nat} (h : ¬ rowsOf S y &&& rowsOf T y = 0) : ∃ x, x < 16 ∧ (S (16 * y + x) && T (16 * y + x)) = true := by
  by_cases q : ∃ x, x < 16 ∧ (S (16 * y + x) && T (16 * y + x)) = true
  · exact q
  · refine absurd ((rows_and0 S T y).mpr (fun x hx => ?_)) h
    cases e : (S (16 * y + x) && T (16 * y + x))
    · rfl
    · exact absurd ⟨x, hx, e⟩ q
theorem rows_sm (S : Nat → Bool) (y : Nat) : bsum (fun x => S (16 * y + x)) 16 < 65536 := bsum_lt _ 16
theorem rows_ct (S : Nat → Bool) (i : Nat) : fb_ct S (16 * i) + fb_ct (fun j => (bsum (fun x => S (16 * i + x)) 16).testBit j) 16 = fb_ct S (16 * (i + 1)) := by
  rw [show 16 * (i + 1) = 16 * i + 16 by omega, fb_ct_split]
  congr 1
  exact fb_ct_cong (fun k hk => by rw [bsum_bit]; simp [hk])
/-- the cells of the rectangle with two corners -/
def rect (a b c : Nat) : Bool := decide (min (a % 16) (b % 16) ≤ c % 16) && decide (c % 16 ≤ max (a % 16) (b % 16)) && decide (min (a / 16) (b / 16) ≤ c / 16) && decide (c / 16 ≤ max (a / 16) (b / 16))
theorem rect_out {a b c : Nat} (h : max (a / 16) (b / 16) < c / 16) : rect a b c = false := by
  simp only [rect]
  simp
  intros
  omega
theorem rect_out2 {a b c : Nat} (h : c / 16 < min (a / 16) (b / 16)) : rect a b c = false := by
  simp only [rect]
  simp
  intros
  omega
theorem mask_bits : ∀ x, x < 16 → ∀ y, y < 16 → x ≤ y → ∀ i, i < 32 → bt ((nI 1 <<< (nI (y + 1) &&& 31)) - (nI 1 <<< (nI x &&& 31))) i = (decide (x ≤ i) && decide (i ≤ y)) := by decide +kernel
theorem rect_row {a b y : Nat} (ha : a < 256) (hb : b < 256) (h1 : min (a / 16) (b / 16) ≤ y) (h2 : y ≤ max (a / 16) (b / 16)) : rowsOf (rect a b) y = (nI 1 <<< (nI (max (a % 16) (b % 16) + 1) &&& 31)) - (nI 1 <<< (nI (min (a % 16) (b % 16)) &&& 31)) := by
  apply bt_ext
  intro i hi
  rw [bt_rows _ _ _ hi, mask_bits _ (by omega) _ (by omega) (by omega) i hi]
  by_cases q : i < 16
  · have e1 : (16 * y + i) % 16 = i := by omega
    have e2 : (16 * y + i) / 16 = y := by omega
    simp only [rect, e1, e2, decide_eq_true h1, decide_eq_true h2, decide_eq_true q, Bool.and_true, Bool.true_and]
  · have : ¬ i ≤ max (a % 16) (b % 16) := by omega
    simp [q, this]
theorem rect_rows {M : Mm} {k a b y : Nat} (ha : a < 256) (hb : b < 256) (hy : y = max (a / 16) (b / 16) + 1) : wA M (k + 1) (fun z => if min (a / 16) (b / 16) ≤ z ∧ z < y then (nI 1 <<< (nI (max (a % 16) (b % 16) + 1) &&& 31)) - (nI 1 <<< (nI (min (a % 16) (b % 16)) &&& 31)) else rowsOf (fun _ => false) z) = wA M (k + 1) (rowsOf (rect a b)) := by
  congr 1
  funext z
  by_cases q : min (a / 16) (b / 16) ≤ z ∧ z < y
  · rw [if_pos q, rect_row ha hb q.1 (by omega)]
  · rw [if_neg q]
    refine rows_cong (fun x hx => ?_)
    have e : (16 * z + x) / 16 = z := by omega
    by_cases w : z < min (a / 16) (b / 16)
    · rw [rect_out2 (by omega)]
    · rw [rect_out (by omega)]
theorem rect_step {lo y : Nat} {v : Int32} {g : Nat → Int32} (h : lo ≤ y) : upd (fun z => if lo ≤ z ∧ z < y then v else g z) y v = (fun z => if lo ≤ z ∧ z < y + 1 then v else g z) := by
  funext z
  by_cases q : z = y
  · subst q
    simp [upd, h]
  · simp only [upd, if_neg q]
    by_cases w : lo ≤ z ∧ z < y
    · rw [if_pos w, if_pos ⟨w.1, by omega⟩]
    · rw [if_neg w, if_neg (by omega)]
theorem rect_0 (M : Mm) (k lo : Nat) (v : Int32) : wA M (k + 1) (rowsOf (fun _ => false)) = wA M (k + 1) (fun z => if lo ≤ z ∧ z < lo then v else rowsOf (fun _ => false) z) := by
  congr 1
  funext z
  rw [if_neg (by omega)]
set_option maxRecDepth 100000 in
set_option maxHeartbeats 4000000 in
theorem c_X0_becomeEmpty {l : Launch} {E : Ee} {M : Mm} {k : Nat} (hk : isCS k) : CtV l E yX0_becomeEmpty (.code yX0_becomeEmpty cX0_becomeEmpty 2 none :: gl) ({ frames := 0, cells := 0, slots := 0, locals := 0 } : Room) M [.ref (E.2.2 k)] 0 0 (fun M2 => M2 = wA M (k + 1) (rowsOf (fun _ => false))) := by
  refine ctV_of (L0 := [some (.ref (E.2.2 k)), none]) (by decide) rfl (Nat.le_of_ble_eq_true rfl) rfl ?_
  intro Z hl hE hnl F ret
  subst hE
  have in_X0 : ∀ w ∈ u_ws RX0 TX0 1, w ∈ (.code yX0_becomeEmpty cX0_becomeEmpty 2 none :: gl) := fun w h => List.mem_cons_of_mem _ (lay_X0 w h)
  have g9 : FG Z 9 0 0 := fg_mk F (C := RX0) (T := TX0) (N := 1) in_X0 rfl (by decide) rfl (List.mem_cons_of_mem _ fk_X0_9)
  obtain ⟨h0, h1⟩ := id hk
  have lo : ∀ i, i ≤ 16 → JJ Z (0, 0) (wA M (k + 1) (fl i (fun _ => nI 0) (M.1 (k + 1)))) 2 [some (.ref ((zE Z).2.2 k)), some (.int (nI i))] [] := by
    refine jj_loop (16) ?_ ?_
    · refine jj_iload_n F dX0_becomeEmpty_2 rfl ?_
      refine jj_bipush F (v := nI 16) dX0_becomeEmpty_3 (by decide) ?_
      refine jj_icmp_ge F (tgt := 21) dX0_becomeEmpty_5 (by decide) (fun _ => ?_) (fun h9 => absurd (nI_le (by omega) (by omega)) h9)
      refine jj_eqv (meq_fl h1) ?_
      rw [rows_0]
      exact ret _ _ _ dX0_becomeEmpty_21 rfl
    · intro i hi ih
      refine jj_iload_n F dX0_becomeEmpty_2 rfl ?_
      refine jj_bipush F (v := nI 16) dX0_becomeEmpty_3 (by decide) ?_
      refine jj_icmp_ge F (tgt := 21) dX0_becomeEmpty_5 (by decide) (fun h9 => absurd h9 (nI_ge (by omega) (by omega))) (fun _ => ?_)
      refine jj_aload_n F dX0_becomeEmpty_8 rfl ?_
      refine jj_getr F g9 (by assumption) (by rfl) dX0_becomeEmpty_9 ?_
      refine jj_iload_n F dX0_becomeEmpty_12 rfl ?_
      refine jj_iconst F (v := nI 0) dX0_becomeEmpty_13 (by decide) ?_
      refine jj_iast F (by assumption) rfl (by omega) dX0_becomeEmpty_14 ?_
      refine jj_iinc F dX0_becomeEmpty_15 rfl (by first | exact iinc1 _ | rfl) (by rw [hnl]; decide) ?_
      dsimp only [lq_st, lq_clr, lq_no]
      refine jj_goto F (tgt := 2) dX0_becomeEmpty_18 (by decide) ?_
      rw [fl_put rfl]
      exact ih
  refine jj_iconst F (v := nI 0) dX0_becomeEmpty_0 (by decide) ?_
  refine jj_istore_n F dX0_becomeEmpty_1 (by rw [hnl]; decide) ?_
  dsimp only [lq_st, lq_clr, lq_no]
  refine jj_eqM (fl_0 M (k + 1) (fun _ => nI 0)) ?_
  exact lo 0 (by omega)
set_option maxRecDepth 100000 in
set_option maxHeartbeats 4000000 in
theorem c_X0_becomeCopy {l : Launch} {E : Ee} {M : Mm} {k j : Nat} (hk : isCS k) (hj : isCS j) (hne : j + 1 ≠ k + 1) : CtV l E yX0_becomeCopy (.code yX0_becomeCopy cX0_becomeCopy 3 none :: gl) ({ frames := 0, cells := 0, slots := 0, locals := 0 } : Room) M [.ref (E.2.2 k), .ref (E.2.2 j)] 0 0 (fun M2 => M2 = wA M (k + 1) (M.1 (j + 1))) := by
  refine ctV_of (L0 := [some (.ref (E.2.2 k)), some (.ref (E.2.2 j)), none]) (by decide) rfl (Nat.le_of_ble_eq_true rfl) rfl ?_
  intro Z hl hE hnl F ret
  subst hE
  have in_X0 : ∀ w ∈ u_ws RX0 TX0 1, w ∈ (.code yX0_becomeCopy cX0_becomeCopy 3 none :: gl) := fun w h => List.mem_cons_of_mem _ (lay_X0 w h)
  have g9 : FG Z 9 0 0 := fg_mk F (C := RX0) (T := TX0) (N := 1) in_X0 rfl (by decide) rfl (List.mem_cons_of_mem _ fk_X0_9)
  obtain ⟨h0, h1⟩ := id hk
  obtain ⟨j0, j1⟩ := id hj
  have lo : ∀ i, i ≤ 16 → JJ Z (0, 0) (wA M (k + 1) (fl i (M.1 (j + 1)) (M.1 (k + 1)))) 2 [some (.ref ((zE Z).2.2 k)), some (.ref ((zE Z).2.2 j)), some (.int (nI i))] [] := by
    refine jj_loop (16) ?_ ?_
    · refine jj_iload_n F dX0_becomeCopy_2 rfl ?_
      refine jj_bipush F (v := nI 16) dX0_becomeCopy_3 (by decide) ?_
      refine jj_icmp_ge F (tgt := 26) dX0_becomeCopy_5 (by decide) (fun _ => ?_) (fun h9 => absurd (nI_le (by omega) (by omega)) h9)
      refine jj_eqv (meq_fl h1) ?_
      exact ret _ _ _ dX0_becomeCopy_26 rfl
    · intro i hi ih
      refine jj_iload_n F dX0_becomeCopy_2 rfl ?_
      refine jj_bipush F (v := nI 16) dX0_becomeCopy_3 (by decide) ?_
      refine jj_icmp_ge F (tgt := 26) dX0_becomeCopy_5 (by decide) (fun h9 => absurd h9 (nI_ge (by omega) (by omega))) (fun _ => ?_)
      refine jj_aload_n F dX0_becomeCopy_8 rfl ?_
      refine jj_getr F g9 (by assumption) (by rfl) dX0_becomeCopy_9 ?_
      refine jj_iload_n F dX0_becomeCopy_12 rfl ?_
      refine jj_aload_n F dX0_becomeCopy_13 rfl ?_
      refine jj_getr F g9 (by assumption) (by rfl) dX0_becomeCopy_14 ?_
      refine jj_iload_n F dX0_becomeCopy_17 rfl ?_
      refine jj_iald F (by assumption) rfl (by omega) dX0_becomeCopy_18 ?_
      refine jj_iast F (by assumption) rfl (by omega) dX0_becomeCopy_19 ?_
      refine jj_iinc F dX0_becomeCopy_20 rfl (by first | exact iinc1 _ | rfl) (by rw [hnl]; decide) ?_
      dsimp only [lq_st, lq_clr, lq_no]
      refine jj_goto F (tgt := 2) dX0_becomeCopy_23 (by decide) ?_
      rw [fl_put (by rw [wA_n hne])]
      exact ih
  refine jj_iconst F (v := nI 0) dX0_becomeCopy_0 (by decide) ?_
  refine jj_istore_n F dX0_becomeCopy_1 (by rw [hnl]; decide) ?_
  dsimp only [lq_st, lq_clr, lq_no]
  refine jj_eqM (fl_0 M (k + 1) (M.1 (j + 1))) ?_
  exact lo 0 (by omega)
set_option maxRecDepth 100000 in
set_option maxHeartbeats 4000000 in
theorem c_X0_rowOf {l : Launch} {E : Ee} {M : Mm} {c : Nat} (hc : c < 256) : CtI l E yX0_rowOf (.code yX0_rowOf cX0_rowOf 1 (some .int) :: gl) ({ frames := 0, cells := 0, slots := 0, locals := 0 } : Room) M [.int (nI c)] 0 0 (fun r M2 => r = nI (c / 16) ∧ M2 = M) := by
  refine ctI_of (L0 := [some (.int (nI c))]) (by decide) rfl (Nat.le_of_ble_eq_true rfl) rfl ?_
  intro Z hl hE hnl F ret
  subst hE
  refine jj_iload_n F dX0_rowOf_0 rfl ?_
  refine jj_iconst F (v := nI 4) dX0_rowOf_1 (by decide) ?_
  refine jj_ishr F dX0_rowOf_2 ?_
  refine jj_bipush F (v := nI 15) dX0_rowOf_3 (by decide) ?_
  refine jj_iand F dX0_rowOf_5 ?_
  refine ret _ _ _ _ dX0_rowOf_6 (by first | rfl | exact nar_z (by first | exact Or.inl rfl | exact Or.inr rfl | assumption)) ?_
  exact ⟨ix_row hc, rfl⟩
set_option maxRecDepth 100000 in
set_option maxHeartbeats 4000000 in
theorem c_X0_columnOf {l : Launch} {E : Ee} {M : Mm} {c : Nat} (hc : c < 256) : CtI l E yX0_columnOf (.code yX0_columnOf cX0_columnOf 1 (some .int) :: gl) ({ frames := 0, cells := 0, slots := 0, locals := 0 } : Room) M [.int (nI c)] 0 0 (fun r M2 => r = nI (c % 16) ∧ M2 = M) := by
  refine ctI_of (L0 := [some (.int (nI c))]) (by decide) rfl (Nat.le_of_ble_eq_true rfl) rfl ?_
  intro Z hl hE hnl F ret
  subst hE
  refine jj_iload_n F dX0_columnOf_0 rfl ?_
  refine jj_bipush F (v := nI 15) dX0_columnOf_1 (by decide) ?_
  refine jj_iand F dX0_columnOf_3 ?_
  refine ret _ _ _ _ dX0_columnOf_4 (by first | rfl | exact nar_z (by first | exact Or.inl rfl | exact Or.inr rfl | assumption)) ?_
  exact ⟨ix_col hc, rfl⟩
set_option maxRecDepth 100000 in
set_option maxHeartbeats 4000000 in
theorem c_X0_contains {l : Launch} {E : Ee} {M : Mm} {k c : Nat} {S : Nat → Bool} (hk : isCS k) (hS : M.1 (k + 1) = rowsOf S) (hc : c < 256) : CtI l E yX0_contains (.code yX0_contains cX0_contains 2 (some .boolean) :: gl) ({ frames := 0, cells := 0, slots := 0, locals := 0 } : Room) M [.ref (E.2.2 k), .int (nI c)] 0 0 (fun r M2 => r = b2i (S c) ∧ M2 = M) := by
  refine ctI_of (L0 := [some (.ref (E.2.2 k)), some (.int (nI c))]) (by decide) rfl (Nat.le_of_ble_eq_true rfl) rfl ?_
  intro Z hl hE hnl F ret
  subst hE
  have in_X0 : ∀ w ∈ u_ws RX0 TX0 1, w ∈ (.code yX0_contains cX0_contains 2 (some .boolean) :: gl) := fun w h => List.mem_cons_of_mem _ (lay_X0 w h)
  have g9 : FG Z 9 0 0 := fg_mk F (C := RX0) (T := TX0) (N := 1) in_X0 rfl (by decide) rfl (List.mem_cons_of_mem _ fk_X0_9)
  obtain ⟨h0, h1⟩ := id hk
  refine jj_aload_n F dX0_contains_0 rfl ?_
  refine jj_getr F g9 (by assumption) (by rfl) dX0_contains_1 ?_
  refine jj_iload_n F dX0_contains_4 rfl ?_
  refine jj_iconst F (v := nI 4) dX0_contains_5 (by decide) ?_
  refine jj_ishr F dX0_contains_6 ?_
  refine jj_bipush F (v := nI 15) dX0_contains_7 (by decide) ?_
  refine jj_iand F dX0_contains_9 ?_
  refine jj_iald F (by assumption) (ix_row hc) (by omega) dX0_contains_10 ?_
  refine jj_iload_n F dX0_contains_11 rfl ?_
  refine jj_bipush F (v := nI 15) dX0_contains_12 (by decide) ?_
  refine jj_iand F dX0_contains_14 ?_
  refine jj_ishr F dX0_contains_15 ?_
  refine jj_iconst F (v := nI 1) dX0_contains_16 (by decide) ?_
  refine jj_iand F dX0_contains_17 ?_
  refine jj_iconst F (v := nI 1) dX0_contains_18 (by decide) ?_
  refine jj_icmp_ne F (tgt := 26) dX0_contains_19 (by decide) (fun h19 => ?_) (fun h19 => ?_)
  · refine jj_iconst F (v := nI 0) dX0_contains_26 (by decide) ?_
    refine ret _ _ _ _ dX0_contains_27 (nar_z (Or.inl rfl)) ⟨b2i_f ?_, rfl⟩
    rw [ix_col hc, bt_test _ (by omega), hS, rows_at] at h19
    simpa using h19
  · refine jj_iconst F (v := nI 1) dX0_contains_22 (by decide) ?_
    refine jj_goto F (tgt := 27) dX0_contains_23 (by decide) ?_
    refine ret _ _ _ _ dX0_contains_27 (nar_z (Or.inr rfl)) ⟨b2i_t ?_, rfl⟩
    rw [ix_col hc, bt_test _ (by omega), hS, rows_at] at h19
    exact h19
set_option maxRecDepth 100000 in
set_option maxHeartbeats 4000000 in
theorem c_X0_include {l : Launch} {E : Ee} {M : Mm} {k c : Nat} {S : Nat → Bool} (hk : isCS k) (hS : M.1 (k + 1) = rowsOf S) (hc : c < 256) : CtV l E yX0_include (.code yX0_include cX0_include 2 none :: gl) ({ frames := 0, cells := 0, slots := 0, locals := 0 } : Room) M [.ref (E.2.2 k), .int (nI c)] 0 0 (fun M2 => M2 = wA M (k + 1) (rowsOf (fun d => S d || d == c))) := by
  refine ctV_of (L0 := [some (.ref (E.2.2 k)), some (.int (nI c))]) (by decide) rfl (Nat.le_of_ble_eq_true rfl) rfl ?_
  intro Z hl hE hnl F ret
  subst hE
  have in_X0 : ∀ w ∈ u_ws RX0 TX0 1, w ∈ (.code yX0_include cX0_include 2 none :: gl) := fun w h => List.mem_cons_of_mem _ (lay_X0 w h)
  have g9 : FG Z 9 0 0 := fg_mk F (C := RX0) (T := TX0) (N := 1) in_X0 rfl (by decide) rfl (List.mem_cons_of_mem _ fk_X0_9)
  obtain ⟨h0, h1⟩ := id hk
  refine jj_aload_n F dX0_include_0 rfl ?_
  refine jj_getr F g9 (by assumption) (by rfl) dX0_include_1 ?_
  refine jj_iload_n F dX0_include_4 rfl ?_
  refine jj_iconst F (v := nI 4) dX0_include_5 (by decide) ?_
  refine jj_ishr F dX0_include_6 ?_
  refine jj_bipush F (v := nI 15) dX0_include_7 (by decide) ?_
  refine jj_iand F dX0_include_9 ?_
  refine jj_dup2 F dX0_include_10 rfl rfl ?_
  refine jj_iald F (by assumption) (ix_row hc) (by omega) dX0_include_11 ?_
  refine jj_iconst F (v := nI 1) dX0_include_12 (by decide) ?_
  refine jj_iload_n F dX0_include_13 rfl ?_
  refine jj_bipush F (v := nI 15) dX0_include_14 (by decide) ?_
  refine jj_iand F dX0_include_16 ?_
  refine jj_ishl F dX0_include_17 ?_
  refine jj_ior F dX0_include_18 ?_
  refine jj_iast F (by assumption) (ix_row hc) (by omega) dX0_include_19 ?_
  rw [hS, ix_col hc, rows_inc, upd_rows (T := fun d => S d || d == c) rfl (fun d hd => ?_)]
  · exact ret _ _ _ dX0_include_20 rfl
  · have : ¬ d = c := by rintro rfl; exact hd rfl
    simp [this]
set_option maxRecDepth 100000 in
set_option maxHeartbeats 4000000 in
theorem c_X0_exclude {l : Launch} {E : Ee} {M : Mm} {k c : Nat} {S : Nat → Bool} (hk : isCS k) (hS : M.1 (k + 1) = rowsOf S) (hc : c < 256) : CtV l E yX0_exclude (.code yX0_exclude cX0_exclude 2 none :: gl) ({ frames := 0, cells := 0, slots := 0, locals := 0 } : Room) M [.ref (E.2.2 k), .int (nI c)] 0 0 (fun M2 => M2 = wA M (k + 1) (rowsOf (fun d => S d && !(d == c)))) := by
  refine ctV_of (L0 := [some (.ref (E.2.2 k)), some (.int (nI c))]) (by decide) rfl (Nat.le_of_ble_eq_true rfl) rfl ?_
  intro Z hl hE hnl F ret
  subst hE
  have in_X0 : ∀ w ∈ u_ws RX0 TX0 1, w ∈ (.code yX0_exclude cX0_exclude 2 none :: gl) := fun w h => List.mem_cons_of_mem _ (lay_X0 w h)
  have g9 : FG Z 9 0 0 := fg_mk F (C := RX0) (T := TX0) (N := 1) in_X0 rfl (by decide) rfl (List.mem_cons_of_mem _ fk_X0_9)
  obtain ⟨h0, h1⟩ := id hk
  refine jj_aload_n F dX0_exclude_0 rfl ?_
  refine jj_getr F g9 (by assumption) (by rfl) dX0_exclude_1 ?_
  refine jj_iload_n F dX0_exclude_4 rfl ?_
  refine jj_iconst F (v := nI 4) dX0_exclude_5 (by decide) ?_
  refine jj_ishr F dX0_exclude_6 ?_
  refine jj_bipush F (v := nI 15) dX0_exclude_7 (by decide) ?_
  refine jj_iand F dX0_exclude_9 ?_
  refine jj_dup2 F dX0_exclude_10 rfl rfl ?_
  refine jj_iald F (by assumption) (ix_row hc) (by omega) dX0_exclude_11 ?_
  refine jj_iconst F (v := nI 1) dX0_exclude_12 (by decide) ?_
  refine jj_iload_n F dX0_exclude_13 rfl ?_
  refine jj_bipush F (v := nI 15) dX0_exclude_14 (by decide) ?_
  refine jj_iand F dX0_exclude_16 ?_
  refine jj_ishl F dX0_exclude_17 ?_
  refine jj_iconst F (v := -1) dX0_exclude_18 (by decide) ?_
  refine jj_ixor F dX0_exclude_19 ?_
  refine jj_iand F dX0_exclude_20 ?_
  refine jj_iast F (by assumption) (ix_row hc) (by omega) dX0_exclude_21 ?_
  rw [hS, ix_col hc, rows_exc, upd_rows (T := fun d => S d && !(d == c)) rfl (fun d hd => ?_)]
  · exact ret _ _ _ dX0_exclude_22 rfl
  · have : ¬ d = c := by rintro rfl; exact hd rfl
    simp [this]
set_option maxRecDepth 100000 in
set_option maxHeartbeats 4000000 in
theorem c_X0_addAll {l : Launch} {E : Ee} {M : Mm} {k j : Nat} {S T : Nat → Bool} (hk : isCS k) (hj : isCS j) (hne : j + 1 ≠ k + 1) (hS : M.1 (k + 1) = rowsOf S) (hT : M.1 (j + 1) = rowsOf T) : CtV l E yX0_addAll (.code yX0_addAll cX0_addAll 3 none :: gl) ({ frames := 0, cells := 0, slots := 0, locals := 0 } : Room) M [.ref (E.2.2 k), .ref (E.2.2 j)] 0 0 (fun M2 => M2 = wA M (k + 1) (rowsOf (fun c => S c || T c))) := by
  refine ctV_of (L0 := [some (.ref (E.2.2 k)), some (.ref (E.2.2 j)), none]) (by decide) rfl (Nat.le_of_ble_eq_true rfl) rfl ?_
  intro Z hl hE hnl F ret
  subst hE
  have in_X0 : ∀ w ∈ u_ws RX0 TX0 1, w ∈ (.code yX0_addAll cX0_addAll 3 none :: gl) := fun w h => List.mem_cons_of_mem _ (lay_X0 w h)
  have g9 : FG Z 9 0 0 := fg_mk F (C := RX0) (T := TX0) (N := 1) in_X0 rfl (by decide) rfl (List.mem_cons_of_mem _ fk_X0_9)
  obtain ⟨h0, h1⟩ := id hk
  obtain ⟨j0, j1⟩ := id hj
  have lo : ∀ i, i ≤ 16 → JJ Z (0, 0) (wA M (k + 1) (fl i (rowsOf (fun c => S c || T c)) (M.1 (k + 1)))) 2 [some (.ref ((zE Z).2.2 k)), some (.ref ((zE Z).2.2 j)), some (.int (nI i))] [] := by
    refine jj_loop (16) ?_ ?_
    · refine jj_iload_n F dX0_addAll_2 rfl ?_
      refine jj_bipush F (v := nI 16) dX0_addAll_3 (by decide) ?_
      refine jj_icmp_ge F (tgt := 29) dX0_addAll_5 (by decide) (fun _ => ?_) (fun h9 => absurd (nI_le (by omega) (by omega)) h9)
      refine jj_eqv (meq_fl h1) ?_
      exact ret _ _ _ dX0_addAll_29 rfl
    · intro i hi ih
      refine jj_iload_n F dX0_addAll_2 rfl ?_
      refine jj_bipush F (v := nI 16) dX0_addAll_3 (by decide) ?_
      refine jj_icmp_ge F (tgt := 29) dX0_addAll_5 (by decide) (fun h9 => absurd h9 (nI_ge (by omega) (by omega))) (fun _ => ?_)
      refine jj_aload_n F dX0_addAll_8 rfl ?_
      refine jj_getr F g9 (by assumption) (by rfl) dX0_addAll_9 ?_
      refine jj_iload_n F dX0_addAll_12 rfl ?_
      refine jj_dup2 F dX0_addAll_13 rfl rfl ?_
      refine jj_iald F (by assumption) rfl (by omega) dX0_addAll_14 ?_
      refine jj_aload_n F dX0_addAll_15 rfl ?_
      refine jj_getr F g9 (by assumption) (by rfl) dX0_addAll_16 ?_
      refine jj_iload_n F dX0_addAll_19 rfl ?_
      refine jj_iald F (by assumption) rfl (by omega) dX0_addAll_20 ?_
      refine jj_ior F dX0_addAll_21 ?_
      refine jj_iast F (by assumption) rfl (by omega) dX0_addAll_22 ?_
      refine jj_iinc F dX0_addAll_23 rfl (by first | exact iinc1 _ | rfl) (by rw [hnl]; decide) ?_
      dsimp only [lq_st, lq_clr, lq_no]
      refine jj_goto F (tgt := 2) dX0_addAll_26 (by decide) ?_
      rw [fl_put (by rw [wA_s, wA_n hne, fl_out (by omega), hS, hT, rows_or])]
      exact ih
  refine jj_iconst F (v := nI 0) dX0_addAll_0 (by decide) ?_
  refine jj_istore_n F dX0_addAll_1 (by rw [hnl]; decide) ?_
  dsimp only [lq_st, lq_clr, lq_no]
  refine jj_eqM (fl_0 M (k + 1) (rowsOf (fun c => S c || T c))) ?_
  exact lo 0 (by omega)
set_option maxRecDepth 100000 in
set_option maxHeartbeats 4000000 in
theorem c_X0_takeAway {l : Launch} {E : Ee} {M : Mm} {k j : Nat} {S T : Nat → Bool} (hk : isCS k) (hj : isCS j) (hne : j + 1 ≠ k + 1) (hS : M.1 (k + 1) = rowsOf S) (hT : M.1 (j + 1) = rowsOf T) : CtV l E yX0_takeAway (.code yX0_takeAway cX0_takeAway 3 none :: gl) ({ frames := 0, cells := 0, slots := 0, locals := 0 } : Room) M [.ref (E.2.2 k), .ref (E.2.2 j)] 0 0 (fun M2 => M2 = wA M (k + 1) (rowsOf (fun c => S c && !T c))) := by
  refine ctV_of (L0 := [some (.ref (E.2.2 k)), some (.ref (E.2.2 j)), none]) (by decide) rfl (Nat.le_of_ble_eq_true rfl) rfl ?_
  intro Z hl hE hnl F ret
  subst hE
  have in_X0 : ∀ w ∈ u_ws RX0 TX0 1, w ∈ (.code yX0_takeAway cX0_takeAway 3 none :: gl) := fun w h => List.mem_cons_of_mem _ (lay_X0 w h)
  have g9 : FG Z 9 0 0 := fg_mk F (C := RX0) (T := TX0) (N := 1) in_X0 rfl (by decide) rfl (List.mem_cons_of_mem _ fk_X0_9)
  obtain ⟨h0, h1⟩ := id hk
  obtain ⟨j0, j1⟩ := id hj
  have lo : ∀ i, i ≤ 16 → JJ Z (0, 0) (wA M (k + 1) (fl i (rowsOf (fun c => S c && !T c)) (M.1 (k + 1)))) 2 [some (.ref ((zE Z).2.2 k)), some (.ref ((zE Z).2.2 j)), some (.int (nI i))] [] := by
    refine jj_loop (16) ?_ ?_
    · refine jj_iload_n F dX0_takeAway_2 rfl ?_
      refine jj_bipush F (v := nI 16) dX0_takeAway_3 (by decide) ?_
      refine jj_icmp_ge F (tgt := 31) dX0_takeAway_5 (by decide) (fun _ => ?_) (fun h9 => absurd (nI_le (by omega) (by omega)) h9)
      refine jj_eqv (meq_fl h1) ?_
      exact ret _ _ _ dX0_takeAway_31 rfl
    · intro i hi ih
      refine jj_iload_n F dX0_takeAway_2 rfl ?_
      refine jj_bipush F (v := nI 16) dX0_takeAway_3 (by decide) ?_
      refine jj_icmp_ge F (tgt := 31) dX0_takeAway_5 (by decide) (fun h9 => absurd h9 (nI_ge (by omega) (by omega))) (fun _ => ?_)
      refine jj_aload_n F dX0_takeAway_8 rfl ?_
      refine jj_getr F g9 (by assumption) (by rfl) dX0_takeAway_9 ?_
      refine jj_iload_n F dX0_takeAway_12 rfl ?_
      refine jj_dup2 F dX0_takeAway_13 rfl rfl ?_
      refine jj_iald F (by assumption) rfl (by omega) dX0_takeAway_14 ?_
      refine jj_aload_n F dX0_takeAway_15 rfl ?_
      refine jj_getr F g9 (by assumption) (by rfl) dX0_takeAway_16 ?_
      refine jj_iload_n F dX0_takeAway_19 rfl ?_
      refine jj_iald F (by assumption) rfl (by omega) dX0_takeAway_20 ?_
      refine jj_iconst F (v := -1) dX0_takeAway_21 (by decide) ?_
      refine jj_ixor F dX0_takeAway_22 ?_
      refine jj_iand F dX0_takeAway_23 ?_
      refine jj_iast F (by assumption) rfl (by omega) dX0_takeAway_24 ?_
      refine jj_iinc F dX0_takeAway_25 rfl (by first | exact iinc1 _ | rfl) (by rw [hnl]; decide) ?_
      dsimp only [lq_st, lq_clr, lq_no]
      refine jj_goto F (tgt := 2) dX0_takeAway_28 (by decide) ?_
      rw [fl_put (by rw [wA_s, wA_n hne, fl_out (by omega), hS, hT, rows_sub])]
      exact ih
  refine jj_iconst F (v := nI 0) dX0_takeAway_0 (by decide) ?_
  refine jj_istore_n F dX0_takeAway_1 (by rw [hnl]; decide) ?_
  dsimp only [lq_st, lq_clr, lq_no]
  refine jj_eqM (fl_0 M (k + 1) (rowsOf (fun c => S c && !T c))) ?_
  exact lo 0 (by omega)
set_option maxRecDepth 100000 in
set_option maxHeartbeats 4000000 in
theorem c_X0_meets {l : Launch} {E : Ee} {M : Mm} {k j : Nat} {S T : Nat → Bool} (hk : isCS k) (hj : isCS j) (hS : M.1 (k + 1) = rowsOf S) (hT : M.1 (j + 1) = rowsOf T) : CtI l E yX0_meets (.code yX0_meets cX0_meets 3 (some .boolean) :: gl) ({ frames := 0, cells := 0, slots := 0, locals := 0 } : Room) M [.ref (E.2.2 k), .ref (E.2.2 j)] 0 0 (fun r M2 => r = b2i (exB 256 (fun c => S c && T c)) ∧ M2 = M) := by
  refine ctI_of (L0 := [some (.ref (E.2.2 k)), some (.ref (E.2.2 j)), none]) (by decide) rfl (Nat.le_of_ble_eq_true rfl) rfl ?_
  intro Z hl hE hnl F ret
  subst hE
  have in_X0 : ∀ w ∈ u_ws RX0 TX0 1, w ∈ (.code yX0_meets cX0_meets 3 (some .boolean) :: gl) := fun w h => List.mem_cons_of_mem _ (lay_X0 w h)
  have g9 : FG Z 9 0 0 := fg_mk F (C := RX0) (T := TX0) (N := 1) in_X0 rfl (by decide) rfl (List.mem_cons_of_mem _ fk_X0_9)
  obtain ⟨h0, h1⟩ := id hk
  obtain ⟨j0, j1⟩ := id hj
  have lo : ∀ i, i ≤ 16 → (∀ c, c < 16 * i → (S c && T c) = false) → JJ Z (0, 0) (M) 2 [some (.ref ((zE Z).2.2 k)), some (.ref ((zE Z).2.2 j)), some (.int (nI i))] [] := by
    refine jj_loop (16) ?_ ?_
    · intro hv
      refine jj_iload_n F dX0_meets_2 rfl ?_
      refine jj_bipush F (v := nI 16) dX0_meets_3 (by decide) ?_
      refine jj_icmp_ge F (tgt := 32) dX0_meets_5 (by decide) (fun _ => ?_) (fun h9 => absurd (nI_le (by omega) (by omega)) h9)
      refine jj_iconst F (v := nI 0) dX0_meets_32 (by decide) ?_
      exact ret _ _ _ _ dX0_meets_33 (nar_z (Or.inl rfl)) ⟨b2i_f (exB_f (fun c hc => hv c (by omega))), rfl⟩
    · intro i hi ih hv
      refine jj_iload_n F dX0_meets_2 rfl ?_
      refine jj_bipush F (v := nI 16) dX0_meets_3 (by decide) ?_
      refine jj_icmp_ge F (tgt := 32) dX0_meets_5 (by decide) (fun h9 => absurd h9 (nI_ge (by omega) (by omega))) (fun _ => ?_)
      refine jj_aload_n F dX0_meets_8 rfl ?_
      refine jj_getr F g9 (by assumption) (by rfl) dX0_meets_9 ?_
      refine jj_iload_n F dX0_meets_12 rfl ?_
      refine jj_iald F (by assumption) rfl (by omega) dX0_meets_13 ?_
      refine jj_aload_n F dX0_meets_14 rfl ?_
      refine jj_getr F g9 (by assumption) (by rfl) dX0_meets_15 ?_
      refine jj_iload_n F dX0_meets_18 rfl ?_
      refine jj_iald F (by assumption) rfl (by omega) dX0_meets_19 ?_
      refine jj_iand F dX0_meets_20 ?_
      refine jj_if_eq F (tgt := 26) dX0_meets_21 (by decide) (fun h21 => ?_) (fun h21 => ?_)
      · refine jj_iinc F dX0_meets_26 rfl (by first | exact iinc1 _ | rfl) (by rw [hnl]; decide) ?_
        dsimp only [lq_st, lq_clr, lq_no]
        refine jj_goto F (tgt := 2) dX0_meets_29 (by decide) ?_
        refine ih (fun c hc => ?_)
        rw [hS, hT, rows_and0] at h21
        by_cases q : c < 16 * i
        · exact hv c q
        · have := h21 (c - 16 * i) (by omega)
          rwa [show 16 * i + (c - 16 * i) = c by omega] at this
      · refine jj_iconst F (v := nI 1) dX0_meets_24 (by decide) ?_
        refine ret _ _ _ _ dX0_meets_25 (nar_z (Or.inr rfl)) ⟨b2i_t ?_, rfl⟩
        rw [hS, hT] at h21
        obtain ⟨x, hx, hb⟩ := rows_and_ex h21
        exact exB_t (i := 16 * i + x) (by omega) hb
  refine jj_iconst F (v := nI 0) dX0_meets_0 (by decide) ?_
  refine jj_istore_n F dX0_meets_1 (by rw [hnl]; decide) ?_
  dsimp only [lq_st, lq_clr, lq_no]
  exact lo 0 (by omega) (fun c hc => by omega)
set_option maxRecDepth 100000 in
set_option maxHeartbeats 4000000 in
theorem c_J6_bitCount_0f7a4 {l : Launch} {E : Ee} {M : Mm} {m : Nat} (hm : m < 65536) : CtI l E yJ6_bitCount_0f7a4 (.code yJ6_bitCount_0f7a4 cJ6_bitCount_0f7a4 1 (some .int) :: gl) ({ frames := 0, cells := 0, slots := 0, locals := 0 } : Room) M [.int (nI m)] 0 0 (fun r M2 => r = nI (fb_ct (fun i => m.testBit i) 16) ∧ M2 = M) := by
  refine ctI_of (L0 := [some (.int (nI m))]) (by decide) rfl (Nat.le_of_ble_eq_true rfl) rfl ?_
  intro Z hl hE hnl F ret
  subst hE
  refine jj_iload_n F dJ6_bitCount_0f7a4_0 rfl ?_
  refine jj_iload_n F dJ6_bitCount_0f7a4_1 rfl ?_
  refine jj_iconst F (v := nI 1) dJ6_bitCount_0f7a4_2 (by decide) ?_
  refine jj_iushr F dJ6_bitCount_0f7a4_3 ?_
  refine jj_ldcw F (v := 1431655765) dJ6_bitCount_0f7a4_4 (F.hts _ (List.mem_cons_of_mem _ (gl_tb (by decide +kernel) rfl))) ?_
  refine jj_iand F dJ6_bitCount_0f7a4_7 ?_
  refine jj_isub F dJ6_bitCount_0f7a4_8 ?_
  refine jj_istore_n F dJ6_bitCount_0f7a4_9 (by rw [hnl]; decide) ?_
  dsimp only [lq_st, lq_clr, lq_no]
  refine jj_iload_n F dJ6_bitCount_0f7a4_10 rfl ?_
  refine jj_ldcw F (v := 858993459) dJ6_bitCount_0f7a4_11 (F.hts _ (List.mem_cons_of_mem _ (gl_tb (by decide +kernel) rfl))) ?_
  refine jj_iand F dJ6_bitCount_0f7a4_14 ?_
  refine jj_iload_n F dJ6_bitCount_0f7a4_15 rfl ?_
  refine jj_iconst F (v := nI 2) dJ6_bitCount_0f7a4_16 (by decide) ?_
  refine jj_iushr F dJ6_bitCount_0f7a4_17 ?_
  refine jj_ldcw F (v := 858993459) dJ6_bitCount_0f7a4_18 (F.hts _ (List.mem_cons_of_mem _ (gl_tb (by decide +kernel) rfl))) ?_
  refine jj_iand F dJ6_bitCount_0f7a4_21 ?_
  refine jj_iadd F dJ6_bitCount_0f7a4_22 ?_
  refine jj_istore_n F dJ6_bitCount_0f7a4_23 (by rw [hnl]; decide) ?_
  dsimp only [lq_st, lq_clr, lq_no]
  refine jj_iload_n F dJ6_bitCount_0f7a4_24 rfl ?_
  refine jj_iload_n F dJ6_bitCount_0f7a4_25 rfl ?_
  refine jj_iconst F (v := nI 4) dJ6_bitCount_0f7a4_26 (by decide) ?_
  refine jj_iushr F dJ6_bitCount_0f7a4_27 ?_
  refine jj_iadd F dJ6_bitCount_0f7a4_28 ?_
  refine jj_ldcw F (v := 252645135) dJ6_bitCount_0f7a4_29 (F.hts _ (List.mem_cons_of_mem _ (gl_tb (by decide +kernel) rfl))) ?_
  refine jj_iand F dJ6_bitCount_0f7a4_32 ?_
  refine jj_istore_n F dJ6_bitCount_0f7a4_33 (by rw [hnl]; decide) ?_
  dsimp only [lq_st, lq_clr, lq_no]
  refine jj_iload_n F dJ6_bitCount_0f7a4_34 rfl ?_
  refine jj_iload_n F dJ6_bitCount_0f7a4_35 rfl ?_
  refine jj_bipush F (v := nI 8) dJ6_bitCount_0f7a4_36 (by decide) ?_
  refine jj_iushr F dJ6_bitCount_0f7a4_38 ?_
  refine jj_iadd F dJ6_bitCount_0f7a4_39 ?_
  refine jj_istore_n F dJ6_bitCount_0f7a4_40 (by rw [hnl]; decide) ?_
  dsimp only [lq_st, lq_clr, lq_no]
  refine jj_iload_n F dJ6_bitCount_0f7a4_41 rfl ?_
  refine jj_iload_n F dJ6_bitCount_0f7a4_42 rfl ?_
  refine jj_bipush F (v := nI 16) dJ6_bitCount_0f7a4_43 (by decide) ?_
  refine jj_iushr F dJ6_bitCount_0f7a4_45 ?_
  refine jj_iadd F dJ6_bitCount_0f7a4_46 ?_
  refine jj_istore_n F dJ6_bitCount_0f7a4_47 (by rw [hnl]; decide) ?_
  dsimp only [lq_st, lq_clr, lq_no]
  refine jj_iload_n F dJ6_bitCount_0f7a4_48 rfl ?_
  refine jj_bipush F (v := nI 63) dJ6_bitCount_0f7a4_49 (by decide) ?_
  refine jj_iand F dJ6_bitCount_0f7a4_51 ?_
  refine ret _ _ _ _ dJ6_bitCount_0f7a4_52 (by first | rfl | exact nar_z (by first | exact Or.inl rfl | exact Or.inr rfl | assumption)) ?_
  exact ⟨by rw [← bcM_ct hm, ← bcE_eq hm]; rfl, rfl⟩
set_option maxRecDepth 100000 in
set_option maxHeartbeats 4000000 in
theorem c_X0_size {l : Launch} {E : Ee} {M : Mm} {k : Nat} {S : Nat → Bool} (hk : isCS k) (hS : M.1 (k + 1) = rowsOf S) : CtI l E yX0_size (.code yX0_size cX0_size 3 (some .int) :: gl) ({ frames := 1, cells := 0, slots := 0, locals := 20 } : Room) M [.ref (E.2.2 k)] 0 0 (fun r M2 => r = nI (fb_ct S 256) ∧ M2 = M) := by
  refine ctI_of (L0 := [some (.ref (E.2.2 k)), none, none]) (by decide) rfl (Nat.le_of_ble_eq_true rfl) rfl ?_
  intro Z hl hE hnl F ret
  subst hE
  have in_X0 : ∀ w ∈ u_ws RX0 TX0 1, w ∈ (.code yX0_size cX0_size 3 (some .int) :: gl) := fun w h => List.mem_cons_of_mem _ (lay_X0 w h)
  have g9 : FG Z 9 0 0 := fg_mk F (C := RX0) (T := TX0) (N := 1) in_X0 rfl (by decide) rfl (List.mem_cons_of_mem _ fk_X0_9)
  obtain ⟨h0, h1⟩ := id hk
  have lo : ∀ i, i ≤ 16 → JJ Z (0, 0) (M) 4 [some (.ref ((zE Z).2.2 k)), some (.int (nI (fb_ct S (16 * i)))), some (.int (nI i))] [] := by
    refine jj_loop (16) ?_ ?_
    · refine jj_iload_n F dX0_size_4 rfl ?_
      refine jj_bipush F (v := nI 16) dX0_size_5 (by decide) ?_
      refine jj_icmp_ge F (tgt := 28) dX0_size_7 (by decide) (fun _ => ?_) (fun h9 => absurd (nI_le (by omega) (by omega)) h9)
      refine jj_iload_n F dX0_size_28 rfl ?_
      exact ret _ _ _ _ dX0_size_29 rfl ⟨rfl, rfl⟩
    · intro i hi ih
      refine jj_iload_n F dX0_size_4 rfl ?_
      refine jj_bipush F (v := nI 16) dX0_size_5 (by decide) ?_
      refine jj_icmp_ge F (tgt := 28) dX0_size_7 (by decide) (fun h9 => absurd h9 (nI_ge (by omega) (by omega))) (fun _ => ?_)
      refine jj_iload_n F dX0_size_10 rfl ?_
      refine jj_aload_n F dX0_size_11 rfl ?_
      refine jj_getr F g9 (by assumption) (by rfl) dX0_size_12 ?_
      refine jj_iload_n F dX0_size_15 rfl ?_
      refine jj_iald F (by assumption) rfl (by omega) dX0_size_16 ?_
      rw [hS]
      unfold rowsOf
      refine jj_callSi (na := 1) F (c_J6_bitCount_0f7a4 (rows_sm S i)) (gl_S mk_X0_37 vw_J6_bitCount_0f7a4) rfl rfl rfl (by decide +kernel) ⟨Nat.le_of_ble_eq_true rfl, Nat.le_of_ble_eq_true rfl⟩ rfl rfl (Nat.le_of_ble_eq_true rfl) ⟨Nat.le_of_ble_eq_true rfl, Nat.le_of_ble_eq_true rfl⟩ dX0_size_17 (fun r17 M17 hp17 => ?_)
      obtain ⟨rfl, rfl⟩ := symm2 hp17
      refine jj_iadd F dX0_size_20 ?_
      refine jj_istore_n F dX0_size_21 (by rw [hnl]; decide) ?_
      dsimp only [lq_st, lq_clr, lq_no]
      refine jj_iinc F dX0_size_22 rfl (by first | exact iinc1 _ | rfl) (by rw [hnl]; decide) ?_
      dsimp only [lq_st, lq_clr, lq_no]
      refine jj_goto F (tgt := 4) dX0_size_25 (by decide) ?_
      rw [nI_add, rows_ct]
      exact ih
  refine jj_iconst F (v := nI 0) dX0_size_0 (by decide) ?_
  refine jj_istore_n F dX0_size_1 (by rw [hnl]; decide) ?_
  dsimp only [lq_st, lq_clr, lq_no]
  refine jj_iconst F (v := nI 0) dX0_size_2 (by decide) ?_
  refine jj_istore_n F dX0_size_3 (by rw [hnl]; decide) ?_
  dsimp only [lq_st, lq_clr, lq_no]
  exact lo 0 (by omega)
set_option maxRecDepth 100000 in
set_option maxHeartbeats 4000000 in
theorem c_X0_columnsBetween {l : Launch} {E : Ee} {M : Mm} {a b : Nat} (ha : a < 256) (hb : b < 256) : CtI l E yX0_columnsBetween (.code yX0_columnsBetween cX0_columnsBetween 4 (some .int) :: gl) ({ frames := 1, cells := 0, slots := 0, locals := 20 } : Room) M [.int (nI a), .int (nI b)] 0 0 (fun r M2 => r = (nI 1 <<< (nI (max (a % 16) (b % 16) + 1) &&& 31)) - (nI 1 <<< (nI (min (a % 16) (b % 16)) &&& 31)) ∧ M2 = M) := by
  refine ctI_of (L0 := [some (.int (nI a)), some (.int (nI b)), none, none]) (by decide) rfl (Nat.le_of_ble_eq_true rfl) rfl ?_
  intro Z hl hE hnl F ret
  subst hE
  refine jj_iload_n F dX0_columnsBetween_0 rfl ?_
  refine jj_callSi (na := 1) F (c_X0_columnOf (by omega)) (gl_S mk_X0_34 vw_X0_columnOf) rfl rfl rfl (by decide +kernel) ⟨Nat.le_of_ble_eq_true rfl, Nat.le_of_ble_eq_true rfl⟩ rfl rfl (Nat.le_of_ble_eq_true rfl) ⟨Nat.le_of_ble_eq_true rfl, Nat.le_of_ble_eq_true rfl⟩ dX0_columnsBetween_1 (fun r1 M1 hp1 => ?_)
  obtain ⟨rfl, rfl⟩ := symm2 hp1
  refine jj_iload_n F dX0_columnsBetween_4 rfl ?_
  refine jj_callSi (na := 1) F (c_X0_columnOf (by omega)) (gl_S mk_X0_34 vw_X0_columnOf) rfl rfl rfl (by decide +kernel) ⟨Nat.le_of_ble_eq_true rfl, Nat.le_of_ble_eq_true rfl⟩ rfl rfl (Nat.le_of_ble_eq_true rfl) ⟨Nat.le_of_ble_eq_true rfl, Nat.le_of_ble_eq_true rfl⟩ dX0_columnsBetween_5 (fun r5 M5 hp5 => ?_)
  obtain ⟨rfl, rfl⟩ := symm2 hp5
  refine jj_mmin F mk_X0_31 (Nat.le_of_ble_eq_true rfl) (Nat.le_of_ble_eq_true rfl) (Nat.le_of_ble_eq_true rfl) (Nat.le_of_ble_eq_true rfl) (by omega) (by omega) dX0_columnsBetween_8 ?_
  refine jj_istore_n F dX0_columnsBetween_11 (by rw [hnl]; decide) ?_
  dsimp only [lq_st, lq_clr, lq_no]
  refine jj_iload_n F dX0_columnsBetween_12 rfl ?_
  refine jj_callSi (na := 1) F (c_X0_columnOf (by omega)) (gl_S mk_X0_34 vw_X0_columnOf) rfl rfl rfl (by decide +kernel) ⟨Nat.le_of_ble_eq_true rfl, Nat.le_of_ble_eq_true rfl⟩ rfl rfl (Nat.le_of_ble_eq_true rfl) ⟨Nat.le_of_ble_eq_true rfl, Nat.le_of_ble_eq_true rfl⟩ dX0_columnsBetween_13 (fun r13 M13 hp13 => ?_)
  obtain ⟨rfl, rfl⟩ := symm2 hp13
  refine jj_iload_n F dX0_columnsBetween_16 rfl ?_
  refine jj_callSi (na := 1) F (c_X0_columnOf (by omega)) (gl_S mk_X0_34 vw_X0_columnOf) rfl rfl rfl (by decide +kernel) ⟨Nat.le_of_ble_eq_true rfl, Nat.le_of_ble_eq_true rfl⟩ rfl rfl (Nat.le_of_ble_eq_true rfl) ⟨Nat.le_of_ble_eq_true rfl, Nat.le_of_ble_eq_true rfl⟩ dX0_columnsBetween_17 (fun r17 M17 hp17 => ?_)
  obtain ⟨rfl, rfl⟩ := symm2 hp17
  refine jj_mmax F mk_X0_26 (Nat.le_of_ble_eq_true rfl) (Nat.le_of_ble_eq_true rfl) (Nat.le_of_ble_eq_true rfl) (Nat.le_of_ble_eq_true rfl) (by omega) (by omega) dX0_columnsBetween_20 ?_
  refine jj_istore_n F dX0_columnsBetween_23 (by rw [hnl]; decide) ?_
  dsimp only [lq_st, lq_clr, lq_no]
  refine jj_iconst F (v := nI 1) dX0_columnsBetween_24 (by decide) ?_
  refine jj_iload_n F dX0_columnsBetween_25 rfl ?_
  refine jj_iconst F (v := nI 1) dX0_columnsBetween_26 (by decide) ?_
  refine jj_iadd F dX0_columnsBetween_27 ?_
  refine jj_ishl F dX0_columnsBetween_28 ?_
  refine jj_iconst F (v := nI 1) dX0_columnsBetween_29 (by decide) ?_
  refine jj_iload_n F dX0_columnsBetween_30 rfl ?_
  refine jj_ishl F dX0_columnsBetween_31 ?_
  refine jj_isub F dX0_columnsBetween_32 ?_
  refine ret _ _ _ _ dX0_columnsBetween_33 (by first | rfl | exact nar_z (by first | exact Or.inl rfl | exact Or.inr rfl | assumption)) ?_
  rw [nI_add]
  exact ⟨rfl, rfl⟩
set_option maxRecDepth 100000 in
set_option maxHeartbeats 4000000 in
theorem c_X0_becomeRectangle {l : Launch} {E : Ee} {M : Mm} {k a b : Nat} (hk : isCS k) (ha : a < 256) (hb : b < 256) : CtV l E yX0_becomeRectangle (.code yX0_becomeRectangle cX0_becomeRectangle 6 none :: gl) ({ frames := 2, cells := 0, slots := 0, locals := 43 } : Room) M [.ref (E.2.2 k), .int (nI a), .int (nI b)] 0 0 (fun M2 => M2 = wA M (k + 1) (rowsOf (rect a b))) := by
  refine ctV_of (L0 := [some (.ref (E.2.2 k)), some (.int (nI a)), some (.int (nI b)), none, none, none]) (by decide) rfl (Nat.le_of_ble_eq_true rfl) rfl ?_
  intro Z hl hE hnl F ret
  subst hE
  have in_X0 : ∀ w ∈ u_ws RX0 TX0 1, w ∈ (.code yX0_becomeRectangle cX0_becomeRectangle 6 none :: gl) := fun w h => List.mem_cons_of_mem _ (lay_X0 w h)
  have g9 : FG Z 9 0 0 := fg_mk F (C := RX0) (T := TX0) (N := 1) in_X0 rfl (by decide) rfl (List.mem_cons_of_mem _ fk_X0_9)
  obtain ⟨h0, h1⟩ := id hk
  have lo : ∀ n y, n + y = max (a / 16) (b / 16) + 1 → min (a / 16) (b / 16) ≤ y → JJ Z (0, 0) (wA M (k + 1) (fun z => if min (a / 16) (b / 16) ≤ z ∧ z < y then (nI 1 <<< (nI (max (a % 16) (b % 16) + 1) &&& 31)) - (nI 1 <<< (nI (min (a % 16) (b % 16)) &&& 31)) else rowsOf (fun _ => false) z)) 36 [some (.ref ((zE Z).2.2 k)), some (.int (nI a)), some (.int (nI b)), some (.int ((nI 1 <<< (nI (max (a % 16) (b % 16) + 1) &&& 31)) - (nI 1 <<< (nI (min (a % 16) (b % 16)) &&& 31)))), some (.int (nI (max (a / 16) (b / 16)))), some (.int (nI y))] [] := by
    intro n
    induction n with
    | zero =>
      intro y hy hz
      refine jj_iload F dX0_becomeRectangle_36 rfl ?_
      refine jj_iload F dX0_becomeRectangle_38 rfl ?_
      refine jj_icmp_gt F (tgt := 57) dX0_becomeRectangle_40 (by decide) (fun _ => ?_) (fun h9 => absurd (nI_lt (by omega) (by omega)) h9)
      refine jj_eqM (rect_rows ha hb (by omega)) ?_
      exact ret _ _ _ dX0_becomeRectangle_57 rfl
    | succ n ih =>
      intro y hy hz
      refine jj_iload F dX0_becomeRectangle_36 rfl ?_
      refine jj_iload F dX0_becomeRectangle_38 rfl ?_
      refine jj_icmp_gt F (tgt := 57) dX0_becomeRectangle_40 (by decide) (fun h9 => absurd h9 (nI_nlt (by omega) (by omega))) (fun _ => ?_)
      refine jj_aload_n F dX0_becomeRectangle_43 rfl ?_
      refine jj_getr F g9 (by assumption) (by rfl) dX0_becomeRectangle_44 ?_
      refine jj_iload F dX0_becomeRectangle_47 rfl ?_
      refine jj_iload_n F dX0_becomeRectangle_49 rfl ?_
      refine jj_iast F (by assumption) rfl (by omega) dX0_becomeRectangle_50 ?_
      refine jj_iinc F dX0_becomeRectangle_51 rfl (by first | exact iinc1 _ | rfl) (by rw [hnl]; decide) ?_
      dsimp only [lq_st, lq_clr, lq_no]
      refine jj_goto F (tgt := 36) dX0_becomeRectangle_54 (by decide) ?_
      rw [wA_s, wA_wA, rect_step hz]
      exact ih (y + 1) (by omega) (by omega)
  refine jj_aload_n F dX0_becomeRectangle_0 rfl ?_
  refine jj_callVv (na := 0) F (c_X0_becomeEmpty (by assumption)) (gl_V mk_X0_15 vw_X0_becomeEmpty) rfl rfl rfl (by decide +kernel) ⟨Nat.le_of_ble_eq_true rfl, Nat.le_of_ble_eq_true rfl⟩ (by assumption) rfl rfl rfl (Nat.le_of_ble_eq_true rfl) ⟨Nat.le_of_ble_eq_true rfl, Nat.le_of_ble_eq_true rfl⟩ dX0_becomeRectangle_1 (fun M1 hp1 => ?_)
  obtain rfl := hp1.symm
  refine jj_iload_n F dX0_becomeRectangle_4 rfl ?_
  refine jj_iload_n F dX0_becomeRectangle_5 rfl ?_
  refine jj_callSi (na := 2) F (c_X0_columnsBetween (by omega) (by omega)) (gl_S mk_X0_18 vw_X0_columnsBetween) rfl rfl rfl (by decide +kernel) ⟨Nat.le_of_ble_eq_true rfl, Nat.le_of_ble_eq_true rfl⟩ rfl rfl (Nat.le_of_ble_eq_true rfl) ⟨Nat.le_of_ble_eq_true rfl, Nat.le_of_ble_eq_true rfl⟩ dX0_becomeRectangle_6 (fun r6 M6 hp6 => ?_)
  obtain ⟨rfl, rfl⟩ := symm2 hp6
  refine jj_istore_n F dX0_becomeRectangle_9 (by rw [hnl]; decide) ?_
  dsimp only [lq_st, lq_clr, lq_no]
  refine jj_iload_n F dX0_becomeRectangle_10 rfl ?_
  refine jj_callSi (na := 1) F (c_X0_rowOf (by omega)) (gl_S mk_X0_22 vw_X0_rowOf) rfl rfl rfl (by decide +kernel) ⟨Nat.le_of_ble_eq_true rfl, Nat.le_of_ble_eq_true rfl⟩ rfl rfl (Nat.le_of_ble_eq_true rfl) ⟨Nat.le_of_ble_eq_true rfl, Nat.le_of_ble_eq_true rfl⟩ dX0_becomeRectangle_11 (fun r11 M11 hp11 => ?_)
  obtain ⟨rfl, rfl⟩ := symm2 hp11
  refine jj_iload_n F dX0_becomeRectangle_14 rfl ?_
  refine jj_callSi (na := 1) F (c_X0_rowOf (by omega)) (gl_S mk_X0_22 vw_X0_rowOf) rfl rfl rfl (by decide +kernel) ⟨Nat.le_of_ble_eq_true rfl, Nat.le_of_ble_eq_true rfl⟩ rfl rfl (Nat.le_of_ble_eq_true rfl) ⟨Nat.le_of_ble_eq_true rfl, Nat.le_of_ble_eq_true rfl⟩ dX0_becomeRectangle_15 (fun r15 M15 hp15 => ?_)
  obtain ⟨rfl, rfl⟩ := symm2 hp15
  refine jj_mmax F mk_X0_26 (Nat.le_of_ble_eq_true rfl) (Nat.le_of_ble_eq_true rfl) (Nat.le_of_ble_eq_true rfl) (Nat.le_of_ble_eq_true rfl) (by omega) (by omega) dX0_becomeRectangle_18 ?_
  refine jj_istore F dX0_becomeRectangle_21 (by rw [hnl]; decide) ?_
  dsimp only [lq_st, lq_clr, lq_no]
  refine jj_iload_n F dX0_becomeRectangle_23 rfl ?_
  refine jj_callSi (na := 1) F (c_X0_rowOf (by omega)) (gl_S mk_X0_22 vw_X0_rowOf) rfl rfl rfl (by decide +kernel) ⟨Nat.le_of_ble_eq_true rfl, Nat.le_of_ble_eq_true rfl⟩ rfl rfl (Nat.le_of_ble_eq_true rfl) ⟨Nat.le_of_ble_eq_true rfl, Nat.le_of_ble_eq_true rfl⟩ dX0_becomeRectangle_24 (fun r24 M24 hp24 => ?_)
  obtain ⟨rfl, rfl⟩ := symm2 hp24
  refine jj_iload_n F dX0_becomeRectangle_27 rfl ?_
  refine jj_callSi (na := 1) F (c_X0_rowOf (by omega)) (gl_S mk_X0_22 vw_X0_rowOf) rfl rfl rfl (by decide +kernel) ⟨Nat.le_of_ble_eq_true rfl, Nat.le_of_ble_eq_true rfl⟩ rfl rfl (Nat.le_of_ble_eq_true rfl) ⟨Nat.le_of_ble_eq_true rfl, Nat.le_of_ble_eq_true rfl⟩ dX0_becomeRectangle_28 (fun r28 M28 hp28 => ?_)
  obtain ⟨rfl, rfl⟩ := symm2 hp28
  refine jj_mmin F mk_X0_31 (Nat.le_of_ble_eq_true rfl) (Nat.le_of_ble_eq_true rfl) (Nat.le_of_ble_eq_true rfl) (Nat.le_of_ble_eq_true rfl) (by omega) (by omega) dX0_becomeRectangle_31 ?_
  refine jj_istore F dX0_becomeRectangle_34 (by rw [hnl]; decide) ?_
  dsimp only [lq_st, lq_clr, lq_no]
  refine jj_eqM (rect_0 M k (min (a / 16) (b / 16)) ((nI 1 <<< (nI (max (a % 16) (b % 16) + 1) &&& 31)) - (nI 1 <<< (nI (min (a % 16) (b % 16)) &&& 31)))) ?_
  exact lo (max (a / 16) (b / 16) + 1 - min (a / 16) (b / 16)) (min (a / 16) (b / 16)) (by omega) (by omega)
set_option maxRecDepth 100000 in
set_option maxHeartbeats 4000000 in
theorem c_X0_meetsRectangle {l : Launch} {E : Ee} {M : Mm} {k a b : Nat} {S : Nat → Bool} (hk : isCS k) (hS : M.1 (k + 1) = rowsOf S) (ha : a < 256) (hb : b < 256) : CtI l E yX0_meetsRectangle (.code yX0_meetsRectangle cX0_meetsRectangle 6 (some .boolean) :: gl) ({ frames := 2, cells := 0, slots := 0, locals := 43 } : Room) M [.ref (E.2.2 k), .int (nI a), .int (nI b)] 0 0 (fun r M2 => r = b2i (exB 256 (fun c => S c && rect a b c)) ∧ M2 = M) := by
  refine ctI_of (L0 := [some (.ref (E.2.2 k)), some (.int (nI a)), some (.int (nI b)), none, none, none]) (by decide) rfl (Nat.le_of_ble_eq_true rfl) rfl ?_
  intro Z hl hE hnl F ret
  subst hE
  have in_X0 : ∀ w ∈ u_ws RX0 TX0 1, w ∈ (.code yX0_meetsRectangle cX0_meetsRectangle 6 (some .boolean) :: gl) := fun w h => List.mem_cons_of_mem _ (lay_X0 w h)
  have g9 : FG Z 9 0 0 := fg_mk F (C := RX0) (T := TX0) (N := 1) in_X0 rfl (by decide) rfl (List.mem_cons_of_mem _ fk_X0_9)
  obtain ⟨h0, h1⟩ := id hk
  have lo : ∀ n y, n + y = max (a / 16) (b / 16) + 1 → min (a / 16) (b / 16) ≤ y → (∀ c, c / 16 < y → (S c && rect a b c) = false) → JJ Z (0, 0) M 32 [some (.ref ((zE Z).2.2 k)), some (.int (nI a)), some (.int (nI b)), some (.int ((nI 1 <<< (nI (max (a % 16) (b % 16) + 1) &&& 31)) - (nI 1 <<< (nI (min (a % 16) (b % 16)) &&& 31)))), some (.int (nI (max (a / 16) (b / 16)))), some (.int (nI y))] [] := by
    intro n
    induction n with
    | zero =>
      intro y hy hz hv
      refine jj_iload F dX0_meetsRectangle_32 rfl ?_
      refine jj_iload F dX0_meetsRectangle_34 rfl ?_
      refine jj_icmp_gt F (tgt := 59) dX0_meetsRectangle_36 (by decide) (fun _ => ?_) (fun h9 => absurd (nI_lt (by omega) (by omega)) h9)
      refine jj_iconst F (v := nI 0) dX0_meetsRectangle_59 (by decide) ?_
      refine ret _ _ _ _ dX0_meetsRectangle_60 (nar_z (Or.inl rfl)) ⟨b2i_f (exB_f (fun c hc => ?_)), rfl⟩
      by_cases q : c / 16 < y
      · exact hv c q
      · rw [rect_out (by omega)]
        simp
    | succ n ih =>
      intro y hy hz hv
      refine jj_iload F dX0_meetsRectangle_32 rfl ?_
      refine jj_iload F dX0_meetsRectangle_34 rfl ?_
      refine jj_icmp_gt F (tgt := 59) dX0_meetsRectangle_36 (by decide) (fun h9 => absurd h9 (nI_nlt (by omega) (by omega))) (fun _ => ?_)
      refine jj_aload_n F dX0_meetsRectangle_39 rfl ?_
      refine jj_getr F g9 (by assumption) (by rfl) dX0_meetsRectangle_40 ?_
      refine jj_iload F dX0_meetsRectangle_43 rfl ?_
      refine jj_iald F (by assumption) rfl (by omega) dX0_meetsRectangle_45 ?_
      refine jj_iload_n F dX0_meetsRectangle_46 rfl ?_
      refine jj_iand F dX0_meetsRectangle_47 ?_
      refine jj_if_eq F (tgt := 53) dX0_meetsRectangle_48 (by decide) (fun h48 => ?_) (fun h48 => ?_)
      · refine jj_iinc F dX0_meetsRectangle_53 rfl (iinc1 _) (by rw [hnl]; decide) ?_
        dsimp only [lq_st, lq_clr, lq_no]
        refine jj_goto F (tgt := 32) dX0_meetsRectangle_56 (by decide) ?_
        refine ih (y + 1) (by omega) (by omega) (fun c hc => ?_)
        by_cases q : c / 16 < y
        · exact hv c q
        · rw [hS, ← rect_row (a := a) (b := b) (y := y) ha hb (by omega) (by omega), rows_and0] at h48
          have := h48 (c % 16) (by omega)
          rwa [show 16 * y + c % 16 = c by omega] at this
      · refine jj_iconst F (v := nI 1) dX0_meetsRectangle_51 (by decide) ?_
        refine ret _ _ _ _ dX0_meetsRectangle_52 (nar_z (Or.inr rfl)) ⟨b2i_t ?_, rfl⟩
        rw [hS, ← rect_row (a := a) (b := b) (y := y) ha hb (by omega) (by omega)] at h48
        obtain ⟨x, hx, hbx⟩ := rows_and_ex h48
        exact exB_t (i := 16 * y + x) (by omega) hbx
  refine jj_iload_n F dX0_meetsRectangle_0 rfl ?_
  refine jj_iload_n F dX0_meetsRectangle_1 rfl ?_
  refine jj_callSi (na := 2) F (c_X0_columnsBetween (by omega) (by omega)) (gl_S mk_X0_18 vw_X0_columnsBetween) rfl rfl rfl (by decide +kernel) ⟨Nat.le_of_ble_eq_true rfl, Nat.le_of_ble_eq_true rfl⟩ rfl rfl (Nat.le_of_ble_eq_true rfl) ⟨Nat.le_of_ble_eq_true rfl, Nat.le_of_ble_eq_true rfl⟩ dX0_meetsRectangle_2 (fun r2 M2 hp2 => ?_)
  obtain ⟨rfl, rfl⟩ := symm2 hp2
  refine jj_istore_n F dX0_meetsRectangle_5 (by rw [hnl]; decide) ?_
  dsimp only [lq_st, lq_clr, lq_no]
  refine jj_iload_n F dX0_meetsRectangle_6 rfl ?_
  refine jj_callSi (na := 1) F (c_X0_rowOf (by omega)) (gl_S mk_X0_22 vw_X0_rowOf) rfl rfl rfl (by decide +kernel) ⟨Nat.le_of_ble_eq_true rfl, Nat.le_of_ble_eq_true rfl⟩ rfl rfl (Nat.le_of_ble_eq_true rfl) ⟨Nat.le_of_ble_eq_true rfl, Nat.le_of_ble_eq_true rfl⟩ dX0_meetsRectangle_7 (fun r7 M7 hp7 => ?_)
  obtain ⟨rfl, rfl⟩ := symm2 hp7
  refine jj_iload_n F dX0_meetsRectangle_10 rfl ?_
  refine jj_callSi (na := 1) F (c_X0_rowOf (by omega)) (gl_S mk_X0_22 vw_X0_rowOf) rfl rfl rfl (by decide +kernel) ⟨Nat.le_of_ble_eq_true rfl, Nat.le_of_ble_eq_true rfl⟩ rfl rfl (Nat.le_of_ble_eq_true rfl) ⟨Nat.le_of_ble_eq_true rfl, Nat.le_of_ble_eq_true rfl⟩ dX0_meetsRectangle_11 (fun r11 M11 hp11 => ?_)
  obtain ⟨rfl, rfl⟩ := symm2 hp11
  refine jj_mmax F mk_X0_26 (Nat.le_of_ble_eq_true rfl) (Nat.le_of_ble_eq_true rfl) (Nat.le_of_ble_eq_true rfl) (Nat.le_of_ble_eq_true rfl) (by omega) (by omega) dX0_meetsRectangle_14 ?_
  refine jj_istore F dX0_meetsRectangle_17 (by rw [hnl]; decide) ?_
  dsimp only [lq_st, lq_clr, lq_no]
  refine jj_iload_n F dX0_meetsRectangle_19 rfl ?_
  refine jj_callSi (na := 1) F (c_X0_rowOf (by omega)) (gl_S mk_X0_22 vw_X0_rowOf) rfl rfl rfl (by decide +kernel) ⟨Nat.le_of_ble_eq_true rfl, Nat.le_of_ble_eq_true rfl⟩ rfl rfl (Nat.le_of_ble_eq_true rfl) ⟨Nat.le_of_ble_eq_true rfl, Nat.le_of_ble_eq_true rfl⟩ dX0_meetsRectangle_20 (fun r20 M20 hp20 => ?_)
  obtain ⟨rfl, rfl⟩ := symm2 hp20
  refine jj_iload_n F dX0_meetsRectangle_23 rfl ?_
  refine jj_callSi (na := 1) F (c_X0_rowOf (by omega)) (gl_S mk_X0_22 vw_X0_rowOf) rfl rfl rfl (by decide +kernel) ⟨Nat.le_of_ble_eq_true rfl, Nat.le_of_ble_eq_true rfl⟩ rfl rfl (Nat.le_of_ble_eq_true rfl) ⟨Nat.le_of_ble_eq_true rfl, Nat.le_of_ble_eq_true rfl⟩ dX0_meetsRectangle_24 (fun r24 M24 hp24 => ?_)
  obtain ⟨rfl, rfl⟩ := symm2 hp24
  refine jj_mmin F mk_X0_31 (Nat.le_of_ble_eq_true rfl) (Nat.le_of_ble_eq_true rfl) (Nat.le_of_ble_eq_true rfl) (Nat.le_of_ble_eq_true rfl) (by omega) (by omega) dX0_meetsRectangle_27 ?_
  refine jj_istore F dX0_meetsRectangle_30 (by rw [hnl]; decide) ?_
  dsimp only [lq_st, lq_clr, lq_no]
  exact lo (max (a / 16) (b / 16) + 1 - min (a / 16) (b / 16)) (min (a / 16) (b / 16)) (by omega) (by omega) (fun c hc => by rw [rect_out2 hc]; simp)
end
section
/-! the cells by name -/
theorem kd_B : kd 0 = .inl (8, [3, 7, 189, 205, 206, 331, 456, 460, 0]) := rfl
theorem kd_PT : kd 1 = .inl (5, [4, 0, 5, 6, 0, 0, 0]) := rfl
theorem kd_codes : kd 2 = .inr (0, 40, 0, 0) := rfl
theorem kd_cols : kd 3 = .inr (0, 6, 0, 0) := rfl
theorem kd_prows : kd 4 = .inr (0, 6, 0, 0) := rfl
theorem kd_Log : kd 5 = .inl (2, [8, 0, 0]) := rfl
theorem kd_ents : kd 6 = .inr (5, 60, 7, 3) := rfl
theorem kd_Ls : kd 187 = .inl (1, [190, 191, 192]) := by decide +kernel
theorem kd_areas : kd 188 = .inr (3, 6, 191, 2) := by decide +kernel
theorem kd_owners : kd 189 = .inr (0, 6, 0, 0) := by decide +kernel
theorem kd_ends : kd 190 = .inr (0, 6, 0, 0) := by decide +kernel
theorem kd_marks : kd 203 = .inr (4, 6, 460, 3) := by decide +kernel
theorem kd_Reg : kd 454 = .inl (6, [457, 459, 0]) := by decide +kernel
theorem kd_queue : kd 457 = .inr (0, 256, 0, 0) := by decide +kernel
theorem kd_M : kd 478 = .inl (9, [0, 0, 0, 481, 482, 483, 484, 485, 486, 487, 488, 0, 489, 0, 490, 491, 492, 493, 494, 495, 496, 497, 0, 498, 499, 500, 501, 502, 0, 503, 504, 505, 1]) := by decide +kernel
theorem kd_op : ∀ i, i < 60 → kd (7 + 3 * i) = .inl (4, [0, 0, 0, 0, 0, 0, 0, 0, 7 + 3 * i + 3]) := by decide +kernel
theorem kd_mk0 : ∀ i, i < 6 → kd (460 + 3 * i) = .inl (3, [0, 0, 460 + 3 * i + 3, 460 + 3 * i + 4]) := by decide +kernel
theorem kd_mk1 : ∀ i, i < 6 → kd (460 + 3 * i + 1) = .inr (1, 60, 0, 0) := by decide +kernel
theorem kd_mk2 : ∀ i, i < 6 → kd (460 + 3 * i + 2) = .inr (0, 256, 0, 0) := by decide +kernel
theorem kd_o1 : ∀ i, i < 60 → kd (7 + 3 * i + 1) = .inl (0, [7 + 3 * i + 1 + 3]) := by decide +kernel
theorem kd_o2 : ∀ i, i < 60 → kd (7 + 3 * i + 1 + 1) = .inr (0, 16, 0, 0) := by decide +kernel
theorem cs_op (i : Nat) (hi : i < 60) : isCS (7 + 3 * i + 1) := ⟨kd_o1 i hi, kd_o2 i hi⟩
theorem kd_l1 : ∀ i, i < 6 → kd (191 + 2 * i) = .inl (0, [191 + 2 * i + 3]) := by decide +kernel
theorem kd_l2 : ∀ i, i < 6 → kd (191 + 2 * i + 1) = .inr (0, 16, 0, 0) := by decide +kernel
theorem cs_ls (i : Nat) (hi : i < 6) : isCS (191 + 2 * i) := ⟨kd_l1 i hi, kd_l2 i hi⟩
theorem kd_455 : kd 455 = .inl (0, [458]) := by decide +kernel
theorem kd_456 : kd 456 = .inr (0, 16, 0, 0) := by decide +kernel
theorem kd_458 : kd 458 = .inl (0, [461]) := by decide +kernel
theorem kd_459 : kd 459 = .inr (0, 16, 0, 0) := by decide +kernel
theorem cs_rest : isCS 455 := ⟨kd_455, kd_456⟩
theorem cs_scr : isCS 458 := ⟨kd_458, kd_459⟩
/-- a scene: cell b -/
def isSc (b : Nat) : Prop := b = 204 ∨ b = 329
theorem kd_sc0 {b : Nat} (h : isSc b) : kd b = .inl (7, [b + 3, b + 4, b + 5, b + 6]) := by
  rcases h with rfl | rfl <;> decide +kernel
theorem kd_sc1 {b : Nat} (h : isSc b) : kd (b + 1) = .inr (3, 60, b + 5, 2) := by
  rcases h with rfl | rfl <;> decide +kernel
theorem kd_sc2 {b : Nat} (h : isSc b) : kd (b + 2) = .inr (0, 256, 0, 0) := by
  rcases h with rfl | rfl <;> decide +kernel
theorem kd_sc3 {b : Nat} (h : isSc b) : kd (b + 3) = .inr (0, 256, 0, 0) := by
  rcases h with rfl | rfl <;> decide +kernel
theorem kd_sc4 {b : Nat} (h : isSc b) : kd (b + 4) = .inr (0, 60, 0, 0) := by
  rcases h with rfl | rfl <;> decide +kernel
theorem kd_s1a : ∀ i, i < 60 → kd (204 + 5 + 2 * i) = .inl (0, [204 + 5 + 2 * i + 3]) := by decide +kernel
theorem kd_s1b : ∀ i, i < 60 → kd (204 + 5 + 2 * i + 1) = .inr (0, 16, 0, 0) := by decide +kernel
theorem kd_s2a : ∀ i, i < 60 → kd (329 + 5 + 2 * i) = .inl (0, [329 + 5 + 2 * i + 3]) := by decide +kernel
theorem kd_s2b : ∀ i, i < 60 → kd (329 + 5 + 2 * i + 1) = .inr (0, 16, 0, 0) := by decide +kernel
theorem cs_sc {b : Nat} (hb : isSc b) (i : Nat) (hi : i < 60) : isCS (b + 5 + 2 * i) := by
  rcases hb with rfl | rfl
  · exact ⟨kd_s1a i hi, kd_s1b i hi⟩
  · exact ⟨kd_s2a i hi, kd_s2b i hi⟩
theorem fl_skip {α : Type} {i : Nat} {F g : Nat → α} (h : g i = F i) : fl i F g = fl (i + 1) F g := by
  funext y
  by_cases e : y = i
  · subst e
    simp [fl, h]
  · by_cases h2 : y < i
    · simp [fl, h2, show y < i + 1 by omega]
    · simp [fl, h2, show ¬ y < i + 1 by omega]
/-- the first place below n with p, n if there is none -/
def fst1 (p : Nat → Bool) : Nat → Nat
  | 0 => 0
  | n + 1 => if fst1 p n < n then fst1 p n else if p n then n else n + 1
theorem fst1_no {p : Nat → Bool} : ∀ {n : Nat}, (∀ j, j < n → p j = false) → fst1 p n = n
  | 0, _ => rfl
  | n + 1, h => by
    have a := fst1_no (p := p) (n := n) (fun j hj => h j (by omega))
    simp [fst1, a, h n (by omega)]
theorem fst1_yes {p : Nat → Bool} {i : Nat} (hp : p i = true) (h : ∀ j, j < i → p j = false) : ∀ {n : Nat}, i < n → fst1 p n = i
  | 0, hi => absurd hi (Nat.not_lt_zero i)
  | n + 1, hi => by
    rcases Nat.lt_or_ge i n with q | q
    · have a := fst1_yes hp h (n := n) q
      simp [fst1, a, q]
    · have e : i = n := by omega
      subst e
      have a := fst1_no (p := p) (n := i) h
      simp [fst1, a, hp]
theorem wA_1n {M : Mm} {k a j : Nat} {g : Nat → Int32} (h : a ≠ k) : (wA M k g).1 a j = M.1 a j := by rw [wA_n h]
theorem wA_1s {M : Mm} {k j : Nat} {g : Nat → Int32} : (wA M k g).1 k j = g j := by rw [wA_s]
end
section
theorem dX1_init_0 : decode cX1_init 0 = .ok (.aload_n 0, 1) := by decide +kernel
theorem dX1_init_1 : decode cX1_init 1 = .ok (.invokespecial 3, 3) := by decide +kernel
theorem dX1_init_4 : decode cX1_init 4 = .ok (.aload_n 0, 1) := by decide +kernel
theorem dX1_init_5 : decode cX1_init 5 = .ok (.bipush 6, 2) := by decide +kernel
theorem dX1_init_7 : decode cX1_init 7 = .ok (.anewarray 9, 3) := by decide +kernel
theorem dX1_init_10 : decode cX1_init 10 = .ok (.putfield 11, 3) := by decide +kernel
theorem dX1_init_13 : decode cX1_init 13 = .ok (.aload_n 0, 1) := by decide +kernel
theorem dX1_init_14 : decode cX1_init 14 = .ok (.bipush 6, 2) := by decide +kernel
theorem dX1_init_16 : decode cX1_init 16 = .ok (.newarray .int, 2) := by decide +kernel
theorem dX1_init_18 : decode cX1_init 18 = .ok (.putfield 17, 3) := by decide +kernel
theorem dX1_init_21 : decode cX1_init 21 = .ok (.aload_n 0, 1) := by decide +kernel
theorem dX1_init_22 : decode cX1_init 22 = .ok (.bipush 6, 2) := by decide +kernel
theorem dX1_init_24 : decode cX1_init 24 = .ok (.newarray .int, 2) := by decide +kernel
theorem dX1_init_26 : decode cX1_init 26 = .ok (.putfield 21, 3) := by decide +kernel
theorem dX1_init_29 : decode cX1_init 29 = .ok (.iconst 0, 1) := by decide +kernel
theorem dX1_init_30 : decode cX1_init 30 = .ok (.istore_n 1, 1) := by decide +kernel
theorem dX1_init_31 : decode cX1_init 31 = .ok (.iload_n 1, 1) := by decide +kernel
theorem dX1_init_32 : decode cX1_init 32 = .ok (.bipush 6, 2) := by decide +kernel
theorem dX1_init_34 : decode cX1_init 34 = .ok (.if_icmp .ge 22, 3) := by decide +kernel
theorem dX1_init_37 : decode cX1_init 37 = .ok (.aload_n 0, 1) := by decide +kernel
theorem dX1_init_38 : decode cX1_init 38 = .ok (.getfield 11, 3) := by decide +kernel
theorem dX1_init_41 : decode cX1_init 41 = .ok (.iload_n 1, 1) := by decide +kernel
theorem dX1_init_42 : decode cX1_init 42 = .ok (.new 9, 3) := by decide +kernel
theorem dX1_init_45 : decode cX1_init 45 = .ok (.dup, 1) := by decide +kernel
theorem dX1_init_46 : decode cX1_init 46 = .ok (.invokespecial 24, 3) := by decide +kernel
theorem dX1_init_49 : decode cX1_init 49 = .ok (.aastore, 1) := by decide +kernel
theorem dX1_init_50 : decode cX1_init 50 = .ok (.iinc 1 1, 3) := by decide +kernel
theorem dX1_init_53 : decode cX1_init 53 = .ok (.goto (-22), 3) := by decide +kernel
theorem dX1_init_56 : decode cX1_init 56 = .ok (.return_, 1) := by decide +kernel
theorem dX1_freeSlot_0 : decode cX1_freeSlot 0 = .ok (.iconst 0, 1) := by decide +kernel
theorem dX1_freeSlot_1 : decode cX1_freeSlot 1 = .ok (.istore_n 2, 1) := by decide +kernel
theorem dX1_freeSlot_2 : decode cX1_freeSlot 2 = .ok (.iload_n 2, 1) := by decide +kernel
theorem dX1_freeSlot_3 : decode cX1_freeSlot 3 = .ok (.bipush 6, 2) := by decide +kernel
theorem dX1_freeSlot_5 : decode cX1_freeSlot 5 = .ok (.if_icmp .ge 21, 3) := by decide +kernel
theorem dX1_freeSlot_8 : decode cX1_freeSlot 8 = .ok (.iload_n 1, 1) := by decide +kernel
theorem dX1_freeSlot_9 : decode cX1_freeSlot 9 = .ok (.aload_n 0, 1) := by decide +kernel
theorem dX1_freeSlot_10 : decode cX1_freeSlot 10 = .ok (.getfield 21, 3) := by decide +kernel
theorem dX1_freeSlot_13 : decode cX1_freeSlot 13 = .ok (.iload_n 2, 1) := by decide +kernel
theorem dX1_freeSlot_14 : decode cX1_freeSlot 14 = .ok (.iaload, 1) := by decide +kernel
theorem dX1_freeSlot_15 : decode cX1_freeSlot 15 = .ok (.if_icmp .lt 5, 3) := by decide +kernel
theorem dX1_freeSlot_18 : decode cX1_freeSlot 18 = .ok (.iload_n 2, 1) := by decide +kernel
theorem dX1_freeSlot_19 : decode cX1_freeSlot 19 = .ok (.ireturn, 1) := by decide +kernel
theorem dX1_freeSlot_20 : decode cX1_freeSlot 20 = .ok (.iinc 2 1, 3) := by decide +kernel
theorem dX1_freeSlot_23 : decode cX1_freeSlot 23 = .ok (.goto (-21), 3) := by decide +kernel
theorem dX1_freeSlot_26 : decode cX1_freeSlot 26 = .ok (.iconst (-1), 1) := by decide +kernel
theorem dX1_freeSlot_27 : decode cX1_freeSlot 27 = .ok (.ireturn, 1) := by decide +kernel
theorem dX1_begin_0 : decode cX1_begin 0 = .ok (.aload_n 0, 1) := by decide +kernel
theorem dX1_begin_1 : decode cX1_begin 1 = .ok (.getfield 17, 3) := by decide +kernel
theorem dX1_begin_4 : decode cX1_begin 4 = .ok (.iload_n 1, 1) := by decide +kernel
theorem dX1_begin_5 : decode cX1_begin 5 = .ok (.iload_n 2, 1) := by decide +kernel
theorem dX1_begin_6 : decode cX1_begin 6 = .ok (.iastore, 1) := by decide +kernel
theorem dX1_begin_7 : decode cX1_begin 7 = .ok (.aload_n 0, 1) := by decide +kernel
theorem dX1_begin_8 : decode cX1_begin 8 = .ok (.getfield 21, 3) := by decide +kernel
theorem dX1_begin_11 : decode cX1_begin 11 = .ok (.iload_n 1, 1) := by decide +kernel
theorem dX1_begin_12 : decode cX1_begin 12 = .ok (.iload_n 3, 1) := by decide +kernel
theorem dX1_begin_13 : decode cX1_begin 13 = .ok (.iastore, 1) := by decide +kernel
theorem dX1_begin_14 : decode cX1_begin 14 = .ok (.return_, 1) := by decide +kernel
theorem dX1_endAll_0 : decode cX1_endAll 0 = .ok (.iconst 0, 1) := by decide +kernel
theorem dX1_endAll_1 : decode cX1_endAll 1 = .ok (.istore_n 1, 1) := by decide +kernel
theorem dX1_endAll_2 : decode cX1_endAll 2 = .ok (.iload_n 1, 1) := by decide +kernel
theorem dX1_endAll_3 : decode cX1_endAll 3 = .ok (.bipush 6, 2) := by decide +kernel
theorem dX1_endAll_5 : decode cX1_endAll 5 = .ok (.if_icmp .ge 16, 3) := by decide +kernel
theorem dX1_endAll_8 : decode cX1_endAll 8 = .ok (.aload_n 0, 1) := by decide +kernel
theorem dX1_endAll_9 : decode cX1_endAll 9 = .ok (.getfield 21, 3) := by decide +kernel
theorem dX1_endAll_12 : decode cX1_endAll 12 = .ok (.iload_n 1, 1) := by decide +kernel
theorem dX1_endAll_13 : decode cX1_endAll 13 = .ok (.iconst 0, 1) := by decide +kernel
theorem dX1_endAll_14 : decode cX1_endAll 14 = .ok (.iastore, 1) := by decide +kernel
theorem dX1_endAll_15 : decode cX1_endAll 15 = .ok (.iinc 1 1, 3) := by decide +kernel
theorem dX1_endAll_18 : decode cX1_endAll 18 = .ok (.goto (-16), 3) := by decide +kernel
theorem dX1_endAll_21 : decode cX1_endAll 21 = .ok (.return_, 1) := by decide +kernel
theorem dX1_endAllOf_0 : decode cX1_endAllOf 0 = .ok (.iconst 0, 1) := by decide +kernel
theorem dX1_endAllOf_1 : decode cX1_endAllOf 1 = .ok (.istore_n 3, 1) := by decide +kernel
theorem dX1_endAllOf_2 : decode cX1_endAllOf 2 = .ok (.iconst 0, 1) := by decide +kernel
theorem dX1_endAllOf_3 : decode cX1_endAllOf 3 = .ok (.istore 4, 2) := by decide +kernel
theorem dX1_endAllOf_5 : decode cX1_endAllOf 5 = .ok (.iload 4, 2) := by decide +kernel
theorem dX1_endAllOf_7 : decode cX1_endAllOf 7 = .ok (.bipush 6, 2) := by decide +kernel
theorem dX1_endAllOf_9 : decode cX1_endAllOf 9 = .ok (.if_icmp .ge 42, 3) := by decide +kernel
theorem dX1_endAllOf_12 : decode cX1_endAllOf 12 = .ok (.iload_n 2, 1) := by decide +kernel
theorem dX1_endAllOf_13 : decode cX1_endAllOf 13 = .ok (.aload_n 0, 1) := by decide +kernel
theorem dX1_endAllOf_14 : decode cX1_endAllOf 14 = .ok (.getfield 21, 3) := by decide +kernel
theorem dX1_endAllOf_17 : decode cX1_endAllOf 17 = .ok (.iload 4, 2) := by decide +kernel
theorem dX1_endAllOf_19 : decode cX1_endAllOf 19 = .ok (.iaload, 1) := by decide +kernel
theorem dX1_endAllOf_20 : decode cX1_endAllOf 20 = .ok (.if_icmp .ge 25, 3) := by decide +kernel
theorem dX1_endAllOf_23 : decode cX1_endAllOf 23 = .ok (.aload_n 0, 1) := by decide +kernel
theorem dX1_endAllOf_24 : decode cX1_endAllOf 24 = .ok (.getfield 17, 3) := by decide +kernel
theorem dX1_endAllOf_27 : decode cX1_endAllOf 27 = .ok (.iload 4, 2) := by decide +kernel
theorem dX1_endAllOf_29 : decode cX1_endAllOf 29 = .ok (.iaload, 1) := by decide +kernel
theorem dX1_endAllOf_30 : decode cX1_endAllOf 30 = .ok (.iload_n 1, 1) := by decide +kernel
theorem dX1_endAllOf_31 : decode cX1_endAllOf 31 = .ok (.if_icmp .ne 14, 3) := by decide +kernel
theorem dX1_endAllOf_34 : decode cX1_endAllOf 34 = .ok (.aload_n 0, 1) := by decide +kernel
theorem dX1_endAllOf_35 : decode cX1_endAllOf 35 = .ok (.getfield 21, 3) := by decide +kernel
theorem dX1_endAllOf_38 : decode cX1_endAllOf 38 = .ok (.iload 4, 2) := by decide +kernel
theorem dX1_endAllOf_40 : decode cX1_endAllOf 40 = .ok (.iconst 0, 1) := by decide +kernel
theorem dX1_endAllOf_41 : decode cX1_endAllOf 41 = .ok (.iastore, 1) := by decide +kernel
theorem dX1_endAllOf_42 : decode cX1_endAllOf 42 = .ok (.iinc 3 1, 3) := by decide +kernel
theorem dX1_endAllOf_45 : decode cX1_endAllOf 45 = .ok (.iinc 4 1, 3) := by decide +kernel
theorem dX1_endAllOf_48 : decode cX1_endAllOf 48 = .ok (.goto (-43), 3) := by decide +kernel
theorem dX1_endAllOf_51 : decode cX1_endAllOf 51 = .ok (.iload_n 3, 1) := by decide +kernel
theorem dX1_endAllOf_52 : decode cX1_endAllOf 52 = .ok (.ireturn, 1) := by decide +kernel
theorem dX1_inForce_0 : decode cX1_inForce 0 = .ok (.iconst 0, 1) := by decide +kernel
theorem dX1_inForce_1 : decode cX1_inForce 1 = .ok (.istore_n 2, 1) := by decide +kernel
theorem dX1_inForce_2 : decode cX1_inForce 2 = .ok (.iconst 0, 1) := by decide +kernel
theorem dX1_inForce_3 : decode cX1_inForce 3 = .ok (.istore_n 3, 1) := by decide +kernel
theorem dX1_inForce_4 : decode cX1_inForce 4 = .ok (.iload_n 3, 1) := by decide +kernel
theorem dX1_inForce_5 : decode cX1_inForce 5 = .ok (.bipush 6, 2) := by decide +kernel
theorem dX1_inForce_7 : decode cX1_inForce 7 = .ok (.if_icmp .ge 22, 3) := by decide +kernel
theorem dX1_inForce_10 : decode cX1_inForce 10 = .ok (.iload_n 1, 1) := by decide +kernel
theorem dX1_inForce_11 : decode cX1_inForce 11 = .ok (.aload_n 0, 1) := by decide +kernel
theorem dX1_inForce_12 : decode cX1_inForce 12 = .ok (.getfield 21, 3) := by decide +kernel
theorem dX1_inForce_15 : decode cX1_inForce 15 = .ok (.iload_n 3, 1) := by decide +kernel
theorem dX1_inForce_16 : decode cX1_inForce 16 = .ok (.iaload, 1) := by decide +kernel
theorem dX1_inForce_17 : decode cX1_inForce 17 = .ok (.if_icmp .ge 6, 3) := by decide +kernel
theorem dX1_inForce_20 : decode cX1_inForce 20 = .ok (.iinc 2 1, 3) := by decide +kernel
theorem dX1_inForce_23 : decode cX1_inForce 23 = .ok (.iinc 3 1, 3) := by decide +kernel
theorem dX1_inForce_26 : decode cX1_inForce 26 = .ok (.goto (-22), 3) := by decide +kernel
theorem dX1_inForce_29 : decode cX1_inForce 29 = .ok (.iload_n 2, 1) := by decide +kernel
theorem dX1_inForce_30 : decode cX1_inForce 30 = .ok (.ireturn, 1) := by decide +kernel
theorem dX1_inForceOf_0 : decode cX1_inForceOf 0 = .ok (.iconst 0, 1) := by decide +kernel
theorem dX1_inForceOf_1 : decode cX1_inForceOf 1 = .ok (.istore_n 3, 1) := by decide +kernel
theorem dX1_inForceOf_2 : decode cX1_inForceOf 2 = .ok (.iconst 0, 1) := by decide +kernel
theorem dX1_inForceOf_3 : decode cX1_inForceOf 3 = .ok (.istore 4, 2) := by decide +kernel
theorem dX1_inForceOf_5 : decode cX1_inForceOf 5 = .ok (.iload 4, 2) := by decide +kernel
theorem dX1_inForceOf_7 : decode cX1_inForceOf 7 = .ok (.bipush 6, 2) := by decide +kernel
theorem dX1_inForceOf_9 : decode cX1_inForceOf 9 = .ok (.if_icmp .ge 34, 3) := by decide +kernel
theorem dX1_inForceOf_12 : decode cX1_inForceOf 12 = .ok (.iload_n 2, 1) := by decide +kernel
theorem dX1_inForceOf_13 : decode cX1_inForceOf 13 = .ok (.aload_n 0, 1) := by decide +kernel
theorem dX1_inForceOf_14 : decode cX1_inForceOf 14 = .ok (.getfield 21, 3) := by decide +kernel
theorem dX1_inForceOf_17 : decode cX1_inForceOf 17 = .ok (.iload 4, 2) := by decide +kernel
theorem dX1_inForceOf_19 : decode cX1_inForceOf 19 = .ok (.iaload, 1) := by decide +kernel
theorem dX1_inForceOf_20 : decode cX1_inForceOf 20 = .ok (.if_icmp .ge 17, 3) := by decide +kernel
theorem dX1_inForceOf_23 : decode cX1_inForceOf 23 = .ok (.aload_n 0, 1) := by decide +kernel
theorem dX1_inForceOf_24 : decode cX1_inForceOf 24 = .ok (.getfield 17, 3) := by decide +kernel
theorem dX1_inForceOf_27 : decode cX1_inForceOf 27 = .ok (.iload 4, 2) := by decide +kernel
theorem dX1_inForceOf_29 : decode cX1_inForceOf 29 = .ok (.iaload, 1) := by decide +kernel
theorem dX1_inForceOf_30 : decode cX1_inForceOf 30 = .ok (.iload_n 1, 1) := by decide +kernel
theorem dX1_inForceOf_31 : decode cX1_inForceOf 31 = .ok (.if_icmp .ne 6, 3) := by decide +kernel
theorem dX1_inForceOf_34 : decode cX1_inForceOf 34 = .ok (.iinc 3 1, 3) := by decide +kernel
theorem dX1_inForceOf_37 : decode cX1_inForceOf 37 = .ok (.iinc 4 1, 3) := by decide +kernel
theorem dX1_inForceOf_40 : decode cX1_inForceOf 40 = .ok (.goto (-35), 3) := by decide +kernel
theorem dX1_inForceOf_43 : decode cX1_inForceOf 43 = .ok (.iload_n 3, 1) := by decide +kernel
theorem dX1_inForceOf_44 : decode cX1_inForceOf 44 = .ok (.ireturn, 1) := by decide +kernel
theorem dX1_lowestOwner_0 : decode cX1_lowestOwner 0 = .ok (.iconst (-1), 1) := by decide +kernel
theorem dX1_lowestOwner_1 : decode cX1_lowestOwner 1 = .ok (.istore_n 3, 1) := by decide +kernel
theorem dX1_lowestOwner_2 : decode cX1_lowestOwner 2 = .ok (.iconst 0, 1) := by decide +kernel
theorem dX1_lowestOwner_3 : decode cX1_lowestOwner 3 = .ok (.istore 4, 2) := by decide +kernel
theorem dX1_lowestOwner_5 : decode cX1_lowestOwner 5 = .ok (.iload 4, 2) := by decide +kernel
theorem dX1_lowestOwner_7 : decode cX1_lowestOwner 7 = .ok (.bipush 6, 2) := by decide +kernel
theorem dX1_lowestOwner_9 : decode cX1_lowestOwner 9 = .ok (.if_icmp .ge 58, 3) := by decide +kernel
theorem dX1_lowestOwner_12 : decode cX1_lowestOwner 12 = .ok (.iload_n 2, 1) := by decide +kernel
theorem dX1_lowestOwner_13 : decode cX1_lowestOwner 13 = .ok (.aload_n 0, 1) := by decide +kernel
theorem dX1_lowestOwner_14 : decode cX1_lowestOwner 14 = .ok (.getfield 21, 3) := by decide +kernel
theorem dX1_lowestOwner_17 : decode cX1_lowestOwner 17 = .ok (.iload 4, 2) := by decide +kernel
theorem dX1_lowestOwner_19 : decode cX1_lowestOwner 19 = .ok (.iaload, 1) := by decide +kernel
theorem dX1_lowestOwner_20 : decode cX1_lowestOwner 20 = .ok (.if_icmp .ge 41, 3) := by decide +kernel
theorem dX1_lowestOwner_23 : decode cX1_lowestOwner 23 = .ok (.aload_n 0, 1) := by decide +kernel
theorem dX1_lowestOwner_24 : decode cX1_lowestOwner 24 = .ok (.getfield 11, 3) := by decide +kernel
theorem dX1_lowestOwner_27 : decode cX1_lowestOwner 27 = .ok (.iload 4, 2) := by decide +kernel
theorem dX1_lowestOwner_29 : decode cX1_lowestOwner 29 = .ok (.aaload, 1) := by decide +kernel
theorem dX1_lowestOwner_30 : decode cX1_lowestOwner 30 = .ok (.iload_n 1, 1) := by decide +kernel
theorem dX1_lowestOwner_31 : decode cX1_lowestOwner 31 = .ok (.invokevirtual 25, 3) := by decide +kernel
theorem dX1_lowestOwner_34 : decode cX1_lowestOwner 34 = .ok (.ifCond .eq 27, 3) := by decide +kernel
theorem dX1_lowestOwner_37 : decode cX1_lowestOwner 37 = .ok (.iload_n 3, 1) := by decide +kernel
theorem dX1_lowestOwner_38 : decode cX1_lowestOwner 38 = .ok (.iconst (-1), 1) := by decide +kernel
theorem dX1_lowestOwner_39 : decode cX1_lowestOwner 39 = .ok (.if_icmp .eq 14, 3) := by decide +kernel
theorem dX1_lowestOwner_42 : decode cX1_lowestOwner 42 = .ok (.aload_n 0, 1) := by decide +kernel
theorem dX1_lowestOwner_43 : decode cX1_lowestOwner 43 = .ok (.getfield 17, 3) := by decide +kernel
theorem dX1_lowestOwner_46 : decode cX1_lowestOwner 46 = .ok (.iload 4, 2) := by decide +kernel
theorem dX1_lowestOwner_48 : decode cX1_lowestOwner 48 = .ok (.iaload, 1) := by decide +kernel
theorem dX1_lowestOwner_49 : decode cX1_lowestOwner 49 = .ok (.iload_n 3, 1) := by decide +kernel
theorem dX1_lowestOwner_50 : decode cX1_lowestOwner 50 = .ok (.if_icmp .ge 11, 3) := by decide +kernel
theorem dX1_lowestOwner_53 : decode cX1_lowestOwner 53 = .ok (.aload_n 0, 1) := by decide +kernel
theorem dX1_lowestOwner_54 : decode cX1_lowestOwner 54 = .ok (.getfield 17, 3) := by decide +kernel
theorem dX1_lowestOwner_57 : decode cX1_lowestOwner 57 = .ok (.iload 4, 2) := by decide +kernel
theorem dX1_lowestOwner_59 : decode cX1_lowestOwner 59 = .ok (.iaload, 1) := by decide +kernel
theorem dX1_lowestOwner_60 : decode cX1_lowestOwner 60 = .ok (.istore_n 3, 1) := by decide +kernel
theorem dX1_lowestOwner_61 : decode cX1_lowestOwner 61 = .ok (.iinc 4 1, 3) := by decide +kernel
theorem dX1_lowestOwner_64 : decode cX1_lowestOwner 64 = .ok (.goto (-59), 3) := by decide +kernel
theorem dX1_lowestOwner_67 : decode cX1_lowestOwner 67 = .ok (.iload_n 3, 1) := by decide +kernel
theorem dX1_lowestOwner_68 : decode cX1_lowestOwner 68 = .ok (.ireturn, 1) := by decide +kernel
theorem dX1_collectClosed_0 : decode cX1_collectClosed 0 = .ok (.aload_n 3, 1) := by decide +kernel
theorem dX1_collectClosed_1 : decode cX1_collectClosed 1 = .ok (.invokevirtual 29, 3) := by decide +kernel
theorem dX1_collectClosed_4 : decode cX1_collectClosed 4 = .ok (.iconst 0, 1) := by decide +kernel
theorem dX1_collectClosed_5 : decode cX1_collectClosed 5 = .ok (.istore 4, 2) := by decide +kernel
theorem dX1_collectClosed_7 : decode cX1_collectClosed 7 = .ok (.iload 4, 2) := by decide +kernel
theorem dX1_collectClosed_9 : decode cX1_collectClosed 9 = .ok (.bipush 6, 2) := by decide +kernel
theorem dX1_collectClosed_11 : decode cX1_collectClosed 11 = .ok (.if_icmp .ge 42, 3) := by decide +kernel
theorem dX1_collectClosed_14 : decode cX1_collectClosed 14 = .ok (.iload_n 2, 1) := by decide +kernel
theorem dX1_collectClosed_15 : decode cX1_collectClosed 15 = .ok (.aload_n 0, 1) := by decide +kernel
theorem dX1_collectClosed_16 : decode cX1_collectClosed 16 = .ok (.getfield 21, 3) := by decide +kernel
theorem dX1_collectClosed_19 : decode cX1_collectClosed 19 = .ok (.iload 4, 2) := by decide +kernel
theorem dX1_collectClosed_21 : decode cX1_collectClosed 21 = .ok (.iaload, 1) := by decide +kernel
theorem dX1_collectClosed_22 : decode cX1_collectClosed 22 = .ok (.if_icmp .ge 25, 3) := by decide +kernel
theorem dX1_collectClosed_25 : decode cX1_collectClosed 25 = .ok (.aload_n 0, 1) := by decide +kernel
theorem dX1_collectClosed_26 : decode cX1_collectClosed 26 = .ok (.getfield 17, 3) := by decide +kernel
theorem dX1_collectClosed_29 : decode cX1_collectClosed 29 = .ok (.iload 4, 2) := by decide +kernel
theorem dX1_collectClosed_31 : decode cX1_collectClosed 31 = .ok (.iaload, 1) := by decide +kernel
theorem dX1_collectClosed_32 : decode cX1_collectClosed 32 = .ok (.iload_n 1, 1) := by decide +kernel
theorem dX1_collectClosed_33 : decode cX1_collectClosed 33 = .ok (.if_icmp .eq 14, 3) := by decide +kernel
theorem dX1_collectClosed_36 : decode cX1_collectClosed 36 = .ok (.aload_n 3, 1) := by decide +kernel
theorem dX1_collectClosed_37 : decode cX1_collectClosed 37 = .ok (.aload_n 0, 1) := by decide +kernel
theorem dX1_collectClosed_38 : decode cX1_collectClosed 38 = .ok (.getfield 11, 3) := by decide +kernel
theorem dX1_collectClosed_41 : decode cX1_collectClosed 41 = .ok (.iload 4, 2) := by decide +kernel
theorem dX1_collectClosed_43 : decode cX1_collectClosed 43 = .ok (.aaload, 1) := by decide +kernel
theorem dX1_collectClosed_44 : decode cX1_collectClosed 44 = .ok (.invokevirtual 32, 3) := by decide +kernel
theorem dX1_collectClosed_47 : decode cX1_collectClosed 47 = .ok (.iinc 4 1, 3) := by decide +kernel
theorem dX1_collectClosed_50 : decode cX1_collectClosed 50 = .ok (.goto (-43), 3) := by decide +kernel
theorem dX1_collectClosed_53 : decode cX1_collectClosed 53 = .ok (.return_, 1) := by decide +kernel
theorem dX2_init_0 : decode cX2_init 0 = .ok (.aload_n 0, 1) := by decide +kernel
theorem dX2_init_1 : decode cX2_init 1 = .ok (.invokespecial 3, 3) := by decide +kernel
theorem dX2_init_4 : decode cX2_init 4 = .ok (.aload_n 0, 1) := by decide +kernel
theorem dX2_init_5 : decode cX2_init 5 = .ok (.bipush 60, 2) := by decide +kernel
theorem dX2_init_7 : decode cX2_init 7 = .ok (.anewarray 9, 3) := by decide +kernel
theorem dX2_init_10 : decode cX2_init 10 = .ok (.putfield 11, 3) := by decide +kernel
theorem dX2_init_13 : decode cX2_init 13 = .ok (.aload_n 0, 1) := by decide +kernel
theorem dX2_init_14 : decode cX2_init 14 = .ok (.iconst 0, 1) := by decide +kernel
theorem dX2_init_15 : decode cX2_init 15 = .ok (.putfield 17, 3) := by decide +kernel
theorem dX2_init_18 : decode cX2_init 18 = .ok (.aload_n 0, 1) := by decide +kernel
theorem dX2_init_19 : decode cX2_init 19 = .ok (.iconst 0, 1) := by decide +kernel
theorem dX2_init_20 : decode cX2_init 20 = .ok (.putfield 21, 3) := by decide +kernel
theorem dX2_init_23 : decode cX2_init 23 = .ok (.iconst 0, 1) := by decide +kernel
theorem dX2_init_24 : decode cX2_init 24 = .ok (.istore_n 1, 1) := by decide +kernel
theorem dX2_init_25 : decode cX2_init 25 = .ok (.iload_n 1, 1) := by decide +kernel
theorem dX2_init_26 : decode cX2_init 26 = .ok (.bipush 60, 2) := by decide +kernel
theorem dX2_init_28 : decode cX2_init 28 = .ok (.if_icmp .ge 22, 3) := by decide +kernel
theorem dX2_init_31 : decode cX2_init 31 = .ok (.aload_n 0, 1) := by decide +kernel
theorem dX2_init_32 : decode cX2_init 32 = .ok (.getfield 11, 3) := by decide +kernel
theorem dX2_init_35 : decode cX2_init 35 = .ok (.iload_n 1, 1) := by decide +kernel
theorem dX2_init_36 : decode cX2_init 36 = .ok (.new 9, 3) := by decide +kernel
theorem dX2_init_39 : decode cX2_init 39 = .ok (.dup, 1) := by decide +kernel
theorem dX2_init_40 : decode cX2_init 40 = .ok (.invokespecial 24, 3) := by decide +kernel
theorem dX2_init_43 : decode cX2_init 43 = .ok (.aastore, 1) := by decide +kernel
theorem dX2_init_44 : decode cX2_init 44 = .ok (.iinc 1 1, 3) := by decide +kernel
theorem dX2_init_47 : decode cX2_init 47 = .ok (.goto (-22), 3) := by decide +kernel
theorem dX2_init_50 : decode cX2_init 50 = .ok (.return_, 1) := by decide +kernel
theorem dX2_contains_0 : decode cX2_contains 0 = .ok (.iload_n 1, 1) := by decide +kernel
theorem dX2_contains_1 : decode cX2_contains 1 = .ok (.ifCond .lt 15, 3) := by decide +kernel
theorem dX2_contains_4 : decode cX2_contains 4 = .ok (.iload_n 1, 1) := by decide +kernel
theorem dX2_contains_5 : decode cX2_contains 5 = .ok (.aload_n 0, 1) := by decide +kernel
theorem dX2_contains_6 : decode cX2_contains 6 = .ok (.getfield 17, 3) := by decide +kernel
theorem dX2_contains_9 : decode cX2_contains 9 = .ok (.if_icmp .ge 7, 3) := by decide +kernel
theorem dX2_contains_12 : decode cX2_contains 12 = .ok (.iconst 1, 1) := by decide +kernel
theorem dX2_contains_13 : decode cX2_contains 13 = .ok (.goto 4, 3) := by decide +kernel
theorem dX2_contains_16 : decode cX2_contains 16 = .ok (.iconst 0, 1) := by decide +kernel
theorem dX2_contains_17 : decode cX2_contains 17 = .ok (.ireturn, 1) := by decide +kernel
theorem dX2_begin_0 : decode cX2_begin 0 = .ok (.aload_n 0, 1) := by decide +kernel
theorem dX2_begin_1 : decode cX2_begin 1 = .ok (.iload_n 2, 1) := by decide +kernel
theorem dX2_begin_2 : decode cX2_begin 2 = .ok (.invokevirtual 25, 3) := by decide +kernel
theorem dX2_begin_5 : decode cX2_begin 5 = .ok (.aload_n 0, 1) := by decide +kernel
theorem dX2_begin_6 : decode cX2_begin 6 = .ok (.getfield 11, 3) := by decide +kernel
theorem dX2_begin_9 : decode cX2_begin 9 = .ok (.aload_n 0, 1) := by decide +kernel
theorem dX2_begin_10 : decode cX2_begin 10 = .ok (.getfield 17, 3) := by decide +kernel
theorem dX2_begin_13 : decode cX2_begin 13 = .ok (.aaload, 1) := by decide +kernel
theorem dX2_begin_14 : decode cX2_begin 14 = .ok (.astore 5, 2) := by decide +kernel
theorem dX2_begin_16 : decode cX2_begin 16 = .ok (.aload_n 0, 1) := by decide +kernel
theorem dX2_begin_17 : decode cX2_begin 17 = .ok (.dup, 1) := by decide +kernel
theorem dX2_begin_18 : decode cX2_begin 18 = .ok (.getfield 17, 3) := by decide +kernel
theorem dX2_begin_21 : decode cX2_begin 21 = .ok (.iconst 1, 1) := by decide +kernel
theorem dX2_begin_22 : decode cX2_begin 22 = .ok (.iadd, 1) := by decide +kernel
theorem dX2_begin_23 : decode cX2_begin 23 = .ok (.putfield 17, 3) := by decide +kernel
theorem dX2_begin_26 : decode cX2_begin 26 = .ok (.aload 5, 2) := by decide +kernel
theorem dX2_begin_28 : decode cX2_begin 28 = .ok (.iload_n 1, 1) := by decide +kernel
theorem dX2_begin_29 : decode cX2_begin 29 = .ok (.putfield 29, 3) := by decide +kernel
theorem dX2_begin_32 : decode cX2_begin 32 = .ok (.aload 5, 2) := by decide +kernel
theorem dX2_begin_34 : decode cX2_begin 34 = .ok (.iload_n 2, 1) := by decide +kernel
theorem dX2_begin_35 : decode cX2_begin 35 = .ok (.putfield 32, 3) := by decide +kernel
theorem dX2_begin_38 : decode cX2_begin 38 = .ok (.aload 5, 2) := by decide +kernel
theorem dX2_begin_40 : decode cX2_begin 40 = .ok (.iload_n 3, 1) := by decide +kernel
theorem dX2_begin_41 : decode cX2_begin 41 = .ok (.putfield 35, 3) := by decide +kernel
theorem dX2_begin_44 : decode cX2_begin 44 = .ok (.aload 5, 2) := by decide +kernel
theorem dX2_begin_46 : decode cX2_begin 46 = .ok (.iconst 0, 1) := by decide +kernel
theorem dX2_begin_47 : decode cX2_begin 47 = .ok (.putfield 38, 3) := by decide +kernel
theorem dX2_begin_50 : decode cX2_begin 50 = .ok (.aload 5, 2) := by decide +kernel
theorem dX2_begin_52 : decode cX2_begin 52 = .ok (.iconst 0, 1) := by decide +kernel
theorem dX2_begin_53 : decode cX2_begin 53 = .ok (.putfield 41, 3) := by decide +kernel
theorem dX2_begin_56 : decode cX2_begin 56 = .ok (.aload 5, 2) := by decide +kernel
theorem dX2_begin_58 : decode cX2_begin 58 = .ok (.iload 4, 2) := by decide +kernel
theorem dX2_begin_60 : decode cX2_begin 60 = .ok (.putfield 44, 3) := by decide +kernel
theorem dX2_begin_63 : decode cX2_begin 63 = .ok (.aload 5, 2) := by decide +kernel
theorem dX2_begin_65 : decode cX2_begin 65 = .ok (.iconst 1, 1) := by decide +kernel
theorem dX2_begin_66 : decode cX2_begin 66 = .ok (.putfield 47, 3) := by decide +kernel
theorem dX2_begin_69 : decode cX2_begin 69 = .ok (.aload 5, 2) := by decide +kernel
theorem dX2_begin_71 : decode cX2_begin 71 = .ok (.iconst 0, 1) := by decide +kernel
theorem dX2_begin_72 : decode cX2_begin 72 = .ok (.putfield 51, 3) := by decide +kernel
theorem dX2_begin_75 : decode cX2_begin 75 = .ok (.aload 5, 2) := by decide +kernel
theorem dX2_begin_77 : decode cX2_begin 77 = .ok (.areturn, 1) := by decide +kernel
theorem dX2_forgetRedoOf_0 : decode cX2_forgetRedoOf 0 = .ok (.iconst 0, 1) := by decide +kernel
theorem dX2_forgetRedoOf_1 : decode cX2_forgetRedoOf 1 = .ok (.istore_n 2, 1) := by decide +kernel
theorem dX2_forgetRedoOf_2 : decode cX2_forgetRedoOf 2 = .ok (.iload_n 2, 1) := by decide +kernel
theorem dX2_forgetRedoOf_3 : decode cX2_forgetRedoOf 3 = .ok (.aload_n 0, 1) := by decide +kernel
theorem dX2_forgetRedoOf_4 : decode cX2_forgetRedoOf 4 = .ok (.getfield 17, 3) := by decide +kernel
theorem dX2_forgetRedoOf_7 : decode cX2_forgetRedoOf 7 = .ok (.if_icmp .ge 32, 3) := by decide +kernel
theorem dX2_forgetRedoOf_10 : decode cX2_forgetRedoOf 10 = .ok (.aload_n 0, 1) := by decide +kernel
theorem dX2_forgetRedoOf_11 : decode cX2_forgetRedoOf 11 = .ok (.getfield 11, 3) := by decide +kernel
theorem dX2_forgetRedoOf_14 : decode cX2_forgetRedoOf 14 = .ok (.iload_n 2, 1) := by decide +kernel
theorem dX2_forgetRedoOf_15 : decode cX2_forgetRedoOf 15 = .ok (.aaload, 1) := by decide +kernel
theorem dX2_forgetRedoOf_16 : decode cX2_forgetRedoOf 16 = .ok (.getfield 32, 3) := by decide +kernel
theorem dX2_forgetRedoOf_19 : decode cX2_forgetRedoOf 19 = .ok (.iload_n 1, 1) := by decide +kernel
theorem dX2_forgetRedoOf_20 : decode cX2_forgetRedoOf 20 = .ok (.if_icmp .ne 13, 3) := by decide +kernel
theorem dX2_forgetRedoOf_23 : decode cX2_forgetRedoOf 23 = .ok (.aload_n 0, 1) := by decide +kernel
theorem dX2_forgetRedoOf_24 : decode cX2_forgetRedoOf 24 = .ok (.getfield 11, 3) := by decide +kernel
theorem dX2_forgetRedoOf_27 : decode cX2_forgetRedoOf 27 = .ok (.iload_n 2, 1) := by decide +kernel
theorem dX2_forgetRedoOf_28 : decode cX2_forgetRedoOf 28 = .ok (.aaload, 1) := by decide +kernel
theorem dX2_forgetRedoOf_29 : decode cX2_forgetRedoOf 29 = .ok (.iconst 0, 1) := by decide +kernel
theorem dX2_forgetRedoOf_30 : decode cX2_forgetRedoOf 30 = .ok (.putfield 51, 3) := by decide +kernel
theorem dX2_forgetRedoOf_33 : decode cX2_forgetRedoOf 33 = .ok (.iinc 2 1, 3) := by decide +kernel
theorem dX2_forgetRedoOf_36 : decode cX2_forgetRedoOf 36 = .ok (.goto (-34), 3) := by decide +kernel
theorem dX2_forgetRedoOf_39 : decode cX2_forgetRedoOf 39 = .ok (.return_, 1) := by decide +kernel
theorem dX2_latestActive_0 : decode cX2_latestActive 0 = .ok (.iconst (-1), 1) := by decide +kernel
theorem dX2_latestActive_1 : decode cX2_latestActive 1 = .ok (.istore_n 2, 1) := by decide +kernel
theorem dX2_latestActive_2 : decode cX2_latestActive 2 = .ok (.iconst 0, 1) := by decide +kernel
theorem dX2_latestActive_3 : decode cX2_latestActive 3 = .ok (.istore_n 3, 1) := by decide +kernel
theorem dX2_latestActive_4 : decode cX2_latestActive 4 = .ok (.iload_n 3, 1) := by decide +kernel
theorem dX2_latestActive_5 : decode cX2_latestActive 5 = .ok (.aload_n 0, 1) := by decide +kernel
theorem dX2_latestActive_6 : decode cX2_latestActive 6 = .ok (.getfield 17, 3) := by decide +kernel
theorem dX2_latestActive_9 : decode cX2_latestActive 9 = .ok (.if_icmp .ge 36, 3) := by decide +kernel
theorem dX2_latestActive_12 : decode cX2_latestActive 12 = .ok (.aload_n 0, 1) := by decide +kernel
theorem dX2_latestActive_13 : decode cX2_latestActive 13 = .ok (.getfield 11, 3) := by decide +kernel
theorem dX2_latestActive_16 : decode cX2_latestActive 16 = .ok (.iload_n 3, 1) := by decide +kernel
theorem dX2_latestActive_17 : decode cX2_latestActive 17 = .ok (.aaload, 1) := by decide +kernel
theorem dX2_latestActive_18 : decode cX2_latestActive 18 = .ok (.getfield 47, 3) := by decide +kernel
theorem dX2_latestActive_21 : decode cX2_latestActive 21 = .ok (.ifCond .eq 18, 3) := by decide +kernel
theorem dX2_latestActive_24 : decode cX2_latestActive 24 = .ok (.aload_n 0, 1) := by decide +kernel
theorem dX2_latestActive_25 : decode cX2_latestActive 25 = .ok (.getfield 11, 3) := by decide +kernel
theorem dX2_latestActive_28 : decode cX2_latestActive 28 = .ok (.iload_n 3, 1) := by decide +kernel
theorem dX2_latestActive_29 : decode cX2_latestActive 29 = .ok (.aaload, 1) := by decide +kernel
theorem dX2_latestActive_30 : decode cX2_latestActive 30 = .ok (.getfield 32, 3) := by decide +kernel
theorem dX2_latestActive_33 : decode cX2_latestActive 33 = .ok (.iload_n 1, 1) := by decide +kernel
theorem dX2_latestActive_34 : decode cX2_latestActive 34 = .ok (.if_icmp .ne 5, 3) := by decide +kernel
theorem dX2_latestActive_37 : decode cX2_latestActive 37 = .ok (.iload_n 3, 1) := by decide +kernel
theorem dX2_latestActive_38 : decode cX2_latestActive 38 = .ok (.istore_n 2, 1) := by decide +kernel
theorem dX2_latestActive_39 : decode cX2_latestActive 39 = .ok (.iinc 3 1, 3) := by decide +kernel
theorem dX2_latestActive_42 : decode cX2_latestActive 42 = .ok (.goto (-38), 3) := by decide +kernel
theorem dX2_latestActive_45 : decode cX2_latestActive 45 = .ok (.iload_n 2, 1) := by decide +kernel
theorem dX2_latestActive_46 : decode cX2_latestActive 46 = .ok (.ireturn, 1) := by decide +kernel
theorem dX2_lastUndone_0 : decode cX2_lastUndone 0 = .ok (.iconst (-1), 1) := by decide +kernel
theorem dX2_lastUndone_1 : decode cX2_lastUndone 1 = .ok (.istore_n 2, 1) := by decide +kernel
theorem dX2_lastUndone_2 : decode cX2_lastUndone 2 = .ok (.iconst 0, 1) := by decide +kernel
theorem dX2_lastUndone_3 : decode cX2_lastUndone 3 = .ok (.istore_n 3, 1) := by decide +kernel
theorem dX2_lastUndone_4 : decode cX2_lastUndone 4 = .ok (.iconst 0, 1) := by decide +kernel
theorem dX2_lastUndone_5 : decode cX2_lastUndone 5 = .ok (.istore 4, 2) := by decide +kernel
theorem dX2_lastUndone_7 : decode cX2_lastUndone 7 = .ok (.iload 4, 2) := by decide +kernel
theorem dX2_lastUndone_9 : decode cX2_lastUndone 9 = .ok (.aload_n 0, 1) := by decide +kernel
theorem dX2_lastUndone_10 : decode cX2_lastUndone 10 = .ok (.getfield 17, 3) := by decide +kernel
theorem dX2_lastUndone_13 : decode cX2_lastUndone 13 = .ok (.if_icmp .ge 45, 3) := by decide +kernel
theorem dX2_lastUndone_16 : decode cX2_lastUndone 16 = .ok (.aload_n 0, 1) := by decide +kernel
theorem dX2_lastUndone_17 : decode cX2_lastUndone 17 = .ok (.getfield 11, 3) := by decide +kernel
theorem dX2_lastUndone_20 : decode cX2_lastUndone 20 = .ok (.iload 4, 2) := by decide +kernel
theorem dX2_lastUndone_22 : decode cX2_lastUndone 22 = .ok (.aaload, 1) := by decide +kernel
theorem dX2_lastUndone_23 : decode cX2_lastUndone 23 = .ok (.astore 5, 2) := by decide +kernel
theorem dX2_lastUndone_25 : decode cX2_lastUndone 25 = .ok (.aload 5, 2) := by decide +kernel
theorem dX2_lastUndone_27 : decode cX2_lastUndone 27 = .ok (.getfield 32, 3) := by decide +kernel
theorem dX2_lastUndone_30 : decode cX2_lastUndone 30 = .ok (.iload_n 1, 1) := by decide +kernel
theorem dX2_lastUndone_31 : decode cX2_lastUndone 31 = .ok (.if_icmp .ne 21, 3) := by decide +kernel
theorem dX2_lastUndone_34 : decode cX2_lastUndone 34 = .ok (.aload 5, 2) := by decide +kernel
theorem dX2_lastUndone_36 : decode cX2_lastUndone 36 = .ok (.getfield 51, 3) := by decide +kernel
theorem dX2_lastUndone_39 : decode cX2_lastUndone 39 = .ok (.iload_n 3, 1) := by decide +kernel
theorem dX2_lastUndone_40 : decode cX2_lastUndone 40 = .ok (.if_icmp .le 12, 3) := by decide +kernel
theorem dX2_lastUndone_43 : decode cX2_lastUndone 43 = .ok (.iload 4, 2) := by decide +kernel
theorem dX2_lastUndone_45 : decode cX2_lastUndone 45 = .ok (.istore_n 2, 1) := by decide +kernel
theorem dX2_lastUndone_46 : decode cX2_lastUndone 46 = .ok (.aload 5, 2) := by decide +kernel
theorem dX2_lastUndone_48 : decode cX2_lastUndone 48 = .ok (.getfield 51, 3) := by decide +kernel
theorem dX2_lastUndone_51 : decode cX2_lastUndone 51 = .ok (.istore_n 3, 1) := by decide +kernel
theorem dX2_lastUndone_52 : decode cX2_lastUndone 52 = .ok (.iinc 4 1, 3) := by decide +kernel
theorem dX2_lastUndone_55 : decode cX2_lastUndone 55 = .ok (.goto (-48), 3) := by decide +kernel
theorem dX2_lastUndone_58 : decode cX2_lastUndone 58 = .ok (.iload_n 2, 1) := by decide +kernel
theorem dX2_lastUndone_59 : decode cX2_lastUndone 59 = .ok (.ireturn, 1) := by decide +kernel
theorem dX2_switchOff_0 : decode cX2_switchOff 0 = .ok (.aload_n 0, 1) := by decide +kernel
theorem dX2_switchOff_1 : decode cX2_switchOff 1 = .ok (.dup, 1) := by decide +kernel
theorem dX2_switchOff_2 : decode cX2_switchOff 2 = .ok (.getfield 21, 3) := by decide +kernel
theorem dX2_switchOff_5 : decode cX2_switchOff 5 = .ok (.iconst 1, 1) := by decide +kernel
theorem dX2_switchOff_6 : decode cX2_switchOff 6 = .ok (.iadd, 1) := by decide +kernel
theorem dX2_switchOff_7 : decode cX2_switchOff 7 = .ok (.putfield 21, 3) := by decide +kernel
theorem dX2_switchOff_10 : decode cX2_switchOff 10 = .ok (.aload_n 0, 1) := by decide +kernel
theorem dX2_switchOff_11 : decode cX2_switchOff 11 = .ok (.getfield 11, 3) := by decide +kernel
theorem dX2_switchOff_14 : decode cX2_switchOff 14 = .ok (.iload_n 1, 1) := by decide +kernel
theorem dX2_switchOff_15 : decode cX2_switchOff 15 = .ok (.aaload, 1) := by decide +kernel
theorem dX2_switchOff_16 : decode cX2_switchOff 16 = .ok (.iconst 0, 1) := by decide +kernel
theorem dX2_switchOff_17 : decode cX2_switchOff 17 = .ok (.putfield 47, 3) := by decide +kernel
theorem dX2_switchOff_20 : decode cX2_switchOff 20 = .ok (.aload_n 0, 1) := by decide +kernel
theorem dX2_switchOff_21 : decode cX2_switchOff 21 = .ok (.getfield 11, 3) := by decide +kernel
theorem dX2_switchOff_24 : decode cX2_switchOff 24 = .ok (.iload_n 1, 1) := by decide +kernel
theorem dX2_switchOff_25 : decode cX2_switchOff 25 = .ok (.aaload, 1) := by decide +kernel
theorem dX2_switchOff_26 : decode cX2_switchOff 26 = .ok (.aload_n 0, 1) := by decide +kernel
theorem dX2_switchOff_27 : decode cX2_switchOff 27 = .ok (.getfield 21, 3) := by decide +kernel
theorem dX2_switchOff_30 : decode cX2_switchOff 30 = .ok (.putfield 51, 3) := by decide +kernel
theorem dX2_switchOff_33 : decode cX2_switchOff 33 = .ok (.return_, 1) := by decide +kernel
theorem dX2_switchOn_0 : decode cX2_switchOn 0 = .ok (.aload_n 0, 1) := by decide +kernel
theorem dX2_switchOn_1 : decode cX2_switchOn 1 = .ok (.getfield 11, 3) := by decide +kernel
theorem dX2_switchOn_4 : decode cX2_switchOn 4 = .ok (.iload_n 1, 1) := by decide +kernel
theorem dX2_switchOn_5 : decode cX2_switchOn 5 = .ok (.aaload, 1) := by decide +kernel
theorem dX2_switchOn_6 : decode cX2_switchOn 6 = .ok (.iconst 1, 1) := by decide +kernel
theorem dX2_switchOn_7 : decode cX2_switchOn 7 = .ok (.putfield 47, 3) := by decide +kernel
theorem dX2_switchOn_10 : decode cX2_switchOn 10 = .ok (.aload_n 0, 1) := by decide +kernel
theorem dX2_switchOn_11 : decode cX2_switchOn 11 = .ok (.getfield 11, 3) := by decide +kernel
theorem dX2_switchOn_14 : decode cX2_switchOn 14 = .ok (.iload_n 1, 1) := by decide +kernel
theorem dX2_switchOn_15 : decode cX2_switchOn 15 = .ok (.aaload, 1) := by decide +kernel
theorem dX2_switchOn_16 : decode cX2_switchOn 16 = .ok (.iconst 0, 1) := by decide +kernel
theorem dX2_switchOn_17 : decode cX2_switchOn 17 = .ok (.putfield 51, 3) := by decide +kernel
theorem dX2_switchOn_20 : decode cX2_switchOn 20 = .ok (.return_, 1) := by decide +kernel
theorem dX2_goBack_0 : decode cX2_goBack 0 = .ok (.aload_n 0, 1) := by decide +kernel
theorem dX2_goBack_1 : decode cX2_goBack 1 = .ok (.aload_n 1, 1) := by decide +kernel
theorem dX2_goBack_2 : decode cX2_goBack 2 = .ok (.getfield 54, 3) := by decide +kernel
theorem dX2_goBack_5 : decode cX2_goBack 5 = .ok (.putfield 17, 3) := by decide +kernel
theorem dX2_goBack_8 : decode cX2_goBack 8 = .ok (.iconst 0, 1) := by decide +kernel
theorem dX2_goBack_9 : decode cX2_goBack 9 = .ok (.istore_n 2, 1) := by decide +kernel
theorem dX2_goBack_10 : decode cX2_goBack 10 = .ok (.iload_n 2, 1) := by decide +kernel
theorem dX2_goBack_11 : decode cX2_goBack 11 = .ok (.aload_n 0, 1) := by decide +kernel
theorem dX2_goBack_12 : decode cX2_goBack 12 = .ok (.getfield 17, 3) := by decide +kernel
theorem dX2_goBack_15 : decode cX2_goBack 15 = .ok (.if_icmp .ge 34, 3) := by decide +kernel
theorem dX2_goBack_18 : decode cX2_goBack 18 = .ok (.aload_n 0, 1) := by decide +kernel
theorem dX2_goBack_19 : decode cX2_goBack 19 = .ok (.getfield 11, 3) := by decide +kernel
theorem dX2_goBack_22 : decode cX2_goBack 22 = .ok (.iload_n 2, 1) := by decide +kernel
theorem dX2_goBack_23 : decode cX2_goBack 23 = .ok (.aaload, 1) := by decide +kernel
theorem dX2_goBack_24 : decode cX2_goBack 24 = .ok (.aload_n 1, 1) := by decide +kernel
theorem dX2_goBack_25 : decode cX2_goBack 25 = .ok (.getfield 57, 3) := by decide +kernel
theorem dX2_goBack_28 : decode cX2_goBack 28 = .ok (.iload_n 2, 1) := by decide +kernel
theorem dX2_goBack_29 : decode cX2_goBack 29 = .ok (.baload, 1) := by decide +kernel
theorem dX2_goBack_30 : decode cX2_goBack 30 = .ok (.putfield 47, 3) := by decide +kernel
theorem dX2_goBack_33 : decode cX2_goBack 33 = .ok (.aload_n 0, 1) := by decide +kernel
theorem dX2_goBack_34 : decode cX2_goBack 34 = .ok (.getfield 11, 3) := by decide +kernel
theorem dX2_goBack_37 : decode cX2_goBack 37 = .ok (.iload_n 2, 1) := by decide +kernel
theorem dX2_goBack_38 : decode cX2_goBack 38 = .ok (.aaload, 1) := by decide +kernel
theorem dX2_goBack_39 : decode cX2_goBack 39 = .ok (.iconst 0, 1) := by decide +kernel
theorem dX2_goBack_40 : decode cX2_goBack 40 = .ok (.putfield 51, 3) := by decide +kernel
theorem dX2_goBack_43 : decode cX2_goBack 43 = .ok (.iinc 2 1, 3) := by decide +kernel
theorem dX2_goBack_46 : decode cX2_goBack 46 = .ok (.goto (-36), 3) := by decide +kernel
theorem dX2_goBack_49 : decode cX2_goBack 49 = .ok (.return_, 1) := by decide +kernel
theorem dX2_activeOperations_0 : decode cX2_activeOperations 0 = .ok (.iconst 0, 1) := by decide +kernel
theorem dX2_activeOperations_1 : decode cX2_activeOperations 1 = .ok (.istore_n 1, 1) := by decide +kernel
theorem dX2_activeOperations_2 : decode cX2_activeOperations 2 = .ok (.iconst 0, 1) := by decide +kernel
theorem dX2_activeOperations_3 : decode cX2_activeOperations 3 = .ok (.istore_n 2, 1) := by decide +kernel
theorem dX2_activeOperations_4 : decode cX2_activeOperations 4 = .ok (.iload_n 2, 1) := by decide +kernel
theorem dX2_activeOperations_5 : decode cX2_activeOperations 5 = .ok (.iconst 5, 1) := by decide +kernel
theorem dX2_activeOperations_6 : decode cX2_activeOperations 6 = .ok (.if_icmp .ge 17, 3) := by decide +kernel
theorem dX2_activeOperations_9 : decode cX2_activeOperations 9 = .ok (.iload_n 1, 1) := by decide +kernel
theorem dX2_activeOperations_10 : decode cX2_activeOperations 10 = .ok (.aload_n 0, 1) := by decide +kernel
theorem dX2_activeOperations_11 : decode cX2_activeOperations 11 = .ok (.iload_n 2, 1) := by decide +kernel
theorem dX2_activeOperations_12 : decode cX2_activeOperations 12 = .ok (.invokevirtual 60, 3) := by decide +kernel
theorem dX2_activeOperations_15 : decode cX2_activeOperations 15 = .ok (.iadd, 1) := by decide +kernel
theorem dX2_activeOperations_16 : decode cX2_activeOperations 16 = .ok (.istore_n 1, 1) := by decide +kernel
theorem dX2_activeOperations_17 : decode cX2_activeOperations 17 = .ok (.iinc 2 1, 3) := by decide +kernel
theorem dX2_activeOperations_20 : decode cX2_activeOperations 20 = .ok (.goto (-16), 3) := by decide +kernel
theorem dX2_activeOperations_23 : decode cX2_activeOperations 23 = .ok (.iload_n 1, 1) := by decide +kernel
theorem dX2_activeOperations_24 : decode cX2_activeOperations 24 = .ok (.ireturn, 1) := by decide +kernel
theorem dX2_operationsOf_0 : decode cX2_operationsOf 0 = .ok (.iconst 0, 1) := by decide +kernel
theorem dX2_operationsOf_1 : decode cX2_operationsOf 1 = .ok (.istore_n 2, 1) := by decide +kernel
theorem dX2_operationsOf_2 : decode cX2_operationsOf 2 = .ok (.iconst 0, 1) := by decide +kernel
theorem dX2_operationsOf_3 : decode cX2_operationsOf 3 = .ok (.istore_n 3, 1) := by decide +kernel
theorem dX2_operationsOf_4 : decode cX2_operationsOf 4 = .ok (.iload_n 3, 1) := by decide +kernel
theorem dX2_operationsOf_5 : decode cX2_operationsOf 5 = .ok (.aload_n 0, 1) := by decide +kernel
theorem dX2_operationsOf_6 : decode cX2_operationsOf 6 = .ok (.getfield 17, 3) := by decide +kernel
theorem dX2_operationsOf_9 : decode cX2_operationsOf 9 = .ok (.if_icmp .ge 25, 3) := by decide +kernel
theorem dX2_operationsOf_12 : decode cX2_operationsOf 12 = .ok (.aload_n 0, 1) := by decide +kernel
theorem dX2_operationsOf_13 : decode cX2_operationsOf 13 = .ok (.getfield 11, 3) := by decide +kernel
theorem dX2_operationsOf_16 : decode cX2_operationsOf 16 = .ok (.iload_n 3, 1) := by decide +kernel
theorem dX2_operationsOf_17 : decode cX2_operationsOf 17 = .ok (.aaload, 1) := by decide +kernel
theorem dX2_operationsOf_18 : decode cX2_operationsOf 18 = .ok (.getfield 32, 3) := by decide +kernel
theorem dX2_operationsOf_21 : decode cX2_operationsOf 21 = .ok (.iload_n 1, 1) := by decide +kernel
theorem dX2_operationsOf_22 : decode cX2_operationsOf 22 = .ok (.if_icmp .ne 6, 3) := by decide +kernel
theorem dX2_operationsOf_25 : decode cX2_operationsOf 25 = .ok (.iinc 2 1, 3) := by decide +kernel
theorem dX2_operationsOf_28 : decode cX2_operationsOf 28 = .ok (.iinc 3 1, 3) := by decide +kernel
theorem dX2_operationsOf_31 : decode cX2_operationsOf 31 = .ok (.goto (-27), 3) := by decide +kernel
theorem dX2_operationsOf_34 : decode cX2_operationsOf 34 = .ok (.iload_n 2, 1) := by decide +kernel
theorem dX2_operationsOf_35 : decode cX2_operationsOf 35 = .ok (.ireturn, 1) := by decide +kernel
theorem dX2_activeOf_0 : decode cX2_activeOf 0 = .ok (.iconst 0, 1) := by decide +kernel
theorem dX2_activeOf_1 : decode cX2_activeOf 1 = .ok (.istore_n 2, 1) := by decide +kernel
theorem dX2_activeOf_2 : decode cX2_activeOf 2 = .ok (.iconst 0, 1) := by decide +kernel
theorem dX2_activeOf_3 : decode cX2_activeOf 3 = .ok (.istore_n 3, 1) := by decide +kernel
theorem dX2_activeOf_4 : decode cX2_activeOf 4 = .ok (.iload_n 3, 1) := by decide +kernel
theorem dX2_activeOf_5 : decode cX2_activeOf 5 = .ok (.aload_n 0, 1) := by decide +kernel
theorem dX2_activeOf_6 : decode cX2_activeOf 6 = .ok (.getfield 17, 3) := by decide +kernel
theorem dX2_activeOf_9 : decode cX2_activeOf 9 = .ok (.if_icmp .ge 37, 3) := by decide +kernel
theorem dX2_activeOf_12 : decode cX2_activeOf 12 = .ok (.aload_n 0, 1) := by decide +kernel
theorem dX2_activeOf_13 : decode cX2_activeOf 13 = .ok (.getfield 11, 3) := by decide +kernel
theorem dX2_activeOf_16 : decode cX2_activeOf 16 = .ok (.iload_n 3, 1) := by decide +kernel
theorem dX2_activeOf_17 : decode cX2_activeOf 17 = .ok (.aaload, 1) := by decide +kernel
theorem dX2_activeOf_18 : decode cX2_activeOf 18 = .ok (.getfield 32, 3) := by decide +kernel
theorem dX2_activeOf_21 : decode cX2_activeOf 21 = .ok (.iload_n 1, 1) := by decide +kernel
theorem dX2_activeOf_22 : decode cX2_activeOf 22 = .ok (.if_icmp .ne 18, 3) := by decide +kernel
theorem dX2_activeOf_25 : decode cX2_activeOf 25 = .ok (.aload_n 0, 1) := by decide +kernel
theorem dX2_activeOf_26 : decode cX2_activeOf 26 = .ok (.getfield 11, 3) := by decide +kernel
theorem dX2_activeOf_29 : decode cX2_activeOf 29 = .ok (.iload_n 3, 1) := by decide +kernel
theorem dX2_activeOf_30 : decode cX2_activeOf 30 = .ok (.aaload, 1) := by decide +kernel
theorem dX2_activeOf_31 : decode cX2_activeOf 31 = .ok (.getfield 47, 3) := by decide +kernel
theorem dX2_activeOf_34 : decode cX2_activeOf 34 = .ok (.ifCond .eq 6, 3) := by decide +kernel
theorem dX2_activeOf_37 : decode cX2_activeOf 37 = .ok (.iinc 2 1, 3) := by decide +kernel
theorem dX2_activeOf_40 : decode cX2_activeOf 40 = .ok (.iinc 3 1, 3) := by decide +kernel
theorem dX2_activeOf_43 : decode cX2_activeOf 43 = .ok (.goto (-39), 3) := by decide +kernel
theorem dX2_activeOf_46 : decode cX2_activeOf 46 = .ok (.iload_n 2, 1) := by decide +kernel
theorem dX2_activeOf_47 : decode cX2_activeOf 47 = .ok (.ireturn, 1) := by decide +kernel
theorem dX2_redoableOf_0 : decode cX2_redoableOf 0 = .ok (.iconst 0, 1) := by decide +kernel
theorem dX2_redoableOf_1 : decode cX2_redoableOf 1 = .ok (.istore_n 2, 1) := by decide +kernel
theorem dX2_redoableOf_2 : decode cX2_redoableOf 2 = .ok (.iconst 0, 1) := by decide +kernel
theorem dX2_redoableOf_3 : decode cX2_redoableOf 3 = .ok (.istore_n 3, 1) := by decide +kernel
theorem dX2_redoableOf_4 : decode cX2_redoableOf 4 = .ok (.iload_n 3, 1) := by decide +kernel
theorem dX2_redoableOf_5 : decode cX2_redoableOf 5 = .ok (.aload_n 0, 1) := by decide +kernel
theorem dX2_redoableOf_6 : decode cX2_redoableOf 6 = .ok (.getfield 17, 3) := by decide +kernel
theorem dX2_redoableOf_9 : decode cX2_redoableOf 9 = .ok (.if_icmp .ge 37, 3) := by decide +kernel
theorem dX2_redoableOf_12 : decode cX2_redoableOf 12 = .ok (.aload_n 0, 1) := by decide +kernel
theorem dX2_redoableOf_13 : decode cX2_redoableOf 13 = .ok (.getfield 11, 3) := by decide +kernel
theorem dX2_redoableOf_16 : decode cX2_redoableOf 16 = .ok (.iload_n 3, 1) := by decide +kernel
theorem dX2_redoableOf_17 : decode cX2_redoableOf 17 = .ok (.aaload, 1) := by decide +kernel
theorem dX2_redoableOf_18 : decode cX2_redoableOf 18 = .ok (.getfield 32, 3) := by decide +kernel
theorem dX2_redoableOf_21 : decode cX2_redoableOf 21 = .ok (.iload_n 1, 1) := by decide +kernel
theorem dX2_redoableOf_22 : decode cX2_redoableOf 22 = .ok (.if_icmp .ne 18, 3) := by decide +kernel
theorem dX2_redoableOf_25 : decode cX2_redoableOf 25 = .ok (.aload_n 0, 1) := by decide +kernel
theorem dX2_redoableOf_26 : decode cX2_redoableOf 26 = .ok (.getfield 11, 3) := by decide +kernel
theorem dX2_redoableOf_29 : decode cX2_redoableOf 29 = .ok (.iload_n 3, 1) := by decide +kernel
theorem dX2_redoableOf_30 : decode cX2_redoableOf 30 = .ok (.aaload, 1) := by decide +kernel
theorem dX2_redoableOf_31 : decode cX2_redoableOf 31 = .ok (.getfield 51, 3) := by decide +kernel
theorem dX2_redoableOf_34 : decode cX2_redoableOf 34 = .ok (.ifCond .le 6, 3) := by decide +kernel
theorem dX2_redoableOf_37 : decode cX2_redoableOf 37 = .ok (.iinc 2 1, 3) := by decide +kernel
theorem dX2_redoableOf_40 : decode cX2_redoableOf 40 = .ok (.iinc 3 1, 3) := by decide +kernel
theorem dX2_redoableOf_43 : decode cX2_redoableOf 43 = .ok (.goto (-39), 3) := by decide +kernel
theorem dX2_redoableOf_46 : decode cX2_redoableOf 46 = .ok (.iload_n 2, 1) := by decide +kernel
theorem dX2_redoableOf_47 : decode cX2_redoableOf 47 = .ok (.ireturn, 1) := by decide +kernel
theorem dX3_init_0 : decode cX3_init 0 = .ok (.aload_n 0, 1) := by decide +kernel
theorem dX3_init_1 : decode cX3_init 1 = .ok (.invokespecial 3, 3) := by decide +kernel
theorem dX3_init_4 : decode cX3_init 4 = .ok (.aload_n 0, 1) := by decide +kernel
theorem dX3_init_5 : decode cX3_init 5 = .ok (.iconst 0, 1) := by decide +kernel
theorem dX3_init_6 : decode cX3_init 6 = .ok (.putfield 9, 3) := by decide +kernel
theorem dX3_init_9 : decode cX3_init 9 = .ok (.aload_n 0, 1) := by decide +kernel
theorem dX3_init_10 : decode cX3_init 10 = .ok (.iconst 0, 1) := by decide +kernel
theorem dX3_init_11 : decode cX3_init 11 = .ok (.putfield 15, 3) := by decide +kernel
theorem dX3_init_14 : decode cX3_init 14 = .ok (.aload_n 0, 1) := by decide +kernel
theorem dX3_init_15 : decode cX3_init 15 = .ok (.bipush 60, 2) := by decide +kernel
theorem dX3_init_17 : decode cX3_init 17 = .ok (.newarray .boolean, 2) := by decide +kernel
theorem dX3_init_19 : decode cX3_init 19 = .ok (.putfield 19, 3) := by decide +kernel
theorem dX3_init_22 : decode cX3_init 22 = .ok (.aload_n 0, 1) := by decide +kernel
theorem dX3_init_23 : decode cX3_init 23 = .ok (.sipush 256, 3) := by decide +kernel
theorem dX3_init_26 : decode cX3_init 26 = .ok (.newarray .int, 2) := by decide +kernel
theorem dX3_init_28 : decode cX3_init 28 = .ok (.putfield 23, 3) := by decide +kernel
theorem dX3_init_31 : decode cX3_init 31 = .ok (.return_, 1) := by decide +kernel
theorem dX3_keep_0 : decode cX3_keep 0 = .ok (.aload_n 0, 1) := by decide +kernel
theorem dX3_keep_1 : decode cX3_keep 1 = .ok (.iconst 1, 1) := by decide +kernel
theorem dX3_keep_2 : decode cX3_keep 2 = .ok (.putfield 9, 3) := by decide +kernel
theorem dX3_keep_5 : decode cX3_keep 5 = .ok (.aload_n 0, 1) := by decide +kernel
theorem dX3_keep_6 : decode cX3_keep 6 = .ok (.aload_n 1, 1) := by decide +kernel
theorem dX3_keep_7 : decode cX3_keep 7 = .ok (.getfield 27, 3) := by decide +kernel
theorem dX3_keep_10 : decode cX3_keep 10 = .ok (.putfield 15, 3) := by decide +kernel
theorem dX3_keep_13 : decode cX3_keep 13 = .ok (.iconst 0, 1) := by decide +kernel
theorem dX3_keep_14 : decode cX3_keep 14 = .ok (.istore_n 3, 1) := by decide +kernel
theorem dX3_keep_15 : decode cX3_keep 15 = .ok (.iload_n 3, 1) := by decide +kernel
theorem dX3_keep_16 : decode cX3_keep 16 = .ok (.aload_n 0, 1) := by decide +kernel
theorem dX3_keep_17 : decode cX3_keep 17 = .ok (.getfield 15, 3) := by decide +kernel
theorem dX3_keep_20 : decode cX3_keep 20 = .ok (.if_icmp .ge 24, 3) := by decide +kernel
theorem dX3_keep_23 : decode cX3_keep 23 = .ok (.aload_n 0, 1) := by decide +kernel
theorem dX3_keep_24 : decode cX3_keep 24 = .ok (.getfield 19, 3) := by decide +kernel
theorem dX3_keep_27 : decode cX3_keep 27 = .ok (.iload_n 3, 1) := by decide +kernel
theorem dX3_keep_28 : decode cX3_keep 28 = .ok (.aload_n 1, 1) := by decide +kernel
theorem dX3_keep_29 : decode cX3_keep 29 = .ok (.getfield 30, 3) := by decide +kernel
theorem dX3_keep_32 : decode cX3_keep 32 = .ok (.iload_n 3, 1) := by decide +kernel
theorem dX3_keep_33 : decode cX3_keep 33 = .ok (.aaload, 1) := by decide +kernel
theorem dX3_keep_34 : decode cX3_keep 34 = .ok (.getfield 34, 3) := by decide +kernel
theorem dX3_keep_37 : decode cX3_keep 37 = .ok (.bastore, 1) := by decide +kernel
theorem dX3_keep_38 : decode cX3_keep 38 = .ok (.iinc 3 1, 3) := by decide +kernel
theorem dX3_keep_41 : decode cX3_keep 41 = .ok (.goto (-26), 3) := by decide +kernel
theorem dX3_keep_44 : decode cX3_keep 44 = .ok (.iconst 0, 1) := by decide +kernel
theorem dX3_keep_45 : decode cX3_keep 45 = .ok (.istore_n 3, 1) := by decide +kernel
theorem dX3_keep_46 : decode cX3_keep 46 = .ok (.iload_n 3, 1) := by decide +kernel
theorem dX3_keep_47 : decode cX3_keep 47 = .ok (.sipush 256, 3) := by decide +kernel
theorem dX3_keep_50 : decode cX3_keep 50 = .ok (.if_icmp .ge 21, 3) := by decide +kernel
theorem dX3_keep_53 : decode cX3_keep 53 = .ok (.aload_n 0, 1) := by decide +kernel
theorem dX3_keep_54 : decode cX3_keep 54 = .ok (.getfield 23, 3) := by decide +kernel
theorem dX3_keep_57 : decode cX3_keep 57 = .ok (.iload_n 3, 1) := by decide +kernel
theorem dX3_keep_58 : decode cX3_keep 58 = .ok (.aload_n 2, 1) := by decide +kernel
theorem dX3_keep_59 : decode cX3_keep 59 = .ok (.getfield 38, 3) := by decide +kernel
theorem dX3_keep_62 : decode cX3_keep 62 = .ok (.iload_n 3, 1) := by decide +kernel
theorem dX3_keep_63 : decode cX3_keep 63 = .ok (.iaload, 1) := by decide +kernel
theorem dX3_keep_64 : decode cX3_keep 64 = .ok (.iastore, 1) := by decide +kernel
theorem dX3_keep_65 : decode cX3_keep 65 = .ok (.iinc 3 1, 3) := by decide +kernel
theorem dX3_keep_68 : decode cX3_keep 68 = .ok (.goto (-22), 3) := by decide +kernel
theorem dX3_keep_71 : decode cX3_keep 71 = .ok (.return_, 1) := by decide +kernel
theorem dX4_init_0 : decode cX4_init 0 = .ok (.aload_n 0, 1) := by decide +kernel
theorem dX4_init_1 : decode cX4_init 1 = .ok (.invokespecial 3, 3) := by decide +kernel
theorem dX4_init_4 : decode cX4_init 4 = .ok (.aload_n 0, 1) := by decide +kernel
theorem dX4_init_5 : decode cX4_init 5 = .ok (.iconst 0, 1) := by decide +kernel
theorem dX4_init_6 : decode cX4_init 6 = .ok (.putfield 9, 3) := by decide +kernel
theorem dX4_init_9 : decode cX4_init 9 = .ok (.aload_n 0, 1) := by decide +kernel
theorem dX4_init_10 : decode cX4_init 10 = .ok (.iconst 0, 1) := by decide +kernel
theorem dX4_init_11 : decode cX4_init 11 = .ok (.putfield 15, 3) := by decide +kernel
theorem dX4_init_14 : decode cX4_init 14 = .ok (.aload_n 0, 1) := by decide +kernel
theorem dX4_init_15 : decode cX4_init 15 = .ok (.iconst 0, 1) := by decide +kernel
theorem dX4_init_16 : decode cX4_init 16 = .ok (.putfield 18, 3) := by decide +kernel
theorem dX4_init_19 : decode cX4_init 19 = .ok (.aload_n 0, 1) := by decide +kernel
theorem dX4_init_20 : decode cX4_init 20 = .ok (.iconst 0, 1) := by decide +kernel
theorem dX4_init_21 : decode cX4_init 21 = .ok (.putfield 21, 3) := by decide +kernel
theorem dX4_init_24 : decode cX4_init 24 = .ok (.aload_n 0, 1) := by decide +kernel
theorem dX4_init_25 : decode cX4_init 25 = .ok (.iconst 0, 1) := by decide +kernel
theorem dX4_init_26 : decode cX4_init 26 = .ok (.putfield 24, 3) := by decide +kernel
theorem dX4_init_29 : decode cX4_init 29 = .ok (.aload_n 0, 1) := by decide +kernel
theorem dX4_init_30 : decode cX4_init 30 = .ok (.iconst 0, 1) := by decide +kernel
theorem dX4_init_31 : decode cX4_init 31 = .ok (.putfield 27, 3) := by decide +kernel
theorem dX4_init_34 : decode cX4_init 34 = .ok (.aload_n 0, 1) := by decide +kernel
theorem dX4_init_35 : decode cX4_init 35 = .ok (.iconst 0, 1) := by decide +kernel
theorem dX4_init_36 : decode cX4_init 36 = .ok (.putfield 30, 3) := by decide +kernel
theorem dX4_init_39 : decode cX4_init 39 = .ok (.aload_n 0, 1) := by decide +kernel
theorem dX4_init_40 : decode cX4_init 40 = .ok (.iconst 0, 1) := by decide +kernel
theorem dX4_init_41 : decode cX4_init 41 = .ok (.putfield 34, 3) := by decide +kernel
theorem dX4_init_44 : decode cX4_init 44 = .ok (.aload_n 0, 1) := by decide +kernel
theorem dX4_init_45 : decode cX4_init 45 = .ok (.new 37, 3) := by decide +kernel
theorem dX4_init_48 : decode cX4_init 48 = .ok (.dup, 1) := by decide +kernel
theorem dX4_init_49 : decode cX4_init 49 = .ok (.invokespecial 39, 3) := by decide +kernel
theorem dX4_init_52 : decode cX4_init 52 = .ok (.putfield 40, 3) := by decide +kernel
theorem dX4_init_55 : decode cX4_init 55 = .ok (.return_, 1) := by decide +kernel
theorem dX4_hasVanished_0 : decode cX4_hasVanished 0 = .ok (.aload_n 0, 1) := by decide +kernel
theorem dX4_hasVanished_1 : decode cX4_hasVanished 1 = .ok (.getfield 24, 3) := by decide +kernel
theorem dX4_hasVanished_4 : decode cX4_hasVanished 4 = .ok (.ifCond .le 20, 3) := by decide +kernel
theorem dX4_hasVanished_7 : decode cX4_hasVanished 7 = .ok (.iload_n 1, 1) := by decide +kernel
theorem dX4_hasVanished_8 : decode cX4_hasVanished 8 = .ok (.aload_n 0, 1) := by decide +kernel
theorem dX4_hasVanished_9 : decode cX4_hasVanished 9 = .ok (.getfield 27, 3) := by decide +kernel
theorem dX4_hasVanished_12 : decode cX4_hasVanished 12 = .ok (.aload_n 0, 1) := by decide +kernel
theorem dX4_hasVanished_13 : decode cX4_hasVanished 13 = .ok (.getfield 24, 3) := by decide +kernel
theorem dX4_hasVanished_16 : decode cX4_hasVanished 16 = .ok (.iadd, 1) := by decide +kernel
theorem dX4_hasVanished_17 : decode cX4_hasVanished 17 = .ok (.if_icmp .lt 7, 3) := by decide +kernel
theorem dX4_hasVanished_20 : decode cX4_hasVanished 20 = .ok (.iconst 1, 1) := by decide +kernel
theorem dX4_hasVanished_21 : decode cX4_hasVanished 21 = .ok (.goto 4, 3) := by decide +kernel
theorem dX4_hasVanished_24 : decode cX4_hasVanished 24 = .ok (.iconst 0, 1) := by decide +kernel
theorem dX4_hasVanished_25 : decode cX4_hasVanished 25 = .ok (.ireturn, 1) := by decide +kernel
theorem dX4_strengthAt_0 : decode cX4_strengthAt 0 = .ok (.aload_n 0, 1) := by decide +kernel
theorem dX4_strengthAt_1 : decode cX4_strengthAt 1 = .ok (.getfield 9, 3) := by decide +kernel
theorem dX4_strengthAt_4 : decode cX4_strengthAt 4 = .ok (.iconst 2, 1) := by decide +kernel
theorem dX4_strengthAt_5 : decode cX4_strengthAt 5 = .ok (.if_icmp .eq 11, 3) := by decide +kernel
theorem dX4_strengthAt_8 : decode cX4_strengthAt 8 = .ok (.aload_n 0, 1) := by decide +kernel
theorem dX4_strengthAt_9 : decode cX4_strengthAt 9 = .ok (.iload_n 1, 1) := by decide +kernel
theorem dX4_strengthAt_10 : decode cX4_strengthAt 10 = .ok (.invokevirtual 44, 3) := by decide +kernel
theorem dX4_strengthAt_13 : decode cX4_strengthAt 13 = .ok (.ifCond .eq 5, 3) := by decide +kernel
theorem dX4_strengthAt_16 : decode cX4_strengthAt 16 = .ok (.iconst 0, 1) := by decide +kernel
theorem dX4_strengthAt_17 : decode cX4_strengthAt 17 = .ok (.ireturn, 1) := by decide +kernel
theorem dX4_strengthAt_18 : decode cX4_strengthAt 18 = .ok (.aload_n 0, 1) := by decide +kernel
theorem dX4_strengthAt_19 : decode cX4_strengthAt 19 = .ok (.getfield 24, 3) := by decide +kernel
theorem dX4_strengthAt_22 : decode cX4_strengthAt 22 = .ok (.ifCond .gt 8, 3) := by decide +kernel
theorem dX4_strengthAt_25 : decode cX4_strengthAt 25 = .ok (.bipush 100, 2) := by decide +kernel
theorem dX4_strengthAt_27 : decode cX4_strengthAt 27 = .ok (.goto 22, 3) := by decide +kernel
theorem dX4_strengthAt_30 : decode cX4_strengthAt 30 = .ok (.bipush 100, 2) := by decide +kernel
theorem dX4_strengthAt_32 : decode cX4_strengthAt 32 = .ok (.aload_n 0, 1) := by decide +kernel
theorem dX4_strengthAt_33 : decode cX4_strengthAt 33 = .ok (.getfield 27, 3) := by decide +kernel
theorem dX4_strengthAt_36 : decode cX4_strengthAt 36 = .ok (.aload_n 0, 1) := by decide +kernel
theorem dX4_strengthAt_37 : decode cX4_strengthAt 37 = .ok (.getfield 24, 3) := by decide +kernel
theorem dX4_strengthAt_40 : decode cX4_strengthAt 40 = .ok (.iadd, 1) := by decide +kernel
theorem dX4_strengthAt_41 : decode cX4_strengthAt 41 = .ok (.iload_n 1, 1) := by decide +kernel
theorem dX4_strengthAt_42 : decode cX4_strengthAt 42 = .ok (.isub, 1) := by decide +kernel
theorem dX4_strengthAt_43 : decode cX4_strengthAt 43 = .ok (.imul, 1) := by decide +kernel
theorem dX4_strengthAt_44 : decode cX4_strengthAt 44 = .ok (.aload_n 0, 1) := by decide +kernel
theorem dX4_strengthAt_45 : decode cX4_strengthAt 45 = .ok (.getfield 24, 3) := by decide +kernel
theorem dX4_strengthAt_48 : decode cX4_strengthAt 48 = .ok (.idiv, 1) := by decide +kernel
theorem dX4_strengthAt_49 : decode cX4_strengthAt 49 = .ok (.ireturn, 1) := by decide +kernel
theorem fk_X1_11 : Cond.fieldLink RX1 11 RX1 (TX1 0).2.1 (TX1 0).2.2.1 ∈ gl := gl_tb (by decide +kernel) rfl
theorem fk_X1_17 : Cond.fieldLink RX1 17 RX1 (TX1 1).2.1 (TX1 1).2.2.1 ∈ gl := gl_tb (by decide +kernel) rfl
theorem fk_X1_21 : Cond.fieldLink RX1 21 RX1 (TX1 2).2.1 (TX1 2).2.2.1 ∈ gl := gl_tb (by decide +kernel) rfl
theorem mk_X1_25 : Cond.methodLink RX1 25 yX0_contains ∈ gl := gl_tb (by decide +kernel) rfl
theorem mk_X1_29 : Cond.methodLink RX1 29 yX0_becomeEmpty ∈ gl := gl_tb (by decide +kernel) rfl
theorem mk_X1_32 : Cond.methodLink RX1 32 yX0_addAll ∈ gl := gl_tb (by decide +kernel) rfl
theorem fk_X2_11 : Cond.fieldLink RX2 11 RX2 (TX2 0).2.1 (TX2 0).2.2.1 ∈ gl := gl_tb (by decide +kernel) rfl
theorem fk_X2_17 : Cond.fieldLink RX2 17 RX2 (TX2 1).2.1 (TX2 1).2.2.1 ∈ gl := gl_tb (by decide +kernel) rfl
theorem fk_X2_21 : Cond.fieldLink RX2 21 RX2 (TX2 2).2.1 (TX2 2).2.2.1 ∈ gl := gl_tb (by decide +kernel) rfl
theorem mk_X2_25 : Cond.methodLink RX2 25 yX2_forgetRedoOf ∈ gl := gl_tb (by decide +kernel) rfl
theorem fk_X2_29 : Cond.fieldLink RX2 29 RX4 (TX4 0).2.1 (TX4 0).2.2.1 ∈ gl := gl_tb (by decide +kernel) rfl
theorem fk_X2_32 : Cond.fieldLink RX2 32 RX4 (TX4 1).2.1 (TX4 1).2.2.1 ∈ gl := gl_tb (by decide +kernel) rfl
theorem fk_X2_35 : Cond.fieldLink RX2 35 RX4 (TX4 2).2.1 (TX4 2).2.2.1 ∈ gl := gl_tb (by decide +kernel) rfl
theorem fk_X2_38 : Cond.fieldLink RX2 38 RX4 (TX4 3).2.1 (TX4 3).2.2.1 ∈ gl := gl_tb (by decide +kernel) rfl
theorem fk_X2_41 : Cond.fieldLink RX2 41 RX4 (TX4 4).2.1 (TX4 4).2.2.1 ∈ gl := gl_tb (by decide +kernel) rfl
theorem fk_X2_44 : Cond.fieldLink RX2 44 RX4 (TX4 5).2.1 (TX4 5).2.2.1 ∈ gl := gl_tb (by decide +kernel) rfl
theorem fk_X2_47 : Cond.fieldLink RX2 47 RX4 (TX4 6).2.1 (TX4 6).2.2.1 ∈ gl := gl_tb (by decide +kernel) rfl
theorem fk_X2_51 : Cond.fieldLink RX2 51 RX4 (TX4 7).2.1 (TX4 7).2.2.1 ∈ gl := gl_tb (by decide +kernel) rfl
theorem fk_X2_54 : Cond.fieldLink RX2 54 RX3 (TX3 1).2.1 (TX3 1).2.2.1 ∈ gl := gl_tb (by decide +kernel) rfl
theorem fk_X2_57 : Cond.fieldLink RX2 57 RX3 (TX3 2).2.1 (TX3 2).2.2.1 ∈ gl := gl_tb (by decide +kernel) rfl
theorem mk_X2_60 : Cond.methodLink RX2 60 yX2_activeOf ∈ gl := gl_tb (by decide +kernel) rfl
theorem fk_X3_9 : Cond.fieldLink RX3 9 RX3 (TX3 0).2.1 (TX3 0).2.2.1 ∈ gl := gl_tb (by decide +kernel) rfl
theorem fk_X3_15 : Cond.fieldLink RX3 15 RX3 (TX3 1).2.1 (TX3 1).2.2.1 ∈ gl := gl_tb (by decide +kernel) rfl
theorem fk_X3_19 : Cond.fieldLink RX3 19 RX3 (TX3 2).2.1 (TX3 2).2.2.1 ∈ gl := gl_tb (by decide +kernel) rfl
theorem fk_X3_23 : Cond.fieldLink RX3 23 RX3 (TX3 3).2.1 (TX3 3).2.2.1 ∈ gl := gl_tb (by decide +kernel) rfl
theorem fk_X3_27 : Cond.fieldLink RX3 27 RX2 (TX2 1).2.1 (TX2 1).2.2.1 ∈ gl := gl_tb (by decide +kernel) rfl
theorem fk_X3_30 : Cond.fieldLink RX3 30 RX2 (TX2 0).2.1 (TX2 0).2.2.1 ∈ gl := gl_tb (by decide +kernel) rfl
theorem fk_X3_34 : Cond.fieldLink RX3 34 RX4 (TX4 6).2.1 (TX4 6).2.2.1 ∈ gl := gl_tb (by decide +kernel) rfl
theorem fk_X3_38 : Cond.fieldLink RX3 38 RX7 (TX7 2).2.1 (TX7 2).2.2.1 ∈ gl := gl_tb (by decide +kernel) rfl
theorem fk_X4_9 : Cond.fieldLink RX4 9 RX4 (TX4 0).2.1 (TX4 0).2.2.1 ∈ gl := gl_tb (by decide +kernel) rfl
theorem fk_X4_15 : Cond.fieldLink RX4 15 RX4 (TX4 1).2.1 (TX4 1).2.2.1 ∈ gl := gl_tb (by decide +kernel) rfl
theorem fk_X4_18 : Cond.fieldLink RX4 18 RX4 (TX4 2).2.1 (TX4 2).2.2.1 ∈ gl := gl_tb (by decide +kernel) rfl
theorem fk_X4_21 : Cond.fieldLink RX4 21 RX4 (TX4 3).2.1 (TX4 3).2.2.1 ∈ gl := gl_tb (by decide +kernel) rfl
theorem fk_X4_24 : Cond.fieldLink RX4 24 RX4 (TX4 4).2.1 (TX4 4).2.2.1 ∈ gl := gl_tb (by decide +kernel) rfl
theorem fk_X4_27 : Cond.fieldLink RX4 27 RX4 (TX4 5).2.1 (TX4 5).2.2.1 ∈ gl := gl_tb (by decide +kernel) rfl
theorem fk_X4_30 : Cond.fieldLink RX4 30 RX4 (TX4 6).2.1 (TX4 6).2.2.1 ∈ gl := gl_tb (by decide +kernel) rfl
theorem fk_X4_34 : Cond.fieldLink RX4 34 RX4 (TX4 7).2.1 (TX4 7).2.2.1 ∈ gl := gl_tb (by decide +kernel) rfl
theorem fk_X4_40 : Cond.fieldLink RX4 40 RX4 (TX4 8).2.1 (TX4 8).2.2.1 ∈ gl := gl_tb (by decide +kernel) rfl
theorem mk_X4_44 : Cond.methodLink RX4 44 yX4_hasVanished ∈ gl := gl_tb (by decide +kernel) rfl
theorem vw_X1_freeSlot : vwM RX1 yX1_freeSlot (.code yX1_freeSlot cX1_freeSlot 3 (some .int)) := ⟨gl_tb (by decide +kernel) rfl, by first | exact gl_tb (by decide +kernel) rfl | exact gl_pv (by decide +kernel) rfl, gl_tb (by decide +kernel) rfl, gl_tb (by decide +kernel) rfl⟩
theorem vw_X1_begin : vwM RX1 yX1_begin (.code yX1_begin cX1_begin 4 none) := ⟨gl_tb (by decide +kernel) rfl, by first | exact gl_tb (by decide +kernel) rfl | exact gl_pv (by decide +kernel) rfl, gl_tb (by decide +kernel) rfl, gl_tb (by decide +kernel) rfl⟩
theorem vw_X1_endAll : vwM RX1 yX1_endAll (.code yX1_endAll cX1_endAll 2 none) := ⟨gl_tb (by decide +kernel) rfl, by first | exact gl_tb (by decide +kernel) rfl | exact gl_pv (by decide +kernel) rfl, gl_tb (by decide +kernel) rfl, gl_tb (by decide +kernel) rfl⟩
theorem vw_X1_endAllOf : vwM RX1 yX1_endAllOf (.code yX1_endAllOf cX1_endAllOf 5 (some .int)) := ⟨gl_tb (by decide +kernel) rfl, by first | exact gl_tb (by decide +kernel) rfl | exact gl_pv (by decide +kernel) rfl, gl_tb (by decide +kernel) rfl, gl_tb (by decide +kernel) rfl⟩
theorem vw_X1_inForce : vwM RX1 yX1_inForce (.code yX1_inForce cX1_inForce 4 (some .int)) := ⟨gl_tb (by decide +kernel) rfl, by first | exact gl_tb (by decide +kernel) rfl | exact gl_pv (by decide +kernel) rfl, gl_tb (by decide +kernel) rfl, gl_tb (by decide +kernel) rfl⟩
theorem vw_X1_inForceOf : vwM RX1 yX1_inForceOf (.code yX1_inForceOf cX1_inForceOf 5 (some .int)) := ⟨gl_tb (by decide +kernel) rfl, by first | exact gl_tb (by decide +kernel) rfl | exact gl_pv (by decide +kernel) rfl, gl_tb (by decide +kernel) rfl, gl_tb (by decide +kernel) rfl⟩
theorem vw_X1_lowestOwner : vwM RX1 yX1_lowestOwner (.code yX1_lowestOwner cX1_lowestOwner 5 (some .int)) := ⟨gl_tb (by decide +kernel) rfl, by first | exact gl_tb (by decide +kernel) rfl | exact gl_pv (by decide +kernel) rfl, gl_tb (by decide +kernel) rfl, gl_tb (by decide +kernel) rfl⟩
theorem vw_X1_collectClosed : vwM RX1 yX1_collectClosed (.code yX1_collectClosed cX1_collectClosed 5 none) := ⟨gl_tb (by decide +kernel) rfl, by first | exact gl_tb (by decide +kernel) rfl | exact gl_pv (by decide +kernel) rfl, gl_tb (by decide +kernel) rfl, gl_tb (by decide +kernel) rfl⟩
theorem vw_X2_contains : vwM RX2 yX2_contains (.code yX2_contains cX2_contains 2 (some .boolean)) := ⟨gl_tb (by decide +kernel) rfl, by first | exact gl_tb (by decide +kernel) rfl | exact gl_pv (by decide +kernel) rfl, gl_tb (by decide +kernel) rfl, gl_tb (by decide +kernel) rfl⟩
theorem vw_X2_begin : vwM RX2 yX2_begin (.code yX2_begin cX2_begin 6 (some (.object "SharedBoard$Operation"))) := ⟨gl_tb (by decide +kernel) rfl, by first | exact gl_tb (by decide +kernel) rfl | exact gl_pv (by decide +kernel) rfl, gl_tb (by decide +kernel) rfl, gl_tb (by decide +kernel) rfl⟩
theorem vw_X2_forgetRedoOf : vwM RX2 yX2_forgetRedoOf (.code yX2_forgetRedoOf cX2_forgetRedoOf 3 none) := ⟨gl_tb (by decide +kernel) rfl, by first | exact gl_tb (by decide +kernel) rfl | exact gl_pv (by decide +kernel) rfl, gl_tb (by decide +kernel) rfl, gl_tb (by decide +kernel) rfl⟩
theorem vw_X2_latestActive : vwM RX2 yX2_latestActive (.code yX2_latestActive cX2_latestActive 4 (some .int)) := ⟨gl_tb (by decide +kernel) rfl, by first | exact gl_tb (by decide +kernel) rfl | exact gl_pv (by decide +kernel) rfl, gl_tb (by decide +kernel) rfl, gl_tb (by decide +kernel) rfl⟩
theorem vw_X2_lastUndone : vwM RX2 yX2_lastUndone (.code yX2_lastUndone cX2_lastUndone 6 (some .int)) := ⟨gl_tb (by decide +kernel) rfl, by first | exact gl_tb (by decide +kernel) rfl | exact gl_pv (by decide +kernel) rfl, gl_tb (by decide +kernel) rfl, gl_tb (by decide +kernel) rfl⟩
theorem vw_X2_switchOff : vwM RX2 yX2_switchOff (.code yX2_switchOff cX2_switchOff 2 none) := ⟨gl_tb (by decide +kernel) rfl, by first | exact gl_tb (by decide +kernel) rfl | exact gl_pv (by decide +kernel) rfl, gl_tb (by decide +kernel) rfl, gl_tb (by decide +kernel) rfl⟩
theorem vw_X2_switchOn : vwM RX2 yX2_switchOn (.code yX2_switchOn cX2_switchOn 2 none) := ⟨gl_tb (by decide +kernel) rfl, by first | exact gl_tb (by decide +kernel) rfl | exact gl_pv (by decide +kernel) rfl, gl_tb (by decide +kernel) rfl, gl_tb (by decide +kernel) rfl⟩
theorem vw_X2_goBack : vwM RX2 yX2_goBack (.code yX2_goBack cX2_goBack 3 none) := ⟨gl_tb (by decide +kernel) rfl, by first | exact gl_tb (by decide +kernel) rfl | exact gl_pv (by decide +kernel) rfl, gl_tb (by decide +kernel) rfl, gl_tb (by decide +kernel) rfl⟩
theorem vw_X2_activeOperations : vwM RX2 yX2_activeOperations (.code yX2_activeOperations cX2_activeOperations 3 (some .int)) := ⟨gl_tb (by decide +kernel) rfl, by first | exact gl_tb (by decide +kernel) rfl | exact gl_pv (by decide +kernel) rfl, gl_tb (by decide +kernel) rfl, gl_tb (by decide +kernel) rfl⟩
theorem vw_X2_operationsOf : vwM RX2 yX2_operationsOf (.code yX2_operationsOf cX2_operationsOf 4 (some .int)) := ⟨gl_tb (by decide +kernel) rfl, by first | exact gl_tb (by decide +kernel) rfl | exact gl_pv (by decide +kernel) rfl, gl_tb (by decide +kernel) rfl, gl_tb (by decide +kernel) rfl⟩
theorem vw_X2_activeOf : vwM RX2 yX2_activeOf (.code yX2_activeOf cX2_activeOf 4 (some .int)) := ⟨gl_tb (by decide +kernel) rfl, by first | exact gl_tb (by decide +kernel) rfl | exact gl_pv (by decide +kernel) rfl, gl_tb (by decide +kernel) rfl, gl_tb (by decide +kernel) rfl⟩
theorem vw_X2_redoableOf : vwM RX2 yX2_redoableOf (.code yX2_redoableOf cX2_redoableOf 4 (some .int)) := ⟨gl_tb (by decide +kernel) rfl, by first | exact gl_tb (by decide +kernel) rfl | exact gl_pv (by decide +kernel) rfl, gl_tb (by decide +kernel) rfl, gl_tb (by decide +kernel) rfl⟩
theorem vw_X3_keep : vwM RX3 yX3_keep (.code yX3_keep cX3_keep 4 none) := ⟨gl_tb (by decide +kernel) rfl, by first | exact gl_tb (by decide +kernel) rfl | exact gl_pv (by decide +kernel) rfl, gl_tb (by decide +kernel) rfl, gl_tb (by decide +kernel) rfl⟩
theorem vw_X4_hasVanished : vwM RX4 yX4_hasVanished (.code yX4_hasVanished cX4_hasVanished 2 (some .boolean)) := ⟨gl_tb (by decide +kernel) rfl, by first | exact gl_tb (by decide +kernel) rfl | exact gl_pv (by decide +kernel) rfl, gl_tb (by decide +kernel) rfl, gl_tb (by decide +kernel) rfl⟩
theorem vw_X4_strengthAt : vwM RX4 yX4_strengthAt (.code yX4_strengthAt cX4_strengthAt 2 (some .int)) := ⟨gl_tb (by decide +kernel) rfl, by first | exact gl_tb (by decide +kernel) rfl | exact gl_pv (by decide +kernel) rfl, gl_tb (by decide +kernel) rfl, gl_tb (by decide +kernel) rfl⟩
end
section
/-! Operation: cell 7 + 3 i; fields 0 sort, 1 owner, 2 layer, 3 paint, 4 fade, 5 born, 6 active, 7 undoneBy -/
def vanI (fade born t : Int32) : Bool := decide (0 < fade) && decide (born + fade ≤ t)
def strI (sort fade born t : Int32) : Int32 := if sort = nI 2 ∨ vanI fade born t = true then nI 0 else if 0 < fade then nI 100 * (born + fade - t) / fade else nI 100
theorem i32_nle {x y : Int32} (h : ¬ x ≤ y) : y < x := by
  rw [Int32.lt_iff_toInt_lt]
  rw [Int32.le_iff_toInt_le] at h
  omega
theorem i32_nlt {x y : Int32} (h : ¬ x < y) : y ≤ x := by
  rw [Int32.lt_iff_toInt_lt] at h
  rw [Int32.le_iff_toInt_le]
  omega
theorem i32_le_nlt {x y : Int32} (h : x ≤ y) : ¬ y < x := by
  rw [Int32.le_iff_toInt_le] at h
  rw [Int32.lt_iff_toInt_lt]
  omega
theorem i32_lt_nle {x y : Int32} (h : x < y) : ¬ y ≤ x := by
  rw [Int32.lt_iff_toInt_lt] at h
  rw [Int32.le_iff_toInt_le]
  omega
theorem i32_pos_ne {x : Int32} (h : 0 < x) : ¬ x = 0 := by
  rintro rfl
  exact absurd h (by decide)
set_option maxRecDepth 100000 in
set_option maxHeartbeats 4000000 in
theorem c_X4_hasVanished {l : Launch} {E : Ee} {M : Mm} {i : Nat} {t : Int32} (hi : i < 60) : CtI l E yX4_hasVanished (.code yX4_hasVanished cX4_hasVanished 2 (some .boolean) :: gl) ({ frames := 0, cells := 0, slots := 0, locals := 0 } : Room) M [.ref (E.2.2 (7 + 3 * i)), .int t] 0 0 (fun r M2 => r = b2i (vanI (M.1 (7 + 3 * i) 4) (M.1 (7 + 3 * i) 5) t) ∧ M2 = M) := by
  refine ctI_of (L0 := [some (.ref (E.2.2 (7 + 3 * i))), some (.int t)]) (by decide) rfl (Nat.le_of_ble_eq_true rfl) rfl ?_
  intro Z hl hE hnl F ret
  subst hE
  have in_X4 : ∀ w ∈ u_ws RX4 TX4 9, w ∈ (.code yX4_hasVanished cX4_hasVanished 2 (some .boolean) :: gl) := fun w h => List.mem_cons_of_mem _ (lay_X4 w h)
  have g24 : FG Z 24 4 4 := fg_mk F (C := RX4) (T := TX4) (N := 9) in_X4 rfl (by decide) rfl (List.mem_cons_of_mem _ fk_X4_24)
  have g27 : FG Z 27 4 5 := fg_mk F (C := RX4) (T := TX4) (N := 9) in_X4 rfl (by decide) rfl (List.mem_cons_of_mem _ fk_X4_27)
  have ko := kd_op i hi
  refine jj_aload_n F dX4_hasVanished_0 rfl ?_
  refine jj_geti F g24 (by assumption) (by rfl) dX4_hasVanished_1 ?_
  refine jj_if_le F (tgt := 24) dX4_hasVanished_4 (by decide) (fun h4 => ?_) (fun h4 => ?_)
  · refine jj_iconst F (v := nI 0) dX4_hasVanished_24 (by decide) ?_
    refine ret _ _ _ _ dX4_hasVanished_25 (nar_z (Or.inl rfl)) ⟨b2i_f ?_, rfl⟩
    first
    | (simp [vanI, i32_le_nlt h4]; done)
    | (simp [vanI, i32_lt_nle h17]; done)
  · refine jj_iload_n F dX4_hasVanished_7 rfl ?_
    refine jj_aload_n F dX4_hasVanished_8 rfl ?_
    refine jj_geti F g27 (by assumption) (by rfl) dX4_hasVanished_9 ?_
    refine jj_aload_n F dX4_hasVanished_12 rfl ?_
    refine jj_geti F g24 (by assumption) (by rfl) dX4_hasVanished_13 ?_
    refine jj_iadd F dX4_hasVanished_16 ?_
    refine jj_icmp_lt F (tgt := 24) dX4_hasVanished_17 (by decide) (fun h17 => ?_) (fun h17 => ?_)
    · refine jj_iconst F (v := nI 0) dX4_hasVanished_24 (by decide) ?_
      refine ret _ _ _ _ dX4_hasVanished_25 (nar_z (Or.inl rfl)) ⟨b2i_f ?_, rfl⟩
      first
      | (simp [vanI, i32_le_nlt h4]; done)
      | (simp [vanI, i32_lt_nle h17]; done)
    · refine jj_iconst F (v := nI 1) dX4_hasVanished_20 (by decide) ?_
      refine jj_goto F (tgt := 25) dX4_hasVanished_21 (by decide) ?_
      exact ret _ _ _ _ dX4_hasVanished_25 (nar_z (Or.inr rfl)) ⟨b2i_t (by simp [vanI, i32_nle h4, i32_nlt h17]), rfl⟩
set_option maxRecDepth 100000 in
set_option maxHeartbeats 4000000 in
theorem c_X4_strengthAt {l : Launch} {E : Ee} {M : Mm} {i : Nat} {t : Int32} (hi : i < 60) : CtI l E yX4_strengthAt (.code yX4_strengthAt cX4_strengthAt 2 (some .int) :: gl) ({ frames := 1, cells := 0, slots := 0, locals := 21 } : Room) M [.ref (E.2.2 (7 + 3 * i)), .int t] 0 0 (fun r M2 => r = strI (M.1 (7 + 3 * i) 0) (M.1 (7 + 3 * i) 4) (M.1 (7 + 3 * i) 5) t ∧ M2 = M) := by
  refine ctI_of (L0 := [some (.ref (E.2.2 (7 + 3 * i))), some (.int t)]) (by decide) rfl (Nat.le_of_ble_eq_true rfl) rfl ?_
  intro Z hl hE hnl F ret
  subst hE
  have in_X4 : ∀ w ∈ u_ws RX4 TX4 9, w ∈ (.code yX4_strengthAt cX4_strengthAt 2 (some .int) :: gl) := fun w h => List.mem_cons_of_mem _ (lay_X4 w h)
  have g9 : FG Z 9 4 0 := fg_mk F (C := RX4) (T := TX4) (N := 9) in_X4 rfl (by decide) rfl (List.mem_cons_of_mem _ fk_X4_9)
  have g24 : FG Z 24 4 4 := fg_mk F (C := RX4) (T := TX4) (N := 9) in_X4 rfl (by decide) rfl (List.mem_cons_of_mem _ fk_X4_24)
  have g27 : FG Z 27 4 5 := fg_mk F (C := RX4) (T := TX4) (N := 9) in_X4 rfl (by decide) rfl (List.mem_cons_of_mem _ fk_X4_27)
  have ko := kd_op i hi
  refine jj_aload_n F dX4_strengthAt_0 rfl ?_
  refine jj_geti F g9 (by assumption) (by rfl) dX4_strengthAt_1 ?_
  refine jj_iconst F (v := nI 2) dX4_strengthAt_4 (by decide) ?_
  refine jj_icmp_eq F (tgt := 16) dX4_strengthAt_5 (by decide) (fun h5 => ?_) (fun h5 => ?_)
  · refine jj_iconst F (v := nI 0) dX4_strengthAt_16 (by decide) ?_
    refine ret _ _ _ _ dX4_strengthAt_17 rfl ⟨?_, rfl⟩
    first
    | (simp [strI, h5]; done)
    | (rw [b2i_0] at h13; simp [strI, h13]; done)
    | (rw [b2i_n0] at h13; simp [strI, h13]; done)
  · refine jj_aload_n F dX4_strengthAt_8 rfl ?_
    refine jj_iload_n F dX4_strengthAt_9 rfl ?_
    refine jj_callVi (na := 1) F (c_X4_hasVanished (by omega)) (gl_V mk_X4_44 vw_X4_hasVanished) rfl rfl rfl (by decide +kernel) ⟨Nat.le_of_ble_eq_true rfl, Nat.le_of_ble_eq_true rfl⟩ (by assumption) rfl rfl rfl (Nat.le_of_ble_eq_true rfl) ⟨Nat.le_of_ble_eq_true rfl, Nat.le_of_ble_eq_true rfl⟩ dX4_strengthAt_10 (fun r10 M10 hp10 => ?_)
    obtain ⟨rfl, rfl⟩ := symm2 hp10
    refine jj_if_eq F (tgt := 18) dX4_strengthAt_13 (by decide) (fun h13 => ?_) (fun h13 => ?_)
    · refine jj_aload_n F dX4_strengthAt_18 rfl ?_
      refine jj_geti F g24 (by assumption) (by rfl) dX4_strengthAt_19 ?_
      refine jj_if_gt F (tgt := 30) dX4_strengthAt_22 (by decide) (fun h22 => ?_) (fun h22 => ?_)
      · refine jj_bipush F (v := nI 100) dX4_strengthAt_30 (by decide) ?_
        refine jj_aload_n F dX4_strengthAt_32 rfl ?_
        refine jj_geti F g27 (by assumption) (by rfl) dX4_strengthAt_33 ?_
        refine jj_aload_n F dX4_strengthAt_36 rfl ?_
        refine jj_geti F g24 (by assumption) (by rfl) dX4_strengthAt_37 ?_
        refine jj_iadd F dX4_strengthAt_40 ?_
        refine jj_iload_n F dX4_strengthAt_41 rfl ?_
        refine jj_isub F dX4_strengthAt_42 ?_
        refine jj_imul F dX4_strengthAt_43 ?_
        refine jj_aload_n F dX4_strengthAt_44 rfl ?_
        refine jj_geti F g24 (by assumption) (by rfl) dX4_strengthAt_45 ?_
        refine jj_idiv F dX4_strengthAt_48 (i32_pos_ne h22) ?_
        refine ret _ _ _ _ dX4_strengthAt_49 (by first | rfl | exact nar_z (by first | exact Or.inl rfl | exact Or.inr rfl | assumption)) ?_
        refine ⟨?_, rfl⟩
        rw [b2i_0] at h13
        simp [strI, h5, h13, h22]
      · refine jj_bipush F (v := nI 100) dX4_strengthAt_25 (by decide) ?_
        refine jj_goto F (tgt := 49) dX4_strengthAt_27 (by decide) ?_
        refine ret _ _ _ _ dX4_strengthAt_49 rfl ⟨?_, rfl⟩
        rw [b2i_0] at h13
        simp [strI, h5, h13, h22]
    · refine jj_iconst F (v := nI 0) dX4_strengthAt_16 (by decide) ?_
      refine ret _ _ _ _ dX4_strengthAt_17 rfl ⟨?_, rfl⟩
      first
      | (simp [strI, h5]; done)
      | (rw [b2i_0] at h13; simp [strI, h13]; done)
      | (rw [b2i_n0] at h13; simp [strI, h13]; done)
/-! Leases: cell 187; areas 188, owners 189, ends 190, the areas' sets 191 + 2 i -/
def inF (M : Mm) (t : Int32) (i : Nat) : Bool := !decide (M.1 190 i ≤ t)
set_option maxRecDepth 100000 in
set_option maxHeartbeats 4000000 in
theorem c_X1_freeSlot {l : Launch} {E : Ee} {M : Mm} {t : Int32} : CtI l E yX1_freeSlot (.code yX1_freeSlot cX1_freeSlot 3 (some .int) :: gl) ({ frames := 0, cells := 0, slots := 0, locals := 0 } : Room) M [.ref (E.2.2 187), .int t] 0 0 (fun r M2 => r = (if fst1 (fun j => decide (M.1 190 j ≤ t)) 6 < 6 then nI (fst1 (fun j => decide (M.1 190 j ≤ t)) 6) else -1) ∧ M2 = M) := by
  refine ctI_of (L0 := [some (.ref (E.2.2 187)), some (.int t), none]) (by decide) rfl (Nat.le_of_ble_eq_true rfl) rfl ?_
  intro Z hl hE hnl F ret
  subst hE
  have in_X1 : ∀ w ∈ u_ws RX1 TX1 3, w ∈ (.code yX1_freeSlot cX1_freeSlot 3 (some .int) :: gl) := fun w h => List.mem_cons_of_mem _ (lay_X1 w h)
  have g21 : FG Z 21 1 2 := fg_mk F (C := RX1) (T := TX1) (N := 3) in_X1 rfl (by decide) rfl (List.mem_cons_of_mem _ fk_X1_21)
  have kl := kd_Ls
  have ka := kd_areas
  have kw := kd_owners
  have ke := kd_ends
  have lo : ∀ i, i ≤ 6 → (∀ j, j < i → decide (M.1 190 j ≤ t) = false) → JJ Z (0, 0) (M) 2 [some (.ref ((zE Z).2.2 187)), some (.int t), some (.int (nI i))] [] := by
    refine jj_loop (6) ?_ ?_
    · intro hv
      refine jj_iload_n F dX1_freeSlot_2 rfl ?_
      refine jj_bipush F (v := nI 6) dX1_freeSlot_3 (by decide) ?_
      refine jj_icmp_ge F (tgt := 26) dX1_freeSlot_5 (by decide) (fun _ => ?_) (fun h9 => absurd (nI_le (by omega) (by omega)) h9)
      refine jj_iconst F (v := -1) dX1_freeSlot_26 (by decide) ?_
      refine ret _ _ _ _ dX1_freeSlot_27 rfl ⟨?_, rfl⟩
      rw [fst1_no hv]
      rfl
    · intro i hi ih hv
      refine jj_iload_n F dX1_freeSlot_2 rfl ?_
      refine jj_bipush F (v := nI 6) dX1_freeSlot_3 (by decide) ?_
      refine jj_icmp_ge F (tgt := 26) dX1_freeSlot_5 (by decide) (fun h9 => absurd h9 (nI_ge (by omega) (by omega))) (fun _ => ?_)
      refine jj_iload_n F dX1_freeSlot_8 rfl ?_
      refine jj_aload_n F dX1_freeSlot_9 rfl ?_
      refine jj_getr F g21 (by assumption) (by rfl) dX1_freeSlot_10 ?_
      refine jj_iload_n F dX1_freeSlot_13 rfl ?_
      refine jj_iald F (by assumption) rfl (by omega) dX1_freeSlot_14 ?_
      refine jj_icmp_lt F (tgt := 20) dX1_freeSlot_15 (by decide) (fun h15 => ?_) (fun h15 => ?_)
      · refine jj_iinc F dX1_freeSlot_20 rfl (by first | exact iinc1 _ | rfl) (by rw [hnl]; decide) ?_
        dsimp only [lq_st, lq_clr, lq_no]
        refine jj_goto F (tgt := 2) dX1_freeSlot_23 (by decide) ?_
        exact ih (fun j hj => by rcases Nat.lt_or_ge j i with q | q; exact hv j q; (have e : j = i := by omega); subst e; simpa using i32_lt_nle h15)
      · refine jj_iload_n F dX1_freeSlot_18 rfl ?_
        refine ret _ _ _ _ dX1_freeSlot_19 rfl ⟨?_, rfl⟩
        have e := fst1_yes (p := fun j => decide (M.1 190 j ≤ t)) (i := i) (by simpa using i32_nlt h15) hv (n := 6) hi
        rw [e, if_pos hi]
  refine jj_iconst F (v := nI 0) dX1_freeSlot_0 (by decide) ?_
  refine jj_istore_n F dX1_freeSlot_1 (by rw [hnl]; decide) ?_
  dsimp only [lq_st, lq_clr, lq_no]
  exact lo 0 (by omega) (fun j hj => by omega)
set_option maxRecDepth 100000 in
set_option maxHeartbeats 4000000 in
theorem c_X1_begin {l : Launch} {E : Ee} {M : Mm} {q : Nat} {ow en : Int32} (hq : q < 6) : CtV l E yX1_begin (.code yX1_begin cX1_begin 4 none :: gl) ({ frames := 0, cells := 0, slots := 0, locals := 0 } : Room) M [.ref (E.2.2 187), .int (nI q), .int ow, .int en] 0 0 (fun M2 => M2 = wA (wA M 189 (upd (M.1 189) q ow)) 190 (upd (M.1 190) q en)) := by
  refine ctV_of (L0 := [some (.ref (E.2.2 187)), some (.int (nI q)), some (.int ow), some (.int en)]) (by decide) rfl (Nat.le_of_ble_eq_true rfl) rfl ?_
  intro Z hl hE hnl F ret
  subst hE
  have in_X1 : ∀ w ∈ u_ws RX1 TX1 3, w ∈ (.code yX1_begin cX1_begin 4 none :: gl) := fun w h => List.mem_cons_of_mem _ (lay_X1 w h)
  have g17 : FG Z 17 1 1 := fg_mk F (C := RX1) (T := TX1) (N := 3) in_X1 rfl (by decide) rfl (List.mem_cons_of_mem _ fk_X1_17)
  have g21 : FG Z 21 1 2 := fg_mk F (C := RX1) (T := TX1) (N := 3) in_X1 rfl (by decide) rfl (List.mem_cons_of_mem _ fk_X1_21)
  have kl := kd_Ls
  have ka := kd_areas
  have kw := kd_owners
  have ke := kd_ends
  refine jj_aload_n F dX1_begin_0 rfl ?_
  refine jj_getr F g17 (by assumption) (by rfl) dX1_begin_1 ?_
  refine jj_iload_n F dX1_begin_4 rfl ?_
  refine jj_iload_n F dX1_begin_5 rfl ?_
  refine jj_iast F (by assumption) rfl (by omega) dX1_begin_6 ?_
  refine jj_aload_n F dX1_begin_7 rfl ?_
  refine jj_getr F g21 (by assumption) (by rfl) dX1_begin_8 ?_
  refine jj_iload_n F dX1_begin_11 rfl ?_
  refine jj_iload_n F dX1_begin_12 rfl ?_
  refine jj_iast F (by assumption) rfl (by omega) dX1_begin_13 ?_
  refine ret _ _ _ dX1_begin_14 ?_
  rw [wA_n (by decide)]
set_option maxRecDepth 100000 in
set_option maxHeartbeats 4000000 in
theorem c_X1_endAll {l : Launch} {E : Ee} {M : Mm}  : CtV l E yX1_endAll (.code yX1_endAll cX1_endAll 2 none :: gl) ({ frames := 0, cells := 0, slots := 0, locals := 0 } : Room) M [.ref (E.2.2 187)] 0 0 (fun M2 => M2 = wA M 190 (fun _ => nI 0)) := by
  refine ctV_of (L0 := [some (.ref (E.2.2 187)), none]) (by decide) rfl (Nat.le_of_ble_eq_true rfl) rfl ?_
  intro Z hl hE hnl F ret
  subst hE
  have in_X1 : ∀ w ∈ u_ws RX1 TX1 3, w ∈ (.code yX1_endAll cX1_endAll 2 none :: gl) := fun w h => List.mem_cons_of_mem _ (lay_X1 w h)
  have g21 : FG Z 21 1 2 := fg_mk F (C := RX1) (T := TX1) (N := 3) in_X1 rfl (by decide) rfl (List.mem_cons_of_mem _ fk_X1_21)
  have kl := kd_Ls
  have ka := kd_areas
  have kw := kd_owners
  have ke := kd_ends
  have lo : ∀ i, i ≤ 6 → JJ Z (0, 0) (wA M 190 (fl i (fun _ => nI 0) (M.1 190))) 2 [some (.ref ((zE Z).2.2 187)), some (.int (nI i))] [] := by
    refine jj_loop (6) ?_ ?_
    · refine jj_iload_n F dX1_endAll_2 rfl ?_
      refine jj_bipush F (v := nI 6) dX1_endAll_3 (by decide) ?_
      refine jj_icmp_ge F (tgt := 21) dX1_endAll_5 (by decide) (fun _ => ?_) (fun h9 => absurd (nI_le (by omega) (by omega)) h9)
      refine jj_eqv (meq_fl ke) ?_
      exact ret _ _ _ dX1_endAll_21 rfl
    · intro i hi ih
      refine jj_iload_n F dX1_endAll_2 rfl ?_
      refine jj_bipush F (v := nI 6) dX1_endAll_3 (by decide) ?_
      refine jj_icmp_ge F (tgt := 21) dX1_endAll_5 (by decide) (fun h9 => absurd h9 (nI_ge (by omega) (by omega))) (fun _ => ?_)
      refine jj_aload_n F dX1_endAll_8 rfl ?_
      refine jj_getr F g21 (by assumption) (by rfl) dX1_endAll_9 ?_
      refine jj_iload_n F dX1_endAll_12 rfl ?_
      refine jj_iconst F (v := nI 0) dX1_endAll_13 (by decide) ?_
      refine jj_iast F (by assumption) rfl (by omega) dX1_endAll_14 ?_
      refine jj_iinc F dX1_endAll_15 rfl (by first | exact iinc1 _ | rfl) (by rw [hnl]; decide) ?_
      dsimp only [lq_st, lq_clr, lq_no]
      refine jj_goto F (tgt := 2) dX1_endAll_18 (by decide) ?_
      rw [fl_put rfl]
      exact ih
  refine jj_iconst F (v := nI 0) dX1_endAll_0 (by decide) ?_
  refine jj_istore_n F dX1_endAll_1 (by rw [hnl]; decide) ?_
  dsimp only [lq_st, lq_clr, lq_no]
  refine jj_eqM (fl_0 M 190 (fun _ => nI 0)) ?_
  exact lo 0 (by omega)
set_option maxRecDepth 100000 in
set_option maxHeartbeats 4000000 in
theorem c_X1_endAllOf {l : Launch} {E : Ee} {M : Mm} {ow t : Int32} : CtI l E yX1_endAllOf (.code yX1_endAllOf cX1_endAllOf 5 (some .int) :: gl) ({ frames := 0, cells := 0, slots := 0, locals := 0 } : Room) M [.ref (E.2.2 187), .int ow, .int t] 0 0 (fun r M2 => r = nI (fb_ct (fun j => inF M t j && decide (M.1 189 j = ow)) 6) ∧ M2 = wA M 190 (fun j => if inF M t j && decide (M.1 189 j = ow) then nI 0 else M.1 190 j)) := by
  refine ctI_of (L0 := [some (.ref (E.2.2 187)), some (.int ow), some (.int t), none, none]) (by decide) rfl (Nat.le_of_ble_eq_true rfl) rfl ?_
  intro Z hl hE hnl F ret
  subst hE
  have in_X1 : ∀ w ∈ u_ws RX1 TX1 3, w ∈ (.code yX1_endAllOf cX1_endAllOf 5 (some .int) :: gl) := fun w h => List.mem_cons_of_mem _ (lay_X1 w h)
  have g17 : FG Z 17 1 1 := fg_mk F (C := RX1) (T := TX1) (N := 3) in_X1 rfl (by decide) rfl (List.mem_cons_of_mem _ fk_X1_17)
  have g21 : FG Z 21 1 2 := fg_mk F (C := RX1) (T := TX1) (N := 3) in_X1 rfl (by decide) rfl (List.mem_cons_of_mem _ fk_X1_21)
  have kl := kd_Ls
  have ka := kd_areas
  have kw := kd_owners
  have ke := kd_ends
  have lo : ∀ i, i ≤ 6 → JJ Z (0, 0) (wA M 190 (fl i (fun j => if inF M t j && decide (M.1 189 j = ow) then nI 0 else M.1 190 j) (M.1 190))) 5 [some (.ref ((zE Z).2.2 187)), some (.int ow), some (.int t), some (.int (nI (fb_ct (fun j => inF M t j && decide (M.1 189 j = ow)) i))), some (.int (nI i))] [] := by
    refine jj_loop (6) ?_ ?_
    · refine jj_iload F dX1_endAllOf_5 rfl ?_
      refine jj_bipush F (v := nI 6) dX1_endAllOf_7 (by decide) ?_
      refine jj_icmp_ge F (tgt := 51) dX1_endAllOf_9 (by decide) (fun _ => ?_) (fun h9 => absurd (nI_le (by omega) (by omega)) h9)
      refine jj_eqv (meq_fl ke) ?_
      refine jj_iload_n F dX1_endAllOf_51 rfl ?_
      exact ret _ _ _ _ dX1_endAllOf_52 rfl ⟨rfl, rfl⟩
    · intro i hi ih
      refine jj_iload F dX1_endAllOf_5 rfl ?_
      refine jj_bipush F (v := nI 6) dX1_endAllOf_7 (by decide) ?_
      refine jj_icmp_ge F (tgt := 51) dX1_endAllOf_9 (by decide) (fun h9 => absurd h9 (nI_ge (by omega) (by omega))) (fun _ => ?_)
      refine jj_iload_n F dX1_endAllOf_12 rfl ?_
      refine jj_aload_n F dX1_endAllOf_13 rfl ?_
      refine jj_getr F g21 (by assumption) (by rfl) dX1_endAllOf_14 ?_
      refine jj_iload F dX1_endAllOf_17 rfl ?_
      refine jj_iald F (by assumption) rfl (by omega) dX1_endAllOf_19 ?_
      rw [wA_s, fl_out (by omega)]
      refine jj_icmp_ge F (tgt := 45) dX1_endAllOf_20 (by decide) (fun h20 => ?_) (fun h20 => ?_)
      · refine jj_iinc F dX1_endAllOf_45 rfl (by first | exact iinc1 _ | rfl) (by rw [hnl]; decide) ?_
        dsimp only [lq_st, lq_clr, lq_no]
        refine jj_goto F (tgt := 5) dX1_endAllOf_48 (by decide) ?_
        first
        | (rw [fl_put (by simp [inF, h20, h31])]; refine jj_eqL ?_ ih; simp [fb_ct, inF, h20, h31]; done)
        | (rw [fl_skip (by simp [inF, h20])]; refine jj_eqL ?_ ih; simp [fb_ct, inF, h20]; done)
        | (rw [fl_skip (by simp [inF, h20, h31])]; refine jj_eqL ?_ ih; simp [fb_ct, inF, h20, h31]; done)
      · refine jj_aload_n F dX1_endAllOf_23 rfl ?_
        refine jj_getr F g17 (by assumption) (by rfl) dX1_endAllOf_24 ?_
        refine jj_iload F dX1_endAllOf_27 rfl ?_
        refine jj_iald F (by assumption) rfl (by omega) dX1_endAllOf_29 ?_
        rw [wA_n (by decide)]
        refine jj_iload_n F dX1_endAllOf_30 rfl ?_
        refine jj_icmp_ne F (tgt := 45) dX1_endAllOf_31 (by decide) (fun h31 => ?_) (fun h31 => ?_)
        · refine jj_iinc F dX1_endAllOf_45 rfl (by first | exact iinc1 _ | rfl) (by rw [hnl]; decide) ?_
          dsimp only [lq_st, lq_clr, lq_no]
          refine jj_goto F (tgt := 5) dX1_endAllOf_48 (by decide) ?_
          first
          | (rw [fl_put (by simp [inF, h20, h31])]; refine jj_eqL ?_ ih; simp [fb_ct, inF, h20, h31]; done)
          | (rw [fl_skip (by simp [inF, h20])]; refine jj_eqL ?_ ih; simp [fb_ct, inF, h20]; done)
          | (rw [fl_skip (by simp [inF, h20, h31])]; refine jj_eqL ?_ ih; simp [fb_ct, inF, h20, h31]; done)
        · refine jj_aload_n F dX1_endAllOf_34 rfl ?_
          refine jj_getr F g21 (by assumption) (by rfl) dX1_endAllOf_35 ?_
          refine jj_iload F dX1_endAllOf_38 rfl ?_
          refine jj_iconst F (v := nI 0) dX1_endAllOf_40 (by decide) ?_
          refine jj_iast F (by assumption) rfl (by omega) dX1_endAllOf_41 ?_
          refine jj_iinc F dX1_endAllOf_42 rfl (by first | exact iinc1 _ | rfl) (by rw [hnl]; decide) ?_
          dsimp only [lq_st, lq_clr, lq_no]
          refine jj_iinc F dX1_endAllOf_45 rfl (by first | exact iinc1 _ | rfl) (by rw [hnl]; decide) ?_
          dsimp only [lq_st, lq_clr, lq_no]
          refine jj_goto F (tgt := 5) dX1_endAllOf_48 (by decide) ?_
          first
          | (rw [fl_put (by simp [inF, h20, h31])]; refine jj_eqL ?_ ih; simp [fb_ct, inF, h20, h31]; done)
          | (rw [fl_skip (by simp [inF, h20])]; refine jj_eqL ?_ ih; simp [fb_ct, inF, h20]; done)
          | (rw [fl_skip (by simp [inF, h20, h31])]; refine jj_eqL ?_ ih; simp [fb_ct, inF, h20, h31]; done)
  refine jj_iconst F (v := nI 0) dX1_endAllOf_0 (by decide) ?_
  refine jj_istore_n F dX1_endAllOf_1 (by rw [hnl]; decide) ?_
  dsimp only [lq_st, lq_clr, lq_no]
  refine jj_iconst F (v := nI 0) dX1_endAllOf_2 (by decide) ?_
  refine jj_istore F dX1_endAllOf_3 (by rw [hnl]; decide) ?_
  dsimp only [lq_st, lq_clr, lq_no]
  refine jj_eqM (fl_0 M 190 (fun j => if inF M t j && decide (M.1 189 j = ow) then nI 0 else M.1 190 j)) ?_
  exact lo 0 (by omega)
set_option maxRecDepth 100000 in
set_option maxHeartbeats 4000000 in
theorem c_X1_inForce {l : Launch} {E : Ee} {M : Mm} {t : Int32} : CtI l E yX1_inForce (.code yX1_inForce cX1_inForce 4 (some .int) :: gl) ({ frames := 0, cells := 0, slots := 0, locals := 0 } : Room) M [.ref (E.2.2 187), .int t] 0 0 (fun r M2 => r = nI (fb_ct (fun j => inF M t j) 6) ∧ M2 = M) := by
  refine ctI_of (L0 := [some (.ref (E.2.2 187)), some (.int t), none, none]) (by decide) rfl (Nat.le_of_ble_eq_true rfl) rfl ?_
  intro Z hl hE hnl F ret
  subst hE
  have in_X1 : ∀ w ∈ u_ws RX1 TX1 3, w ∈ (.code yX1_inForce cX1_inForce 4 (some .int) :: gl) := fun w h => List.mem_cons_of_mem _ (lay_X1 w h)
  have g21 : FG Z 21 1 2 := fg_mk F (C := RX1) (T := TX1) (N := 3) in_X1 rfl (by decide) rfl (List.mem_cons_of_mem _ fk_X1_21)
  have kl := kd_Ls
  have ka := kd_areas
  have kw := kd_owners
  have ke := kd_ends
  have lo : ∀ i, i ≤ 6 → JJ Z (0, 0) (M) 4 [some (.ref ((zE Z).2.2 187)), some (.int t), some (.int (nI (fb_ct (fun j => inF M t j) i))), some (.int (nI i))] [] := by
    refine jj_loop (6) ?_ ?_
    · refine jj_iload_n F dX1_inForce_4 rfl ?_
      refine jj_bipush F (v := nI 6) dX1_inForce_5 (by decide) ?_
      refine jj_icmp_ge F (tgt := 29) dX1_inForce_7 (by decide) (fun _ => ?_) (fun h9 => absurd (nI_le (by omega) (by omega)) h9)
      refine jj_iload_n F dX1_inForce_29 rfl ?_
      exact ret _ _ _ _ dX1_inForce_30 rfl ⟨rfl, rfl⟩
    · intro i hi ih
      refine jj_iload_n F dX1_inForce_4 rfl ?_
      refine jj_bipush F (v := nI 6) dX1_inForce_5 (by decide) ?_
      refine jj_icmp_ge F (tgt := 29) dX1_inForce_7 (by decide) (fun h9 => absurd h9 (nI_ge (by omega) (by omega))) (fun _ => ?_)
      refine jj_iload_n F dX1_inForce_10 rfl ?_
      refine jj_aload_n F dX1_inForce_11 rfl ?_
      refine jj_getr F g21 (by assumption) (by rfl) dX1_inForce_12 ?_
      refine jj_iload_n F dX1_inForce_15 rfl ?_
      refine jj_iald F (by assumption) rfl (by omega) dX1_inForce_16 ?_
      refine jj_icmp_ge F (tgt := 23) dX1_inForce_17 (by decide) (fun h17 => ?_) (fun h17 => ?_)
      · refine jj_iinc F dX1_inForce_23 rfl (by first | exact iinc1 _ | rfl) (by rw [hnl]; decide) ?_
        dsimp only [lq_st, lq_clr, lq_no]
        refine jj_goto F (tgt := 4) dX1_inForce_26 (by decide) ?_
        refine jj_eqL ?_ ih
        simp [fb_ct, inF, h17]
      · refine jj_iinc F dX1_inForce_20 rfl (by first | exact iinc1 _ | rfl) (by rw [hnl]; decide) ?_
        dsimp only [lq_st, lq_clr, lq_no]
        refine jj_iinc F dX1_inForce_23 rfl (by first | exact iinc1 _ | rfl) (by rw [hnl]; decide) ?_
        dsimp only [lq_st, lq_clr, lq_no]
        refine jj_goto F (tgt := 4) dX1_inForce_26 (by decide) ?_
        refine jj_eqL ?_ ih
        simp [fb_ct, inF, h17]
  refine jj_iconst F (v := nI 0) dX1_inForce_0 (by decide) ?_
  refine jj_istore_n F dX1_inForce_1 (by rw [hnl]; decide) ?_
  dsimp only [lq_st, lq_clr, lq_no]
  refine jj_iconst F (v := nI 0) dX1_inForce_2 (by decide) ?_
  refine jj_istore_n F dX1_inForce_3 (by rw [hnl]; decide) ?_
  dsimp only [lq_st, lq_clr, lq_no]
  exact lo 0 (by omega)
set_option maxRecDepth 100000 in
set_option maxHeartbeats 4000000 in
theorem c_X1_inForceOf {l : Launch} {E : Ee} {M : Mm} {ow t : Int32} : CtI l E yX1_inForceOf (.code yX1_inForceOf cX1_inForceOf 5 (some .int) :: gl) ({ frames := 0, cells := 0, slots := 0, locals := 0 } : Room) M [.ref (E.2.2 187), .int ow, .int t] 0 0 (fun r M2 => r = nI (fb_ct (fun j => inF M t j && decide (M.1 189 j = ow)) 6) ∧ M2 = M) := by
  refine ctI_of (L0 := [some (.ref (E.2.2 187)), some (.int ow), some (.int t), none, none]) (by decide) rfl (Nat.le_of_ble_eq_true rfl) rfl ?_
  intro Z hl hE hnl F ret
  subst hE
  have in_X1 : ∀ w ∈ u_ws RX1 TX1 3, w ∈ (.code yX1_inForceOf cX1_inForceOf 5 (some .int) :: gl) := fun w h => List.mem_cons_of_mem _ (lay_X1 w h)
  have g17 : FG Z 17 1 1 := fg_mk F (C := RX1) (T := TX1) (N := 3) in_X1 rfl (by decide) rfl (List.mem_cons_of_mem _ fk_X1_17)
  have g21 : FG Z 21 1 2 := fg_mk F (C := RX1) (T := TX1) (N := 3) in_X1 rfl (by decide) rfl (List.mem_cons_of_mem _ fk_X1_21)
  have kl := kd_Ls
  have ka := kd_areas
  have kw := kd_owners
  have ke := kd_ends
  have lo : ∀ i, i ≤ 6 → JJ Z (0, 0) (M) 5 [some (.ref ((zE Z).2.2 187)), some (.int ow), some (.int t), some (.int (nI (fb_ct (fun j => inF M t j && decide (M.1 189 j = ow)) i))), some (.int (nI i))] [] := by
    refine jj_loop (6) ?_ ?_
    · refine jj_iload F dX1_inForceOf_5 rfl ?_
      refine jj_bipush F (v := nI 6) dX1_inForceOf_7 (by decide) ?_
      refine jj_icmp_ge F (tgt := 43) dX1_inForceOf_9 (by decide) (fun _ => ?_) (fun h9 => absurd (nI_le (by omega) (by omega)) h9)
      refine jj_iload_n F dX1_inForceOf_43 rfl ?_
      exact ret _ _ _ _ dX1_inForceOf_44 rfl ⟨rfl, rfl⟩
    · intro i hi ih
      refine jj_iload F dX1_inForceOf_5 rfl ?_
      refine jj_bipush F (v := nI 6) dX1_inForceOf_7 (by decide) ?_
      refine jj_icmp_ge F (tgt := 43) dX1_inForceOf_9 (by decide) (fun h9 => absurd h9 (nI_ge (by omega) (by omega))) (fun _ => ?_)
      refine jj_iload_n F dX1_inForceOf_12 rfl ?_
      refine jj_aload_n F dX1_inForceOf_13 rfl ?_
      refine jj_getr F g21 (by assumption) (by rfl) dX1_inForceOf_14 ?_
      refine jj_iload F dX1_inForceOf_17 rfl ?_
      refine jj_iald F (by assumption) rfl (by omega) dX1_inForceOf_19 ?_
      refine jj_icmp_ge F (tgt := 37) dX1_inForceOf_20 (by decide) (fun h20 => ?_) (fun h20 => ?_)
      · refine jj_iinc F dX1_inForceOf_37 rfl (by first | exact iinc1 _ | rfl) (by rw [hnl]; decide) ?_
        dsimp only [lq_st, lq_clr, lq_no]
        refine jj_goto F (tgt := 5) dX1_inForceOf_40 (by decide) ?_
        refine jj_eqL ?_ ih
        first
        | (simp [fb_ct, inF, h20]; done)
        | (simp [fb_ct, inF, h20, h31]; done)
      · refine jj_aload_n F dX1_inForceOf_23 rfl ?_
        refine jj_getr F g17 (by assumption) (by rfl) dX1_inForceOf_24 ?_
        refine jj_iload F dX1_inForceOf_27 rfl ?_
        refine jj_iald F (by assumption) rfl (by omega) dX1_inForceOf_29 ?_
        refine jj_iload_n F dX1_inForceOf_30 rfl ?_
        refine jj_icmp_ne F (tgt := 37) dX1_inForceOf_31 (by decide) (fun h31 => ?_) (fun h31 => ?_)
        · refine jj_iinc F dX1_inForceOf_37 rfl (by first | exact iinc1 _ | rfl) (by rw [hnl]; decide) ?_
          dsimp only [lq_st, lq_clr, lq_no]
          refine jj_goto F (tgt := 5) dX1_inForceOf_40 (by decide) ?_
          refine jj_eqL ?_ ih
          first
          | (simp [fb_ct, inF, h20]; done)
          | (simp [fb_ct, inF, h20, h31]; done)
        · refine jj_iinc F dX1_inForceOf_34 rfl (by first | exact iinc1 _ | rfl) (by rw [hnl]; decide) ?_
          dsimp only [lq_st, lq_clr, lq_no]
          refine jj_iinc F dX1_inForceOf_37 rfl (by first | exact iinc1 _ | rfl) (by rw [hnl]; decide) ?_
          dsimp only [lq_st, lq_clr, lq_no]
          refine jj_goto F (tgt := 5) dX1_inForceOf_40 (by decide) ?_
          refine jj_eqL ?_ ih
          first
          | (simp [fb_ct, inF, h20]; done)
          | (simp [fb_ct, inF, h20, h31]; done)
  refine jj_iconst F (v := nI 0) dX1_inForceOf_0 (by decide) ?_
  refine jj_istore_n F dX1_inForceOf_1 (by rw [hnl]; decide) ?_
  dsimp only [lq_st, lq_clr, lq_no]
  refine jj_iconst F (v := nI 0) dX1_inForceOf_2 (by decide) ?_
  refine jj_istore F dX1_inForceOf_3 (by rw [hnl]; decide) ?_
  dsimp only [lq_st, lq_clr, lq_no]
  exact lo 0 (by omega)
def lowF (M : Mm) (A : Nat → Nat → Bool) (t : Int32) (c : Nat) : Nat → Int32
  | 0 => -1
  | i + 1 => if inF M t i = true ∧ A i c = true ∧ (lowF M A t c i = -1 ∨ M.1 189 i < lowF M A t c i) then M.1 189 i else lowF M A t c i
set_option maxRecDepth 100000 in
set_option maxHeartbeats 4000000 in
theorem c_X1_lowestOwner {l : Launch} {E : Ee} {M : Mm} {c : Nat} {t : Int32} {A : Nat → Nat → Bool} (hA : ∀ i, i < 6 → M.1 (191 + 2 * i + 1) = rowsOf (A i)) (hc : c < 256) : CtI l E yX1_lowestOwner (.code yX1_lowestOwner cX1_lowestOwner 5 (some .int) :: gl) ({ frames := 1, cells := 0, slots := 0, locals := 21 } : Room) M [.ref (E.2.2 187), .int (nI c), .int t] 0 0 (fun r M2 => r = lowF M A t c 6 ∧ M2 = M) := by
  refine ctI_of (L0 := [some (.ref (E.2.2 187)), some (.int (nI c)), some (.int t), none, none]) (by decide) rfl (Nat.le_of_ble_eq_true rfl) rfl ?_
  intro Z hl hE hnl F ret
  subst hE
  have in_X1 : ∀ w ∈ u_ws RX1 TX1 3, w ∈ (.code yX1_lowestOwner cX1_lowestOwner 5 (some .int) :: gl) := fun w h => List.mem_cons_of_mem _ (lay_X1 w h)
  have g11 : FG Z 11 1 0 := fg_mk F (C := RX1) (T := TX1) (N := 3) in_X1 rfl (by decide) rfl (List.mem_cons_of_mem _ fk_X1_11)
  have g17 : FG Z 17 1 1 := fg_mk F (C := RX1) (T := TX1) (N := 3) in_X1 rfl (by decide) rfl (List.mem_cons_of_mem _ fk_X1_17)
  have g21 : FG Z 21 1 2 := fg_mk F (C := RX1) (T := TX1) (N := 3) in_X1 rfl (by decide) rfl (List.mem_cons_of_mem _ fk_X1_21)
  have kl := kd_Ls
  have ka := kd_areas
  have kw := kd_owners
  have ke := kd_ends
  have lo : ∀ i, i ≤ 6 → JJ Z (0, 0) (M) 5 [some (.ref ((zE Z).2.2 187)), some (.int (nI c)), some (.int t), some (.int (lowF M A t c i)), some (.int (nI i))] [] := by
    refine jj_loop (6) ?_ ?_
    · refine jj_iload F dX1_lowestOwner_5 rfl ?_
      refine jj_bipush F (v := nI 6) dX1_lowestOwner_7 (by decide) ?_
      refine jj_icmp_ge F (tgt := 67) dX1_lowestOwner_9 (by decide) (fun _ => ?_) (fun h9 => absurd (nI_le (by omega) (by omega)) h9)
      refine jj_iload_n F dX1_lowestOwner_67 rfl ?_
      exact ret _ _ _ _ dX1_lowestOwner_68 rfl ⟨rfl, rfl⟩
    · intro i hi ih
      have cs := cs_ls i hi
      have hAi := hA i hi
      obtain ⟨q0, q1⟩ := id cs
      refine jj_iload F dX1_lowestOwner_5 rfl ?_
      refine jj_bipush F (v := nI 6) dX1_lowestOwner_7 (by decide) ?_
      refine jj_icmp_ge F (tgt := 67) dX1_lowestOwner_9 (by decide) (fun h9 => absurd h9 (nI_ge (by omega) (by omega))) (fun _ => ?_)
      refine jj_iload_n F dX1_lowestOwner_12 rfl ?_
      refine jj_aload_n F dX1_lowestOwner_13 rfl ?_
      refine jj_getr F g21 (by assumption) (by rfl) dX1_lowestOwner_14 ?_
      refine jj_iload F dX1_lowestOwner_17 rfl ?_
      refine jj_iald F (by assumption) rfl (by omega) dX1_lowestOwner_19 ?_
      refine jj_icmp_ge F (tgt := 61) dX1_lowestOwner_20 (by decide) (fun h20 => ?_) (fun h20 => ?_)
      · refine jj_iinc F dX1_lowestOwner_61 rfl (by first | exact iinc1 _ | rfl) (by rw [hnl]; decide) ?_
        dsimp only [lq_st, lq_clr, lq_no]
        refine jj_goto F (tgt := 5) dX1_lowestOwner_64 (by decide) ?_
        refine jj_eqL ?_ ih
        try rw [b2i_0] at h34
        try rw [b2i_n0] at h34
        first
        | (simp [lowF, inF, h20]; done)
        | (simp [lowF, inF, h20, h34]; done)
        | (simp [lowF, inF, h20, h34, h39]; done)
        | (simp [lowF, inF, h20, h34, h39, i32_le_nlt h50]; done)
        | (simp [lowF, inF, h20, h34, h39, i32_nle h50]; done)
      · refine jj_aload_n F dX1_lowestOwner_23 rfl ?_
        refine jj_getr F g11 (by assumption) (by rfl) dX1_lowestOwner_24 ?_
        refine jj_iload F dX1_lowestOwner_27 rfl ?_
        refine jj_aald F (by assumption) rfl (by omega) dX1_lowestOwner_29 ?_
        refine jj_iload_n F dX1_lowestOwner_30 rfl ?_
        refine jj_callVi (na := 1) F (c_X0_contains (by assumption) (by assumption) (by omega)) (gl_V mk_X1_25 vw_X0_contains) rfl rfl rfl (by decide +kernel) ⟨Nat.le_of_ble_eq_true rfl, Nat.le_of_ble_eq_true rfl⟩ (by assumption) rfl rfl rfl (Nat.le_of_ble_eq_true rfl) ⟨Nat.le_of_ble_eq_true rfl, Nat.le_of_ble_eq_true rfl⟩ dX1_lowestOwner_31 (fun r31 M31 hp31 => ?_)
        obtain ⟨rfl, rfl⟩ := symm2 hp31
        refine jj_if_eq F (tgt := 61) dX1_lowestOwner_34 (by decide) (fun h34 => ?_) (fun h34 => ?_)
        · refine jj_iinc F dX1_lowestOwner_61 rfl (by first | exact iinc1 _ | rfl) (by rw [hnl]; decide) ?_
          dsimp only [lq_st, lq_clr, lq_no]
          refine jj_goto F (tgt := 5) dX1_lowestOwner_64 (by decide) ?_
          refine jj_eqL ?_ ih
          try rw [b2i_0] at h34
          try rw [b2i_n0] at h34
          first
          | (simp [lowF, inF, h20]; done)
          | (simp [lowF, inF, h20, h34]; done)
          | (simp [lowF, inF, h20, h34, h39]; done)
          | (simp [lowF, inF, h20, h34, h39, i32_le_nlt h50]; done)
          | (simp [lowF, inF, h20, h34, h39, i32_nle h50]; done)
        · refine jj_iload_n F dX1_lowestOwner_37 rfl ?_
          refine jj_iconst F (v := -1) dX1_lowestOwner_38 (by decide) ?_
          refine jj_icmp_eq F (tgt := 53) dX1_lowestOwner_39 (by decide) (fun h39 => ?_) (fun h39 => ?_)
          · refine jj_aload_n F dX1_lowestOwner_53 rfl ?_
            refine jj_getr F g17 (by assumption) (by rfl) dX1_lowestOwner_54 ?_
            refine jj_iload F dX1_lowestOwner_57 rfl ?_
            refine jj_iald F (by assumption) rfl (by omega) dX1_lowestOwner_59 ?_
            refine jj_istore_n F dX1_lowestOwner_60 (by rw [hnl]; decide) ?_
            dsimp only [lq_st, lq_clr, lq_no]
            refine jj_iinc F dX1_lowestOwner_61 rfl (by first | exact iinc1 _ | rfl) (by rw [hnl]; decide) ?_
            dsimp only [lq_st, lq_clr, lq_no]
            refine jj_goto F (tgt := 5) dX1_lowestOwner_64 (by decide) ?_
            refine jj_eqL ?_ ih
            try rw [b2i_0] at h34
            try rw [b2i_n0] at h34
            first
            | (simp [lowF, inF, h20]; done)
            | (simp [lowF, inF, h20, h34]; done)
            | (simp [lowF, inF, h20, h34, h39]; done)
            | (simp [lowF, inF, h20, h34, h39, i32_le_nlt h50]; done)
            | (simp [lowF, inF, h20, h34, h39, i32_nle h50]; done)
          · refine jj_aload_n F dX1_lowestOwner_42 rfl ?_
            refine jj_getr F g17 (by assumption) (by rfl) dX1_lowestOwner_43 ?_
            refine jj_iload F dX1_lowestOwner_46 rfl ?_
            refine jj_iald F (by assumption) rfl (by omega) dX1_lowestOwner_48 ?_
            refine jj_iload_n F dX1_lowestOwner_49 rfl ?_
            refine jj_icmp_ge F (tgt := 61) dX1_lowestOwner_50 (by decide) (fun h50 => ?_) (fun h50 => ?_)
            · refine jj_iinc F dX1_lowestOwner_61 rfl (by first | exact iinc1 _ | rfl) (by rw [hnl]; decide) ?_
              dsimp only [lq_st, lq_clr, lq_no]
              refine jj_goto F (tgt := 5) dX1_lowestOwner_64 (by decide) ?_
              refine jj_eqL ?_ ih
              try rw [b2i_0] at h34
              try rw [b2i_n0] at h34
              first
              | (simp [lowF, inF, h20]; done)
              | (simp [lowF, inF, h20, h34]; done)
              | (simp [lowF, inF, h20, h34, h39]; done)
              | (simp [lowF, inF, h20, h34, h39, i32_le_nlt h50]; done)
              | (simp [lowF, inF, h20, h34, h39, i32_nle h50]; done)
            · refine jj_aload_n F dX1_lowestOwner_53 rfl ?_
              refine jj_getr F g17 (by assumption) (by rfl) dX1_lowestOwner_54 ?_
              refine jj_iload F dX1_lowestOwner_57 rfl ?_
              refine jj_iald F (by assumption) rfl (by omega) dX1_lowestOwner_59 ?_
              refine jj_istore_n F dX1_lowestOwner_60 (by rw [hnl]; decide) ?_
              dsimp only [lq_st, lq_clr, lq_no]
              refine jj_iinc F dX1_lowestOwner_61 rfl (by first | exact iinc1 _ | rfl) (by rw [hnl]; decide) ?_
              dsimp only [lq_st, lq_clr, lq_no]
              refine jj_goto F (tgt := 5) dX1_lowestOwner_64 (by decide) ?_
              refine jj_eqL ?_ ih
              try rw [b2i_0] at h34
              try rw [b2i_n0] at h34
              first
              | (simp [lowF, inF, h20]; done)
              | (simp [lowF, inF, h20, h34]; done)
              | (simp [lowF, inF, h20, h34, h39]; done)
              | (simp [lowF, inF, h20, h34, h39, i32_le_nlt h50]; done)
              | (simp [lowF, inF, h20, h34, h39, i32_nle h50]; done)
  refine jj_iconst F (v := -1) dX1_lowestOwner_0 (by decide) ?_
  refine jj_istore_n F dX1_lowestOwner_1 (by rw [hnl]; decide) ?_
  dsimp only [lq_st, lq_clr, lq_no]
  refine jj_iconst F (v := nI 0) dX1_lowestOwner_2 (by decide) ?_
  refine jj_istore F dX1_lowestOwner_3 (by rw [hnl]; decide) ?_
  dsimp only [lq_st, lq_clr, lq_no]
  exact lo 0 (by omega)
/-- what is closed for a user -/
def cloF (M : Mm) (A : Nat → Nat → Bool) (t u : Int32) (n c : Nat) : Bool := exB n (fun i => inF M t i && !decide (M.1 189 i = u) && A i c)
set_option maxRecDepth 100000 in
set_option maxHeartbeats 4000000 in
theorem c_X1_collectClosed {l : Launch} {E : Ee} {M : Mm} {k : Nat} {u t : Int32} {A : Nat → Nat → Bool} (hA : ∀ i, i < 6 → M.1 (191 + 2 * i + 1) = rowsOf (A i)) (hk : isCS k) (hkn : ∀ i, i < 6 → 191 + 2 * i + 1 ≠ k + 1) : CtV l E yX1_collectClosed (.code yX1_collectClosed cX1_collectClosed 5 none :: gl) ({ frames := 1, cells := 0, slots := 0, locals := 22 } : Room) M [.ref (E.2.2 187), .int u, .int t, .ref (E.2.2 k)] 0 0 (fun M2 => M2 = wA M (k + 1) (rowsOf (cloF M A t u 6))) := by
  refine ctV_of (L0 := [some (.ref (E.2.2 187)), some (.int u), some (.int t), some (.ref (E.2.2 k)), none]) (by decide) rfl (Nat.le_of_ble_eq_true rfl) rfl ?_
  intro Z hl hE hnl F ret
  subst hE
  have in_X1 : ∀ w ∈ u_ws RX1 TX1 3, w ∈ (.code yX1_collectClosed cX1_collectClosed 5 none :: gl) := fun w h => List.mem_cons_of_mem _ (lay_X1 w h)
  have g11 : FG Z 11 1 0 := fg_mk F (C := RX1) (T := TX1) (N := 3) in_X1 rfl (by decide) rfl (List.mem_cons_of_mem _ fk_X1_11)
  have g17 : FG Z 17 1 1 := fg_mk F (C := RX1) (T := TX1) (N := 3) in_X1 rfl (by decide) rfl (List.mem_cons_of_mem _ fk_X1_17)
  have g21 : FG Z 21 1 2 := fg_mk F (C := RX1) (T := TX1) (N := 3) in_X1 rfl (by decide) rfl (List.mem_cons_of_mem _ fk_X1_21)
  have kl := kd_Ls
  have ka := kd_areas
  have kw := kd_owners
  have ke := kd_ends
  obtain ⟨h0, h1⟩ := id hk
  have lo : ∀ i, i ≤ 6 → JJ Z (0, 0) (wA M (k + 1) (rowsOf (cloF M A t u i))) 7 [some (.ref ((zE Z).2.2 187)), some (.int u), some (.int t), some (.ref ((zE Z).2.2 k)), some (.int (nI i))] [] := by
    refine jj_loop (6) ?_ ?_
    · refine jj_iload F dX1_collectClosed_7 rfl ?_
      refine jj_bipush F (v := nI 6) dX1_collectClosed_9 (by decide) ?_
      refine jj_icmp_ge F (tgt := 53) dX1_collectClosed_11 (by decide) (fun _ => ?_) (fun h9 => absurd (nI_le (by omega) (by omega)) h9)
      exact ret _ _ _ dX1_collectClosed_53 rfl
    · intro i hi ih
      have cs := cs_ls i hi
      have hAi := hA i hi
      have hki := hkn i hi
      obtain ⟨q0, q1⟩ := id cs
      have e9 : (190 : Nat) ≠ k + 1 := by intro e9; rw [← e9, ke] at h1; cases h1
      have e8 : (189 : Nat) ≠ k + 1 := by intro e9; rw [← e9, kw] at h1; cases h1
      refine jj_iload F dX1_collectClosed_7 rfl ?_
      refine jj_bipush F (v := nI 6) dX1_collectClosed_9 (by decide) ?_
      refine jj_icmp_ge F (tgt := 53) dX1_collectClosed_11 (by decide) (fun h9 => absurd h9 (nI_ge (by omega) (by omega))) (fun _ => ?_)
      refine jj_iload_n F dX1_collectClosed_14 rfl ?_
      refine jj_aload_n F dX1_collectClosed_15 rfl ?_
      refine jj_getr F g21 (by assumption) (by rfl) dX1_collectClosed_16 ?_
      refine jj_iload F dX1_collectClosed_19 rfl ?_
      refine jj_iald F (by assumption) rfl (by omega) dX1_collectClosed_21 ?_
      rw [wA_n e9]
      refine jj_icmp_ge F (tgt := 47) dX1_collectClosed_22 (by decide) (fun h22 => ?_) (fun h22 => ?_)
      · refine jj_iinc F dX1_collectClosed_47 rfl (by first | exact iinc1 _ | rfl) (by rw [hnl]; decide) ?_
        dsimp only [lq_st, lq_clr, lq_no]
        refine jj_goto F (tgt := 7) dX1_collectClosed_50 (by decide) ?_
        refine jj_eqM ?_ ih
        congr 1
        congr 1
        funext c
        first
        | (simp [cloF, exB, inF, h22]; done)
        | (simp [cloF, exB, inF, h22, h33]; done)
      · refine jj_aload_n F dX1_collectClosed_25 rfl ?_
        refine jj_getr F g17 (by assumption) (by rfl) dX1_collectClosed_26 ?_
        refine jj_iload F dX1_collectClosed_29 rfl ?_
        refine jj_iald F (by assumption) rfl (by omega) dX1_collectClosed_31 ?_
        rw [wA_n e8]
        refine jj_iload_n F dX1_collectClosed_32 rfl ?_
        refine jj_icmp_eq F (tgt := 47) dX1_collectClosed_33 (by decide) (fun h33 => ?_) (fun h33 => ?_)
        · refine jj_iinc F dX1_collectClosed_47 rfl (by first | exact iinc1 _ | rfl) (by rw [hnl]; decide) ?_
          dsimp only [lq_st, lq_clr, lq_no]
          refine jj_goto F (tgt := 7) dX1_collectClosed_50 (by decide) ?_
          refine jj_eqM ?_ ih
          congr 1
          congr 1
          funext c
          first
          | (simp [cloF, exB, inF, h22]; done)
          | (simp [cloF, exB, inF, h22, h33]; done)
        · refine jj_aload_n F dX1_collectClosed_36 rfl ?_
          refine jj_aload_n F dX1_collectClosed_37 rfl ?_
          refine jj_getr F g11 (by assumption) (by rfl) dX1_collectClosed_38 ?_
          refine jj_iload F dX1_collectClosed_41 rfl ?_
          refine jj_aald F (by assumption) rfl (by omega) dX1_collectClosed_43 ?_
          refine jj_callVv (na := 1) F (c_X0_addAll (k := k) (j := 191 + 2 * i) hk cs (fun e => hki e) (wA_s _ _ _) (by rw [wA_n hki]; exact hAi)) (gl_V mk_X1_32 vw_X0_addAll) rfl rfl rfl (by decide +kernel) ⟨Nat.le_of_ble_eq_true rfl, Nat.le_of_ble_eq_true rfl⟩ (by assumption) rfl rfl rfl (Nat.le_of_ble_eq_true rfl) ⟨Nat.le_of_ble_eq_true rfl, Nat.le_of_ble_eq_true rfl⟩ dX1_collectClosed_44 (fun M44 hp44 => ?_)
          subst hp44
          rw [wA_wA]
          refine jj_iinc F dX1_collectClosed_47 rfl (by first | exact iinc1 _ | rfl) (by rw [hnl]; decide) ?_
          dsimp only [lq_st, lq_clr, lq_no]
          refine jj_goto F (tgt := 7) dX1_collectClosed_50 (by decide) ?_
          refine jj_eqM ?_ ih
          congr 1
          congr 1
          funext c
          first
          | (simp [cloF, exB, inF, h22]; done)
          | (simp [cloF, exB, inF, h22, h33]; done)
  refine jj_aload_n F dX1_collectClosed_0 rfl ?_
  refine jj_callVv (na := 0) F (c_X0_becomeEmpty (by assumption)) (gl_V mk_X1_29 vw_X0_becomeEmpty) rfl rfl rfl (by decide +kernel) ⟨Nat.le_of_ble_eq_true rfl, Nat.le_of_ble_eq_true rfl⟩ (by assumption) rfl rfl rfl (Nat.le_of_ble_eq_true rfl) ⟨Nat.le_of_ble_eq_true rfl, Nat.le_of_ble_eq_true rfl⟩ dX1_collectClosed_1 (fun M1 hp1 => ?_)
  obtain rfl := hp1.symm
  refine jj_iconst F (v := nI 0) dX1_collectClosed_4 (by decide) ?_
  refine jj_istore F dX1_collectClosed_5 (by rw [hnl]; decide) ?_
  dsimp only [lq_st, lq_clr, lq_no]
  exact lo 0 (by omega)
end
section
/-! Log: cell 5 (1 size, 2 undos), entries 6, operation i: cell 7 + 3 i -/
theorem fam_skip {b d i : Nat} {g : Nat → Nat → Int32} {M : Mm} (hd : 0 < d) (h : M.1 (b + d * i) = g i) : fam b d i g M = fam b d (i + 1) g M := by
  rw [← fam_s hd, ← h]
  have e : (fam b d i g M).1 (b + d * i) = M.1 (b + d * i) := fam_out (fun j hj e => by
    have : d * j = d * i := by omega
    have := Nat.eq_of_mul_eq_mul_left hd this
    omega)
  rw [← e, wA_same]
theorem fam_at {b d i : Nat} {g : Nat → Nat → Int32} {M : Mm} (hd : 0 < d) : (fam b d i g M).1 (b + d * i) = M.1 (b + d * i) := fam_out (fun j hj e => by
    have : d * j = d * i := by omega
    have := Nat.eq_of_mul_eq_mul_left hd this
    omega)
theorem meq_rf (M : Mm) : meq M M := by
  intro k hk
  generalize kd k = q
  match q with
  | .inl (_, fl) => exact fun j => ⟨fun _ => rfl, fun _ => rfl⟩
  | .inr (0, n, _, _) => exact fun j hj => rfl
  | .inr (1, n, _, _) => exact fun j hj => rfl
  | .inr (2, n, _, _) => exact fun j hj => rfl
  | .inr (t + 3, n, _, _) => trivial
theorem meq_ob {M : Mm} {k ci : Nat} {fl : List Nat} {f g : Nat → Int32} (hk : kd k = .inl (ci, fl)) (h : ∀ j, fl[j]? = some 0 → f j = g j) : meq (wA M k f) (wA M k g) := by
  intro a ha
  by_cases e : a = k
  · subst e
    rw [hk]
    intro j
    exact ⟨fun hj => by rw [wA_s, wA_s]; exact h j hj, fun _ => rfl⟩
  · generalize kd a = q
    match q with
    | .inl (_, fl) => intro j; rw [wA_n e, wA_n e]; exact ⟨fun _ => rfl, fun _ => rfl⟩
    | .inr (0, n, _, _) => intro j hj; rw [wA_n e, wA_n e]
    | .inr (1, n, _, _) => intro j hj; rw [wA_n e, wA_n e]
    | .inr (2, n, _, _) => intro j hj; rfl
    | .inr (t + 3, n, _, _) => trivial
def fgF (M : Mm) (ow : Int32) (j : Nat) : Nat → Int32 := if M.1 (7 + 3 * j) 1 = ow then upd (M.1 (7 + 3 * j)) 7 (nI 0) else M.1 (7 + 3 * j)
def opN (so ow la ti : Int32) : Nat → Int32 := fun b => if b = 0 then so else if b = 1 then ow else if b = 2 then la else if b = 5 then ti else if b = 6 then nI 1 else nI 0
def ltF (M : Mm) (ow : Int32) : Nat → Int32
  | 0 => -1
  | i + 1 => if ¬ M.1 (7 + 3 * i) 6 = 0 ∧ M.1 (7 + 3 * i) 1 = ow then nI i else ltF M ow i
def luF (M : Mm) (ow : Int32) : Nat → Int32 × Int32
  | 0 => (-1, nI 0)
  | i + 1 => if M.1 (7 + 3 * i) 1 = ow ∧ (luF M ow i).2 < M.1 (7 + 3 * i) 7 then (nI i, M.1 (7 + 3 * i) 7) else luF M ow i
def gbF (M : Mm) (m j : Nat) : Nat → Int32 := upd (upd (M.1 (7 + 3 * j)) 6 (M.1 (460 + 3 * m + 1) j)) 7 (nI 0)
theorem op_meq {r : Nat} : ∀ j : Nat, ([0, 0, 0, 0, 0, 0, 0, 0, r] : List Nat)[j]? = some 0 → j < 8 ∨ r = 0 := by
  intro j h
  rcases Nat.lt_or_ge j 8 with q | q
  · exact Or.inl q
  · rcases Nat.lt_or_ge j 9 with q2 | q2
    · have : j = 8 := by omega
      subst this
      right
      simpa using h
    · rw [List.getElem?_eq_none (by simpa using q2)] at h
      cases h
set_option maxRecDepth 100000 in
set_option maxHeartbeats 4000000 in
theorem c_X2_contains {l : Launch} {E : Ee} {M : Mm} {x : Int32} : CtI l E yX2_contains (.code yX2_contains cX2_contains 2 (some .boolean) :: gl) ({ frames := 0, cells := 0, slots := 0, locals := 0 } : Room) M [.ref (E.2.2 5), .int x] 0 0 (fun r M2 => r = b2i (decide (0 ≤ x) && decide (x < M.1 5 1)) ∧ M2 = M) := by
  refine ctI_of (L0 := [some (.ref (E.2.2 5)), some (.int x)]) (by decide) rfl (Nat.le_of_ble_eq_true rfl) rfl ?_
  intro Z hl hE hnl F ret
  subst hE
  have in_X2 : ∀ w ∈ u_ws RX2 TX2 3, w ∈ (.code yX2_contains cX2_contains 2 (some .boolean) :: gl) := fun w h => List.mem_cons_of_mem _ (lay_X2 w h)
  have g17 : FG Z 17 2 1 := fg_mk F (C := RX2) (T := TX2) (N := 3) in_X2 rfl (by decide) rfl (List.mem_cons_of_mem _ fk_X2_17)
  have kl := kd_Log
  have ke := kd_ents
  refine jj_iload_n F dX2_contains_0 rfl ?_
  refine jj_if_lt F (tgt := 16) dX2_contains_1 (by decide) (fun h1 => ?_) (fun h1 => ?_)
  · refine jj_iconst F (v := nI 0) dX2_contains_16 (by decide) ?_
    refine ret _ _ _ _ dX2_contains_17 (nar_z (Or.inl rfl)) ⟨b2i_f ?_, rfl⟩
    first
    | (simp [i32_lt_nle h1]; done)
    | (simp [i32_le_nlt h9]; done)
  · refine jj_iload_n F dX2_contains_4 rfl ?_
    refine jj_aload_n F dX2_contains_5 rfl ?_
    refine jj_geti F g17 (by assumption) (by rfl) dX2_contains_6 ?_
    refine jj_icmp_ge F (tgt := 16) dX2_contains_9 (by decide) (fun h9 => ?_) (fun h9 => ?_)
    · refine jj_iconst F (v := nI 0) dX2_contains_16 (by decide) ?_
      refine ret _ _ _ _ dX2_contains_17 (nar_z (Or.inl rfl)) ⟨b2i_f ?_, rfl⟩
      first
      | (simp [i32_lt_nle h1]; done)
      | (simp [i32_le_nlt h9]; done)
    · refine jj_iconst F (v := nI 1) dX2_contains_12 (by decide) ?_
      refine jj_goto F (tgt := 17) dX2_contains_13 (by decide) ?_
      exact ret _ _ _ _ dX2_contains_17 (nar_z (Or.inr rfl)) ⟨b2i_t (by simp [i32_nlt h1, i32_nle h9]), rfl⟩
set_option maxRecDepth 100000 in
set_option maxHeartbeats 4000000 in
theorem c_X2_forgetRedoOf {l : Launch} {E : Ee} {M : Mm} {ow : Int32} {n : Nat} (hn : M.1 5 1 = nI n) (h60 : n ≤ 60) : CtV l E yX2_forgetRedoOf (.code yX2_forgetRedoOf cX2_forgetRedoOf 3 none :: gl) ({ frames := 0, cells := 0, slots := 0, locals := 0 } : Room) M [.ref (E.2.2 5), .int ow] 0 0 (fun M2 => M2 = fam 7 3 n (fgF M ow) M) := by
  refine ctV_of (L0 := [some (.ref (E.2.2 5)), some (.int ow), none]) (by decide) rfl (Nat.le_of_ble_eq_true rfl) rfl ?_
  intro Z hl hE hnl F ret
  subst hE
  have in_X2 : ∀ w ∈ u_ws RX2 TX2 3, w ∈ (.code yX2_forgetRedoOf cX2_forgetRedoOf 3 none :: gl) := fun w h => List.mem_cons_of_mem _ (lay_X2 w h)
  have in_X4 : ∀ w ∈ u_ws RX4 TX4 9, w ∈ (.code yX2_forgetRedoOf cX2_forgetRedoOf 3 none :: gl) := fun w h => List.mem_cons_of_mem _ (lay_X4 w h)
  have g11 : FG Z 11 2 0 := fg_mk F (C := RX2) (T := TX2) (N := 3) in_X2 rfl (by decide) rfl (List.mem_cons_of_mem _ fk_X2_11)
  have g17 : FG Z 17 2 1 := fg_mk F (C := RX2) (T := TX2) (N := 3) in_X2 rfl (by decide) rfl (List.mem_cons_of_mem _ fk_X2_17)
  have g32 : FG Z 32 4 1 := fg_mk F (C := RX4) (T := TX4) (N := 9) in_X4 rfl (by decide) rfl (List.mem_cons_of_mem _ fk_X2_32)
  have p51 : FP Z 51 4 7 .int := fp_mk F (C := RX4) (T := TX4) (N := 9) in_X4 tyX4_ok nmX4 rfl (by decide) rfl (List.mem_cons_of_mem _ fk_X2_51) rfl (by decide +kernel)
  have kl := kd_Log
  have ke := kd_ents
  have lo : ∀ i, i ≤ n → JJ Z (0, 0) (fam 7 3 i (fgF M ow) M) 2 [some (.ref ((zE Z).2.2 5)), some (.int ow), some (.int (nI i))] [] := by
    refine jj_loop (n) ?_ ?_
    · have e5 : (fam 7 3 n (fgF M ow) M).1 5 = M.1 5 := fam_out (fun j hj e => by omega)
      refine jj_iload_n F dX2_forgetRedoOf_2 rfl ?_
      refine jj_aload_n F dX2_forgetRedoOf_3 rfl ?_
      refine jj_geti F g17 (by assumption) (by rfl) dX2_forgetRedoOf_4 ?_
      rw [e5, hn]
      refine jj_icmp_ge F (tgt := 39) dX2_forgetRedoOf_7 (by decide) (fun _ => ?_) (fun h9 => absurd (nI_le (by omega) (by omega)) h9)
      exact ret _ _ _ dX2_forgetRedoOf_39 rfl
    · intro i hi ih
      have ko := kd_op i (by omega)
      have e5 : (fam 7 3 i (fgF M ow) M).1 5 = M.1 5 := fam_out (fun j hj e => by omega)
      have eo : (fam 7 3 i (fgF M ow) M).1 (7 + 3 * i) = M.1 (7 + 3 * i) := fam_at (by omega)
      refine jj_iload_n F dX2_forgetRedoOf_2 rfl ?_
      refine jj_aload_n F dX2_forgetRedoOf_3 rfl ?_
      refine jj_geti F g17 (by assumption) (by rfl) dX2_forgetRedoOf_4 ?_
      rw [e5, hn]
      refine jj_icmp_ge F (tgt := 39) dX2_forgetRedoOf_7 (by decide) (fun h9 => absurd h9 (nI_ge (by omega) (by omega))) (fun _ => ?_)
      refine jj_aload_n F dX2_forgetRedoOf_10 rfl ?_
      refine jj_getr F g11 (by assumption) (by rfl) dX2_forgetRedoOf_11 ?_
      refine jj_iload_n F dX2_forgetRedoOf_14 rfl ?_
      refine jj_aald F (by assumption) rfl (by omega) dX2_forgetRedoOf_15 ?_
      refine jj_geti F g32 (by assumption) (by rfl) dX2_forgetRedoOf_16 ?_
      rw [eo]
      refine jj_iload_n F dX2_forgetRedoOf_19 rfl ?_
      refine jj_icmp_ne F (tgt := 33) dX2_forgetRedoOf_20 (by decide) (fun h20 => ?_) (fun h20 => ?_)
      · refine jj_iinc F dX2_forgetRedoOf_33 rfl (by first | exact iinc1 _ | rfl) (by rw [hnl]; decide) ?_
        dsimp only [lq_st, lq_clr, lq_no]
        refine jj_goto F (tgt := 2) dX2_forgetRedoOf_36 (by decide) ?_
        first
        | (rw [eo, show upd (M.1 (7 + 3 * i)) 7 (nI 0) = fgF M ow i by simp [fgF, h20], fam_s (by omega)]; exact ih)
        | (rw [fam_skip (by omega) (by simp [fgF, h20])]; exact ih)
      · refine jj_aload_n F dX2_forgetRedoOf_23 rfl ?_
        refine jj_getr F g11 (by assumption) (by rfl) dX2_forgetRedoOf_24 ?_
        refine jj_iload_n F dX2_forgetRedoOf_27 rfl ?_
        refine jj_aald F (by assumption) rfl (by omega) dX2_forgetRedoOf_28 ?_
        refine jj_iconst F (v := nI 0) dX2_forgetRedoOf_29 (by decide) ?_
        refine jj_puti F p51 (by assumption) (by rfl) dX2_forgetRedoOf_30 ?_
        refine jj_iinc F dX2_forgetRedoOf_33 rfl (by first | exact iinc1 _ | rfl) (by rw [hnl]; decide) ?_
        dsimp only [lq_st, lq_clr, lq_no]
        refine jj_goto F (tgt := 2) dX2_forgetRedoOf_36 (by decide) ?_
        first
        | (rw [eo, show upd (M.1 (7 + 3 * i)) 7 (nI 0) = fgF M ow i by simp [fgF, h20], fam_s (by omega)]; exact ih)
        | (rw [fam_skip (by omega) (by simp [fgF, h20])]; exact ih)
  refine jj_iconst F (v := nI 0) dX2_forgetRedoOf_0 (by decide) ?_
  refine jj_istore_n F dX2_forgetRedoOf_1 (by rw [hnl]; decide) ?_
  dsimp only [lq_st, lq_clr, lq_no]
  refine jj_eqM (fam_0 7 3 (fgF M ow) M).symm ?_
  exact lo 0 (by omega)
set_option maxRecDepth 100000 in
set_option maxHeartbeats 4000000 in
theorem c_X2_begin {l : Launch} {E : Ee} {M : Mm} {so ow la ti : Int32} {n : Nat} (hn : M.1 5 1 = nI n) (h60 : n < 60) : CtR l E yX2_begin (.code yX2_begin cX2_begin 6 (some (.object "SharedBoard$Operation")) :: gl) ({ frames := 1, cells := 0, slots := 0, locals := 22 } : Room) M [.ref (E.2.2 5), .int so, .int ow, .int la, .int ti] 0 0 (fun u => u = (wA (wA (fam 7 3 n (fgF M ow) M) 5 (upd (M.1 5) 1 (nI (n + 1)))) (7 + 3 * n) (opN so ow la ti), 7 + 3 * n)) := by
  refine ctR_of (L0 := [some (.ref (E.2.2 5)), some (.int so), some (.int ow), some (.int la), some (.int ti), none]) ⟨_, rfl⟩ (by decide) rfl (Nat.le_of_ble_eq_true rfl) rfl ?_
  intro Z hl hE hnl F ret
  subst hE
  have in_X2 : ∀ w ∈ u_ws RX2 TX2 3, w ∈ (.code yX2_begin cX2_begin 6 (some (.object "SharedBoard$Operation")) :: gl) := fun w h => List.mem_cons_of_mem _ (lay_X2 w h)
  have in_X4 : ∀ w ∈ u_ws RX4 TX4 9, w ∈ (.code yX2_begin cX2_begin 6 (some (.object "SharedBoard$Operation")) :: gl) := fun w h => List.mem_cons_of_mem _ (lay_X4 w h)
  have g11 : FG Z 11 2 0 := fg_mk F (C := RX2) (T := TX2) (N := 3) in_X2 rfl (by decide) rfl (List.mem_cons_of_mem _ fk_X2_11)
  have g17 : FG Z 17 2 1 := fg_mk F (C := RX2) (T := TX2) (N := 3) in_X2 rfl (by decide) rfl (List.mem_cons_of_mem _ fk_X2_17)
  have p17 : FP Z 17 2 1 .int := fp_mk F (C := RX2) (T := TX2) (N := 3) in_X2 tyX2_ok nmX2 rfl (by decide) rfl (List.mem_cons_of_mem _ fk_X2_17) rfl (by decide +kernel)
  have p29 : FP Z 29 4 0 .int := fp_mk F (C := RX4) (T := TX4) (N := 9) in_X4 tyX4_ok nmX4 rfl (by decide) rfl (List.mem_cons_of_mem _ fk_X2_29) rfl (by decide +kernel)
  have p32 : FP Z 32 4 1 .int := fp_mk F (C := RX4) (T := TX4) (N := 9) in_X4 tyX4_ok nmX4 rfl (by decide) rfl (List.mem_cons_of_mem _ fk_X2_32) rfl (by decide +kernel)
  have p35 : FP Z 35 4 2 .int := fp_mk F (C := RX4) (T := TX4) (N := 9) in_X4 tyX4_ok nmX4 rfl (by decide) rfl (List.mem_cons_of_mem _ fk_X2_35) rfl (by decide +kernel)
  have p38 : FP Z 38 4 3 .int := fp_mk F (C := RX4) (T := TX4) (N := 9) in_X4 tyX4_ok nmX4 rfl (by decide) rfl (List.mem_cons_of_mem _ fk_X2_38) rfl (by decide +kernel)
  have p41 : FP Z 41 4 4 .int := fp_mk F (C := RX4) (T := TX4) (N := 9) in_X4 tyX4_ok nmX4 rfl (by decide) rfl (List.mem_cons_of_mem _ fk_X2_41) rfl (by decide +kernel)
  have p44 : FP Z 44 4 5 .int := fp_mk F (C := RX4) (T := TX4) (N := 9) in_X4 tyX4_ok nmX4 rfl (by decide) rfl (List.mem_cons_of_mem _ fk_X2_44) rfl (by decide +kernel)
  have p47 : FP Z 47 4 6 .boolean := fp_mk F (C := RX4) (T := TX4) (N := 9) in_X4 tyX4_ok nmX4 rfl (by decide) rfl (List.mem_cons_of_mem _ fk_X2_47) rfl (by decide +kernel)
  have p51 : FP Z 51 4 7 .int := fp_mk F (C := RX4) (T := TX4) (N := 9) in_X4 tyX4_ok nmX4 rfl (by decide) rfl (List.mem_cons_of_mem _ fk_X2_51) rfl (by decide +kernel)
  have kl := kd_Log
  have ke := kd_ents
  refine jj_aload_n F dX2_begin_0 rfl ?_
  refine jj_iload_n F dX2_begin_1 rfl ?_
  refine jj_callVv (na := 1) F (c_X2_forgetRedoOf hn (by omega)) (gl_V mk_X2_25 vw_X2_forgetRedoOf) rfl rfl rfl (by decide +kernel) ⟨Nat.le_of_ble_eq_true rfl, Nat.le_of_ble_eq_true rfl⟩ (by assumption) rfl rfl rfl (Nat.le_of_ble_eq_true rfl) ⟨Nat.le_of_ble_eq_true rfl, Nat.le_of_ble_eq_true rfl⟩ dX2_begin_2 (fun M2 hp2 => ?_)
  obtain rfl := hp2.symm
  have e5 : (fam 7 3 n (fgF M ow) M).1 5 = M.1 5 := fam_out (fun j hj e => by omega)
  have ko := kd_op n (by omega)
  refine jj_aload_n F dX2_begin_5 rfl ?_
  refine jj_getr F g11 (by assumption) (by rfl) dX2_begin_6 ?_
  refine jj_aload_n F dX2_begin_9 rfl ?_
  refine jj_geti F g17 (by assumption) (by rfl) dX2_begin_10 ?_
  rw [e5, hn]
  refine jj_aald F (by assumption) rfl (by omega) dX2_begin_13 ?_
  refine jj_astore F dX2_begin_14 (by rw [hnl]; decide) ?_
  dsimp only [lq_st, lq_clr, lq_no]
  refine jj_aload_n F dX2_begin_16 rfl ?_
  refine jj_dup F dX2_begin_17 rfl ?_
  refine jj_geti F g17 (by assumption) (by rfl) dX2_begin_18 ?_
  refine jj_iconst F (v := nI 1) dX2_begin_21 (by decide) ?_
  refine jj_iadd F dX2_begin_22 ?_
  refine jj_puti F p17 (by assumption) (by rfl) dX2_begin_23 ?_
  refine jj_aload F dX2_begin_26 rfl ?_
  refine jj_iload_n F dX2_begin_28 rfl ?_
  refine jj_puti F p29 (by assumption) (by rfl) dX2_begin_29 ?_
  refine jj_aload F dX2_begin_32 rfl ?_
  refine jj_iload_n F dX2_begin_34 rfl ?_
  refine jj_puti F p32 (by assumption) (by rfl) dX2_begin_35 ?_
  refine jj_aload F dX2_begin_38 rfl ?_
  refine jj_iload_n F dX2_begin_40 rfl ?_
  refine jj_puti F p35 (by assumption) (by rfl) dX2_begin_41 ?_
  refine jj_aload F dX2_begin_44 rfl ?_
  refine jj_iconst F (v := nI 0) dX2_begin_46 (by decide) ?_
  refine jj_puti F p38 (by assumption) (by rfl) dX2_begin_47 ?_
  refine jj_aload F dX2_begin_50 rfl ?_
  refine jj_iconst F (v := nI 0) dX2_begin_52 (by decide) ?_
  refine jj_puti F p41 (by assumption) (by rfl) dX2_begin_53 ?_
  refine jj_aload F dX2_begin_56 rfl ?_
  refine jj_iload F dX2_begin_58 rfl ?_
  refine jj_puti F p44 (by assumption) (by rfl) dX2_begin_60 ?_
  refine jj_aload F dX2_begin_63 rfl ?_
  refine jj_iconst F (v := nI 1) dX2_begin_65 (by decide) ?_
  refine jj_putz F p47 (by assumption) (by rfl) (by first | exact Or.inl rfl | exact Or.inr rfl | assumption) dX2_begin_66 ?_
  refine jj_aload F dX2_begin_69 rfl ?_
  refine jj_iconst F (v := nI 0) dX2_begin_71 (by decide) ?_
  refine jj_puti F p51 (by assumption) (by rfl) dX2_begin_72 ?_
  refine jj_eqv (M2 := wA (wA (fam 7 3 n (fgF M ow) M) 5 (upd (M.1 5) 1 (nI (n + 1)))) (7 + 3 * n) (opN so ow la ti)) ?_ ?_
  · simp only [wA_wA, wA_s]
    rw [e5, hn, nI_add]
    refine meq_ob ko (fun j hj => ?_)
    have hj2 : j < 8 := (op_meq j hj).resolve_right (by omega)
    rcases (show j = 0 ∨ j = 1 ∨ j = 2 ∨ j = 3 ∨ j = 4 ∨ j = 5 ∨ j = 6 ∨ j = 7 by omega) with rfl | rfl | rfl | rfl | rfl | rfl | rfl | rfl <;> simp [upd, opN]
  refine jj_aload F dX2_begin_75 rfl ?_
  exact ret _ _ _ _ dX2_begin_77 rfl
set_option maxRecDepth 100000 in
set_option maxHeartbeats 4000000 in
theorem c_X2_operationsOf {l : Launch} {E : Ee} {M : Mm} {ow : Int32} {n : Nat} (hn : M.1 5 1 = nI n) (h60 : n ≤ 60) : CtI l E yX2_operationsOf (.code yX2_operationsOf cX2_operationsOf 4 (some .int) :: gl) ({ frames := 0, cells := 0, slots := 0, locals := 0 } : Room) M [.ref (E.2.2 5), .int ow] 0 0 (fun r M2 => r = nI (fb_ct (fun j => decide (M.1 (7 + 3 * j) 1 = ow)) n) ∧ M2 = M) := by
  refine ctI_of (L0 := [some (.ref (E.2.2 5)), some (.int ow), none, none]) (by decide) rfl (Nat.le_of_ble_eq_true rfl) rfl ?_
  intro Z hl hE hnl F ret
  subst hE
  have in_X2 : ∀ w ∈ u_ws RX2 TX2 3, w ∈ (.code yX2_operationsOf cX2_operationsOf 4 (some .int) :: gl) := fun w h => List.mem_cons_of_mem _ (lay_X2 w h)
  have in_X4 : ∀ w ∈ u_ws RX4 TX4 9, w ∈ (.code yX2_operationsOf cX2_operationsOf 4 (some .int) :: gl) := fun w h => List.mem_cons_of_mem _ (lay_X4 w h)
  have g11 : FG Z 11 2 0 := fg_mk F (C := RX2) (T := TX2) (N := 3) in_X2 rfl (by decide) rfl (List.mem_cons_of_mem _ fk_X2_11)
  have g17 : FG Z 17 2 1 := fg_mk F (C := RX2) (T := TX2) (N := 3) in_X2 rfl (by decide) rfl (List.mem_cons_of_mem _ fk_X2_17)
  have g32 : FG Z 32 4 1 := fg_mk F (C := RX4) (T := TX4) (N := 9) in_X4 rfl (by decide) rfl (List.mem_cons_of_mem _ fk_X2_32)
  have kl := kd_Log
  have ke := kd_ents
  have lo : ∀ i, i ≤ n → JJ Z (0, 0) (M) 4 [some (.ref ((zE Z).2.2 5)), some (.int ow), some (.int (nI (fb_ct (fun j => decide (M.1 (7 + 3 * j) 1 = ow)) i))), some (.int (nI i))] [] := by
    refine jj_loop (n) ?_ ?_
    · refine jj_iload_n F dX2_operationsOf_4 rfl ?_
      refine jj_aload_n F dX2_operationsOf_5 rfl ?_
      refine jj_geti F g17 (by assumption) (by rfl) dX2_operationsOf_6 ?_
      rw [hn]
      refine jj_icmp_ge F (tgt := 34) dX2_operationsOf_9 (by decide) (fun _ => ?_) (fun h9 => absurd (nI_le (by omega) (by omega)) h9)
      refine jj_iload_n F dX2_operationsOf_34 rfl ?_
      exact ret _ _ _ _ dX2_operationsOf_35 rfl ⟨rfl, rfl⟩
    · intro i hi ih
      have ko := kd_op i (by omega)
      refine jj_iload_n F dX2_operationsOf_4 rfl ?_
      refine jj_aload_n F dX2_operationsOf_5 rfl ?_
      refine jj_geti F g17 (by assumption) (by rfl) dX2_operationsOf_6 ?_
      rw [hn]
      refine jj_icmp_ge F (tgt := 34) dX2_operationsOf_9 (by decide) (fun h9 => absurd h9 (nI_ge (by omega) (by omega))) (fun _ => ?_)
      refine jj_aload_n F dX2_operationsOf_12 rfl ?_
      refine jj_getr F g11 (by assumption) (by rfl) dX2_operationsOf_13 ?_
      refine jj_iload_n F dX2_operationsOf_16 rfl ?_
      refine jj_aald F (by assumption) rfl (by omega) dX2_operationsOf_17 ?_
      refine jj_geti F g32 (by assumption) (by rfl) dX2_operationsOf_18 ?_
      refine jj_iload_n F dX2_operationsOf_21 rfl ?_
      refine jj_icmp_ne F (tgt := 28) dX2_operationsOf_22 (by decide) (fun h22 => ?_) (fun h22 => ?_)
      · refine jj_iinc F dX2_operationsOf_28 rfl (by first | exact iinc1 _ | rfl) (by rw [hnl]; decide) ?_
        dsimp only [lq_st, lq_clr, lq_no]
        refine jj_goto F (tgt := 4) dX2_operationsOf_31 (by decide) ?_
        refine jj_eqL ?_ ih
        first
        | (simp [fb_ct, h22]; done)
      · refine jj_iinc F dX2_operationsOf_25 rfl (by first | exact iinc1 _ | rfl) (by rw [hnl]; decide) ?_
        dsimp only [lq_st, lq_clr, lq_no]
        refine jj_iinc F dX2_operationsOf_28 rfl (by first | exact iinc1 _ | rfl) (by rw [hnl]; decide) ?_
        dsimp only [lq_st, lq_clr, lq_no]
        refine jj_goto F (tgt := 4) dX2_operationsOf_31 (by decide) ?_
        refine jj_eqL ?_ ih
        first
        | (simp [fb_ct, h22]; done)
  refine jj_iconst F (v := nI 0) dX2_operationsOf_0 (by decide) ?_
  refine jj_istore_n F dX2_operationsOf_1 (by rw [hnl]; decide) ?_
  dsimp only [lq_st, lq_clr, lq_no]
  refine jj_iconst F (v := nI 0) dX2_operationsOf_2 (by decide) ?_
  refine jj_istore_n F dX2_operationsOf_3 (by rw [hnl]; decide) ?_
  dsimp only [lq_st, lq_clr, lq_no]
  exact lo 0 (by omega)
set_option maxRecDepth 100000 in
set_option maxHeartbeats 4000000 in
theorem c_X2_activeOf {l : Launch} {E : Ee} {M : Mm} {ow : Int32} {n : Nat} (hn : M.1 5 1 = nI n) (h60 : n ≤ 60) : CtI l E yX2_activeOf (.code yX2_activeOf cX2_activeOf 4 (some .int) :: gl) ({ frames := 0, cells := 0, slots := 0, locals := 0 } : Room) M [.ref (E.2.2 5), .int ow] 0 0 (fun r M2 => r = nI (fb_ct (fun j => decide (M.1 (7 + 3 * j) 1 = ow) && !decide (M.1 (7 + 3 * j) 6 = 0)) n) ∧ M2 = M) := by
  refine ctI_of (L0 := [some (.ref (E.2.2 5)), some (.int ow), none, none]) (by decide) rfl (Nat.le_of_ble_eq_true rfl) rfl ?_
  intro Z hl hE hnl F ret
  subst hE
  have in_X2 : ∀ w ∈ u_ws RX2 TX2 3, w ∈ (.code yX2_activeOf cX2_activeOf 4 (some .int) :: gl) := fun w h => List.mem_cons_of_mem _ (lay_X2 w h)
  have in_X4 : ∀ w ∈ u_ws RX4 TX4 9, w ∈ (.code yX2_activeOf cX2_activeOf 4 (some .int) :: gl) := fun w h => List.mem_cons_of_mem _ (lay_X4 w h)
  have g11 : FG Z 11 2 0 := fg_mk F (C := RX2) (T := TX2) (N := 3) in_X2 rfl (by decide) rfl (List.mem_cons_of_mem _ fk_X2_11)
  have g17 : FG Z 17 2 1 := fg_mk F (C := RX2) (T := TX2) (N := 3) in_X2 rfl (by decide) rfl (List.mem_cons_of_mem _ fk_X2_17)
  have g32 : FG Z 32 4 1 := fg_mk F (C := RX4) (T := TX4) (N := 9) in_X4 rfl (by decide) rfl (List.mem_cons_of_mem _ fk_X2_32)
  have g47 : FG Z 47 4 6 := fg_mk F (C := RX4) (T := TX4) (N := 9) in_X4 rfl (by decide) rfl (List.mem_cons_of_mem _ fk_X2_47)
  have kl := kd_Log
  have ke := kd_ents
  have lo : ∀ i, i ≤ n → JJ Z (0, 0) (M) 4 [some (.ref ((zE Z).2.2 5)), some (.int ow), some (.int (nI (fb_ct (fun j => decide (M.1 (7 + 3 * j) 1 = ow) && !decide (M.1 (7 + 3 * j) 6 = 0)) i))), some (.int (nI i))] [] := by
    refine jj_loop (n) ?_ ?_
    · refine jj_iload_n F dX2_activeOf_4 rfl ?_
      refine jj_aload_n F dX2_activeOf_5 rfl ?_
      refine jj_geti F g17 (by assumption) (by rfl) dX2_activeOf_6 ?_
      rw [hn]
      refine jj_icmp_ge F (tgt := 46) dX2_activeOf_9 (by decide) (fun _ => ?_) (fun h9 => absurd (nI_le (by omega) (by omega)) h9)
      refine jj_iload_n F dX2_activeOf_46 rfl ?_
      exact ret _ _ _ _ dX2_activeOf_47 rfl ⟨rfl, rfl⟩
    · intro i hi ih
      have ko := kd_op i (by omega)
      refine jj_iload_n F dX2_activeOf_4 rfl ?_
      refine jj_aload_n F dX2_activeOf_5 rfl ?_
      refine jj_geti F g17 (by assumption) (by rfl) dX2_activeOf_6 ?_
      rw [hn]
      refine jj_icmp_ge F (tgt := 46) dX2_activeOf_9 (by decide) (fun h9 => absurd h9 (nI_ge (by omega) (by omega))) (fun _ => ?_)
      refine jj_aload_n F dX2_activeOf_12 rfl ?_
      refine jj_getr F g11 (by assumption) (by rfl) dX2_activeOf_13 ?_
      refine jj_iload_n F dX2_activeOf_16 rfl ?_
      refine jj_aald F (by assumption) rfl (by omega) dX2_activeOf_17 ?_
      refine jj_geti F g32 (by assumption) (by rfl) dX2_activeOf_18 ?_
      refine jj_iload_n F dX2_activeOf_21 rfl ?_
      refine jj_icmp_ne F (tgt := 40) dX2_activeOf_22 (by decide) (fun h22 => ?_) (fun h22 => ?_)
      · refine jj_iinc F dX2_activeOf_40 rfl (by first | exact iinc1 _ | rfl) (by rw [hnl]; decide) ?_
        dsimp only [lq_st, lq_clr, lq_no]
        refine jj_goto F (tgt := 4) dX2_activeOf_43 (by decide) ?_
        refine jj_eqL ?_ ih
        first
        | (simp [fb_ct, h22]; done)
        | (simp [fb_ct, h22, h34]; done)
      · refine jj_aload_n F dX2_activeOf_25 rfl ?_
        refine jj_getr F g11 (by assumption) (by rfl) dX2_activeOf_26 ?_
        refine jj_iload_n F dX2_activeOf_29 rfl ?_
        refine jj_aald F (by assumption) rfl (by omega) dX2_activeOf_30 ?_
        refine jj_geti F g47 (by assumption) (by rfl) dX2_activeOf_31 ?_
        refine jj_if_eq F (tgt := 40) dX2_activeOf_34 (by decide) (fun h34 => ?_) (fun h34 => ?_)
        · refine jj_iinc F dX2_activeOf_40 rfl (by first | exact iinc1 _ | rfl) (by rw [hnl]; decide) ?_
          dsimp only [lq_st, lq_clr, lq_no]
          refine jj_goto F (tgt := 4) dX2_activeOf_43 (by decide) ?_
          refine jj_eqL ?_ ih
          first
          | (simp [fb_ct, h22]; done)
          | (simp [fb_ct, h22, h34]; done)
        · refine jj_iinc F dX2_activeOf_37 rfl (by first | exact iinc1 _ | rfl) (by rw [hnl]; decide) ?_
          dsimp only [lq_st, lq_clr, lq_no]
          refine jj_iinc F dX2_activeOf_40 rfl (by first | exact iinc1 _ | rfl) (by rw [hnl]; decide) ?_
          dsimp only [lq_st, lq_clr, lq_no]
          refine jj_goto F (tgt := 4) dX2_activeOf_43 (by decide) ?_
          refine jj_eqL ?_ ih
          first
          | (simp [fb_ct, h22]; done)
          | (simp [fb_ct, h22, h34]; done)
  refine jj_iconst F (v := nI 0) dX2_activeOf_0 (by decide) ?_
  refine jj_istore_n F dX2_activeOf_1 (by rw [hnl]; decide) ?_
  dsimp only [lq_st, lq_clr, lq_no]
  refine jj_iconst F (v := nI 0) dX2_activeOf_2 (by decide) ?_
  refine jj_istore_n F dX2_activeOf_3 (by rw [hnl]; decide) ?_
  dsimp only [lq_st, lq_clr, lq_no]
  exact lo 0 (by omega)
set_option maxRecDepth 100000 in
set_option maxHeartbeats 4000000 in
theorem c_X2_redoableOf {l : Launch} {E : Ee} {M : Mm} {ow : Int32} {n : Nat} (hn : M.1 5 1 = nI n) (h60 : n ≤ 60) : CtI l E yX2_redoableOf (.code yX2_redoableOf cX2_redoableOf 4 (some .int) :: gl) ({ frames := 0, cells := 0, slots := 0, locals := 0 } : Room) M [.ref (E.2.2 5), .int ow] 0 0 (fun r M2 => r = nI (fb_ct (fun j => decide (M.1 (7 + 3 * j) 1 = ow) && !decide (M.1 (7 + 3 * j) 7 ≤ 0)) n) ∧ M2 = M) := by
  refine ctI_of (L0 := [some (.ref (E.2.2 5)), some (.int ow), none, none]) (by decide) rfl (Nat.le_of_ble_eq_true rfl) rfl ?_
  intro Z hl hE hnl F ret
  subst hE
  have in_X2 : ∀ w ∈ u_ws RX2 TX2 3, w ∈ (.code yX2_redoableOf cX2_redoableOf 4 (some .int) :: gl) := fun w h => List.mem_cons_of_mem _ (lay_X2 w h)
  have in_X4 : ∀ w ∈ u_ws RX4 TX4 9, w ∈ (.code yX2_redoableOf cX2_redoableOf 4 (some .int) :: gl) := fun w h => List.mem_cons_of_mem _ (lay_X4 w h)
  have g11 : FG Z 11 2 0 := fg_mk F (C := RX2) (T := TX2) (N := 3) in_X2 rfl (by decide) rfl (List.mem_cons_of_mem _ fk_X2_11)
  have g17 : FG Z 17 2 1 := fg_mk F (C := RX2) (T := TX2) (N := 3) in_X2 rfl (by decide) rfl (List.mem_cons_of_mem _ fk_X2_17)
  have g32 : FG Z 32 4 1 := fg_mk F (C := RX4) (T := TX4) (N := 9) in_X4 rfl (by decide) rfl (List.mem_cons_of_mem _ fk_X2_32)
  have g51 : FG Z 51 4 7 := fg_mk F (C := RX4) (T := TX4) (N := 9) in_X4 rfl (by decide) rfl (List.mem_cons_of_mem _ fk_X2_51)
  have kl := kd_Log
  have ke := kd_ents
  have lo : ∀ i, i ≤ n → JJ Z (0, 0) (M) 4 [some (.ref ((zE Z).2.2 5)), some (.int ow), some (.int (nI (fb_ct (fun j => decide (M.1 (7 + 3 * j) 1 = ow) && !decide (M.1 (7 + 3 * j) 7 ≤ 0)) i))), some (.int (nI i))] [] := by
    refine jj_loop (n) ?_ ?_
    · refine jj_iload_n F dX2_redoableOf_4 rfl ?_
      refine jj_aload_n F dX2_redoableOf_5 rfl ?_
      refine jj_geti F g17 (by assumption) (by rfl) dX2_redoableOf_6 ?_
      rw [hn]
      refine jj_icmp_ge F (tgt := 46) dX2_redoableOf_9 (by decide) (fun _ => ?_) (fun h9 => absurd (nI_le (by omega) (by omega)) h9)
      refine jj_iload_n F dX2_redoableOf_46 rfl ?_
      exact ret _ _ _ _ dX2_redoableOf_47 rfl ⟨rfl, rfl⟩
    · intro i hi ih
      have ko := kd_op i (by omega)
      refine jj_iload_n F dX2_redoableOf_4 rfl ?_
      refine jj_aload_n F dX2_redoableOf_5 rfl ?_
      refine jj_geti F g17 (by assumption) (by rfl) dX2_redoableOf_6 ?_
      rw [hn]
      refine jj_icmp_ge F (tgt := 46) dX2_redoableOf_9 (by decide) (fun h9 => absurd h9 (nI_ge (by omega) (by omega))) (fun _ => ?_)
      refine jj_aload_n F dX2_redoableOf_12 rfl ?_
      refine jj_getr F g11 (by assumption) (by rfl) dX2_redoableOf_13 ?_
      refine jj_iload_n F dX2_redoableOf_16 rfl ?_
      refine jj_aald F (by assumption) rfl (by omega) dX2_redoableOf_17 ?_
      refine jj_geti F g32 (by assumption) (by rfl) dX2_redoableOf_18 ?_
      refine jj_iload_n F dX2_redoableOf_21 rfl ?_
      refine jj_icmp_ne F (tgt := 40) dX2_redoableOf_22 (by decide) (fun h22 => ?_) (fun h22 => ?_)
      · refine jj_iinc F dX2_redoableOf_40 rfl (by first | exact iinc1 _ | rfl) (by rw [hnl]; decide) ?_
        dsimp only [lq_st, lq_clr, lq_no]
        refine jj_goto F (tgt := 4) dX2_redoableOf_43 (by decide) ?_
        refine jj_eqL ?_ ih
        first
        | (simp [fb_ct, h22]; done)
        | (simp [fb_ct, h22, h34]; done)
      · refine jj_aload_n F dX2_redoableOf_25 rfl ?_
        refine jj_getr F g11 (by assumption) (by rfl) dX2_redoableOf_26 ?_
        refine jj_iload_n F dX2_redoableOf_29 rfl ?_
        refine jj_aald F (by assumption) rfl (by omega) dX2_redoableOf_30 ?_
        refine jj_geti F g51 (by assumption) (by rfl) dX2_redoableOf_31 ?_
        refine jj_if_le F (tgt := 40) dX2_redoableOf_34 (by decide) (fun h34 => ?_) (fun h34 => ?_)
        · refine jj_iinc F dX2_redoableOf_40 rfl (by first | exact iinc1 _ | rfl) (by rw [hnl]; decide) ?_
          dsimp only [lq_st, lq_clr, lq_no]
          refine jj_goto F (tgt := 4) dX2_redoableOf_43 (by decide) ?_
          refine jj_eqL ?_ ih
          first
          | (simp [fb_ct, h22]; done)
          | (simp [fb_ct, h22, h34]; done)
        · refine jj_iinc F dX2_redoableOf_37 rfl (by first | exact iinc1 _ | rfl) (by rw [hnl]; decide) ?_
          dsimp only [lq_st, lq_clr, lq_no]
          refine jj_iinc F dX2_redoableOf_40 rfl (by first | exact iinc1 _ | rfl) (by rw [hnl]; decide) ?_
          dsimp only [lq_st, lq_clr, lq_no]
          refine jj_goto F (tgt := 4) dX2_redoableOf_43 (by decide) ?_
          refine jj_eqL ?_ ih
          first
          | (simp [fb_ct, h22]; done)
          | (simp [fb_ct, h22, h34]; done)
  refine jj_iconst F (v := nI 0) dX2_redoableOf_0 (by decide) ?_
  refine jj_istore_n F dX2_redoableOf_1 (by rw [hnl]; decide) ?_
  dsimp only [lq_st, lq_clr, lq_no]
  refine jj_iconst F (v := nI 0) dX2_redoableOf_2 (by decide) ?_
  refine jj_istore_n F dX2_redoableOf_3 (by rw [hnl]; decide) ?_
  dsimp only [lq_st, lq_clr, lq_no]
  exact lo 0 (by omega)
set_option maxRecDepth 100000 in
set_option maxHeartbeats 4000000 in
theorem c_X2_latestActive {l : Launch} {E : Ee} {M : Mm} {ow : Int32} {n : Nat} (hn : M.1 5 1 = nI n) (h60 : n ≤ 60) : CtI l E yX2_latestActive (.code yX2_latestActive cX2_latestActive 4 (some .int) :: gl) ({ frames := 0, cells := 0, slots := 0, locals := 0 } : Room) M [.ref (E.2.2 5), .int ow] 0 0 (fun r M2 => r = ltF M ow n ∧ M2 = M) := by
  refine ctI_of (L0 := [some (.ref (E.2.2 5)), some (.int ow), none, none]) (by decide) rfl (Nat.le_of_ble_eq_true rfl) rfl ?_
  intro Z hl hE hnl F ret
  subst hE
  have in_X2 : ∀ w ∈ u_ws RX2 TX2 3, w ∈ (.code yX2_latestActive cX2_latestActive 4 (some .int) :: gl) := fun w h => List.mem_cons_of_mem _ (lay_X2 w h)
  have in_X4 : ∀ w ∈ u_ws RX4 TX4 9, w ∈ (.code yX2_latestActive cX2_latestActive 4 (some .int) :: gl) := fun w h => List.mem_cons_of_mem _ (lay_X4 w h)
  have g11 : FG Z 11 2 0 := fg_mk F (C := RX2) (T := TX2) (N := 3) in_X2 rfl (by decide) rfl (List.mem_cons_of_mem _ fk_X2_11)
  have g17 : FG Z 17 2 1 := fg_mk F (C := RX2) (T := TX2) (N := 3) in_X2 rfl (by decide) rfl (List.mem_cons_of_mem _ fk_X2_17)
  have g32 : FG Z 32 4 1 := fg_mk F (C := RX4) (T := TX4) (N := 9) in_X4 rfl (by decide) rfl (List.mem_cons_of_mem _ fk_X2_32)
  have g47 : FG Z 47 4 6 := fg_mk F (C := RX4) (T := TX4) (N := 9) in_X4 rfl (by decide) rfl (List.mem_cons_of_mem _ fk_X2_47)
  have kl := kd_Log
  have ke := kd_ents
  have lo : ∀ i, i ≤ n → JJ Z (0, 0) (M) 4 [some (.ref ((zE Z).2.2 5)), some (.int ow), some (.int (ltF M ow i)), some (.int (nI i))] [] := by
    refine jj_loop (n) ?_ ?_
    · refine jj_iload_n F dX2_latestActive_4 rfl ?_
      refine jj_aload_n F dX2_latestActive_5 rfl ?_
      refine jj_geti F g17 (by assumption) (by rfl) dX2_latestActive_6 ?_
      rw [hn]
      refine jj_icmp_ge F (tgt := 45) dX2_latestActive_9 (by decide) (fun _ => ?_) (fun h9 => absurd (nI_le (by omega) (by omega)) h9)
      refine jj_iload_n F dX2_latestActive_45 rfl ?_
      exact ret _ _ _ _ dX2_latestActive_46 rfl ⟨rfl, rfl⟩
    · intro i hi ih
      have ko := kd_op i (by omega)
      refine jj_iload_n F dX2_latestActive_4 rfl ?_
      refine jj_aload_n F dX2_latestActive_5 rfl ?_
      refine jj_geti F g17 (by assumption) (by rfl) dX2_latestActive_6 ?_
      rw [hn]
      refine jj_icmp_ge F (tgt := 45) dX2_latestActive_9 (by decide) (fun h9 => absurd h9 (nI_ge (by omega) (by omega))) (fun _ => ?_)
      refine jj_aload_n F dX2_latestActive_12 rfl ?_
      refine jj_getr F g11 (by assumption) (by rfl) dX2_latestActive_13 ?_
      refine jj_iload_n F dX2_latestActive_16 rfl ?_
      refine jj_aald F (by assumption) rfl (by omega) dX2_latestActive_17 ?_
      refine jj_geti F g47 (by assumption) (by rfl) dX2_latestActive_18 ?_
      refine jj_if_eq F (tgt := 39) dX2_latestActive_21 (by decide) (fun h21 => ?_) (fun h21 => ?_)
      · refine jj_iinc F dX2_latestActive_39 rfl (by first | exact iinc1 _ | rfl) (by rw [hnl]; decide) ?_
        dsimp only [lq_st, lq_clr, lq_no]
        refine jj_goto F (tgt := 4) dX2_latestActive_42 (by decide) ?_
        refine jj_eqL ?_ ih
        first
        | (simp [ltF, h21]; done)
        | (simp [ltF, h21, h34]; done)
      · refine jj_aload_n F dX2_latestActive_24 rfl ?_
        refine jj_getr F g11 (by assumption) (by rfl) dX2_latestActive_25 ?_
        refine jj_iload_n F dX2_latestActive_28 rfl ?_
        refine jj_aald F (by assumption) rfl (by omega) dX2_latestActive_29 ?_
        refine jj_geti F g32 (by assumption) (by rfl) dX2_latestActive_30 ?_
        refine jj_iload_n F dX2_latestActive_33 rfl ?_
        refine jj_icmp_ne F (tgt := 39) dX2_latestActive_34 (by decide) (fun h34 => ?_) (fun h34 => ?_)
        · refine jj_iinc F dX2_latestActive_39 rfl (by first | exact iinc1 _ | rfl) (by rw [hnl]; decide) ?_
          dsimp only [lq_st, lq_clr, lq_no]
          refine jj_goto F (tgt := 4) dX2_latestActive_42 (by decide) ?_
          refine jj_eqL ?_ ih
          first
          | (simp [ltF, h21]; done)
          | (simp [ltF, h21, h34]; done)
        · refine jj_iload_n F dX2_latestActive_37 rfl ?_
          refine jj_istore_n F dX2_latestActive_38 (by rw [hnl]; decide) ?_
          dsimp only [lq_st, lq_clr, lq_no]
          refine jj_iinc F dX2_latestActive_39 rfl (by first | exact iinc1 _ | rfl) (by rw [hnl]; decide) ?_
          dsimp only [lq_st, lq_clr, lq_no]
          refine jj_goto F (tgt := 4) dX2_latestActive_42 (by decide) ?_
          refine jj_eqL ?_ ih
          first
          | (simp [ltF, h21]; done)
          | (simp [ltF, h21, h34]; done)
  refine jj_iconst F (v := -1) dX2_latestActive_0 (by decide) ?_
  refine jj_istore_n F dX2_latestActive_1 (by rw [hnl]; decide) ?_
  dsimp only [lq_st, lq_clr, lq_no]
  refine jj_iconst F (v := nI 0) dX2_latestActive_2 (by decide) ?_
  refine jj_istore_n F dX2_latestActive_3 (by rw [hnl]; decide) ?_
  dsimp only [lq_st, lq_clr, lq_no]
  exact lo 0 (by omega)
theorem less5 (a b c d e f : Option Value) : ∀ (i : Nat) (v : Value), ([a, b, c, d, e, none] : List (Option Value))[i]? = some (some v) → ([a, b, c, d, e, f] : List (Option Value))[i]? = some (some v)
  | 0, _, h => h
  | 1, _, h => h
  | 2, _, h => h
  | 3, _, h => h
  | 4, _, h => h
  | 5, _, h => by simp at h
  | n + 6, _, h => by simp at h
set_option maxRecDepth 100000 in
set_option maxHeartbeats 4000000 in
theorem c_X2_lastUndone {l : Launch} {E : Ee} {M : Mm} {ow : Int32} {n : Nat} (hn : M.1 5 1 = nI n) (h60 : n ≤ 60) : CtI l E yX2_lastUndone (.code yX2_lastUndone cX2_lastUndone 6 (some .int) :: gl) ({ frames := 0, cells := 0, slots := 0, locals := 0 } : Room) M [.ref (E.2.2 5), .int ow] 0 0 (fun r M2 => r = (luF M ow n).1 ∧ M2 = M) := by
  refine ctI_of (L0 := [some (.ref (E.2.2 5)), some (.int ow), none, none, none, none]) (by decide) rfl (Nat.le_of_ble_eq_true rfl) rfl ?_
  intro Z hl hE hnl F ret
  subst hE
  have in_X2 : ∀ w ∈ u_ws RX2 TX2 3, w ∈ (.code yX2_lastUndone cX2_lastUndone 6 (some .int) :: gl) := fun w h => List.mem_cons_of_mem _ (lay_X2 w h)
  have in_X4 : ∀ w ∈ u_ws RX4 TX4 9, w ∈ (.code yX2_lastUndone cX2_lastUndone 6 (some .int) :: gl) := fun w h => List.mem_cons_of_mem _ (lay_X4 w h)
  have g11 : FG Z 11 2 0 := fg_mk F (C := RX2) (T := TX2) (N := 3) in_X2 rfl (by decide) rfl (List.mem_cons_of_mem _ fk_X2_11)
  have g17 : FG Z 17 2 1 := fg_mk F (C := RX2) (T := TX2) (N := 3) in_X2 rfl (by decide) rfl (List.mem_cons_of_mem _ fk_X2_17)
  have g32 : FG Z 32 4 1 := fg_mk F (C := RX4) (T := TX4) (N := 9) in_X4 rfl (by decide) rfl (List.mem_cons_of_mem _ fk_X2_32)
  have g51 : FG Z 51 4 7 := fg_mk F (C := RX4) (T := TX4) (N := 9) in_X4 rfl (by decide) rfl (List.mem_cons_of_mem _ fk_X2_51)
  have kl := kd_Log
  have ke := kd_ents
  have lo : ∀ i, i ≤ n → JJ Z (0, 0) (M) 7 [some (.ref ((zE Z).2.2 5)), some (.int ow), some (.int (luF M ow i).1), some (.int (luF M ow i).2), some (.int (nI i)), none] [] := by
    refine jj_loop (n) ?_ ?_
    · refine jj_iload F dX2_lastUndone_7 rfl ?_
      refine jj_aload_n F dX2_lastUndone_9 rfl ?_
      refine jj_geti F g17 (by assumption) (by rfl) dX2_lastUndone_10 ?_
      rw [hn]
      refine jj_icmp_ge F (tgt := 58) dX2_lastUndone_13 (by decide) (fun _ => ?_) (fun h9 => absurd (nI_le (by omega) (by omega)) h9)
      refine jj_iload_n F dX2_lastUndone_58 rfl ?_
      exact ret _ _ _ _ dX2_lastUndone_59 rfl ⟨rfl, rfl⟩
    · intro i hi ih
      have ko := kd_op i (by omega)
      refine jj_iload F dX2_lastUndone_7 rfl ?_
      refine jj_aload_n F dX2_lastUndone_9 rfl ?_
      refine jj_geti F g17 (by assumption) (by rfl) dX2_lastUndone_10 ?_
      rw [hn]
      refine jj_icmp_ge F (tgt := 58) dX2_lastUndone_13 (by decide) (fun h9 => absurd h9 (nI_ge (by omega) (by omega))) (fun _ => ?_)
      refine jj_aload_n F dX2_lastUndone_16 rfl ?_
      refine jj_getr F g11 (by assumption) (by rfl) dX2_lastUndone_17 ?_
      refine jj_iload F dX2_lastUndone_20 rfl ?_
      refine jj_aald F (by assumption) rfl (by omega) dX2_lastUndone_22 ?_
      refine jj_astore F dX2_lastUndone_23 (by rw [hnl]; decide) ?_
      dsimp only [lq_st, lq_clr, lq_no]
      refine jj_aload F dX2_lastUndone_25 rfl ?_
      refine jj_geti F g32 (by assumption) (by rfl) dX2_lastUndone_27 ?_
      refine jj_iload_n F dX2_lastUndone_30 rfl ?_
      refine jj_icmp_ne F (tgt := 52) dX2_lastUndone_31 (by decide) (fun h31 => ?_) (fun h31 => ?_)
      · refine jj_iinc F dX2_lastUndone_52 rfl (by first | exact iinc1 _ | rfl) (by rw [hnl]; decide) ?_
        dsimp only [lq_st, lq_clr, lq_no]
        refine jj_goto F (tgt := 7) dX2_lastUndone_55 (by decide) ?_
        refine jj_less (L2 := [some (.ref ((zE Z).2.2 5)), some (.int ow), some (.int (luF M ow (i + 1)).1), some (.int (luF M ow (i + 1)).2), some (.int (nI (i + 1))), none]) ?_ ih
        first
        | (simp only [luF, h31, false_and, if_false]; exact less5 _ _ _ _ _ _)
        | (simp only [luF, h31, i32_le_nlt h40, and_false, if_false]; exact less5 _ _ _ _ _ _)
        | (simp only [luF, h31, i32_nle h40, true_and, if_true]; exact less5 _ _ _ _ _ _)
      · refine jj_aload F dX2_lastUndone_34 rfl ?_
        refine jj_geti F g51 (by assumption) (by rfl) dX2_lastUndone_36 ?_
        refine jj_iload_n F dX2_lastUndone_39 rfl ?_
        refine jj_icmp_le F (tgt := 52) dX2_lastUndone_40 (by decide) (fun h40 => ?_) (fun h40 => ?_)
        · refine jj_iinc F dX2_lastUndone_52 rfl (by first | exact iinc1 _ | rfl) (by rw [hnl]; decide) ?_
          dsimp only [lq_st, lq_clr, lq_no]
          refine jj_goto F (tgt := 7) dX2_lastUndone_55 (by decide) ?_
          refine jj_less (L2 := [some (.ref ((zE Z).2.2 5)), some (.int ow), some (.int (luF M ow (i + 1)).1), some (.int (luF M ow (i + 1)).2), some (.int (nI (i + 1))), none]) ?_ ih
          first
          | (simp only [luF, h31, false_and, if_false]; exact less5 _ _ _ _ _ _)
          | (simp only [luF, h31, i32_le_nlt h40, and_false, if_false]; exact less5 _ _ _ _ _ _)
          | (simp only [luF, h31, i32_nle h40, true_and, if_true]; exact less5 _ _ _ _ _ _)
        · refine jj_iload F dX2_lastUndone_43 rfl ?_
          refine jj_istore_n F dX2_lastUndone_45 (by rw [hnl]; decide) ?_
          dsimp only [lq_st, lq_clr, lq_no]
          refine jj_aload F dX2_lastUndone_46 rfl ?_
          refine jj_geti F g51 (by assumption) (by rfl) dX2_lastUndone_48 ?_
          refine jj_istore_n F dX2_lastUndone_51 (by rw [hnl]; decide) ?_
          dsimp only [lq_st, lq_clr, lq_no]
          refine jj_iinc F dX2_lastUndone_52 rfl (by first | exact iinc1 _ | rfl) (by rw [hnl]; decide) ?_
          dsimp only [lq_st, lq_clr, lq_no]
          refine jj_goto F (tgt := 7) dX2_lastUndone_55 (by decide) ?_
          refine jj_less (L2 := [some (.ref ((zE Z).2.2 5)), some (.int ow), some (.int (luF M ow (i + 1)).1), some (.int (luF M ow (i + 1)).2), some (.int (nI (i + 1))), none]) ?_ ih
          first
          | (simp only [luF, h31, false_and, if_false]; exact less5 _ _ _ _ _ _)
          | (simp only [luF, h31, i32_le_nlt h40, and_false, if_false]; exact less5 _ _ _ _ _ _)
          | (simp only [luF, h31, i32_nle h40, true_and, if_true]; exact less5 _ _ _ _ _ _)
  refine jj_iconst F (v := -1) dX2_lastUndone_0 (by decide) ?_
  refine jj_istore_n F dX2_lastUndone_1 (by rw [hnl]; decide) ?_
  dsimp only [lq_st, lq_clr, lq_no]
  refine jj_iconst F (v := nI 0) dX2_lastUndone_2 (by decide) ?_
  refine jj_istore_n F dX2_lastUndone_3 (by rw [hnl]; decide) ?_
  dsimp only [lq_st, lq_clr, lq_no]
  refine jj_iconst F (v := nI 0) dX2_lastUndone_4 (by decide) ?_
  refine jj_istore F dX2_lastUndone_5 (by rw [hnl]; decide) ?_
  dsimp only [lq_st, lq_clr, lq_no]
  exact lo 0 (by omega)
set_option maxRecDepth 100000 in
set_option maxHeartbeats 4000000 in
theorem c_X2_switchOff {l : Launch} {E : Ee} {M : Mm} {q : Nat} (hq : q < 60) : CtV l E yX2_switchOff (.code yX2_switchOff cX2_switchOff 2 none :: gl) ({ frames := 0, cells := 0, slots := 0, locals := 0 } : Room) M [.ref (E.2.2 5), .int (nI q)] 0 0 (fun M2 => M2 = wA (wA M 5 (upd (M.1 5) 2 (M.1 5 2 + nI 1))) (7 + 3 * q) (upd (upd (M.1 (7 + 3 * q)) 6 (nI 0)) 7 (M.1 5 2 + nI 1))) := by
  refine ctV_of (L0 := [some (.ref (E.2.2 5)), some (.int (nI q))]) (by decide) rfl (Nat.le_of_ble_eq_true rfl) rfl ?_
  intro Z hl hE hnl F ret
  subst hE
  have in_X2 : ∀ w ∈ u_ws RX2 TX2 3, w ∈ (.code yX2_switchOff cX2_switchOff 2 none :: gl) := fun w h => List.mem_cons_of_mem _ (lay_X2 w h)
  have in_X4 : ∀ w ∈ u_ws RX4 TX4 9, w ∈ (.code yX2_switchOff cX2_switchOff 2 none :: gl) := fun w h => List.mem_cons_of_mem _ (lay_X4 w h)
  have g11 : FG Z 11 2 0 := fg_mk F (C := RX2) (T := TX2) (N := 3) in_X2 rfl (by decide) rfl (List.mem_cons_of_mem _ fk_X2_11)
  have g21 : FG Z 21 2 2 := fg_mk F (C := RX2) (T := TX2) (N := 3) in_X2 rfl (by decide) rfl (List.mem_cons_of_mem _ fk_X2_21)
  have p21 : FP Z 21 2 2 .int := fp_mk F (C := RX2) (T := TX2) (N := 3) in_X2 tyX2_ok nmX2 rfl (by decide) rfl (List.mem_cons_of_mem _ fk_X2_21) rfl (by decide +kernel)
  have p47 : FP Z 47 4 6 .boolean := fp_mk F (C := RX4) (T := TX4) (N := 9) in_X4 tyX4_ok nmX4 rfl (by decide) rfl (List.mem_cons_of_mem _ fk_X2_47) rfl (by decide +kernel)
  have p51 : FP Z 51 4 7 .int := fp_mk F (C := RX4) (T := TX4) (N := 9) in_X4 tyX4_ok nmX4 rfl (by decide) rfl (List.mem_cons_of_mem _ fk_X2_51) rfl (by decide +kernel)
  have kl := kd_Log
  have ke := kd_ents
  have ko := kd_op q hq
  refine jj_aload_n F dX2_switchOff_0 rfl ?_
  refine jj_dup F dX2_switchOff_1 rfl ?_
  refine jj_geti F g21 (by assumption) (by rfl) dX2_switchOff_2 ?_
  refine jj_iconst F (v := nI 1) dX2_switchOff_5 (by decide) ?_
  refine jj_iadd F dX2_switchOff_6 ?_
  refine jj_puti F p21 (by assumption) (by rfl) dX2_switchOff_7 ?_
  refine jj_aload_n F dX2_switchOff_10 rfl ?_
  refine jj_getr F g11 (by assumption) (by rfl) dX2_switchOff_11 ?_
  refine jj_iload_n F dX2_switchOff_14 rfl ?_
  refine jj_aald F (by assumption) rfl (by omega) dX2_switchOff_15 ?_
  refine jj_iconst F (v := nI 0) dX2_switchOff_16 (by decide) ?_
  refine jj_putz F p47 (by assumption) (by rfl) (by first | exact Or.inl rfl | exact Or.inr rfl | assumption) dX2_switchOff_17 ?_
  refine jj_aload_n F dX2_switchOff_20 rfl ?_
  refine jj_getr F g11 (by assumption) (by rfl) dX2_switchOff_21 ?_
  refine jj_iload_n F dX2_switchOff_24 rfl ?_
  refine jj_aald F (by assumption) rfl (by omega) dX2_switchOff_25 ?_
  refine jj_aload_n F dX2_switchOff_26 rfl ?_
  refine jj_geti F g21 (by assumption) (by rfl) dX2_switchOff_27 ?_
  refine jj_puti F p51 (by assumption) (by rfl) dX2_switchOff_30 ?_
  refine ret _ _ _ dX2_switchOff_33 ?_
  have e5 : (7 + 3 * q : Nat) ≠ 5 := by omega
  simp only [wA_s, wA_wA]
  rw [wA_n e5, wA_n (Ne.symm e5), wA_s]
  simp [upd]
set_option maxRecDepth 100000 in
set_option maxHeartbeats 4000000 in
theorem c_X2_switchOn {l : Launch} {E : Ee} {M : Mm} {q : Nat} (hq : q < 60) : CtV l E yX2_switchOn (.code yX2_switchOn cX2_switchOn 2 none :: gl) ({ frames := 0, cells := 0, slots := 0, locals := 0 } : Room) M [.ref (E.2.2 5), .int (nI q)] 0 0 (fun M2 => M2 = wA M (7 + 3 * q) (upd (upd (M.1 (7 + 3 * q)) 6 (nI 1)) 7 (nI 0))) := by
  refine ctV_of (L0 := [some (.ref (E.2.2 5)), some (.int (nI q))]) (by decide) rfl (Nat.le_of_ble_eq_true rfl) rfl ?_
  intro Z hl hE hnl F ret
  subst hE
  have in_X2 : ∀ w ∈ u_ws RX2 TX2 3, w ∈ (.code yX2_switchOn cX2_switchOn 2 none :: gl) := fun w h => List.mem_cons_of_mem _ (lay_X2 w h)
  have in_X4 : ∀ w ∈ u_ws RX4 TX4 9, w ∈ (.code yX2_switchOn cX2_switchOn 2 none :: gl) := fun w h => List.mem_cons_of_mem _ (lay_X4 w h)
  have g11 : FG Z 11 2 0 := fg_mk F (C := RX2) (T := TX2) (N := 3) in_X2 rfl (by decide) rfl (List.mem_cons_of_mem _ fk_X2_11)
  have p47 : FP Z 47 4 6 .boolean := fp_mk F (C := RX4) (T := TX4) (N := 9) in_X4 tyX4_ok nmX4 rfl (by decide) rfl (List.mem_cons_of_mem _ fk_X2_47) rfl (by decide +kernel)
  have p51 : FP Z 51 4 7 .int := fp_mk F (C := RX4) (T := TX4) (N := 9) in_X4 tyX4_ok nmX4 rfl (by decide) rfl (List.mem_cons_of_mem _ fk_X2_51) rfl (by decide +kernel)
  have kl := kd_Log
  have ke := kd_ents
  have ko := kd_op q hq
  refine jj_aload_n F dX2_switchOn_0 rfl ?_
  refine jj_getr F g11 (by assumption) (by rfl) dX2_switchOn_1 ?_
  refine jj_iload_n F dX2_switchOn_4 rfl ?_
  refine jj_aald F (by assumption) rfl (by omega) dX2_switchOn_5 ?_
  refine jj_iconst F (v := nI 1) dX2_switchOn_6 (by decide) ?_
  refine jj_putz F p47 (by assumption) (by rfl) (by first | exact Or.inl rfl | exact Or.inr rfl | assumption) dX2_switchOn_7 ?_
  refine jj_aload_n F dX2_switchOn_10 rfl ?_
  refine jj_getr F g11 (by assumption) (by rfl) dX2_switchOn_11 ?_
  refine jj_iload_n F dX2_switchOn_14 rfl ?_
  refine jj_aald F (by assumption) rfl (by omega) dX2_switchOn_15 ?_
  refine jj_iconst F (v := nI 0) dX2_switchOn_16 (by decide) ?_
  refine jj_puti F p51 (by assumption) (by rfl) dX2_switchOn_17 ?_
  refine ret _ _ _ dX2_switchOn_20 ?_
  simp only [wA_s, wA_wA]
set_option maxRecDepth 100000 in
set_option maxHeartbeats 4000000 in
theorem c_X2_goBack {l : Launch} {E : Ee} {M : Mm} {m n : Nat} (hm : m < 6) (hs : M.1 (460 + 3 * m) 1 = nI n) (h60 : n ≤ 60) (hb : ∀ j, j < n → M.1 (460 + 3 * m + 1) j = 0 ∨ M.1 (460 + 3 * m + 1) j = 1) : CtV l E yX2_goBack (.code yX2_goBack cX2_goBack 3 none :: gl) ({ frames := 0, cells := 0, slots := 0, locals := 0 } : Room) M [.ref (E.2.2 5), .ref (E.2.2 (460 + 3 * m))] 0 0 (fun M2 => M2 = fam 7 3 n (gbF M m) (wA M 5 (upd (M.1 5) 1 (nI n)))) := by
  refine ctV_of (L0 := [some (.ref (E.2.2 5)), some (.ref (E.2.2 (460 + 3 * m))), none]) (by decide) rfl (Nat.le_of_ble_eq_true rfl) rfl ?_
  intro Z hl hE hnl F ret
  subst hE
  have in_X2 : ∀ w ∈ u_ws RX2 TX2 3, w ∈ (.code yX2_goBack cX2_goBack 3 none :: gl) := fun w h => List.mem_cons_of_mem _ (lay_X2 w h)
  have in_X3 : ∀ w ∈ u_ws RX3 TX3 4, w ∈ (.code yX2_goBack cX2_goBack 3 none :: gl) := fun w h => List.mem_cons_of_mem _ (lay_X3 w h)
  have in_X4 : ∀ w ∈ u_ws RX4 TX4 9, w ∈ (.code yX2_goBack cX2_goBack 3 none :: gl) := fun w h => List.mem_cons_of_mem _ (lay_X4 w h)
  have g11 : FG Z 11 2 0 := fg_mk F (C := RX2) (T := TX2) (N := 3) in_X2 rfl (by decide) rfl (List.mem_cons_of_mem _ fk_X2_11)
  have g17 : FG Z 17 2 1 := fg_mk F (C := RX2) (T := TX2) (N := 3) in_X2 rfl (by decide) rfl (List.mem_cons_of_mem _ fk_X2_17)
  have g54 : FG Z 54 3 1 := fg_mk F (C := RX3) (T := TX3) (N := 4) in_X3 rfl (by decide) rfl (List.mem_cons_of_mem _ fk_X2_54)
  have g57 : FG Z 57 3 2 := fg_mk F (C := RX3) (T := TX3) (N := 4) in_X3 rfl (by decide) rfl (List.mem_cons_of_mem _ fk_X2_57)
  have p17 : FP Z 17 2 1 .int := fp_mk F (C := RX2) (T := TX2) (N := 3) in_X2 tyX2_ok nmX2 rfl (by decide) rfl (List.mem_cons_of_mem _ fk_X2_17) rfl (by decide +kernel)
  have p47 : FP Z 47 4 6 .boolean := fp_mk F (C := RX4) (T := TX4) (N := 9) in_X4 tyX4_ok nmX4 rfl (by decide) rfl (List.mem_cons_of_mem _ fk_X2_47) rfl (by decide +kernel)
  have p51 : FP Z 51 4 7 .int := fp_mk F (C := RX4) (T := TX4) (N := 9) in_X4 tyX4_ok nmX4 rfl (by decide) rfl (List.mem_cons_of_mem _ fk_X2_51) rfl (by decide +kernel)
  have kl := kd_Log
  have ke := kd_ents
  have km := kd_mk0 m hm
  have km1 := kd_mk1 m hm
  have lo : ∀ i, i ≤ n → JJ Z (0, 0) (fam 7 3 i (gbF M m) (wA M 5 (upd (M.1 5) 1 (nI n)))) 10 [some (.ref ((zE Z).2.2 5)), some (.ref ((zE Z).2.2 (460 + 3 * m))), some (.int (nI i))] [] := by
    refine jj_loop (n) ?_ ?_
    · have e5 : (fam 7 3 n (gbF M m) (wA M 5 (upd (M.1 5) 1 (nI n)))).1 5 1 = nI n := by rw [fam_out (fun j hj e => by omega), wA_s]; simp [upd]
      refine jj_iload_n F dX2_goBack_10 rfl ?_
      refine jj_aload_n F dX2_goBack_11 rfl ?_
      refine jj_geti F g17 (by assumption) (by rfl) dX2_goBack_12 ?_
      rw [e5]
      refine jj_icmp_ge F (tgt := 49) dX2_goBack_15 (by decide) (fun _ => ?_) (fun h9 => absurd (nI_le (by omega) (by omega)) h9)
      exact ret _ _ _ dX2_goBack_49 rfl
    · intro i hi ih
      have ko := kd_op i (by omega)
      have e5 : (fam 7 3 i (gbF M m) (wA M 5 (upd (M.1 5) 1 (nI n)))).1 5 1 = nI n := by rw [fam_out (fun j hj e => by omega), wA_s]; simp [upd]
      have eo : (fam 7 3 i (gbF M m) (wA M 5 (upd (M.1 5) 1 (nI n)))).1 (7 + 3 * i) = M.1 (7 + 3 * i) := by rw [fam_at (by omega), wA_n (by omega)]
      have em : (fam 7 3 i (gbF M m) (wA M 5 (upd (M.1 5) 1 (nI n)))).1 (460 + 3 * m + 1) i = M.1 (460 + 3 * m + 1) i := by rw [fam_out (fun j hj e => by omega), wA_n (by omega)]
      have hbi := hb i (by omega)
      refine jj_iload_n F dX2_goBack_10 rfl ?_
      refine jj_aload_n F dX2_goBack_11 rfl ?_
      refine jj_geti F g17 (by assumption) (by rfl) dX2_goBack_12 ?_
      rw [e5]
      refine jj_icmp_ge F (tgt := 49) dX2_goBack_15 (by decide) (fun h9 => absurd h9 (nI_ge (by omega) (by omega))) (fun _ => ?_)
      refine jj_aload_n F dX2_goBack_18 rfl ?_
      refine jj_getr F g11 (by assumption) (by rfl) dX2_goBack_19 ?_
      refine jj_iload_n F dX2_goBack_22 rfl ?_
      refine jj_aald F (by assumption) rfl (by omega) dX2_goBack_23 ?_
      refine jj_aload_n F dX2_goBack_24 rfl ?_
      refine jj_getr F g57 (by assumption) (by rfl) dX2_goBack_25 ?_
      refine jj_iload_n F dX2_goBack_28 rfl ?_
      refine jj_zald F (by assumption) rfl (by omega) dX2_goBack_29 ?_
      rw [em]
      refine jj_putz F p47 (by assumption) (by rfl) (by first | exact Or.inl rfl | exact Or.inr rfl | assumption) dX2_goBack_30 ?_
      refine jj_aload_n F dX2_goBack_33 rfl ?_
      refine jj_getr F g11 (by assumption) (by rfl) dX2_goBack_34 ?_
      refine jj_iload_n F dX2_goBack_37 rfl ?_
      refine jj_aald F (by assumption) rfl (by omega) dX2_goBack_38 ?_
      refine jj_iconst F (v := nI 0) dX2_goBack_39 (by decide) ?_
      refine jj_puti F p51 (by assumption) (by rfl) dX2_goBack_40 ?_
      refine jj_iinc F dX2_goBack_43 rfl (by first | exact iinc1 _ | rfl) (by rw [hnl]; decide) ?_
      dsimp only [lq_st, lq_clr, lq_no]
      refine jj_goto F (tgt := 10) dX2_goBack_46 (by decide) ?_
      simp only [wA_s, wA_wA]
      rw [eo, show upd (upd (M.1 (7 + 3 * i)) 6 (M.1 (460 + 3 * m + 1) i)) 7 (nI 0) = gbF M m i from rfl, fam_s (by omega)]
      exact ih
  refine jj_aload_n F dX2_goBack_0 rfl ?_
  refine jj_aload_n F dX2_goBack_1 rfl ?_
  refine jj_geti F g54 (by assumption) (by rfl) dX2_goBack_2 ?_
  rw [hs]
  refine jj_puti F p17 (by assumption) (by rfl) dX2_goBack_5 ?_
  refine jj_iconst F (v := nI 0) dX2_goBack_8 (by decide) ?_
  refine jj_istore_n F dX2_goBack_9 (by rw [hnl]; decide) ?_
  dsimp only [lq_st, lq_clr, lq_no]
  refine jj_eqM (fam_0 7 3 (gbF M m) _).symm ?_
  exact lo 0 (by omega)
set_option maxRecDepth 100000 in
set_option maxHeartbeats 4000000 in
theorem c_X2_activeOperations {l : Launch} {E : Ee} {M : Mm} {n : Nat} (hn : M.1 5 1 = nI n) (h60 : n ≤ 60) : CtI l E yX2_activeOperations (.code yX2_activeOperations cX2_activeOperations 3 (some .int) :: gl) ({ frames := 1, cells := 0, slots := 0, locals := 23 } : Room) M [.ref (E.2.2 5)] 0 0 (fun r M2 => r = nI (fb_sm (fun ow => fb_ct (fun j => decide (M.1 (7 + 3 * j) 1 = nI ow) && !decide (M.1 (7 + 3 * j) 6 = 0)) n) 5) ∧ M2 = M) := by
  refine ctI_of (L0 := [some (.ref (E.2.2 5)), none, none]) (by decide) rfl (Nat.le_of_ble_eq_true rfl) rfl ?_
  intro Z hl hE hnl F ret
  subst hE
  have kl := kd_Log
  have ke := kd_ents
  have lo : ∀ i, i ≤ 5 → JJ Z (0, 0) (M) 4 [some (.ref ((zE Z).2.2 5)), some (.int (nI (fb_sm (fun ow => fb_ct (fun j => decide (M.1 (7 + 3 * j) 1 = nI ow) && !decide (M.1 (7 + 3 * j) 6 = 0)) n) i))), some (.int (nI i))] [] := by
    refine jj_loop (5) ?_ ?_
    · refine jj_iload_n F dX2_activeOperations_4 rfl ?_
      refine jj_iconst F (v := nI 5) dX2_activeOperations_5 (by decide) ?_
      refine jj_icmp_ge F (tgt := 23) dX2_activeOperations_6 (by decide) (fun _ => ?_) (fun h9 => absurd (nI_le (by omega) (by omega)) h9)
      refine jj_iload_n F dX2_activeOperations_23 rfl ?_
      exact ret _ _ _ _ dX2_activeOperations_24 rfl ⟨rfl, rfl⟩
    · intro i hi ih
      refine jj_iload_n F dX2_activeOperations_4 rfl ?_
      refine jj_iconst F (v := nI 5) dX2_activeOperations_5 (by decide) ?_
      refine jj_icmp_ge F (tgt := 23) dX2_activeOperations_6 (by decide) (fun h9 => absurd h9 (nI_ge (by omega) (by omega))) (fun _ => ?_)
      refine jj_iload_n F dX2_activeOperations_9 rfl ?_
      refine jj_aload_n F dX2_activeOperations_10 rfl ?_
      refine jj_iload_n F dX2_activeOperations_11 rfl ?_
      refine jj_callVi (na := 1) F (c_X2_activeOf hn (by omega)) (gl_V mk_X2_60 vw_X2_activeOf) rfl rfl rfl (by decide +kernel) ⟨Nat.le_of_ble_eq_true rfl, Nat.le_of_ble_eq_true rfl⟩ (by assumption) rfl rfl rfl (Nat.le_of_ble_eq_true rfl) ⟨Nat.le_of_ble_eq_true rfl, Nat.le_of_ble_eq_true rfl⟩ dX2_activeOperations_12 (fun r12 M12 hp12 => ?_)
      obtain ⟨rfl, rfl⟩ := symm2 hp12
      refine jj_iadd F dX2_activeOperations_15 ?_
      refine jj_istore_n F dX2_activeOperations_16 (by rw [hnl]; decide) ?_
      dsimp only [lq_st, lq_clr, lq_no]
      refine jj_iinc F dX2_activeOperations_17 rfl (by first | exact iinc1 _ | rfl) (by rw [hnl]; decide) ?_
      dsimp only [lq_st, lq_clr, lq_no]
      refine jj_goto F (tgt := 4) dX2_activeOperations_20 (by decide) ?_
      rw [nI_add, ← fb_sm_succ (fun ow => fb_ct (fun j => decide (M.1 (7 + 3 * j) 1 = nI ow) && !decide (M.1 (7 + 3 * j) 6 = 0)) n)]
      exact ih
  refine jj_iconst F (v := nI 0) dX2_activeOperations_0 (by decide) ?_
  refine jj_istore_n F dX2_activeOperations_1 (by rw [hnl]; decide) ?_
  dsimp only [lq_st, lq_clr, lq_no]
  refine jj_iconst F (v := nI 0) dX2_activeOperations_2 (by decide) ?_
  refine jj_istore_n F dX2_activeOperations_3 (by rw [hnl]; decide) ?_
  dsimp only [lq_st, lq_clr, lq_no]
  exact lo 0 (by omega)
set_option maxRecDepth 100000 in
set_option maxHeartbeats 4000000 in
theorem c_X3_keep {l : Launch} {E : Ee} {M : Mm} {m n b : Nat} (hm : m < 6) (hs : isSc b) (hn : M.1 5 1 = nI n) (h60 : n ≤ 60) (hb : ∀ j, j < n → M.1 (7 + 3 * j) 6 = 0 ∨ M.1 (7 + 3 * j) 6 = 1) : CtV l E yX3_keep (.code yX3_keep cX3_keep 4 none :: gl) ({ frames := 0, cells := 0, slots := 0, locals := 0 } : Room) M [.ref (E.2.2 (460 + 3 * m)), .ref (E.2.2 5), .ref (E.2.2 b)] 0 0 (fun M2 => M2 = wA (wA (wA M (460 + 3 * m) (upd (upd (M.1 (460 + 3 * m)) 0 (nI 1)) 1 (nI n))) (460 + 3 * m + 1) (fl n (fun j => M.1 (7 + 3 * j) 6) (M.1 (460 + 3 * m + 1)))) (460 + 3 * m + 2) (M.1 (b + 3))) := by
  refine ctV_of (L0 := [some (.ref (E.2.2 (460 + 3 * m))), some (.ref (E.2.2 5)), some (.ref (E.2.2 b)), none]) (by decide) rfl (Nat.le_of_ble_eq_true rfl) rfl ?_
  intro Z hl hE hnl F ret
  subst hE
  have in_X2 : ∀ w ∈ u_ws RX2 TX2 3, w ∈ (.code yX3_keep cX3_keep 4 none :: gl) := fun w h => List.mem_cons_of_mem _ (lay_X2 w h)
  have in_X3 : ∀ w ∈ u_ws RX3 TX3 4, w ∈ (.code yX3_keep cX3_keep 4 none :: gl) := fun w h => List.mem_cons_of_mem _ (lay_X3 w h)
  have in_X4 : ∀ w ∈ u_ws RX4 TX4 9, w ∈ (.code yX3_keep cX3_keep 4 none :: gl) := fun w h => List.mem_cons_of_mem _ (lay_X4 w h)
  have in_X7 : ∀ w ∈ u_ws RX7 TX7 4, w ∈ (.code yX3_keep cX3_keep 4 none :: gl) := fun w h => List.mem_cons_of_mem _ (lay_X7 w h)
  have g15 : FG Z 15 3 1 := fg_mk F (C := RX3) (T := TX3) (N := 4) in_X3 rfl (by decide) rfl (List.mem_cons_of_mem _ fk_X3_15)
  have g19 : FG Z 19 3 2 := fg_mk F (C := RX3) (T := TX3) (N := 4) in_X3 rfl (by decide) rfl (List.mem_cons_of_mem _ fk_X3_19)
  have g23 : FG Z 23 3 3 := fg_mk F (C := RX3) (T := TX3) (N := 4) in_X3 rfl (by decide) rfl (List.mem_cons_of_mem _ fk_X3_23)
  have g27 : FG Z 27 2 1 := fg_mk F (C := RX2) (T := TX2) (N := 3) in_X2 rfl (by decide) rfl (List.mem_cons_of_mem _ fk_X3_27)
  have g30 : FG Z 30 2 0 := fg_mk F (C := RX2) (T := TX2) (N := 3) in_X2 rfl (by decide) rfl (List.mem_cons_of_mem _ fk_X3_30)
  have g34 : FG Z 34 4 6 := fg_mk F (C := RX4) (T := TX4) (N := 9) in_X4 rfl (by decide) rfl (List.mem_cons_of_mem _ fk_X3_34)
  have g38 : FG Z 38 7 2 := fg_mk F (C := RX7) (T := TX7) (N := 4) in_X7 rfl (by decide) rfl (List.mem_cons_of_mem _ fk_X3_38)
  have p9 : FP Z 9 3 0 .boolean := fp_mk F (C := RX3) (T := TX3) (N := 4) in_X3 tyX3_ok nmX3 rfl (by decide) rfl (List.mem_cons_of_mem _ fk_X3_9) rfl (by decide +kernel)
  have p15 : FP Z 15 3 1 .int := fp_mk F (C := RX3) (T := TX3) (N := 4) in_X3 tyX3_ok nmX3 rfl (by decide) rfl (List.mem_cons_of_mem _ fk_X3_15) rfl (by decide +kernel)
  have kl := kd_Log
  have ke := kd_ents
  have km := kd_mk0 m hm
  have km1 := kd_mk1 m hm
  have km2 := kd_mk2 m hm
  have kb := kd_sc0 hs
  have kb3 := kd_sc3 hs
  have hbb : b = 204 ∨ b = 329 := hs
  have lo2 : ∀ i, i ≤ 256 → JJ Z (0, 0) (wA (wA (wA M (460 + 3 * m) (upd (upd (M.1 (460 + 3 * m)) 0 (nI 1)) 1 (nI n))) (460 + 3 * m + 1) (fl n (fun j => M.1 (7 + 3 * j) 6) (M.1 (460 + 3 * m + 1)))) (460 + 3 * m + 2) (fl i (M.1 (b + 3)) (M.1 (460 + 3 * m + 2)))) 46 [some (.ref ((zE Z).2.2 (460 + 3 * m))), some (.ref ((zE Z).2.2 5)), some (.ref ((zE Z).2.2 b)), some (.int (nI i))] [] := by
    refine jj_loop (256) ?_ ?_
    · refine jj_iload_n F dX3_keep_46 rfl ?_
      refine jj_sipush F (v := nI 256) dX3_keep_47 (by decide) ?_
      refine jj_icmp_ge F (tgt := 71) dX3_keep_50 (by decide) (fun _ => ?_) (fun h9 => absurd (nI_le (by omega) (by omega)) h9)
      refine jj_eqv (meq_fl km2) ?_
      exact ret _ _ _ dX3_keep_71 rfl
    · intro i hi ih
      refine jj_iload_n F dX3_keep_46 rfl ?_
      refine jj_sipush F (v := nI 256) dX3_keep_47 (by decide) ?_
      refine jj_icmp_ge F (tgt := 71) dX3_keep_50 (by decide) (fun h9 => absurd h9 (nI_ge (by omega) (by omega))) (fun _ => ?_)
      refine jj_aload_n F dX3_keep_53 rfl ?_
      refine jj_getr F g23 (by assumption) (by rfl) dX3_keep_54 ?_
      refine jj_iload_n F dX3_keep_57 rfl ?_
      refine jj_aload_n F dX3_keep_58 rfl ?_
      refine jj_getr F g38 (by assumption) (by rfl) dX3_keep_59 ?_
      refine jj_iload_n F dX3_keep_62 rfl ?_
      refine jj_iald F (by assumption) rfl (by omega) dX3_keep_63 ?_
      refine jj_iast F (by assumption) rfl (by omega) dX3_keep_64 ?_
      refine jj_iinc F dX3_keep_65 rfl (by first | exact iinc1 _ | rfl) (by rw [hnl]; decide) ?_
      dsimp only [lq_st, lq_clr, lq_no]
      refine jj_goto F (tgt := 46) dX3_keep_68 (by decide) ?_
      rw [fl_put (by rw [wA_n (by omega), wA_n (by omega), wA_n (by omega)])]
      exact ih
  have lo : ∀ i, i ≤ n → JJ Z (0, 0) (wA (wA M (460 + 3 * m) (upd (upd (M.1 (460 + 3 * m)) 0 (nI 1)) 1 (nI n))) (460 + 3 * m + 1) (fl i (fun j => M.1 (7 + 3 * j) 6) (M.1 (460 + 3 * m + 1)))) 15 [some (.ref ((zE Z).2.2 (460 + 3 * m))), some (.ref ((zE Z).2.2 5)), some (.ref ((zE Z).2.2 b)), some (.int (nI i))] [] := by
    refine jj_loop (n) ?_ ?_
    · have es : ((wA (wA M (460 + 3 * m) (upd (upd (M.1 (460 + 3 * m)) 0 (nI 1)) 1 (nI n))) (460 + 3 * m + 1) (fl n (fun j => M.1 (7 + 3 * j) 6) (M.1 (460 + 3 * m + 1))))).1 (460 + 3 * m) 1 = nI n := by rw [wA_n (by omega), wA_s]; simp [upd]
      refine jj_iload_n F dX3_keep_15 rfl ?_
      refine jj_aload_n F dX3_keep_16 rfl ?_
      refine jj_geti F g15 (by assumption) (by rfl) dX3_keep_17 ?_
      rw [es]
      refine jj_icmp_ge F (tgt := 44) dX3_keep_20 (by decide) (fun _ => ?_) (fun h9 => absurd (nI_le (by omega) (by omega)) h9)
      refine jj_iconst F (v := nI 0) dX3_keep_44 (by decide) ?_
      refine jj_istore_n F dX3_keep_45 (by rw [hnl]; decide) ?_
      dsimp only [lq_st, lq_clr, lq_no]
      refine jj_eqM (?_ : _ = wA (wA (wA M (460 + 3 * m) (upd (upd (M.1 (460 + 3 * m)) 0 (nI 1)) 1 (nI n))) (460 + 3 * m + 1) (fl n (fun j => M.1 (7 + 3 * j) 6) (M.1 (460 + 3 * m + 1)))) (460 + 3 * m + 2) (fl 0 (M.1 (b + 3)) (M.1 (460 + 3 * m + 2)))) (lo2 0 (by omega))
      rw [fl_z]
      have e9 : ((wA (wA M (460 + 3 * m) (upd (upd (M.1 (460 + 3 * m)) 0 (nI 1)) 1 (nI n))) (460 + 3 * m + 1) (fl n (fun j => M.1 (7 + 3 * j) 6) (M.1 (460 + 3 * m + 1))))).1 (460 + 3 * m + 2) = M.1 (460 + 3 * m + 2) := by rw [wA_n (by omega), wA_n (by omega)]
      rw [← e9, wA_same]
    · intro i hi ih
      have ko := kd_op i (by omega)
      have ea : (wA (wA M (460 + 3 * m) (upd (upd (M.1 (460 + 3 * m)) 0 (nI 1)) 1 (nI n))) (460 + 3 * m + 1) (fl i (fun j => M.1 (7 + 3 * j) 6) (M.1 (460 + 3 * m + 1)))).1 (7 + 3 * i) 6 = M.1 (7 + 3 * i) 6 := by rw [wA_n (by omega), wA_n (by omega)]
      have es : (wA (wA M (460 + 3 * m) (upd (upd (M.1 (460 + 3 * m)) 0 (nI 1)) 1 (nI n))) (460 + 3 * m + 1) (fl i (fun j => M.1 (7 + 3 * j) 6) (M.1 (460 + 3 * m + 1)))).1 (460 + 3 * m) 1 = nI n := by rw [wA_n (by omega), wA_s]; simp [upd]
      have hbi := hb i (by omega)
      refine jj_iload_n F dX3_keep_15 rfl ?_
      refine jj_aload_n F dX3_keep_16 rfl ?_
      refine jj_geti F g15 (by assumption) (by rfl) dX3_keep_17 ?_
      rw [es]
      refine jj_icmp_ge F (tgt := 44) dX3_keep_20 (by decide) (fun h9 => absurd h9 (nI_ge (by omega) (by omega))) (fun _ => ?_)
      refine jj_aload_n F dX3_keep_23 rfl ?_
      refine jj_getr F g19 (by assumption) (by rfl) dX3_keep_24 ?_
      refine jj_iload_n F dX3_keep_27 rfl ?_
      refine jj_aload_n F dX3_keep_28 rfl ?_
      refine jj_getr F g30 (by assumption) (by rfl) dX3_keep_29 ?_
      refine jj_iload_n F dX3_keep_32 rfl ?_
      refine jj_aald F (by assumption) rfl (by omega) dX3_keep_33 ?_
      refine jj_geti F g34 (by assumption) (by rfl) dX3_keep_34 ?_
      rw [ea]
      refine jj_zast F (by assumption) rfl (by omega) (by first | exact Or.inl rfl | exact Or.inr rfl | assumption) dX3_keep_37 ?_
      refine jj_iinc F dX3_keep_38 rfl (by first | exact iinc1 _ | rfl) (by rw [hnl]; decide) ?_
      dsimp only [lq_st, lq_clr, lq_no]
      refine jj_goto F (tgt := 15) dX3_keep_41 (by decide) ?_
      rw [fl_put rfl]
      exact ih
  refine jj_aload_n F dX3_keep_0 rfl ?_
  refine jj_iconst F (v := nI 1) dX3_keep_1 (by decide) ?_
  refine jj_putz F p9 (by assumption) (by rfl) (by first | exact Or.inl rfl | exact Or.inr rfl | assumption) dX3_keep_2 ?_
  refine jj_aload_n F dX3_keep_5 rfl ?_
  refine jj_aload_n F dX3_keep_6 rfl ?_
  refine jj_geti F g27 (by assumption) (by rfl) dX3_keep_7 ?_
  rw [wA_n (by omega), hn]
  refine jj_puti F p15 (by assumption) (by rfl) dX3_keep_10 ?_
  refine jj_iconst F (v := nI 0) dX3_keep_13 (by decide) ?_
  refine jj_istore_n F dX3_keep_14 (by rw [hnl]; decide) ?_
  dsimp only [lq_st, lq_clr, lq_no]
  refine jj_eqM ?_ (lo 0 (by omega))
  rw [fl_z, wA_s, wA_wA]
  have e9 : ((wA M (460 + 3 * m) (upd (upd (M.1 (460 + 3 * m)) 0 (nI 1)) 1 (nI n)))).1 (460 + 3 * m + 1) = M.1 (460 + 3 * m + 1) := by rw [wA_n (by omega)]
  rw [← e9, wA_same]
end
