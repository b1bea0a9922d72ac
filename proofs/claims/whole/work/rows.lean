section
-- ===== PART A: goes FIRST, ahead of the names: the tables' words, and 'selects' of the private methods out of them =====
/-- a private method of a class that the tables say can be made, by its rows of tables_1 -/
def lw_okq (q : MethodName × Nat) : Prop := (q.1.cls ≠ "java/lang/invoke/MethodHandle" ∧ q.1.cls ≠ "java/lang/invoke/VarHandle") ∧ Cond.instantiable q.1.cls q.2 ∈ tables_1 ∧ Cond.privateMethod q.1 ∈ tables_1 ∧ Cond.instanceMethod q.1 ∈ tables_1
theorem lw_p0 : lw_okq (⟨"LandByMap$Land", "layOut", "(III)V"⟩, 20) := ⟨⟨by decide +kernel, by decide +kernel⟩, List.mem_of_getElem? (i := 31) (by decide +kernel), List.mem_of_getElem? (i := 46) (by decide +kernel), List.mem_of_getElem? (i := 47) (by decide +kernel)⟩
theorem lw_p1 : lw_okq (⟨"LandByMap", "shelfAt", "(I)LLandByMap$Shelf;"⟩, 13) := ⟨⟨by decide +kernel, by decide +kernel⟩, List.mem_of_getElem? (i := 23) (by decide +kernel), List.mem_of_getElem? (i := 321) (by decide +kernel), List.mem_of_getElem? (i := 322) (by decide +kernel)⟩
theorem lw_p2 : lw_okq (⟨"LandByMap$Text", "readStatement", "()Z"⟩, 5) := ⟨⟨by decide +kernel, by decide +kernel⟩, List.mem_of_getElem? (i := 150) (by decide +kernel), List.mem_of_getElem? (i := 348) (by decide +kernel), List.mem_of_getElem? (i := 349) (by decide +kernel)⟩
theorem lw_p3 : lw_okq (⟨"LandByMap$Text", "readNumber", "(I)Z"⟩, 5) := ⟨⟨by decide +kernel, by decide +kernel⟩, List.mem_of_getElem? (i := 150) (by decide +kernel), List.mem_of_getElem? (i := 413) (by decide +kernel), List.mem_of_getElem? (i := 414) (by decide +kernel)⟩
theorem lw_p4 : lw_okq (⟨"LandByMap$Text", "isDigit", "()Z"⟩, 5) := ⟨⟨by decide +kernel, by decide +kernel⟩, List.mem_of_getElem? (i := 150) (by decide +kernel), List.mem_of_getElem? (i := 417) (by decide +kernel), List.mem_of_getElem? (i := 418) (by decide +kernel)⟩
theorem lw_p5 : lw_okq (⟨"LandByMap$Text", "readSign", "(C)Z"⟩, 5) := ⟨⟨by decide +kernel, by decide +kernel⟩, List.mem_of_getElem? (i := 150) (by decide +kernel), List.mem_of_getElem? (i := 421) (by decide +kernel), List.mem_of_getElem? (i := 422) (by decide +kernel)⟩
theorem lw_p6 : lw_okq (⟨"LandByMap$Text", "act", "(LLandByMap$Land;I)Z"⟩, 5) := ⟨⟨by decide +kernel, by decide +kernel⟩, List.mem_of_getElem? (i := 150) (by decide +kernel), List.mem_of_getElem? (i := 436) (by decide +kernel), List.mem_of_getElem? (i := 437) (by decide +kernel)⟩
theorem lw_p7 : lw_okq (⟨"LandByMap", "refusalOfHaul", "(II)I"⟩, 13) := ⟨⟨by decide +kernel, by decide +kernel⟩, List.mem_of_getElem? (i := 23) (by decide +kernel), List.mem_of_getElem? (i := 567) (by decide +kernel), List.mem_of_getElem? (i := 568) (by decide +kernel)⟩
theorem lw_p8 : lw_okq (⟨"LandByMap$Digging", "weighExcess", "(LLandByMap$Land;[I)V"⟩, 14) := ⟨⟨by decide +kernel, by decide +kernel⟩, List.mem_of_getElem? (i := 197) (by decide +kernel), List.mem_of_getElem? (i := 623) (by decide +kernel), List.mem_of_getElem? (i := 624) (by decide +kernel)⟩
theorem lw_p9 : lw_okq (⟨"LandByMap$Digging", "sortOut", "(LLandByMap$Land;)Z"⟩, 14) := ⟨⟨by decide +kernel, by decide +kernel⟩, List.mem_of_getElem? (i := 197) (by decide +kernel), List.mem_of_getElem? (i := 627) (by decide +kernel), List.mem_of_getElem? (i := 628) (by decide +kernel)⟩
theorem lw_p10 : lw_okq (⟨"LandByMap$Digging", "spreadAll", "(LLandByMap$Land;)V"⟩, 14) := ⟨⟨by decide +kernel, by decide +kernel⟩, List.mem_of_getElem? (i := 197) (by decide +kernel), List.mem_of_getElem? (i := 632) (by decide +kernel), List.mem_of_getElem? (i := 633) (by decide +kernel)⟩
theorem lw_p11 : lw_okq (⟨"LandByMap$Digging", "spreadForth", "(LLandByMap$Land;)Z"⟩, 14) := ⟨⟨by decide +kernel, by decide +kernel⟩, List.mem_of_getElem? (i := 197) (by decide +kernel), List.mem_of_getElem? (i := 637) (by decide +kernel), List.mem_of_getElem? (i := 638) (by decide +kernel)⟩
theorem lw_p12 : lw_okq (⟨"LandByMap$Digging", "spreadBack", "(LLandByMap$Land;)Z"⟩, 14) := ⟨⟨by decide +kernel, by decide +kernel⟩, List.mem_of_getElem? (i := 197) (by decide +kernel), List.mem_of_getElem? (i := 642) (by decide +kernel), List.mem_of_getElem? (i := 643) (by decide +kernel)⟩
theorem lw_p13 : lw_okq (⟨"LandByMap$Digging", "nearestLow", "()I"⟩, 14) := ⟨⟨by decide +kernel, by decide +kernel⟩, List.mem_of_getElem? (i := 197) (by decide +kernel), List.mem_of_getElem? (i := 646) (by decide +kernel), List.mem_of_getElem? (i := 647) (by decide +kernel)⟩
theorem lw_p14 : lw_okq (⟨"LandByMap$Digging", "send", "(I)I"⟩, 14) := ⟨⟨by decide +kernel, by decide +kernel⟩, List.mem_of_getElem? (i := 197) (by decide +kernel), List.mem_of_getElem? (i := 650) (by decide +kernel), List.mem_of_getElem? (i := 651) (by decide +kernel)⟩
theorem lw_p15 : lw_okq (⟨"LandByMap$Digging", "digByPairs", "(LLandByMap$Land;Z)V"⟩, 14) := ⟨⟨by decide +kernel, by decide +kernel⟩, List.mem_of_getElem? (i := 197) (by decide +kernel), List.mem_of_getElem? (i := 675) (by decide +kernel), List.mem_of_getElem? (i := 676) (by decide +kernel)⟩
def lw_privs_1 : List (MethodName × Nat) := [(⟨"LandByMap$Land", "layOut", "(III)V"⟩, 20), (⟨"LandByMap", "shelfAt", "(I)LLandByMap$Shelf;"⟩, 13), (⟨"LandByMap$Text", "readStatement", "()Z"⟩, 5), (⟨"LandByMap$Text", "readNumber", "(I)Z"⟩, 5), (⟨"LandByMap$Text", "isDigit", "()Z"⟩, 5), (⟨"LandByMap$Text", "readSign", "(C)Z"⟩, 5), (⟨"LandByMap$Text", "act", "(LLandByMap$Land;I)Z"⟩, 5), (⟨"LandByMap", "refusalOfHaul", "(II)I"⟩, 13), (⟨"LandByMap$Digging", "weighExcess", "(LLandByMap$Land;[I)V"⟩, 14), (⟨"LandByMap$Digging", "sortOut", "(LLandByMap$Land;)Z"⟩, 14), (⟨"LandByMap$Digging", "spreadAll", "(LLandByMap$Land;)V"⟩, 14), (⟨"LandByMap$Digging", "spreadForth", "(LLandByMap$Land;)Z"⟩, 14), (⟨"LandByMap$Digging", "spreadBack", "(LLandByMap$Land;)Z"⟩, 14), (⟨"LandByMap$Digging", "nearestLow", "()I"⟩, 14), (⟨"LandByMap$Digging", "send", "(I)I"⟩, 14), (⟨"LandByMap$Digging", "digByPairs", "(LLandByMap$Land;Z)V"⟩, 14)]
theorem lw_r1 : ∀ q ∈ lw_privs_1, lw_okq q := List.forall_mem_cons.mpr ⟨lw_p0, List.forall_mem_cons.mpr ⟨lw_p1, List.forall_mem_cons.mpr ⟨lw_p2, List.forall_mem_cons.mpr ⟨lw_p3, List.forall_mem_cons.mpr ⟨lw_p4, List.forall_mem_cons.mpr ⟨lw_p5, List.forall_mem_cons.mpr ⟨lw_p6, List.forall_mem_cons.mpr ⟨lw_p7, List.forall_mem_cons.mpr ⟨lw_p8, List.forall_mem_cons.mpr ⟨lw_p9, List.forall_mem_cons.mpr ⟨lw_p10, List.forall_mem_cons.mpr ⟨lw_p11, List.forall_mem_cons.mpr ⟨lw_p12, List.forall_mem_cons.mpr ⟨lw_p13, List.forall_mem_cons.mpr ⟨lw_p14, List.forall_mem_cons.mpr ⟨lw_p15, fun _ h => absurd h List.not_mem_nil⟩⟩⟩⟩⟩⟩⟩⟩⟩⟩⟩⟩⟩⟩⟩⟩
theorem lw_p16 : lw_okq (⟨"LandByMap$Digging", "digPair", "(LLandByMap$Land;IIZ)Z"⟩, 14) := ⟨⟨by decide +kernel, by decide +kernel⟩, List.mem_of_getElem? (i := 197) (by decide +kernel), List.mem_of_getElem? (i := 679) (by decide +kernel), List.mem_of_getElem? (i := 680) (by decide +kernel)⟩
theorem lw_p17 : lw_okq (⟨"LandByMap$Digging", "digWholly", "(LLandByMap$Land;)V"⟩, 14) := ⟨⟨by decide +kernel, by decide +kernel⟩, List.mem_of_getElem? (i := 197) (by decide +kernel), List.mem_of_getElem? (i := 685) (by decide +kernel), List.mem_of_getElem? (i := 686) (by decide +kernel)⟩
theorem lw_p18 : lw_okq (⟨"LandByMap$Desk", "pickHaul", "(LLandByMap$Land;[IIZ)V"⟩, 6) := ⟨⟨by decide +kernel, by decide +kernel⟩, List.mem_of_getElem? (i := 172) (by decide +kernel), List.mem_of_getElem? (i := 724) (by decide +kernel), List.mem_of_getElem? (i := 725) (by decide +kernel)⟩
theorem lw_p19 : lw_okq (⟨"LandByMap$Desk", "weighCells", "(LLandByMap$Land;[I)I"⟩, 6) := ⟨⟨by decide +kernel, by decide +kernel⟩, List.mem_of_getElem? (i := 172) (by decide +kernel), List.mem_of_getElem? (i := 728) (by decide +kernel), List.mem_of_getElem? (i := 729) (by decide +kernel)⟩
theorem lw_p20 : lw_okq (⟨"LandByMap$Desk", "drawHaul", "([I)V"⟩, 6) := ⟨⟨by decide +kernel, by decide +kernel⟩, List.mem_of_getElem? (i := 172) (by decide +kernel), List.mem_of_getElem? (i := 737) (by decide +kernel), List.mem_of_getElem? (i := 738) (by decide +kernel)⟩
theorem lw_p21 : lw_okq (⟨"LandByMap$Desk", "tabulateAll", "(LLandByMap$Land;)V"⟩, 6) := ⟨⟨by decide +kernel, by decide +kernel⟩, List.mem_of_getElem? (i := 172) (by decide +kernel), List.mem_of_getElem? (i := 741) (by decide +kernel), List.mem_of_getElem? (i := 742) (by decide +kernel)⟩
theorem lw_p22 : lw_okq (⟨"LandByMap$Desk", "pickAhead", "(LLandByMap$Land;I)V"⟩, 6) := ⟨⟨by decide +kernel, by decide +kernel⟩, List.mem_of_getElem? (i := 172) (by decide +kernel), List.mem_of_getElem? (i := 745) (by decide +kernel), List.mem_of_getElem? (i := 746) (by decide +kernel)⟩
theorem lw_p23 : lw_okq (⟨"LandByMap$Desk", "worthThatComes", "(LLandByMap$Land;)I"⟩, 6) := ⟨⟨by decide +kernel, by decide +kernel⟩, List.mem_of_getElem? (i := 172) (by decide +kernel), List.mem_of_getElem? (i := 749) (by decide +kernel), List.mem_of_getElem? (i := 750) (by decide +kernel)⟩
theorem lw_p24 : lw_okq (⟨"LandByMap$Desk", "worthByTable", "(LLandByMap$Land;)I"⟩, 6) := ⟨⟨by decide +kernel, by decide +kernel⟩, List.mem_of_getElem? (i := 172) (by decide +kernel), List.mem_of_getElem? (i := 753) (by decide +kernel), List.mem_of_getElem? (i := 754) (by decide +kernel)⟩
theorem lw_p25 : lw_okq (⟨"LandByMap", "passYear", "(LLandByMap$Land;I)I"⟩, 13) := ⟨⟨by decide +kernel, by decide +kernel⟩, List.mem_of_getElem? (i := 23) (by decide +kernel), List.mem_of_getElem? (i := 772) (by decide +kernel), List.mem_of_getElem? (i := 773) (by decide +kernel)⟩
theorem lw_p26 : lw_okq (⟨"LandByMap", "bestForAll", "(I)I"⟩, 13) := ⟨⟨by decide +kernel, by decide +kernel⟩, List.mem_of_getElem? (i := 23) (by decide +kernel), List.mem_of_getElem? (i := 827) (by decide +kernel), List.mem_of_getElem? (i := 828) (by decide +kernel)⟩
theorem lw_p27 : lw_okq (⟨"LandByMap", "castVotes", "(I)V"⟩, 13) := ⟨⟨by decide +kernel, by decide +kernel⟩, List.mem_of_getElem? (i := 23) (by decide +kernel), List.mem_of_getElem? (i := 831) (by decide +kernel), List.mem_of_getElem? (i := 832) (by decide +kernel)⟩
theorem lw_p28 : lw_okq (⟨"java/lang/Throwable", "fillInStackTrace", "(I)Ljava/lang/Throwable;"⟩, 6) := ⟨⟨by decide +kernel, by decide +kernel⟩, List.mem_of_getElem? (i := 970) (by decide +kernel), List.mem_of_getElem? (i := 968) (by decide +kernel), List.mem_of_getElem? (i := 969) (by decide +kernel)⟩
theorem lw_p29 : lw_okq (⟨"LandByMapModel", "wrongRow", "(II)I"⟩, 36) := ⟨⟨by decide +kernel, by decide +kernel⟩, List.mem_of_getElem? (i := 1044) (by decide +kernel), List.mem_of_getElem? (i := 1167) (by decide +kernel), List.mem_of_getElem? (i := 1168) (by decide +kernel)⟩
theorem lw_p30 : lw_okq (⟨"LandByMapModel", "readsStatement", "()Z"⟩, 36) := ⟨⟨by decide +kernel, by decide +kernel⟩, List.mem_of_getElem? (i := 1044) (by decide +kernel), List.mem_of_getElem? (i := 1178) (by decide +kernel), List.mem_of_getElem? (i := 1179) (by decide +kernel)⟩
theorem lw_p31 : lw_okq (⟨"LandByMapModel", "here", "()I"⟩, 36) := ⟨⟨by decide +kernel, by decide +kernel⟩, List.mem_of_getElem? (i := 1044) (by decide +kernel), List.mem_of_getElem? (i := 1182) (by decide +kernel), List.mem_of_getElem? (i := 1183) (by decide +kernel)⟩
def lw_privs_2 : List (MethodName × Nat) := [(⟨"LandByMap$Digging", "digPair", "(LLandByMap$Land;IIZ)Z"⟩, 14), (⟨"LandByMap$Digging", "digWholly", "(LLandByMap$Land;)V"⟩, 14), (⟨"LandByMap$Desk", "pickHaul", "(LLandByMap$Land;[IIZ)V"⟩, 6), (⟨"LandByMap$Desk", "weighCells", "(LLandByMap$Land;[I)I"⟩, 6), (⟨"LandByMap$Desk", "drawHaul", "([I)V"⟩, 6), (⟨"LandByMap$Desk", "tabulateAll", "(LLandByMap$Land;)V"⟩, 6), (⟨"LandByMap$Desk", "pickAhead", "(LLandByMap$Land;I)V"⟩, 6), (⟨"LandByMap$Desk", "worthThatComes", "(LLandByMap$Land;)I"⟩, 6), (⟨"LandByMap$Desk", "worthByTable", "(LLandByMap$Land;)I"⟩, 6), (⟨"LandByMap", "passYear", "(LLandByMap$Land;I)I"⟩, 13), (⟨"LandByMap", "bestForAll", "(I)I"⟩, 13), (⟨"LandByMap", "castVotes", "(I)V"⟩, 13), (⟨"java/lang/Throwable", "fillInStackTrace", "(I)Ljava/lang/Throwable;"⟩, 6), (⟨"LandByMapModel", "wrongRow", "(II)I"⟩, 36), (⟨"LandByMapModel", "readsStatement", "()Z"⟩, 36), (⟨"LandByMapModel", "here", "()I"⟩, 36)]
theorem lw_r2 : ∀ q ∈ lw_privs_2, lw_okq q := List.forall_mem_cons.mpr ⟨lw_p16, List.forall_mem_cons.mpr ⟨lw_p17, List.forall_mem_cons.mpr ⟨lw_p18, List.forall_mem_cons.mpr ⟨lw_p19, List.forall_mem_cons.mpr ⟨lw_p20, List.forall_mem_cons.mpr ⟨lw_p21, List.forall_mem_cons.mpr ⟨lw_p22, List.forall_mem_cons.mpr ⟨lw_p23, List.forall_mem_cons.mpr ⟨lw_p24, List.forall_mem_cons.mpr ⟨lw_p25, List.forall_mem_cons.mpr ⟨lw_p26, List.forall_mem_cons.mpr ⟨lw_p27, List.forall_mem_cons.mpr ⟨lw_p28, List.forall_mem_cons.mpr ⟨lw_p29, List.forall_mem_cons.mpr ⟨lw_p30, List.forall_mem_cons.mpr ⟨lw_p31, fun _ h => absurd h List.not_mem_nil⟩⟩⟩⟩⟩⟩⟩⟩⟩⟩⟩⟩⟩⟩⟩⟩
theorem lw_p32 : lw_okq (⟨"LandByMapModel", "readsNumber", "(I)Z"⟩, 36) := ⟨⟨by decide +kernel, by decide +kernel⟩, List.mem_of_getElem? (i := 1044) (by decide +kernel), List.mem_of_getElem? (i := 1186) (by decide +kernel), List.mem_of_getElem? (i := 1187) (by decide +kernel)⟩
theorem lw_p33 : lw_okq (⟨"LandByMapModel", "isDigit", "()Z"⟩, 36) := ⟨⟨by decide +kernel, by decide +kernel⟩, List.mem_of_getElem? (i := 1044) (by decide +kernel), List.mem_of_getElem? (i := 1190) (by decide +kernel), List.mem_of_getElem? (i := 1191) (by decide +kernel)⟩
theorem lw_p34 : lw_okq (⟨"LandByMapModel", "takes", "(I)Z"⟩, 36) := ⟨⟨by decide +kernel, by decide +kernel⟩, List.mem_of_getElem? (i := 1044) (by decide +kernel), List.mem_of_getElem? (i := 1196) (by decide +kernel), List.mem_of_getElem? (i := 1197) (by decide +kernel)⟩
theorem lw_p35 : lw_okq (⟨"LandByMapModel", "comes", "(I)Z"⟩, 36) := ⟨⟨by decide +kernel, by decide +kernel⟩, List.mem_of_getElem? (i := 1044) (by decide +kernel), List.mem_of_getElem? (i := 1200) (by decide +kernel), List.mem_of_getElem? (i := 1201) (by decide +kernel)⟩
theorem lw_p36 : lw_okq (⟨"LandByMapModel", "comesAnew", "(II)Z"⟩, 36) := ⟨⟨by decide +kernel, by decide +kernel⟩, List.mem_of_getElem? (i := 1044) (by decide +kernel), List.mem_of_getElem? (i := 1204) (by decide +kernel), List.mem_of_getElem? (i := 1205) (by decide +kernel)⟩
theorem lw_p37 : lw_okq (⟨"LandByMapModel", "isLost", "()Z"⟩, 36) := ⟨⟨by decide +kernel, by decide +kernel⟩, List.mem_of_getElem? (i := 1044) (by decide +kernel), List.mem_of_getElem? (i := 1215) (by decide +kernel), List.mem_of_getElem? (i := 1216) (by decide +kernel)⟩
theorem lw_p38 : lw_okq (⟨"LandByMapModel", "flows", "()V"⟩, 36) := ⟨⟨by decide +kernel, by decide +kernel⟩, List.mem_of_getElem? (i := 1044) (by decide +kernel), List.mem_of_getElem? (i := 1219) (by decide +kernel), List.mem_of_getElem? (i := 1220) (by decide +kernel)⟩
theorem lw_p39 : lw_okq (⟨"LandByMapModel", "isCell", "(I)Z"⟩, 36) := ⟨⟨by decide +kernel, by decide +kernel⟩, List.mem_of_getElem? (i := 1044) (by decide +kernel), List.mem_of_getElem? (i := 1230) (by decide +kernel), List.mem_of_getElem? (i := 1231) (by decide +kernel)⟩
theorem lw_p40 : lw_okq (⟨"LandByMapModel", "cells", "()I"⟩, 36) := ⟨⟨by decide +kernel, by decide +kernel⟩, List.mem_of_getElem? (i := 1044) (by decide +kernel), List.mem_of_getElem? (i := 1234) (by decide +kernel), List.mem_of_getElem? (i := 1235) (by decide +kernel)⟩
theorem lw_p41 : lw_okq (⟨"LandByMapModel", "isHouse", "(I)Z"⟩, 36) := ⟨⟨by decide +kernel, by decide +kernel⟩, List.mem_of_getElem? (i := 1044) (by decide +kernel), List.mem_of_getElem? (i := 1238) (by decide +kernel), List.mem_of_getElem? (i := 1239) (by decide +kernel)⟩
theorem lw_p42 : lw_okq (⟨"LandByMapModel", "wrongMap", "(I)I"⟩, 36) := ⟨⟨by decide +kernel, by decide +kernel⟩, List.mem_of_getElem? (i := 1044) (by decide +kernel), List.mem_of_getElem? (i := 1262) (by decide +kernel), List.mem_of_getElem? (i := 1263) (by decide +kernel)⟩
theorem lw_p43 : lw_okq (⟨"LandByMapModel", "saidOf", "(II)I"⟩, 36) := ⟨⟨by decide +kernel, by decide +kernel⟩, List.mem_of_getElem? (i := 1044) (by decide +kernel), List.mem_of_getElem? (i := 1266) (by decide +kernel), List.mem_of_getElem? (i := 1267) (by decide +kernel)⟩
theorem lw_p44 : lw_okq (⟨"LandByMapModel", "said", "()I"⟩, 36) := ⟨⟨by decide +kernel, by decide +kernel⟩, List.mem_of_getElem? (i := 1044) (by decide +kernel), List.mem_of_getElem? (i := 1270) (by decide +kernel), List.mem_of_getElem? (i := 1271) (by decide +kernel)⟩
theorem lw_p45 : lw_okq (⟨"LandByMapModel", "mayHaul", "(II)Z"⟩, 36) := ⟨⟨by decide +kernel, by decide +kernel⟩, List.mem_of_getElem? (i := 1044) (by decide +kernel), List.mem_of_getElem? (i := 1278) (by decide +kernel), List.mem_of_getElem? (i := 1279) (by decide +kernel)⟩
theorem lw_p46 : lw_okq (⟨"LandByMapModel", "hoursOf", "(II)I"⟩, 36) := ⟨⟨by decide +kernel, by decide +kernel⟩, List.mem_of_getElem? (i := 1044) (by decide +kernel), List.mem_of_getElem? (i := 1282) (by decide +kernel), List.mem_of_getElem? (i := 1283) (by decide +kernel)⟩
theorem lw_p47 : lw_okq (⟨"LandByMapModel", "near", "(II)I"⟩, 36) := ⟨⟨by decide +kernel, by decide +kernel⟩, List.mem_of_getElem? (i := 1044) (by decide +kernel), List.mem_of_getElem? (i := 1286) (by decide +kernel), List.mem_of_getElem? (i := 1287) (by decide +kernel)⟩
def lw_privs_3 : List (MethodName × Nat) := [(⟨"LandByMapModel", "readsNumber", "(I)Z"⟩, 36), (⟨"LandByMapModel", "isDigit", "()Z"⟩, 36), (⟨"LandByMapModel", "takes", "(I)Z"⟩, 36), (⟨"LandByMapModel", "comes", "(I)Z"⟩, 36), (⟨"LandByMapModel", "comesAnew", "(II)Z"⟩, 36), (⟨"LandByMapModel", "isLost", "()Z"⟩, 36), (⟨"LandByMapModel", "flows", "()V"⟩, 36), (⟨"LandByMapModel", "isCell", "(I)Z"⟩, 36), (⟨"LandByMapModel", "cells", "()I"⟩, 36), (⟨"LandByMapModel", "isHouse", "(I)Z"⟩, 36), (⟨"LandByMapModel", "wrongMap", "(I)I"⟩, 36), (⟨"LandByMapModel", "saidOf", "(II)I"⟩, 36), (⟨"LandByMapModel", "said", "()I"⟩, 36), (⟨"LandByMapModel", "mayHaul", "(II)Z"⟩, 36), (⟨"LandByMapModel", "hoursOf", "(II)I"⟩, 36), (⟨"LandByMapModel", "near", "(II)I"⟩, 36)]
theorem lw_r3 : ∀ q ∈ lw_privs_3, lw_okq q := List.forall_mem_cons.mpr ⟨lw_p32, List.forall_mem_cons.mpr ⟨lw_p33, List.forall_mem_cons.mpr ⟨lw_p34, List.forall_mem_cons.mpr ⟨lw_p35, List.forall_mem_cons.mpr ⟨lw_p36, List.forall_mem_cons.mpr ⟨lw_p37, List.forall_mem_cons.mpr ⟨lw_p38, List.forall_mem_cons.mpr ⟨lw_p39, List.forall_mem_cons.mpr ⟨lw_p40, List.forall_mem_cons.mpr ⟨lw_p41, List.forall_mem_cons.mpr ⟨lw_p42, List.forall_mem_cons.mpr ⟨lw_p43, List.forall_mem_cons.mpr ⟨lw_p44, List.forall_mem_cons.mpr ⟨lw_p45, List.forall_mem_cons.mpr ⟨lw_p46, List.forall_mem_cons.mpr ⟨lw_p47, fun _ h => absurd h List.not_mem_nil⟩⟩⟩⟩⟩⟩⟩⟩⟩⟩⟩⟩⟩⟩⟩⟩
theorem lw_p48 : lw_okq (⟨"LandByMapModel", "moves", "(II)V"⟩, 36) := ⟨⟨by decide +kernel, by decide +kernel⟩, List.mem_of_getElem? (i := 1044) (by decide +kernel), List.mem_of_getElem? (i := 1298) (by decide +kernel), List.mem_of_getElem? (i := 1299) (by decide +kernel)⟩
theorem lw_p49 : lw_okq (⟨"LandByMapModel", "offFrom", "(I)I"⟩, 36) := ⟨⟨by decide +kernel, by decide +kernel⟩, List.mem_of_getElem? (i := 1044) (by decide +kernel), List.mem_of_getElem? (i := 1306) (by decide +kernel), List.mem_of_getElem? (i := 1307) (by decide +kernel)⟩
theorem lw_p50 : lw_okq (⟨"LandByMapModel", "leastOf", "()I"⟩, 36) := ⟨⟨by decide +kernel, by decide +kernel⟩, List.mem_of_getElem? (i := 1044) (by decide +kernel), List.mem_of_getElem? (i := 1314) (by decide +kernel), List.mem_of_getElem? (i := 1315) (by decide +kernel)⟩
theorem lw_p51 : lw_okq (⟨"LandByMapModel", "findsWay", "()I"⟩, 36) := ⟨⟨by decide +kernel, by decide +kernel⟩, List.mem_of_getElem? (i := 1044) (by decide +kernel), List.mem_of_getElem? (i := 1318) (by decide +kernel), List.mem_of_getElem? (i := 1319) (by decide +kernel)⟩
theorem lw_p52 : lw_okq (⟨"LandByMapModel", "keeps", "()V"⟩, 36) := ⟨⟨by decide +kernel, by decide +kernel⟩, List.mem_of_getElem? (i := 1044) (by decide +kernel), List.mem_of_getElem? (i := 1327) (by decide +kernel), List.mem_of_getElem? (i := 1328) (by decide +kernel)⟩
theorem lw_p53 : lw_okq (⟨"LandByMapModel", "putsBack", "()V"⟩, 36) := ⟨⟨by decide +kernel, by decide +kernel⟩, List.mem_of_getElem? (i := 1044) (by decide +kernel), List.mem_of_getElem? (i := 1331) (by decide +kernel), List.mem_of_getElem? (i := 1332) (by decide +kernel)⟩
theorem lw_p54 : lw_okq (⟨"LandByMapModel", "digs", "()V"⟩, 36) := ⟨⟨by decide +kernel, by decide +kernel⟩, List.mem_of_getElem? (i := 1044) (by decide +kernel), List.mem_of_getElem? (i := 1339) (by decide +kernel), List.mem_of_getElem? (i := 1340) (by decide +kernel)⟩
theorem lw_p55 : lw_okq (⟨"LandByMapModel", "isOver", "(I)Z"⟩, 36) := ⟨⟨by decide +kernel, by decide +kernel⟩, List.mem_of_getElem? (i := 1044) (by decide +kernel), List.mem_of_getElem? (i := 1343) (by decide +kernel), List.mem_of_getElem? (i := 1344) (by decide +kernel)⟩
theorem lw_p56 : lw_okq (⟨"LandByMapModel", "isUnder", "(I)Z"⟩, 36) := ⟨⟨by decide +kernel, by decide +kernel⟩, List.mem_of_getElem? (i := 1044) (by decide +kernel), List.mem_of_getElem? (i := 1347) (by decide +kernel), List.mem_of_getElem? (i := 1348) (by decide +kernel)⟩
theorem lw_p57 : lw_okq (⟨"LandByMapModel", "isDrawer", "(I)Z"⟩, 36) := ⟨⟨by decide +kernel, by decide +kernel⟩, List.mem_of_getElem? (i := 1044) (by decide +kernel), List.mem_of_getElem? (i := 1355) (by decide +kernel), List.mem_of_getElem? (i := 1356) (by decide +kernel)⟩
theorem lw_p58 : lw_okq (⟨"LandByMapModel", "get", "(II)I"⟩, 36) := ⟨⟨by decide +kernel, by decide +kernel⟩, List.mem_of_getElem? (i := 1044) (by decide +kernel), List.mem_of_getElem? (i := 1359) (by decide +kernel), List.mem_of_getElem? (i := 1360) (by decide +kernel)⟩
theorem lw_p59 : lw_okq (⟨"LandByMapModel", "worthTo", "(I)I"⟩, 36) := ⟨⟨by decide +kernel, by decide +kernel⟩, List.mem_of_getElem? (i := 1044) (by decide +kernel), List.mem_of_getElem? (i := 1363) (by decide +kernel), List.mem_of_getElem? (i := 1364) (by decide +kernel)⟩
theorem lw_p60 : lw_okq (⟨"LandByMapModel", "findsMap", "(I)V"⟩, 36) := ⟨⟨by decide +kernel, by decide +kernel⟩, List.mem_of_getElem? (i := 1044) (by decide +kernel), List.mem_of_getElem? (i := 1371) (by decide +kernel), List.mem_of_getElem? (i := 1372) (by decide +kernel)⟩
theorem lw_p61 : lw_okq (⟨"LandByMapModel", "findsDrawn", "(II)V"⟩, 36) := ⟨⟨by decide +kernel, by decide +kernel⟩, List.mem_of_getElem? (i := 1044) (by decide +kernel), List.mem_of_getElem? (i := 1375) (by decide +kernel), List.mem_of_getElem? (i := 1376) (by decide +kernel)⟩
theorem lw_p62 : lw_okq (⟨"LandByMapModel", "goodOf", "(III)I"⟩, 36) := ⟨⟨by decide +kernel, by decide +kernel⟩, List.mem_of_getElem? (i := 1044) (by decide +kernel), List.mem_of_getElem? (i := 1379) (by decide +kernel), List.mem_of_getElem? (i := 1380) (by decide +kernel)⟩
theorem lw_p63 : lw_okq (⟨"LandByMapModel", "worthToAll", "()I"⟩, 36) := ⟨⟨by decide +kernel, by decide +kernel⟩, List.mem_of_getElem? (i := 1044) (by decide +kernel), List.mem_of_getElem? (i := 1383) (by decide +kernel), List.mem_of_getElem? (i := 1384) (by decide +kernel)⟩
def lw_privs_4 : List (MethodName × Nat) := [(⟨"LandByMapModel", "moves", "(II)V"⟩, 36), (⟨"LandByMapModel", "offFrom", "(I)I"⟩, 36), (⟨"LandByMapModel", "leastOf", "()I"⟩, 36), (⟨"LandByMapModel", "findsWay", "()I"⟩, 36), (⟨"LandByMapModel", "keeps", "()V"⟩, 36), (⟨"LandByMapModel", "putsBack", "()V"⟩, 36), (⟨"LandByMapModel", "digs", "()V"⟩, 36), (⟨"LandByMapModel", "isOver", "(I)Z"⟩, 36), (⟨"LandByMapModel", "isUnder", "(I)Z"⟩, 36), (⟨"LandByMapModel", "isDrawer", "(I)Z"⟩, 36), (⟨"LandByMapModel", "get", "(II)I"⟩, 36), (⟨"LandByMapModel", "worthTo", "(I)I"⟩, 36), (⟨"LandByMapModel", "findsMap", "(I)V"⟩, 36), (⟨"LandByMapModel", "findsDrawn", "(II)V"⟩, 36), (⟨"LandByMapModel", "goodOf", "(III)I"⟩, 36), (⟨"LandByMapModel", "worthToAll", "()I"⟩, 36)]
theorem lw_r4 : ∀ q ∈ lw_privs_4, lw_okq q := List.forall_mem_cons.mpr ⟨lw_p48, List.forall_mem_cons.mpr ⟨lw_p49, List.forall_mem_cons.mpr ⟨lw_p50, List.forall_mem_cons.mpr ⟨lw_p51, List.forall_mem_cons.mpr ⟨lw_p52, List.forall_mem_cons.mpr ⟨lw_p53, List.forall_mem_cons.mpr ⟨lw_p54, List.forall_mem_cons.mpr ⟨lw_p55, List.forall_mem_cons.mpr ⟨lw_p56, List.forall_mem_cons.mpr ⟨lw_p57, List.forall_mem_cons.mpr ⟨lw_p58, List.forall_mem_cons.mpr ⟨lw_p59, List.forall_mem_cons.mpr ⟨lw_p60, List.forall_mem_cons.mpr ⟨lw_p61, List.forall_mem_cons.mpr ⟨lw_p62, List.forall_mem_cons.mpr ⟨lw_p63, fun _ h => absurd h List.not_mem_nil⟩⟩⟩⟩⟩⟩⟩⟩⟩⟩⟩⟩⟩⟩⟩⟩
theorem lw_p64 : lw_okq (⟨"LandByMapModel", "aheadOf", "(I)I"⟩, 36) := ⟨⟨by decide +kernel, by decide +kernel⟩, List.mem_of_getElem? (i := 1044) (by decide +kernel), List.mem_of_getElem? (i := 1387) (by decide +kernel), List.mem_of_getElem? (i := 1388) (by decide +kernel)⟩
theorem lw_p65 : lw_okq (⟨"LandByMapModel", "keepsHeights", "()V"⟩, 36) := ⟨⟨by decide +kernel, by decide +kernel⟩, List.mem_of_getElem? (i := 1044) (by decide +kernel), List.mem_of_getElem? (i := 1395) (by decide +kernel), List.mem_of_getElem? (i := 1396) (by decide +kernel)⟩
theorem lw_p66 : lw_okq (⟨"LandByMapModel", "goesYear", "(I)Z"⟩, 36) := ⟨⟨by decide +kernel, by decide +kernel⟩, List.mem_of_getElem? (i := 1044) (by decide +kernel), List.mem_of_getElem? (i := 1399) (by decide +kernel), List.mem_of_getElem? (i := 1400) (by decide +kernel)⟩
theorem lw_p67 : lw_okq (⟨"LandByMapModel", "offFirst", "()I"⟩, 36) := ⟨⟨by decide +kernel, by decide +kernel⟩, List.mem_of_getElem? (i := 1044) (by decide +kernel), List.mem_of_getElem? (i := 1403) (by decide +kernel), List.mem_of_getElem? (i := 1404) (by decide +kernel)⟩
theorem lw_p68 : lw_okq (⟨"LandByMapModel", "begins", "()V"⟩, 36) := ⟨⟨by decide +kernel, by decide +kernel⟩, List.mem_of_getElem? (i := 1044) (by decide +kernel), List.mem_of_getElem? (i := 1411) (by decide +kernel), List.mem_of_getElem? (i := 1412) (by decide +kernel)⟩
theorem lw_p69 : lw_okq (⟨"LandByMapModel", "ends", "()V"⟩, 36) := ⟨⟨by decide +kernel, by decide +kernel⟩, List.mem_of_getElem? (i := 1044) (by decide +kernel), List.mem_of_getElem? (i := 1415) (by decide +kernel), List.mem_of_getElem? (i := 1416) (by decide +kernel)⟩
theorem lw_p70 : lw_okq (⟨"LandByMapModel", "drawnAt", "(I)I"⟩, 36) := ⟨⟨by decide +kernel, by decide +kernel⟩, List.mem_of_getElem? (i := 1044) (by decide +kernel), List.mem_of_getElem? (i := 1440) (by decide +kernel), List.mem_of_getElem? (i := 1441) (by decide +kernel)⟩
theorem lw_p71 : lw_okq (⟨"LandByMapModel", "leastNumber", "(I)I"⟩, 36) := ⟨⟨by decide +kernel, by decide +kernel⟩, List.mem_of_getElem? (i := 1044) (by decide +kernel), List.mem_of_getElem? (i := 1458) (by decide +kernel), List.mem_of_getElem? (i := 1459) (by decide +kernel)⟩
theorem lw_p72 : lw_okq (⟨"LandByMapModel", "wrongKept", "(I)I"⟩, 36) := ⟨⟨by decide +kernel, by decide +kernel⟩, List.mem_of_getElem? (i := 1044) (by decide +kernel), List.mem_of_getElem? (i := 1502) (by decide +kernel), List.mem_of_getElem? (i := 1503) (by decide +kernel)⟩
def lw_privs_5 : List (MethodName × Nat) := [(⟨"LandByMapModel", "aheadOf", "(I)I"⟩, 36), (⟨"LandByMapModel", "keepsHeights", "()V"⟩, 36), (⟨"LandByMapModel", "goesYear", "(I)Z"⟩, 36), (⟨"LandByMapModel", "offFirst", "()I"⟩, 36), (⟨"LandByMapModel", "begins", "()V"⟩, 36), (⟨"LandByMapModel", "ends", "()V"⟩, 36), (⟨"LandByMapModel", "drawnAt", "(I)I"⟩, 36), (⟨"LandByMapModel", "leastNumber", "(I)I"⟩, 36), (⟨"LandByMapModel", "wrongKept", "(I)I"⟩, 36)]
theorem lw_r5 : ∀ q ∈ lw_privs_5, lw_okq q := List.forall_mem_cons.mpr ⟨lw_p64, List.forall_mem_cons.mpr ⟨lw_p65, List.forall_mem_cons.mpr ⟨lw_p66, List.forall_mem_cons.mpr ⟨lw_p67, List.forall_mem_cons.mpr ⟨lw_p68, List.forall_mem_cons.mpr ⟨lw_p69, List.forall_mem_cons.mpr ⟨lw_p70, List.forall_mem_cons.mpr ⟨lw_p71, List.forall_mem_cons.mpr ⟨lw_p72, fun _ h => absurd h List.not_mem_nil⟩⟩⟩⟩⟩⟩⟩⟩⟩
def lw_privs : List (MethodName × Nat) := lw_privs_1 ++ (lw_privs_2 ++ (lw_privs_3 ++ (lw_privs_4 ++ (lw_privs_5))))
def lw_tbl : List Cond := k2_sels lw_privs ++ tables_1
theorem lw_privs_ok : ∀ q ∈ lw_privs, lw_okq q := by
  show ∀ q ∈ lw_privs_1 ++ (lw_privs_2 ++ (lw_privs_3 ++ (lw_privs_4 ++ (lw_privs_5)))), lw_okq q
  exact List.forall_mem_append.mpr ⟨lw_r1, List.forall_mem_append.mpr ⟨lw_r2, List.forall_mem_append.mpr ⟨lw_r3, List.forall_mem_append.mpr ⟨lw_r4, lw_r5⟩⟩⟩⟩
-- ===== end of PART A; then your names; then what follows =====
end
section
/-! names of the classes, fields, methods: taken from the printed names of this claim -/
def RX0 : String := "LandByMap$Desk"
def TX0 : u_T := fun k => match k with
  | 0 => ("LandByMap$Desk", "worths", "[I", true)
  | 1 => ("LandByMap$Desk", "nextWorths", "[I", true)
  | 2 => ("LandByMap$Desk", "lowered", "[I", true)
  | 3 => ("LandByMap$Desk", "raised", "[I", true)
  | 4 => ("LandByMap$Desk", "from", "I", false)
  | _ => ("LandByMap$Desk", "to", "I", false)
def tyX0 : Nat → FieldType := fun k => match k with
  | 0 => .array .int
  | 1 => .array .int
  | 2 => .array .int
  | 3 => .array .int
  | 4 => .int
  | _ => .int
theorem nmX0 : ∀ a, a < 6 → ∀ b, b < 6 → a ≠ b → (TX0 a).2.1 ≠ (TX0 b).2.1 := by decide +kernel
theorem tyX0_ok : ∀ k, k < 6 → parseFieldDescriptor (TX0 k).2.2.1 = some (tyX0 k) := by decide +kernel
def RX1 : String := "LandByMap$Digging"
def TX1 : u_T := fun k => match k with
  | 0 => ("LandByMap$Digging", "steps", "I", false)
  | 1 => ("LandByMap$Digging", "left", "I", false)
  | 2 => ("LandByMap$Digging", "excess", "[I", true)
  | 3 => ("LandByMap$Digging", "highs", "I", false)
  | 4 => ("LandByMap$Digging", "lows", "I", false)
  | 5 => ("LandByMap$Digging", "high", "[I", true)
  | 6 => ("LandByMap$Digging", "low", "[I", true)
  | 7 => ("LandByMap$Digging", "surplus", "[I", true)
  | 8 => ("LandByMap$Digging", "lack", "[I", true)
  | 9 => ("LandByMap$Digging", "moved", "[[I", true)
  | 10 => ("LandByMap$Digging", "highFar", "[I", true)
  | 11 => ("LandByMap$Digging", "lowFar", "[I", true)
  | 12 => ("LandByMap$Digging", "highBack", "[I", true)
  | _ => ("LandByMap$Digging", "lowBack", "[I", true)
def tyX1 : Nat → FieldType := fun k => match k with
  | 0 => .int
  | 1 => .int
  | 2 => .array .int
  | 3 => .int
  | 4 => .int
  | 5 => .array .int
  | 6 => .array .int
  | 7 => .array .int
  | 8 => .array .int
  | 9 => .array (.array .int)
  | 10 => .array .int
  | 11 => .array .int
  | 12 => .array .int
  | _ => .array .int
theorem nmX1 : ∀ a, a < 14 → ∀ b, b < 14 → a ≠ b → (TX1 a).2.1 ≠ (TX1 b).2.1 := by decide +kernel
theorem tyX1_ok : ∀ k, k < 14 → parseFieldDescriptor (TX1 k).2.2.1 = some (tyX1 k) := by decide +kernel
def RX2 : String := "LandByMap$Drawer"
def TX2 : u_T := fun k => match k with
  | 0 => ("LandByMap$Drawer", "number", "I", true)
  | 1 => ("LandByMap$Drawer", "kind", "I", true)
  | _ => ("LandByMap$Drawer", "figure", "I", true)
def tyX2 : Nat → FieldType := fun k => match k with
  | 0 => .int
  | 1 => .int
  | _ => .int
theorem nmX2 : ∀ a, a < 3 → ∀ b, b < 3 → a ≠ b → (TX2 a).2.1 ≠ (TX2 b).2.1 := by decide +kernel
theorem tyX2_ok : ∀ k, k < 3 → parseFieldDescriptor (TX2 k).2.2.1 = some (tyX2 k) := by decide +kernel
def RX3 : String := "LandByMap$Land"
def TX3 : u_T := fun k => match k with
  | 0 => ("LandByMap$Land", "rows", "I", false)
  | 1 => ("LandByMap$Land", "columns", "I", false)
  | 2 => ("LandByMap$Land", "cells", "I", false)
  | 3 => ("LandByMap$Land", "spring", "I", false)
  | 4 => ("LandByMap$Land", "hours", "I", false)
  | 5 => ("LandByMap$Land", "law", "I", false)
  | 6 => ("LandByMap$Land", "year", "I", false)
  | 7 => ("LandByMap$Land", "drawerCount", "I", false)
  | 8 => ("LandByMap$Land", "columnOf", "[I", true)
  | 9 => ("LandByMap$Land", "nears", "[I", true)
  | 10 => ("LandByMap$Land", "beside", "[I", true)
  | 11 => ("LandByMap$Land", "heights", "[I", true)
  | 12 => ("LandByMap$Land", "said", "[I", true)
  | 13 => ("LandByMap$Land", "houses", "[Z", true)
  | 14 => ("LandByMap$Land", "drawers", "[LLandByMap$Drawer;", true)
  | 15 => ("LandByMap$Land", "wishCounts", "[I", true)
  | 16 => ("LandByMap$Land", "wishCells", "[I", true)
  | 17 => ("LandByMap$Land", "wishHeights", "[I", true)
  | 18 => ("LandByMap$Land", "wishWorths", "[I", true)
  | _ => ("LandByMap$Land", "way", "[I", true)
def tyX3 : Nat → FieldType := fun k => match k with
  | 0 => .int
  | 1 => .int
  | 2 => .int
  | 3 => .int
  | 4 => .int
  | 5 => .int
  | 6 => .int
  | 7 => .int
  | 8 => .array .int
  | 9 => .array .int
  | 10 => .array .int
  | 11 => .array .int
  | 12 => .array .int
  | 13 => .array .boolean
  | 14 => .array (.object "LandByMap$Drawer")
  | 15 => .array .int
  | 16 => .array .int
  | 17 => .array .int
  | 18 => .array .int
  | _ => .array .int
theorem nmX3 : ∀ a, a < 20 → ∀ b, b < 20 → a ≠ b → (TX3 a).2.1 ≠ (TX3 b).2.1 := by decide +kernel
theorem tyX3_ok : ∀ k, k < 20 → parseFieldDescriptor (TX3 k).2.2.1 = some (tyX3 k) := by decide +kernel
def RX4 : String := "LandByMap$Shelf"
def TX4 : u_T := fun k => match k with
  | 0 => ("LandByMap$Shelf", "drawer", "LLandByMap$Drawer;", false)
  | 1 => ("LandByMap$Shelf", "isRow", "Z", false)
  | 2 => ("LandByMap$Shelf", "sort", "I", false)
  | 3 => ("LandByMap$Shelf", "size", "I", false)
  | _ => ("LandByMap$Shelf", "elements", "[I", true)
def tyX4 : Nat → FieldType := fun k => match k with
  | 0 => .object "LandByMap$Drawer"
  | 1 => .boolean
  | 2 => .int
  | 3 => .int
  | _ => .array .int
theorem nmX4 : ∀ a, a < 5 → ∀ b, b < 5 → a ≠ b → (TX4 a).2.1 ≠ (TX4 b).2.1 := by decide +kernel
theorem tyX4_ok : ∀ k, k < 5 → parseFieldDescriptor (TX4 k).2.2.1 = some (tyX4 k) := by decide +kernel
def RX5 : String := "LandByMap$Text"
def TX5 : u_T := fun k => match k with
  | 0 => ("LandByMap$Text", "bytes", "[I", false)
  | 1 => ("LandByMap$Text", "size", "I", false)
  | 2 => ("LandByMap$Text", "at", "I", false)
  | 3 => ("LandByMap$Text", "found", "I", false)
  | _ => ("LandByMap$Text", "values", "[I", true)
def tyX5 : Nat → FieldType := fun k => match k with
  | 0 => .array .int
  | 1 => .int
  | 2 => .int
  | 3 => .int
  | _ => .array .int
theorem nmX5 : ∀ a, a < 5 → ∀ b, b < 5 → a ≠ b → (TX5 a).2.1 ≠ (TX5 b).2.1 := by decide +kernel
theorem tyX5_ok : ∀ k, k < 5 → parseFieldDescriptor (TX5 k).2.2.1 = some (tyX5 k) := by decide +kernel
def RX6 : String := "LandByMap"
def TX6 : u_T := fun k => match k with
  | 0 => ("LandByMap", "here", "LLandByMap$Land;", true)
  | 1 => ("LandByMap", "mind", "LLandByMap$Land;", true)
  | 2 => ("LandByMap", "draft", "LLandByMap$Land;", true)
  | 3 => ("LandByMap", "picture", "LLandByMap$Land;", true)
  | 4 => ("LandByMap", "pictured", "Z", false)
  | 5 => ("LandByMap", "shelves", "[LLandByMap$Shelf;", true)
  | 6 => ("LandByMap", "text", "LLandByMap$Text;", true)
  | 7 => ("LandByMap", "desk", "LLandByMap$Desk;", true)
  | 8 => ("LandByMap", "digging", "LLandByMap$Digging;", true)
  | 9 => ("LandByMap", "plan", "[I", true)
  | 10 => ("LandByMap", "before", "[I", true)
  | 11 => ("LandByMap", "plans", "[[I", true)
  | _ => ("LandByMap", "votes", "[I", true)
def tyX6 : Nat → FieldType := fun k => match k with
  | 0 => .object "LandByMap$Land"
  | 1 => .object "LandByMap$Land"
  | 2 => .object "LandByMap$Land"
  | 3 => .object "LandByMap$Land"
  | 4 => .boolean
  | 5 => .array (.object "LandByMap$Shelf")
  | 6 => .object "LandByMap$Text"
  | 7 => .object "LandByMap$Desk"
  | 8 => .object "LandByMap$Digging"
  | 9 => .array .int
  | 10 => .array .int
  | 11 => .array (.array .int)
  | _ => .array .int
theorem nmX6 : ∀ a, a < 13 → ∀ b, b < 13 → a ≠ b → (TX6 a).2.1 ≠ (TX6 b).2.1 := by decide +kernel
theorem tyX6_ok : ∀ k, k < 13 → parseFieldDescriptor (TX6 k).2.2.1 = some (tyX6 k) := by decide +kernel
def RX7 : String := "LandByMapModel"
def TX7 : u_T := fun k => match k with
  | 0 => ("LandByMapModel", "s", "[I", true)
  | 1 => ("LandByMapModel", "image", "[I", true)
  | 2 => ("LandByMapModel", "read", "[I", true)
  | 3 => ("LandByMapModel", "kept", "[I", true)
  | 4 => ("LandByMapModel", "sort", "[I", true)
  | 5 => ("LandByMapModel", "size", "[I", true)
  | 6 => ("LandByMapModel", "element", "[I", true)
  | 7 => ("LandByMapModel", "keptPrice", "[I", true)
  | 8 => ("LandByMapModel", "keptToss", "[I", true)
  | 9 => ("LandByMapModel", "hasImage", "Z", false)
  | 10 => ("LandByMapModel", "thrown", "I", false)
  | 11 => ("LandByMapModel", "pos", "I", false)
  | 12 => ("LandByMapModel", "base", "I", false)
  | 13 => ("LandByMapModel", "end", "I", false)
  | 14 => ("LandByMapModel", "told", "I", false)
  | 15 => ("LandByMapModel", "numbers", "[I", true)
  | 16 => ("LandByMapModel", "way", "I", false)
  | 17 => ("LandByMapModel", "stands", "I", false)
  | 18 => ("LandByMapModel", "beside", "[I", true)
  | 19 => ("LandByMapModel", "over", "[I", true)
  | 20 => ("LandByMapModel", "sent", "[I", true)
  | 21 => ("LandByMapModel", "dear", "[I", true)
  | 22 => ("LandByMapModel", "before", "[I", true)
  | 23 => ("LandByMapModel", "steps", "I", false)
  | 24 => ("LandByMapModel", "keptRow", "[I", true)
  | 25 => ("LandByMapModel", "dug", "I", false)
  | 26 => ("LandByMapModel", "left", "I", false)
  | 27 => ("LandByMapModel", "barred", "[Z", true)
  | 28 => ("LandByMapModel", "atRow", "[I", true)
  | 29 => ("LandByMapModel", "drawnFrom", "I", false)
  | 30 => ("LandByMapModel", "drawnTo", "I", false)
  | 31 => ("LandByMapModel", "drawn", "[I", true)
  | 32 => ("LandByMapModel", "heightsWere", "[I", true)
  | 33 => ("LandByMapModel", "firstHeights", "[I", true)
  | 34 => ("LandByMapModel", "mindRow", "[I", true)
  | _ => ("LandByMapModel", "worths", "[I", true)
def tyX7 : Nat → FieldType := fun k => match k with
  | 0 => .array .int
  | 1 => .array .int
  | 2 => .array .int
  | 3 => .array .int
  | 4 => .array .int
  | 5 => .array .int
  | 6 => .array .int
  | 7 => .array .int
  | 8 => .array .int
  | 9 => .boolean
  | 10 => .int
  | 11 => .int
  | 12 => .int
  | 13 => .int
  | 14 => .int
  | 15 => .array .int
  | 16 => .int
  | 17 => .int
  | 18 => .array .int
  | 19 => .array .int
  | 20 => .array .int
  | 21 => .array .int
  | 22 => .array .int
  | 23 => .int
  | 24 => .array .int
  | 25 => .int
  | 26 => .int
  | 27 => .array .boolean
  | 28 => .array .int
  | 29 => .int
  | 30 => .int
  | 31 => .array .int
  | 32 => .array .int
  | 33 => .array .int
  | 34 => .array .int
  | _ => .array .int
theorem nmX7 : ∀ a, a < 36 → ∀ b, b < 36 → a ≠ b → (TX7 a).2.1 ≠ (TX7 b).2.1 := by decide +kernel
theorem tyX7_ok : ∀ k, k < 36 → parseFieldDescriptor (TX7 k).2.2.1 = some (tyX7 k) := by decide +kernel
def RJ7 : String := "java/util/Arrays"
def RL : String := "LandByMapLaw"
abbrev cX0_init : ByteArray := prog_2_method_1_code
def yX0_init : MethodName := ⟨RX0, "<init>", "()V"⟩
abbrev cX0_sketch : ByteArray := prog_2_method_2_code
def yX0_sketch : MethodName := ⟨RX0, "sketch", "(LLandByMap$Land;I[I)V"⟩
abbrev cX0_drawHaul : ByteArray := prog_2_method_3_code
def yX0_drawHaul : MethodName := ⟨RX0, "drawHaul", "([I)V"⟩
abbrev cX0_drawTold : ByteArray := prog_2_method_4_code
def yX0_drawTold : MethodName := ⟨RX0, "drawTold", "(LLandByMap$Land;[I)V"⟩
abbrev cX0_smudge : ByteArray := prog_2_method_5_code
def yX0_smudge : MethodName := ⟨RX0, "smudge", "(LLandByMap$Land;I[I)V"⟩
abbrev cX0_tabulate : ByteArray := prog_2_method_6_code
def yX0_tabulate : MethodName := ⟨RX0, "tabulate", "(LLandByMap$Land;I[I)V"⟩
abbrev cX0_tabulateAll : ByteArray := prog_2_method_7_code
def yX0_tabulateAll : MethodName := ⟨RX0, "tabulateAll", "(LLandByMap$Land;)V"⟩
abbrev cX0_addWishes : ByteArray := prog_2_method_8_code
def yX0_addWishes : MethodName := ⟨RX0, "addWishes", "(LLandByMap$Land;I[I)V"⟩
abbrev cX0_pickHaul : ByteArray := prog_2_method_9_code
def yX0_pickHaul : MethodName := ⟨RX0, "pickHaul", "(LLandByMap$Land;[IIZ)V"⟩
abbrev cX0_weighCells : ByteArray := prog_2_method_10_code
def yX0_weighCells : MethodName := ⟨RX0, "weighCells", "(LLandByMap$Land;[I)I"⟩
abbrev cX0_pickAhead : ByteArray := prog_2_method_11_code
def yX0_pickAhead : MethodName := ⟨RX0, "pickAhead", "(LLandByMap$Land;I)V"⟩
abbrev cX0_worthThatComes : ByteArray := prog_2_method_12_code
def yX0_worthThatComes : MethodName := ⟨RX0, "worthThatComes", "(LLandByMap$Land;)I"⟩
abbrev cX0_worthByTable : ByteArray := prog_2_method_13_code
def yX0_worthByTable : MethodName := ⟨RX0, "worthByTable", "(LLandByMap$Land;)I"⟩
abbrev cX1_init : ByteArray := prog_3_method_1_code
def yX1_init : MethodName := ⟨RX1, "<init>", "()V"⟩
abbrev cX1_follow : ByteArray := prog_3_method_2_code
def yX1_follow : MethodName := ⟨RX1, "follow", "(LLandByMap$Land;)V"⟩
abbrev cX1_digWholly : ByteArray := prog_3_method_3_code
def yX1_digWholly : MethodName := ⟨RX1, "digWholly", "(LLandByMap$Land;)V"⟩
abbrev cX1_digByPairs : ByteArray := prog_3_method_4_code
def yX1_digByPairs : MethodName := ⟨RX1, "digByPairs", "(LLandByMap$Land;Z)V"⟩
abbrev cX1_digPair : ByteArray := prog_3_method_5_code
def yX1_digPair : MethodName := ⟨RX1, "digPair", "(LLandByMap$Land;IIZ)Z"⟩
abbrev cX1_weighExcess : ByteArray := prog_3_method_6_code
def yX1_weighExcess : MethodName := ⟨RX1, "weighExcess", "(LLandByMap$Land;[I)V"⟩
abbrev cX1_leastHours : ByteArray := prog_3_method_7_code
def yX1_leastHours : MethodName := ⟨RX1, "leastHours", "(LLandByMap$Land;[I)I"⟩
abbrev cX1_sortOut : ByteArray := prog_3_method_8_code
def yX1_sortOut : MethodName := ⟨RX1, "sortOut", "(LLandByMap$Land;)Z"⟩
abbrev cX1_spreadAll : ByteArray := prog_3_method_9_code
def yX1_spreadAll : MethodName := ⟨RX1, "spreadAll", "(LLandByMap$Land;)V"⟩
abbrev cX1_spreadForth : ByteArray := prog_3_method_10_code
def yX1_spreadForth : MethodName := ⟨RX1, "spreadForth", "(LLandByMap$Land;)Z"⟩
abbrev cX1_spreadBack : ByteArray := prog_3_method_11_code
def yX1_spreadBack : MethodName := ⟨RX1, "spreadBack", "(LLandByMap$Land;)Z"⟩
abbrev cX1_nearestLow : ByteArray := prog_3_method_12_code
def yX1_nearestLow : MethodName := ⟨RX1, "nearestLow", "()I"⟩
abbrev cX1_send : ByteArray := prog_3_method_13_code
def yX1_send : MethodName := ⟨RX1, "send", "(I)I"⟩
abbrev cX2_init : ByteArray := prog_4_method_1_code
def yX2_init : MethodName := ⟨RX2, "<init>", "(III)V"⟩
abbrev cX2_cost : ByteArray := prog_4_method_2_code
def yX2_cost : MethodName := ⟨RX2, "cost", "()I"⟩
abbrev cX2_fail : ByteArray := prog_4_method_3_code
def yX2_fail : MethodName := ⟨RX2, "fail", "()V"⟩
abbrev cX3_init : ByteArray := prog_5_method_1_code
def yX3_init : MethodName := ⟨RX3, "<init>", "()V"⟩
abbrev cX3_renew : ByteArray := prog_5_method_2_code
def yX3_renew : MethodName := ⟨RX3, "renew", "(II)V"⟩
abbrev cX3_layOut : ByteArray := prog_5_method_3_code
def yX3_layOut : MethodName := ⟨RX3, "layOut", "(III)V"⟩
abbrev cX3_takeFrom : ByteArray := prog_5_method_4_code
def yX3_takeFrom : MethodName := ⟨RX3, "takeFrom", "(LLandByMap$Land;)V"⟩
abbrev cX3_isCell : ByteArray := prog_5_method_5_code
def yX3_isCell : MethodName := ⟨RX3, "isCell", "(I)Z"⟩
abbrev cX3_drawerAt : ByteArray := prog_5_method_6_code
def yX3_drawerAt : MethodName := ⟨RX3, "drawerAt", "(I)LLandByMap$Drawer;"⟩
abbrev cX3_addDrawer : ByteArray := prog_5_method_7_code
def yX3_addDrawer : MethodName := ⟨RX3, "addDrawer", "(II)Z"⟩
abbrev cX3_addWish : ByteArray := prog_5_method_8_code
def yX3_addWish : MethodName := ⟨RX3, "addWish", "(IIII)Z"⟩
abbrev cX3_told : ByteArray := prog_5_method_9_code
def yX3_told : MethodName := ⟨RX3, "told", "(I)I"⟩
abbrev cX3_wanted : ByteArray := prog_5_method_10_code
def yX3_wanted : MethodName := ⟨RX3, "wanted", "(I)I"⟩
abbrev cX3_firstUnlike : ByteArray := prog_5_method_11_code
def yX3_firstUnlike : MethodName := ⟨RX3, "firstUnlike", "()I"⟩
abbrev cX3_offTheMap : ByteArray := prog_5_method_12_code
def yX3_offTheMap : MethodName := ⟨RX3, "offTheMap", "()I"⟩
abbrev cX3_offFrom : ByteArray := prog_5_method_13_code
def yX3_offFrom : MethodName := ⟨RX3, "offFrom", "([I)I"⟩
abbrev cX3_saidCells : ByteArray := prog_5_method_14_code
def yX3_saidCells : MethodName := ⟨RX3, "saidCells", "()I"⟩
abbrev cX3_houseCount : ByteArray := prog_5_method_15_code
def yX3_houseCount : MethodName := ⟨RX3, "houseCount", "()I"⟩
abbrev cX3_allHeights : ByteArray := prog_5_method_16_code
def yX3_allHeights : MethodName := ⟨RX3, "allHeights", "()I"⟩
abbrev cX3_allWishes : ByteArray := prog_5_method_17_code
def yX3_allWishes : MethodName := ⟨RX3, "allWishes", "()I"⟩
abbrev cX3_followWater : ByteArray := prog_5_method_18_code
def yX3_followWater : MethodName := ⟨RX3, "followWater", "()I"⟩
abbrev cX3_standsAt : ByteArray := prog_5_method_19_code
def yX3_standsAt : MethodName := ⟨RX3, "standsAt", "(I)I"⟩
abbrev cX3_isOnWay : ByteArray := prog_5_method_20_code
def yX3_isOnWay : MethodName := ⟨RX3, "isOnWay", "(I)Z"⟩
abbrev cX3_isLost : ByteArray := prog_5_method_21_code
def yX3_isLost : MethodName := ⟨RX3, "isLost", "()Z"⟩
abbrev cX3_isRim : ByteArray := prog_5_method_22_code
def yX3_isRim : MethodName := ⟨RX3, "isRim", "(I)Z"⟩
abbrev cX3_near : ByteArray := prog_5_method_23_code
def yX3_near : MethodName := ⟨RX3, "near", "(II)I"⟩
abbrev cX3_canGive : ByteArray := prog_5_method_24_code
def yX3_canGive : MethodName := ⟨RX3, "canGive", "(I)Z"⟩
abbrev cX3_canTake : ByteArray := prog_5_method_25_code
def yX3_canTake : MethodName := ⟨RX3, "canTake", "(I)Z"⟩
abbrev cX3_canHaul : ByteArray := prog_5_method_26_code
def yX3_canHaul : MethodName := ⟨RX3, "canHaul", "(II)Z"⟩
abbrev cX3_haulHours : ByteArray := prog_5_method_27_code
def yX3_haulHours : MethodName := ⟨RX3, "haulHours", "(II)I"⟩
abbrev cX3_shift : ByteArray := prog_5_method_28_code
def yX3_shift : MethodName := ⟨RX3, "shift", "(II)V"⟩
abbrev cX3_wishWorth : ByteArray := prog_5_method_29_code
def yX3_wishWorth : MethodName := ⟨RX3, "wishWorth", "(II)I"⟩
abbrev cX3_worthTo : ByteArray := prog_5_method_30_code
def yX3_worthTo : MethodName := ⟨RX3, "worthTo", "(I[I)I"⟩
abbrev cX3_worthToAll : ByteArray := prog_5_method_31_code
def yX3_worthToAll : MethodName := ⟨RX3, "worthToAll", "([I)I"⟩
abbrev cX4_init : ByteArray := prog_6_method_1_code
def yX4_init : MethodName := ⟨RX4, "<init>", "()V"⟩
abbrev cX4_holdNothing : ByteArray := prog_6_method_2_code
def yX4_holdNothing : MethodName := ⟨RX4, "holdNothing", "()V"⟩
abbrev cX4_holdDrawer : ByteArray := prog_6_method_3_code
def yX4_holdDrawer : MethodName := ⟨RX4, "holdDrawer", "(LLandByMap$Drawer;)V"⟩
abbrev cX4_holdRow : ByteArray := prog_6_method_4_code
def yX4_holdRow : MethodName := ⟨RX4, "holdRow", "(II)V"⟩
abbrev cX4_isEmpty : ByteArray := prog_6_method_5_code
def yX4_isEmpty : MethodName := ⟨RX4, "isEmpty", "()Z"⟩
abbrev cX4_holdsRowOf : ByteArray := prog_6_method_6_code
def yX4_holdsRowOf : MethodName := ⟨RX4, "holdsRowOf", "(I)Z"⟩
abbrev cX4_refusalAsRow : ByteArray := prog_6_method_7_code
def yX4_refusalAsRow : MethodName := ⟨RX4, "refusalAsRow", "()I"⟩
abbrev cX4_refusalAsBytes : ByteArray := prog_6_method_8_code
def yX4_refusalAsBytes : MethodName := ⟨RX4, "refusalAsBytes", "()I"⟩
abbrev cX4_hasPlace : ByteArray := prog_6_method_9_code
def yX4_hasPlace : MethodName := ⟨RX4, "hasPlace", "(I)Z"⟩
abbrev cX4_hasPlaces : ByteArray := prog_6_method_10_code
def yX4_hasPlaces : MethodName := ⟨RX4, "hasPlaces", "(II)Z"⟩
abbrev cX4_at : ByteArray := prog_6_method_11_code
def yX4_at : MethodName := ⟨RX4, "at", "(I)I"⟩
abbrev cX4_write : ByteArray := prog_6_method_12_code
def yX4_write : MethodName := ⟨RX4, "write", "(II)V"⟩
abbrev cX4_leastNumber : ByteArray := prog_6_method_13_code
def yX4_leastNumber : MethodName := ⟨RX4, "leastNumber", "()I"⟩
abbrev cX4_isMapOf : ByteArray := prog_6_method_14_code
def yX4_isMapOf : MethodName := ⟨RX4, "isMapOf", "(I)Z"⟩
abbrev cX4_heightAt : ByteArray := prog_6_method_15_code
def yX4_heightAt : MethodName := ⟨RX4, "heightAt", "(I)I"⟩
abbrev cX5_init : ByteArray := prog_7_method_1_code
def yX5_init : MethodName := ⟨RX5, "<init>", "()V"⟩
abbrev cX5_open : ByteArray := prog_7_method_2_code
def yX5_open : MethodName := ⟨RX5, "open", "([II)V"⟩
abbrev cX5_faultOfForm : ByteArray := prog_7_method_3_code
def yX5_faultOfForm : MethodName := ⟨RX5, "faultOfForm", "()I"⟩
abbrev cX5_writeTo : ByteArray := prog_7_method_4_code
def yX5_writeTo : MethodName := ⟨RX5, "writeTo", "(LLandByMap$Land;)I"⟩
abbrev cX5_formOf : ByteArray := prog_7_method_5_code
def yX5_formOf : MethodName := ⟨RX5, "formOf", "(I)Ljava/lang/String;"⟩
abbrev cX5_readStatement : ByteArray := prog_7_method_6_code
def yX5_readStatement : MethodName := ⟨RX5, "readStatement", "()Z"⟩
abbrev cX5_readSign : ByteArray := prog_7_method_7_code
def yX5_readSign : MethodName := ⟨RX5, "readSign", "(C)Z"⟩
abbrev cX5_readNumber : ByteArray := prog_7_method_8_code
def yX5_readNumber : MethodName := ⟨RX5, "readNumber", "(I)Z"⟩
abbrev cX5_isDigit : ByteArray := prog_7_method_9_code
def yX5_isDigit : MethodName := ⟨RX5, "isDigit", "()Z"⟩
abbrev cX5_act : ByteArray := prog_7_method_10_code
def yX5_act : MethodName := ⟨RX5, "act", "(LLandByMap$Land;I)Z"⟩
abbrev cX5_startAnew : ByteArray := prog_7_method_11_code
def yX5_startAnew : MethodName := ⟨RX5, "startAnew", "(LLandByMap$Land;II)Z"⟩
abbrev cX5_isSide : ByteArray := prog_7_method_12_code
def yX5_isSide : MethodName := ⟨RX5, "isSide", "(I)Z"⟩
abbrev cX5_raise : ByteArray := prog_7_method_13_code
def yX5_raise : MethodName := ⟨RX5, "raise", "(LLandByMap$Land;II)Z"⟩
abbrev cX5_build : ByteArray := prog_7_method_14_code
def yX5_build : MethodName := ⟨RX5, "build", "(LLandByMap$Land;I)Z"⟩
abbrev cX5_spring : ByteArray := prog_7_method_15_code
def yX5_spring : MethodName := ⟨RX5, "spring", "(LLandByMap$Land;I)Z"⟩
abbrev cX5_rule : ByteArray := prog_7_method_16_code
def yX5_rule : MethodName := ⟨RX5, "rule", "(LLandByMap$Land;I)Z"⟩
abbrev cX6_init : ByteArray := prog_1_method_1_code
def yX6_init : MethodName := ⟨RX6, "<init>", "()V"⟩
abbrev cX6_land : ByteArray := prog_1_method_2_code
def yX6_land : MethodName := ⟨RX6, "land", "(I)I"⟩
abbrev cX6_cell : ByteArray := prog_1_method_3_code
def yX6_cell : MethodName := ⟨RX6, "cell", "(II)I"⟩
abbrev cX6_state : ByteArray := prog_1_method_4_code
def yX6_state : MethodName := ⟨RX6, "state", "(I)I"⟩
abbrev cX6_set : ByteArray := prog_1_method_5_code
def yX6_set : MethodName := ⟨RX6, "set", "(II)I"⟩
abbrev cX6_says : ByteArray := prog_1_method_6_code
def yX6_says : MethodName := ⟨RX6, "says", "(II)I"⟩
abbrev cX6_map : ByteArray := prog_1_method_7_code
def yX6_map : MethodName := ⟨RX6, "map", "(I)I"⟩
abbrev cX6_water : ByteArray := prog_1_method_8_code
def yX6_water : MethodName := ⟨RX6, "water", "(I)I"⟩
abbrev cX6_hours : ByteArray := prog_1_method_9_code
def yX6_hours : MethodName := ⟨RX6, "hours", "(II)I"⟩
abbrev cX6_haul : ByteArray := prog_1_method_10_code
def yX6_haul : MethodName := ⟨RX6, "haul", "(II)I"⟩
abbrev cX6_like : ByteArray := prog_1_method_11_code
def yX6_like : MethodName := ⟨RX6, "like", "(I)I"⟩
abbrev cX6_least : ByteArray := prog_1_method_12_code
def yX6_least : MethodName := ⟨RX6, "least", "()I"⟩
abbrev cX6_works : ByteArray := prog_1_method_13_code
def yX6_works : MethodName := ⟨RX6, "works", "(I)I"⟩
abbrev cX6_dig : ByteArray := prog_1_method_14_code
def yX6_dig : MethodName := ⟨RX6, "dig", "(I)I"⟩
abbrev cX6_drawer : ByteArray := prog_1_method_15_code
def yX6_drawer : MethodName := ⟨RX6, "drawer", "(II)I"⟩
abbrev cX6_draws : ByteArray := prog_1_method_16_code
def yX6_draws : MethodName := ⟨RX6, "draws", "(II)I"⟩
abbrev cX6_year : ByteArray := prog_1_method_17_code
def yX6_year : MethodName := ⟨RX6, "year", "()I"⟩
abbrev cX6_still : ByteArray := prog_1_method_18_code
def yX6_still : MethodName := ⟨RX6, "still", "()I"⟩
abbrev cX6_rings : ByteArray := prog_1_method_19_code
def yX6_rings : MethodName := ⟨RX6, "rings", "()I"⟩
abbrev cX6_seeded : ByteArray := prog_1_method_20_code
def yX6_seeded : MethodName := ⟨RX6, "seeded", "(III)I"⟩
abbrev cX6_seam : ByteArray := prog_1_method_21_code
def yX6_seam : MethodName := ⟨RX6, "seam", "(IIIZ)I"⟩
abbrev cX6_blot : ByteArray := prog_1_method_22_code
def yX6_blot : MethodName := ⟨RX6, "blot", "(II)I"⟩
abbrev cX6_harm : ByteArray := prog_1_method_23_code
def yX6_harm : MethodName := ⟨RX6, "harm", "(II)I"⟩
abbrev cX6_chosen : ByteArray := prog_1_method_24_code
def yX6_chosen : MethodName := ⟨RX6, "chosen", "(I)I"⟩
abbrev cX6_judge : ByteArray := prog_1_method_25_code
def yX6_judge : MethodName := ⟨RX6, "judge", "(I)I"⟩
abbrev cX6_image : ByteArray := prog_1_method_26_code
def yX6_image : MethodName := ⟨RX6, "image", "()I"⟩
abbrev cX6_restore : ByteArray := prog_1_method_27_code
def yX6_restore : MethodName := ⟨RX6, "restore", "()I"⟩
abbrev cX6_count : ByteArray := prog_1_method_28_code
def yX6_count : MethodName := ⟨RX6, "count", "(I)I"⟩
abbrev cX6_keep : ByteArray := prog_1_method_29_code
def yX6_keep : MethodName := ⟨RX6, "keep", "(III)I"⟩
abbrev cX6_row : ByteArray := prog_1_method_30_code
def yX6_row : MethodName := ⟨RX6, "row", "(III)I"⟩
abbrev cX6_put : ByteArray := prog_1_method_31_code
def yX6_put : MethodName := ⟨RX6, "put", "(III)I"⟩
abbrev cX6_element : ByteArray := prog_1_method_32_code
def yX6_element : MethodName := ⟨RX6, "element", "(II)J"⟩
abbrev cX6_copy : ByteArray := prog_1_method_33_code
def yX6_copy : MethodName := ⟨RX6, "copy", "(IIIII)I"⟩
abbrev cX6_price : ByteArray := prog_1_method_34_code
def yX6_price : MethodName := ⟨RX6, "price", "(I)I"⟩
abbrev cX6_toss : ByteArray := prog_1_method_35_code
def yX6_toss : MethodName := ⟨RX6, "toss", "(I)I"⟩
abbrev cX6_shelfAt : ByteArray := prog_1_method_36_code
def yX6_shelfAt : MethodName := ⟨RX6, "shelfAt", "(I)LLandByMap$Shelf;"⟩
abbrev cX6_refusalOfHaul : ByteArray := prog_1_method_37_code
def yX6_refusalOfHaul : MethodName := ⟨RX6, "refusalOfHaul", "(II)I"⟩
abbrev cX6_passYear : ByteArray := prog_1_method_38_code
def yX6_passYear : MethodName := ⟨RX6, "passYear", "(LLandByMap$Land;I)I"⟩
abbrev cX6_isSteep : ByteArray := prog_1_method_39_code
def yX6_isSteep : MethodName := ⟨RX6, "isSteep", "(II)Z"⟩
abbrev cX6_castVotes : ByteArray := prog_1_method_40_code
def yX6_castVotes : MethodName := ⟨RX6, "castVotes", "(I)V"⟩
abbrev cX6_bestForAll : ByteArray := prog_1_method_41_code
def yX6_bestForAll : MethodName := ⟨RX6, "bestForAll", "(I)I"⟩
abbrev cX7_init : ByteArray := prog_9_method_1_code
def yX7_init : MethodName := ⟨RX7, "<init>", "()V"⟩
abbrev cX7_thrown : ByteArray := prog_9_method_2_code
def yX7_thrown : MethodName := ⟨RX7, "thrown", "()I"⟩
abbrev cX7_isIn : ByteArray := prog_9_method_3_code
def yX7_isIn : MethodName := ⟨RX7, "isIn", "(JJJ)Z"⟩
abbrev cX7_cells : ByteArray := prog_9_method_4_code
def yX7_cells : MethodName := ⟨RX7, "cells", "()I"⟩
abbrev cX7_isCell : ByteArray := prog_9_method_5_code
def yX7_isCell : MethodName := ⟨RX7, "isCell", "(I)Z"⟩
abbrev cX7_isDrawer : ByteArray := prog_9_method_6_code
def yX7_isDrawer : MethodName := ⟨RX7, "isDrawer", "(I)Z"⟩
abbrev cX7_isShelf : ByteArray := prog_9_method_7_code
def yX7_isShelf : MethodName := ⟨RX7, "isShelf", "(I)Z"⟩
abbrev cX7_amount : ByteArray := prog_9_method_8_code
def yX7_amount : MethodName := ⟨RX7, "amount", "(I)I"⟩
abbrev cX7_get : ByteArray := prog_9_method_9_code
def yX7_get : MethodName := ⟨RX7, "get", "(II)I"⟩
abbrev cX7_bits : ByteArray := prog_9_method_10_code
def yX7_bits : MethodName := ⟨RX7, "bits", "(I)I"⟩
abbrev cX7_isHouse : ByteArray := prog_9_method_11_code
def yX7_isHouse : MethodName := ⟨RX7, "isHouse", "(I)Z"⟩
abbrev cX7_near : ByteArray := prog_9_method_12_code
def yX7_near : MethodName := ⟨RX7, "near", "(II)I"⟩
abbrev cX7_here : ByteArray := prog_9_method_13_code
def yX7_here : MethodName := ⟨RX7, "here", "()I"⟩
abbrev cX7_isDigit : ByteArray := prog_9_method_14_code
def yX7_isDigit : MethodName := ⟨RX7, "isDigit", "()Z"⟩
abbrev cX7_takes : ByteArray := prog_9_method_15_code
def yX7_takes : MethodName := ⟨RX7, "takes", "(I)Z"⟩
abbrev cX7_readsNumber : ByteArray := prog_9_method_16_code
def yX7_readsNumber : MethodName := ⟨RX7, "readsNumber", "(I)Z"⟩
abbrev cX7_readsStatement : ByteArray := prog_9_method_17_code
def yX7_readsStatement : MethodName := ⟨RX7, "readsStatement", "()Z"⟩
abbrev cX7_comesAnew : ByteArray := prog_9_method_18_code
def yX7_comesAnew : MethodName := ⟨RX7, "comesAnew", "(II)Z"⟩
abbrev cX7_comes : ByteArray := prog_9_method_19_code
def yX7_comes : MethodName := ⟨RX7, "comes", "(I)Z"⟩
abbrev cX7_wrongRow : ByteArray := prog_9_method_20_code
def yX7_wrongRow : MethodName := ⟨RX7, "wrongRow", "(II)I"⟩
abbrev cX7_land : ByteArray := prog_9_method_21_code
def yX7_land : MethodName := ⟨RX7, "land", "(I)I"⟩
abbrev cX7_flows : ByteArray := prog_9_method_22_code
def yX7_flows : MethodName := ⟨RX7, "flows", "()V"⟩
abbrev cX7_isLost : ByteArray := prog_9_method_23_code
def yX7_isLost : MethodName := ⟨RX7, "isLost", "()Z"⟩
abbrev cX7_water : ByteArray := prog_9_method_24_code
def yX7_water : MethodName := ⟨RX7, "water", "(I)I"⟩
abbrev cX7_cell : ByteArray := prog_9_method_25_code
def yX7_cell : MethodName := ⟨RX7, "cell", "(II)I"⟩
abbrev cX7_state : ByteArray := prog_9_method_26_code
def yX7_state : MethodName := ⟨RX7, "state", "(I)I"⟩
abbrev cX7_set : ByteArray := prog_9_method_27_code
def yX7_set : MethodName := ⟨RX7, "set", "(II)I"⟩
abbrev cX7_says : ByteArray := prog_9_method_28_code
def yX7_says : MethodName := ⟨RX7, "says", "(II)I"⟩
abbrev cX7_wrongMap : ByteArray := prog_9_method_29_code
def yX7_wrongMap : MethodName := ⟨RX7, "wrongMap", "(I)I"⟩
abbrev cX7_saidOf : ByteArray := prog_9_method_30_code
def yX7_saidOf : MethodName := ⟨RX7, "saidOf", "(II)I"⟩
abbrev cX7_said : ByteArray := prog_9_method_31_code
def yX7_said : MethodName := ⟨RX7, "said", "()I"⟩
abbrev cX7_map : ByteArray := prog_9_method_32_code
def yX7_map : MethodName := ⟨RX7, "map", "(I)I"⟩
abbrev cX7_mayHaul : ByteArray := prog_9_method_33_code
def yX7_mayHaul : MethodName := ⟨RX7, "mayHaul", "(II)Z"⟩
abbrev cX7_hoursOf : ByteArray := prog_9_method_34_code
def yX7_hoursOf : MethodName := ⟨RX7, "hoursOf", "(II)I"⟩
abbrev cX7_moves : ByteArray := prog_9_method_35_code
def yX7_moves : MethodName := ⟨RX7, "moves", "(II)V"⟩
abbrev cX7_hours : ByteArray := prog_9_method_36_code
def yX7_hours : MethodName := ⟨RX7, "hours", "(II)I"⟩
abbrev cX7_haul : ByteArray := prog_9_method_37_code
def yX7_haul : MethodName := ⟨RX7, "haul", "(II)I"⟩
abbrev cX7_offFrom : ByteArray := prog_9_method_38_code
def yX7_offFrom : MethodName := ⟨RX7, "offFrom", "(I)I"⟩
abbrev cX7_like : ByteArray := prog_9_method_39_code
def yX7_like : MethodName := ⟨RX7, "like", "(I)I"⟩
abbrev cX7_findsWay : ByteArray := prog_9_method_40_code
def yX7_findsWay : MethodName := ⟨RX7, "findsWay", "()I"⟩
abbrev cX7_leastOf : ByteArray := prog_9_method_41_code
def yX7_leastOf : MethodName := ⟨RX7, "leastOf", "()I"⟩
abbrev cX7_least : ByteArray := prog_9_method_42_code
def yX7_least : MethodName := ⟨RX7, "least", "()I"⟩
abbrev cX7_works : ByteArray := prog_9_method_43_code
def yX7_works : MethodName := ⟨RX7, "works", "(I)I"⟩
abbrev cX7_keeps : ByteArray := prog_9_method_44_code
def yX7_keeps : MethodName := ⟨RX7, "keeps", "()V"⟩
abbrev cX7_putsBack : ByteArray := prog_9_method_45_code
def yX7_putsBack : MethodName := ⟨RX7, "putsBack", "()V"⟩
abbrev cX7_isOver : ByteArray := prog_9_method_46_code
def yX7_isOver : MethodName := ⟨RX7, "isOver", "(I)Z"⟩
abbrev cX7_isUnder : ByteArray := prog_9_method_47_code
def yX7_isUnder : MethodName := ⟨RX7, "isUnder", "(I)Z"⟩
abbrev cX7_digs : ByteArray := prog_9_method_48_code
def yX7_digs : MethodName := ⟨RX7, "digs", "()V"⟩
abbrev cX7_dig : ByteArray := prog_9_method_49_code
def yX7_dig : MethodName := ⟨RX7, "dig", "(I)I"⟩
abbrev cX7_worthTo : ByteArray := prog_9_method_50_code
def yX7_worthTo : MethodName := ⟨RX7, "worthTo", "(I)I"⟩
abbrev cX7_worthToAll : ByteArray := prog_9_method_51_code
def yX7_worthToAll : MethodName := ⟨RX7, "worthToAll", "()I"⟩
abbrev cX7_drawer : ByteArray := prog_9_method_52_code
def yX7_drawer : MethodName := ⟨RX7, "drawer", "(II)I"⟩
abbrev cX7_aheadOf : ByteArray := prog_9_method_53_code
def yX7_aheadOf : MethodName := ⟨RX7, "aheadOf", "(I)I"⟩
abbrev cX7_goodOf : ByteArray := prog_9_method_54_code
def yX7_goodOf : MethodName := ⟨RX7, "goodOf", "(III)I"⟩
abbrev cX7_findsDrawn : ByteArray := prog_9_method_55_code
def yX7_findsDrawn : MethodName := ⟨RX7, "findsDrawn", "(II)V"⟩
abbrev cX7_findsMap : ByteArray := prog_9_method_56_code
def yX7_findsMap : MethodName := ⟨RX7, "findsMap", "(I)V"⟩
abbrev cX7_draws : ByteArray := prog_9_method_57_code
def yX7_draws : MethodName := ⟨RX7, "draws", "(II)I"⟩
abbrev cX7_goesYear : ByteArray := prog_9_method_58_code
def yX7_goesYear : MethodName := ⟨RX7, "goesYear", "(I)Z"⟩
abbrev cX7_offFirst : ByteArray := prog_9_method_59_code
def yX7_offFirst : MethodName := ⟨RX7, "offFirst", "()I"⟩
abbrev cX7_keepsHeights : ByteArray := prog_9_method_60_code
def yX7_keepsHeights : MethodName := ⟨RX7, "keepsHeights", "()V"⟩
abbrev cX7_year : ByteArray := prog_9_method_61_code
def yX7_year : MethodName := ⟨RX7, "year", "()I"⟩
abbrev cX7_begins : ByteArray := prog_9_method_62_code
def yX7_begins : MethodName := ⟨RX7, "begins", "()V"⟩
abbrev cX7_ends : ByteArray := prog_9_method_63_code
def yX7_ends : MethodName := ⟨RX7, "ends", "()V"⟩
abbrev cX7_still : ByteArray := prog_9_method_64_code
def yX7_still : MethodName := ⟨RX7, "still", "()I"⟩
abbrev cX7_rings : ByteArray := prog_9_method_65_code
def yX7_rings : MethodName := ⟨RX7, "rings", "()I"⟩
abbrev cX7_seeded : ByteArray := prog_9_method_66_code
def yX7_seeded : MethodName := ⟨RX7, "seeded", "(III)I"⟩
abbrev cX7_seam : ByteArray := prog_9_method_67_code
def yX7_seam : MethodName := ⟨RX7, "seam", "(IIIZ)I"⟩
abbrev cX7_drawnAt : ByteArray := prog_9_method_68_code
def yX7_drawnAt : MethodName := ⟨RX7, "drawnAt", "(I)I"⟩
abbrev cX7_blot : ByteArray := prog_9_method_69_code
def yX7_blot : MethodName := ⟨RX7, "blot", "(II)I"⟩
abbrev cX7_harm : ByteArray := prog_9_method_70_code
def yX7_harm : MethodName := ⟨RX7, "harm", "(II)I"⟩
abbrev cX7_chosen : ByteArray := prog_9_method_71_code
def yX7_chosen : MethodName := ⟨RX7, "chosen", "(I)I"⟩
abbrev cX7_leastNumber : ByteArray := prog_9_method_72_code
def yX7_leastNumber : MethodName := ⟨RX7, "leastNumber", "(I)I"⟩
abbrev cX7_judge : ByteArray := prog_9_method_73_code
def yX7_judge : MethodName := ⟨RX7, "judge", "(I)I"⟩
abbrev cX7_image : ByteArray := prog_9_method_74_code
def yX7_image : MethodName := ⟨RX7, "image", "()I"⟩
abbrev cX7_restore : ByteArray := prog_9_method_75_code
def yX7_restore : MethodName := ⟨RX7, "restore", "()I"⟩
abbrev cX7_count : ByteArray := prog_9_method_76_code
def yX7_count : MethodName := ⟨RX7, "count", "(I)I"⟩
abbrev cX7_priceOf : ByteArray := prog_9_method_77_code
def yX7_priceOf : MethodName := ⟨RX7, "priceOf", "(II)I"⟩
abbrev cX7_keep : ByteArray := prog_9_method_78_code
def yX7_keep : MethodName := ⟨RX7, "keep", "(III)I"⟩
abbrev cX7_row : ByteArray := prog_9_method_79_code
def yX7_row : MethodName := ⟨RX7, "row", "(III)I"⟩
abbrev cX7_put : ByteArray := prog_9_method_80_code
def yX7_put : MethodName := ⟨RX7, "put", "(III)I"⟩
abbrev cX7_element : ByteArray := prog_9_method_81_code
def yX7_element : MethodName := ⟨RX7, "element", "(II)J"⟩
abbrev cX7_copy : ByteArray := prog_9_method_82_code
def yX7_copy : MethodName := ⟨RX7, "copy", "(IIIII)I"⟩
abbrev cX7_wrongKept : ByteArray := prog_9_method_83_code
def yX7_wrongKept : MethodName := ⟨RX7, "wrongKept", "(I)I"⟩
abbrev cX7_price : ByteArray := prog_9_method_84_code
def yX7_price : MethodName := ⟨RX7, "price", "(I)I"⟩
abbrev cX7_toss : ByteArray := prog_9_method_85_code
def yX7_toss : MethodName := ⟨RX7, "toss", "(I)I"⟩
abbrev cJ7_fill_53178 : ByteArray := prog_21_method_103_code
def yJ7_fill_53178 : MethodName := ⟨RJ7, "fill", "([II)V"⟩
abbrev cL_element : ByteArray := method_3_code
def yL_element : MethodName := ⟨RL, "element", "(LLandByMap;II[J)I"⟩
abbrev cL_law : ByteArray := code
def yL_law : MethodName := ⟨RL, "law", "([I)Z"⟩
abbrev vwCl : List vw_C := [(RX0, TX0, 6), (RX1, TX1, 14), (RX2, TX2, 3), (RX3, TX3, 20), (RX4, TX4, 5), (RX5, TX5, 5), (RX6, TX6, 13), (RX7, TX7, 36)]
end
section
/-! ===== BEGIN words of one list among another's, by their places ===== -/
theorem goodIn_r {big : List Cond} (ws : List Cond) (ps : List Nat) (hp : ws = ps.filterMap (fun i => big[i]?)) (h : ws.all goodWord = true) : GoodIn big ws := by
  intro w hw
  have h1 := List.all_eq_true.mp h w hw
  rw [hp] at hw
  obtain ⟨i, -, hi⟩ := List.mem_filterMap.mp hw
  have hm : w ∈ big := by first | exact List.mem_of_getElem? hi | exact List.getElem?_mem hi
  exact ⟨hm, good_of_word h1⟩
theorem goodIn_app {big a b : List Cond} (ha : GoodIn big a) (hb : GoodIn big b) : GoodIn big (a ++ b) := fun w h => (List.mem_append.mp h).elim (ha w) (hb w)
theorem goodIn_ca {big a b : List Cond} {c : Cond} (ha : GoodIn big (c :: a)) (hb : GoodIn big b) : GoodIn big (c :: (a ++ b)) := fun w h => (List.mem_cons.mp h).elim (fun e => ha w (List.mem_cons.mpr (Or.inl e))) (fun h => (List.mem_append.mp h).elim (fun h => ha w (List.mem_cons.mpr (Or.inr h))) (hb w))
theorem goodIn_sub {big ws : List Cond} (hm : ∀ w ∈ ws, w ∈ big) (h : ws.all goodWord = true) : GoodIn big ws := fun w hw => ⟨hm w hw, good_of_word (List.all_eq_true.mp h w hw)⟩
/-! ===== END ===== -/

/-! ===== BEGIN exceptions that leave a method, and their catching by the caller (launches without stack traces) ===== -/
section VXA
/-! The laws vx_back, vx_callV, vx_callS, vx_callSW, vx_throw0, vx_throwS follow proofs of the library, with one case more: JvmDerived/Free/Laws.lean (Back.of_free), Shelf42/LK1.lean (callV, callS), Shelf/KitTraced.lean (throwNew0V, throwNewS). -/
/-- where a method has thrown q: the class by its name, the cell, what was written, the world -/
def vx_T (XC : String → State → State → Prop) (st : State) (q : Addr) (t : State) (mc ms : Nat) (free : Addr → Prop) : Prop :=
  ∃ (E : String) (ce : Cell) (L : List Loc), XC E st t ∧ t.heap[q]? = some ce ∧ ce.vm = .none ∧ st.vm.findClass E = some ce.cls ∧ st.WarmedH t.vm ∧ st.sameButNew ({ t with vm := st.vm } : State) L mc ms ∧ ∀ z ∈ L, free z.base
def vx_Q (Qc : Array Value → State → Outcome → State → Prop) (XC : String → State → State → Prop) (mc ms : Nat) (free : Addr → Prop) : Array Value → State → Outcome → State → Prop := fun a st o t =>
  (Qc a st o t ∧ ∃ L, FrameEnd st o t L mc ms ∧ ∀ q ∈ L, free q.base) ∨ ∃ q, o = .threw q ∧ vx_T XC st q t mc ms free
/-- a callee that returns or throws -/
def vx_Met (l : Launch) (y : MethodName) (ws : List Cond) (rm : Room) (Pc : Array Value → State → Prop) (Qc : Array Value → State → Outcome → State → Prop) (XC : String → State → State → Prop) (mc ms : Nat) (free : Addr → Prop) : Prop :=
  MetFree l y (headSpec ws rm) Pc (fun _ _ _ _ _ => True) (vx_Q Qc XC mc ms free)
def vx_Post (XC : String → State → State → Prop) (mc ms : Nat) (free : Addr → Prop) : Pt → Array Value → Addr → Pt → Prop := fun A a q B =>
  ∃ (g : JFrame) (mk : MethodId) (t : State) (L : List Loc) (E : String) (ce : Cell), B.U.heap = t.heap ∧ B.U.vm = t.vm ∧ XC E (A.U.calling g mk a) t ∧ t.heap[q]? = some ce ∧ ce.vm = .none ∧ A.U.vm.findClass E = some ce.cls ∧ B.locs = A.locs ++ L ∧ (∀ z ∈ L, free z.base) ∧ B.cells = A.cells + mc ∧ B.slots = A.slots + ms
def vx_Back (l : Launch) (R : Room) (p : Program) (e : Env) (below : List Frame) (s : State) (sargs : Array Value) (y : MethodName) (len W9 : Nat)
    (Pre : Pt → Array Value → Prop) (Post : Pt → Array Value → Option Value → Pt → Prop) (PostX : Pt → Array Value → Addr → Pt → Prop) : Prop :=
  ∀ (m : MethodId) (meth : Method) (c : Code) (A : Pt) (g : JFrame) (ig : Instr) (mk : MethodId) (a : Array Value),
    Stand p l e R s m sargs below meth c A.U A.locs A.cells A.slots → g.method = m → g.locals.size = c.maxLocals → decode c.code g.pc = .ok (ig, len) →
    2 * g.monitorRoom + (g.stack.map fun v => v.category).sum ≤ W9 → A.U.methodNamed? y = some mk → Pre A a →
    (∃ (v : Option Value) (B : Pt), Stand p l e R s m sargs below meth c B.U B.locs B.cells B.slots ∧ Post A a v B ∧
      Steps p.tables e below (doInvoke e (A.U.setTop g) [] mk a).1 (B.U.setTop { g with pc := g.pc + len, stack := v.toList ++ g.stack })) ∨
    (∃ (q : Addr) (B : Pt), Stand p l e R s m sargs below meth c B.U B.locs B.cells B.slots ∧ PostX A a q B ∧
      Steps p.tables e below (doInvoke e (A.U.setTop g) [] mk a).1 ((B.U.setTop g).pushFrame (.throwing q)))
section Payer
variable {l : Launch} {R : Room} {p : Program} {e : Env} {below : List Frame} {s : State} {sargs : Array Value} {y : MethodName} {len W9 : Nat}
theorem vx_back {ws : List Cond} {rm : Room} {Pc : Array Value → State → Prop} {Qc : Array Value → State → Outcome → State → Prop} {XC : String → State → State → Prop} {mc ms : Nat} {free : Addr → Prop} {bytes : ByteArray} {maxL : Nat} {ret : Option FieldType}
    (hM : vx_Met l y ws rm Pc Qc XC mc ms free) (hblind : FrameBlind Pc) (hrc : rm.cells = mc) (hrs : rm.slots = ms)
    (hframes : rm.frames + 1 ≤ R.frames) (hlocals : W9 + (maxL + 11) + rm.locals ≤ R.locals)
    (hws : ∀ w ∈ ws, ∀ a' U, s.WarmedH U.vm → w.before a' U = true) (hcode : Cond.code y bytes maxL ret ∈ ws) (hinit : ∀ a' U, s.WarmedH U.vm → (Cond.initialized y.cls).before a' U = true) :
    vx_Back l R p e below s sargs y len W9 (PreOf R mc ms Pc) (PostOf Qc mc ms free) (vx_Post XC mc ms free) := by
  intro m meth c A g ig mk a X hg hsize hdg hW hn hp
  have h1 : (headSpec ws rm).pre.before a A.U = true := atoms_intro fun w hw => hws w hw _ _ X.warmed
  have h2 : (Cond.code y bytes maxL ret).before a A.U = true := hws _ hcode _ _ X.warmed
  have h3 : (Cond.initialized y.cls).before a A.U = true := hinit _ _ X.warmed
  have h4 : A.cells + (headSpec ws rm).room.cells ≤ R.cells := by rw [show (headSpec ws rm).room.cells = mc from hrc]; exact hp.1
  have h5 : A.slots + (headSpec ws rm).room.slots ≤ R.slots := by rw [show (headSpec ws rm).room.slots = ms from hrs]; exact hp.2.1
  have hPc : Pc a (A.U.calling g mk a) := hblind _ _ _ _ hp.2.2
  obtain ⟨U, Ls, c0, s0⟩ := A
  dsimp only [Pt.U, Pt.locs, Pt.cells, Pt.slots] at h1 h2 h3 h4 h5 X hn hPc ⊢
  obtain ⟨methY, cY, hmY, hcY, -, hlY, -, -, -, -⟩ := Cond.code_spec hn h2
  obtain ⟨kY, hkY, -⟩ := className_of_methodNamed hn
  have hinitY : kY.init = .initialized := Cond.initialized_spec (findClass_of_methodNamed hn) hkY h3
  have h : At U g.method c below := by rw [hg]; exact X.here
  have hlocals9 : W9 + (maxL + 11) + (headSpec ws rm).room.locals ≤ R.locals := hlocals
  have happ : (headSpec ws rm).appliesLoose y e.platform (U.calling g mk a) = true :=
    Spec.appliesLoose_calling (g := g) h hdg hn hkY hinitY
      (X.room_calling (g := g) (R' := (headSpec ws rm).room) hsize hmY hcY hframes (by rw [hlY]; omega) h4 h5) h1
  obtain ⟨mid, hmid⟩ := h.above
  have hfr : (U.setTop g).frames = (.java g :: mid) ++ below := by rw [State.frames_setTop' g h.top, hmid]; rfl
  obtain ⟨o, s₂, hsteps, -, hend, hq⟩ := Steps.callFree hM p X.admits X.cas X.clock (acts := []) hfr happ hPc trivial
  have hq' : vx_Q Qc XC mc ms free a (U.calling g mk a) o s₂ := hq
  rw [State.frames_setTop' g h.top] at hend
  obtain ⟨g₀, hg0⟩ := Option.isSome_iff_exists.mp h.top
  obtain ⟨r, hr⟩ := State.topJava?_eq_some.mp hg0
  have hr' : (({ U with heap := s₂.heap, slotsUsed := s₂.slotsUsed } : State).setVm s₂.vm).frames = .java g₀ :: r := hr
  rcases hq' with ⟨hqc, L, hfe, hL⟩ | ⟨q, rfl, E, ce, L, hx, hce, hcv, hcl, hW₂, hsm, hL⟩
  · obtain ⟨⟨v, rfl⟩, hW₂, e2, q2, q3, q4, q5, q6⟩ := id hfe
    have e3 : s₂ = ({ (U.calling g mk a).setFrames s₂.frames with heap := s₂.heap, slotsUsed := s₂.slotsUsed } : State).setVm s₂.vm := by
      have : s₂ = ({ s₂ with vm := (U.calling g mk a).vm } : State).setVm s₂.vm := rfl
      rw [e2] at this
      exact this
    obtain ⟨c₂, i₂, len₂, hc₂, hd₂, hf₂⟩ := hend
    have hW' : U.WarmedH s₂.vm := hW₂
    have hcc : c₂ = c := by
      have h1 : s₂.code? g.method = U.code? g.method := by
        rw [State.code?_eq, State.code?_eq, hW'.alike.method?]
      exact Option.some.inj (hc₂.symm.trans (h1.trans h.code))
    subst hcc
    have hlen : len₂ = len := by rw [hdg] at hd₂; cases hd₂; rfl
    subst hlen
    have hs₂ : s₂ = (({ U with heap := s₂.heap, slotsUsed := s₂.slotsUsed } : State).setVm s₂.vm).setTop { g with pc := g.pc + len₂, stack := v.toList ++ g.stack } := by
      refine e3.trans ?_
      rw [hf₂, State.calling_eq h.top, State.setFrames_setFrames, State.setTop_of_frames _ hr', hr]
      rfl
    have hsame : U.sameButNew ({ U with heap := s₂.heap, slotsUsed := s₂.slotsUsed } : State) L mc ms := by
      refine ⟨?_, q2, q3, q4, q5, q6⟩
      obtain ⟨t, ht, -⟩ := State.frames_cons hr
      show ({ U with heap := s₂.heap, slotsUsed := s₂.slotsUsed } : State) = { U.setFrames U.frames with heap := s₂.heap, slotsUsed := s₂.slotsUsed }
      rw [State.setFrames_self ht]
    subst hg
    refine Or.inl ⟨v, ⟨(({ U with heap := s₂.heap, slotsUsed := s₂.slotsUsed } : State).setVm s₂.vm), Ls ++ L, c0 + mc, s0 + ms⟩,
      ⟨X.admits, X.cas, X.clock, X.frames, X.room, X.hears, X.method, X.code, (X.here.setHeapUsed s₂.heap s₂.slotsUsed).setVm hW'.alike, X.tail, State.WarmedH.trans X.warmed hW', X.limits, X.bytes, X.same.trans (hsame.setVm s.vm)⟩,
      ⟨g, mk, s₂, L, rfl, rfl, hqc, rfl, hL, rfl, rfl⟩, ?_⟩
    show Steps p.tables e below _ ((({ U with heap := s₂.heap, slotsUsed := s₂.slotsUsed } : State).setVm s₂.vm).setTop { g with pc := g.pc + len₂, stack := v.toList ++ g.stack })
    rw [← hs₂]
    exact hsteps
  · obtain ⟨e2, q2, q3, q4, q5, q6⟩ := id hsm
    have e3 : s₂ = ({ (U.calling g mk a).setFrames s₂.frames with heap := s₂.heap, slotsUsed := s₂.slotsUsed } : State).setVm s₂.vm := by
      have : s₂ = ({ s₂ with vm := (U.calling g mk a).vm } : State).setVm s₂.vm := rfl
      rw [e2] at this
      exact this
    have hf₂ : s₂.frames = .throwing q :: .java g :: U.frames.tail := hend
    have hW' : U.WarmedH s₂.vm := hW₂
    have hs₂ : s₂ = ((({ U with heap := s₂.heap, slotsUsed := s₂.slotsUsed } : State).setVm s₂.vm).setTop g).pushFrame (.throwing q) := by
      refine e3.trans ?_
      rw [hf₂, State.calling_eq h.top, State.setFrames_setFrames, State.pushFrame, State.frames_setTop _ hr', State.setTop_of_frames _ hr', State.setFrames_setFrames, hr]
      rfl
    have hsame : U.sameButNew ({ U with heap := s₂.heap, slotsUsed := s₂.slotsUsed } : State) L mc ms := by
      refine ⟨?_, q2, q3, q4, q5, q6⟩
      obtain ⟨t, ht, -⟩ := State.frames_cons hr
      show ({ U with heap := s₂.heap, slotsUsed := s₂.slotsUsed } : State) = { U.setFrames U.frames with heap := s₂.heap, slotsUsed := s₂.slotsUsed }
      rw [State.setFrames_self ht]
    subst hg
    refine Or.inr ⟨q, ⟨(({ U with heap := s₂.heap, slotsUsed := s₂.slotsUsed } : State).setVm s₂.vm), Ls ++ L, c0 + mc, s0 + ms⟩,
      ⟨X.admits, X.cas, X.clock, X.frames, X.room, X.hears, X.method, X.code, (X.here.setHeapUsed s₂.heap s₂.slotsUsed).setVm hW'.alike, X.tail, State.WarmedH.trans X.warmed hW', X.limits, X.bytes, X.same.trans (hsame.setVm s.vm)⟩,
      ⟨g, mk, s₂, L, E, ce, rfl, rfl, hx, hce, hcv, hcl, rfl, hL, rfl, rfl⟩, ?_⟩
    show Steps p.tables e below _ (((({ U with heap := s₂.heap, slotsUsed := s₂.slotsUsed } : State).setVm s₂.vm).setTop g).pushFrame (.throwing q))
    rw [← hs₂]
    exact hsteps
end Payer
section Calls
variable {p : Program} {l : Launch} {e : Env} {R : Room} {s : State} {m : MethodId} {args : Array Value} {below : List Frame} {meth : Method} {c : Code} {T : State} {locs : List Loc} {cells slots : Nat}
theorem vx_callV (X : Stand p l e R s m args below meth c T locs cells slots) (hexec : p.tables.exec = Jvm.exec) {own C : String} {index : Nat} {y : MethodName} {bytes : ByteArray} {maxL : Nat} {ret : Option FieldType}
    (hown : s.vm.findClass own = some m.cls) (hlink : (Cond.methodLink own index y).before args s = true) (hinst : (Cond.instanceMethod y).before args s = true) (hsel : (Cond.selects C y y).before args s = true)
    (hcode : (Cond.code y bytes maxL ret).before args s = true) (hy : y.cls ≠ "java/lang/invoke/MethodHandle" ∧ y.cls ≠ "java/lang/invoke/VarHandle")
    {W9 : Nat} {Pre : Pt → Array Value → Prop} {Post : Pt → Array Value → Option Value → Pt → Prop} {PostX : Pt → Array Value → Addr → Pt → Prop} (hK : vx_Back l R p e below s args y 3 W9 Pre Post PostX)
    {b : Addr} {cellB : Cell} (hcell : T.heap[b]? = some cellB) (hobj : cellB.vm.isStatics = false) (hcls : s.vm.findClass C = some cellB.cls)
    {g : JFrame} (hg : g.method = m) (hsize : g.locals.size = c.maxLocals) {argsL rest : List Value} (hlen : ∀ sig, parseMethodDescriptor y.desc = some sig → argsL.length = sig.parameters.length)
    (hstack : g.stack = argsL.reverse ++ .ref b :: rest) (hW : 2 * g.monitorRoom + (rest.map fun v => v.category).sum ≤ W9) (hdg : decode c.code g.pc = .ok (.invokevirtual index, 3))
    (hpre : ∀ vm₁, s.WarmedH vm₁ → Pre ⟨T.setVm vm₁, locs, cells, slots⟩ (Value.ref b :: argsL).toArray) :
    (∃ (v : Option Value) (vm₁ : Vm) (B : Pt), s.WarmedH vm₁ ∧ Stand p l e R s m args below meth c B.U B.locs B.cells B.slots ∧ Post ⟨T.setVm vm₁, locs, cells, slots⟩ (Value.ref b :: argsL).toArray v B ∧
      ∀ target, Steps p.tables e below (B.U.setTop { g with pc := g.pc + 3, stack := v.toList ++ rest }) target → Steps p.tables e below (T.setTop g) target) ∨
    (∃ (q : Addr) (vm₁ : Vm) (B : Pt), s.WarmedH vm₁ ∧ Stand p l e R s m args below meth c B.U B.locs B.cells B.slots ∧ PostX ⟨T.setVm vm₁, locs, cells, slots⟩ (Value.ref b :: argsL).toArray q B ∧
      Steps p.tables e below (T.setTop g) ((B.U.setTop { g with stack := rest }).pushFrame (.throwing q))) := by
  obtain ⟨mk, methM, hnamed, hmethM, hstM, habM⟩ := Cond.instanceMethod_spec hinst
  obtain ⟨methM', cM, hmethM', -, -, -, -, -, -, hsigM⟩ := Cond.code_spec hnamed hcode
  cases hmethM.symm.trans hmethM'
  obtain ⟨c2, r2, m2, q1, q2, q3, q4, kP, hkP, hkPi⟩ := Cond.selects_spec hsel
  cases hcls.symm.trans q1
  cases (State.methodFound?_of_named hnamed hy).symm.trans q2
  cases hnamed.symm.trans q3
  have hselP : selectMethod e.platform s.vm cellB.cls mk = .method mk := by rw [Launch.admits_selectMethod X.admits]; exact q4
  obtain ⟨vm₁, X₁, hstep₁⟩ := X.invokevirtual hexec hown hlink hnamed hmethM hstM hkP hkPi hy (a := b) (cell := cellB) hcell
    (fun z h => by rw [h] at hobj; cases hobj) hselP hmethM habM hkP hkPi (g := g) hg (argsL := argsL) (rest := rest) (hlen _ hsigM) hstack hdg
  rcases hK m meth c ⟨T.setVm vm₁, locs, cells, slots⟩ { g with stack := rest } (.invokevirtual index) mk (Value.ref b :: argsL).toArray X₁ hg hsize hdg hW (X₁.named hnamed) (hpre vm₁ X₁.warmed) with ⟨v, B, X', hpost, hsteps⟩ | ⟨q, B, X', hpost, hsteps⟩
  · exact Or.inl ⟨v, vm₁, B, X₁.warmed, X', hpost, fun target h => hstep₁ _ fun acts => by rw [doInvoke_state]; exact hsteps.trans h⟩
  · exact Or.inr ⟨q, vm₁, B, X₁.warmed, X', hpost, hstep₁ _ fun acts => by rw [doInvoke_state]; exact hsteps⟩
theorem vx_callS (X : Stand p l e R s m args below meth c T locs cells slots) (hexec : p.tables.exec = Jvm.exec) {own : String} {index : Nat} {y : MethodName} {bytes : ByteArray} {maxL : Nat} {ret : Option FieldType}
    (hown : s.vm.findClass own = some m.cls) (hlink : (Cond.methodLink own index y).before args s = true) (hstat : (Cond.static y).before args s = true) (hinit : (Cond.initialized y.cls).before args s = true)
    (hcode : (Cond.code y bytes maxL ret).before args s = true) (hy : y.cls ≠ "java/lang/invoke/MethodHandle" ∧ y.cls ≠ "java/lang/invoke/VarHandle")
    {W9 : Nat} {Pre : Pt → Array Value → Prop} {Post : Pt → Array Value → Option Value → Pt → Prop} {PostX : Pt → Array Value → Addr → Pt → Prop} (hK : vx_Back l R p e below s args y 3 W9 Pre Post PostX)
    {g : JFrame} (hg : g.method = m) (hsize : g.locals.size = c.maxLocals) {argsL rest : List Value} (hlen : ∀ sig, parseMethodDescriptor y.desc = some sig → argsL.length = sig.parameters.length)
    (hstack : g.stack = argsL.reverse ++ rest) (hW : 2 * g.monitorRoom + (rest.map fun v => v.category).sum ≤ W9) (hdg : decode c.code g.pc = .ok (.invokestatic index, 3))
    (hpre : ∀ vm₁, s.WarmedH vm₁ → Pre ⟨T.setVm vm₁, locs, cells, slots⟩ argsL.toArray) :
    (∃ (v : Option Value) (vm₁ : Vm) (B : Pt), s.WarmedH vm₁ ∧ Stand p l e R s m args below meth c B.U B.locs B.cells B.slots ∧ Post ⟨T.setVm vm₁, locs, cells, slots⟩ argsL.toArray v B ∧
      ∀ target, Steps p.tables e below (B.U.setTop { g with pc := g.pc + 3, stack := v.toList ++ rest }) target → Steps p.tables e below (T.setTop g) target) ∨
    (∃ (q : Addr) (vm₁ : Vm) (B : Pt), s.WarmedH vm₁ ∧ Stand p l e R s m args below meth c B.U B.locs B.cells B.slots ∧ PostX ⟨T.setVm vm₁, locs, cells, slots⟩ argsL.toArray q B ∧
      Steps p.tables e below (T.setTop g) ((B.U.setTop { g with stack := rest }).pushFrame (.throwing q))) := by
  obtain ⟨mk, hnamed⟩ := Cond.code_named hcode
  obtain ⟨methM, cM, hmethM, -, -, -, -, -, -, hsigM⟩ := Cond.code_spec hnamed hcode
  have hstatic : methM.isStatic = true := Cond.static_spec hnamed hmethM hstat
  obtain ⟨kP, hkP, -⟩ := className_of_methodNamed hnamed
  have hinitP : kP.init = .initialized := Cond.initialized_spec (findClass_of_methodNamed hnamed) hkP hinit
  obtain ⟨vm₁, X₁, hstep₁⟩ := X.invokestatic hexec hown hlink hnamed hmethM hstatic hkP hinitP hy (g := g) hg (argsL := argsL) (rest := rest) (hlen _ hsigM) hstack hdg
  rcases hK m meth c ⟨T.setVm vm₁, locs, cells, slots⟩ { g with stack := rest } (.invokestatic index) mk argsL.toArray X₁ hg hsize hdg hW (X₁.named hnamed) (hpre vm₁ X₁.warmed) with ⟨v, B, X', hpost, hsteps⟩ | ⟨q, B, X', hpost, hsteps⟩
  · exact Or.inl ⟨v, vm₁, B, X₁.warmed, X', hpost, fun target h => hstep₁ _ fun acts => by rw [doInvoke_state]; exact hsteps.trans h⟩
  · exact Or.inr ⟨q, vm₁, B, X₁.warmed, X', hpost, hstep₁ _ fun acts => by rw [doInvoke_state]; exact hsteps⟩
end Calls
theorem vx_cls {s : State} {T : State} {vm₁ : Vm} {E : String} {k : ClassId} (hW : s.WarmedH vm₁) (h : (T.setVm vm₁).vm.findClass E = some k) : s.vm.findClass E = some k := by
  have h1 : vm₁.findClass E = some k := h
  rw [hW.alike.findClass] at h1
  exact h1
/-- the method's frame g, with q thrown over it -/
def vx_W (p : Program) (l : Launch) (e : Env) (R : Room) (s : State) (m : MethodId) (args : Array Value) (below : List Frame) (meth : Method) (c : Code) (H : Heap) (locs : List Loc) (cells slots : Nat) (Q : State → Prop) (g : JFrame) (q : Addr) : Prop :=
  ∀ T : State, T.heap = H → Stand p l e R s m args below meth c T locs cells slots → ∃ t, Steps p.tables e below ((T.setTop g).pushFrame (.throwing q)) t ∧ Q t
def vx_Run (p : Program) (l : Launch) (e : Env) (R : Room) (s : State) (m : MethodId) (args : Array Value) (below : List Frame) (meth : Method) (c : Code) (H : Heap) (locs : List Loc) (cells slots mc ms : Nat) (g : JFrame) (rest : List Value) (Qa : State → Outcome → State → Prop) (XC : String → State → State → Prop) (free : Addr → Prop) : Prop :=
  ∀ T : State, T.heap = H → Stand p l e R s m args below meth c T locs cells slots →
    (∃ (v : Option Value) (st₀ t T' : State) (L : List Loc), st₀.heap = H ∧ Stand p l e R s m args below meth c T' (locs ++ L) (cells + mc) (slots + ms) ∧ (∀ q ∈ L, free q.base) ∧ T'.heap = t.heap ∧ T'.vm = t.vm ∧ Qa st₀ (.returned v) t ∧
      Goes p e below T g T' { g with pc := g.pc + 3, stack := v.toList ++ rest }) ∨
    (∃ (q : Addr) (st₀ t T' : State) (L : List Loc) (E : String) (ce : Cell), st₀.heap = H ∧ Stand p l e R s m args below meth c T' (locs ++ L) (cells + mc) (slots + ms) ∧ (∀ z ∈ L, free z.base) ∧ T'.heap = t.heap ∧ T'.vm = t.vm ∧ XC E st₀ t ∧ t.heap[q]? = some ce ∧ ce.vm = .none ∧ s.vm.findClass E = some ce.cls ∧
      Steps p.tables e below (T.setTop g) ((T'.setTop { g with stack := rest }).pushFrame (.throwing q)))
def vx_X {S : Type} (px : S → Prop) (B : String → S → State → Prop) (A : Nat → Prop) : String → State → State → Prop := fun E st t => ∃ u : S, px u ∧ B E u t ∧ va_F A st t
section Runs
variable {p : Program} {l : Launch} {e : Env} {R : Room} {s : State} {m : MethodId} {args : Array Value} {below : List Frame} {meth : Method} {c : Code} {H : Heap} {locs : List Loc} {cells slots : Nat}
variable {y : MethodName} {bytes cc : ByteArray} {maxL nL mc ms n index : Nat} {ret : Option FieldType} {ws : List Cond} {rm : Room} {Pc : Array Value → State → Prop} {Qc : Array Value → State → Outcome → State → Prop} {XC : String → State → State → Prop} {free : Addr → Prop} {Ts : List Cond} {own C : String} {b : Addr} {As rest : List Value} {g : JFrame}
theorem vx_callBack (cb : CallB R s args own index y bytes maxL ret ws rm mc ms n) (hM : vx_Met l y ws rm Pc Qc XC mc ms free) (hbl : FrameBlind Pc) : vx_Back l R p e below s args y 3 8 (PreOf R mc ms Pc) (PostOf Qc mc ms free) (vx_Post XC mc ms free) := by
  obtain ⟨hrc, hrs, hfr, hlo, hws, hcw, -, hini, -⟩ := cb
  exact vx_back (bytes := bytes) (maxL := maxL) (ret := ret) hM hbl hrc hrs hfr hlo hws hcw (fun a' U hW => word_at hW (Or.inl (by first | rfl | simp [Cond.onTables, Cond.keeps, Cond.steady])) hini)
theorem vx_runV (S : CallFix p m c cc nL s args Ts own) (hM : vx_Met l y ws rm Pc Qc XC mc ms free) (cw : CallW R s args own C index y bytes maxL ret ws rm mc ms n) (hp : PreV s H C b Pc As)
    (hg : g.method = m) (hn : As.length = n) (hsize : g.locals.size = nL) (hstack : g.stack = As.reverse ++ .ref b :: rest) (hW : 2 * g.monitorRoom + (rest.map fun v => v.category).sum ≤ 8) (hdg : decode cc g.pc = .ok (.invokevirtual index, 3)) (hf : cells + mc ≤ R.cells ∧ slots + ms ≤ R.slots) :
    vx_Run p l e R s m args below meth c H locs cells slots mc ms g rest (Qc (Value.ref b :: As).toArray) XC free := by
  have hK : vx_Back l R p e below s args y 3 8 (PreOf R mc ms Pc) (PostOf Qc mc ms free) (vx_Post XC mc ms free) := vx_callBack cw.1 hM hp.1
  obtain ⟨⟨-, -, -, -, -, -, hcode, -, hy, hlen, hl⟩, hin, hse⟩ := cw
  obtain ⟨hx, hb, hml, ho, -⟩ := S
  obtain ⟨-, ⟨cellB, hcB, hoB, hclB⟩, hPc⟩ := hp
  intro T hT X
  rcases vx_callV X hx (C := C) (bytes := bytes) (maxL := maxL) (ret := ret) ho hl hin hse hcode hy hK (by rw [hT]; exact hcB) hoB hclB hg (hsize.trans hml.symm) (argsL := As) (rest := rest) (fun sig h => hn.trans (hlen sig h)) hstack hW (by rw [hb]; exact hdg)
    (fun vm₁ hW₁ => ⟨hf.1, hf.2, hPc (T.setVm vm₁) hT hW₁⟩) with ⟨v, vm₁, ⟨U', l2, c2, s2⟩, hW₁, X', ⟨g', mk, t, L, e1, e2, hq, h1, hL, h2, h3⟩, st⟩ | ⟨q, vm₁, ⟨U', l2, c2, s2⟩, hW₁, X', ⟨g', mk, t, L, E, ce, e1, e2, hq, hce, hcv, hcl, h1, hL, h2, h3⟩, st⟩
  · dsimp only [Pt.U, Pt.locs, Pt.cells, Pt.slots] at X' e1 e2 h1 h2 h3 st
    subst h1; subst h2; subst h3
    exact Or.inl ⟨v, (T.setVm vm₁).calling g' mk (Value.ref b :: As).toArray, t, U', L, hT, X', hL, e1, e2, hq, st⟩
  · dsimp only [Pt.U, Pt.locs, Pt.cells, Pt.slots] at X' e1 e2 h1 h2 h3 st hcl
    subst h1; subst h2; subst h3
    exact Or.inr ⟨q, (T.setVm vm₁).calling g' mk (Value.ref b :: As).toArray, t, U', L, E, ce, hT, X', hL, e1, e2, hq, hce, hcv, vx_cls hW₁ hcl, st⟩
theorem vx_runS (S : CallFix p m c cc nL s args Ts own) (hM : vx_Met l y ws rm Pc Qc XC mc ms free) (cw : CallB R s args own index y bytes maxL ret ws rm mc ms n ∧ (Cond.static y).before args s = true) (hp : PreS s H Pc As)
    (hg : g.method = m) (hn : As.length = n) (hsize : g.locals.size = nL) (hstack : g.stack = As.reverse ++ rest) (hW : 2 * g.monitorRoom + (rest.map fun v => v.category).sum ≤ 8) (hdg : decode cc g.pc = .ok (.invokestatic index, 3)) (hf : cells + mc ≤ R.cells ∧ slots + ms ≤ R.slots) :
    vx_Run p l e R s m args below meth c H locs cells slots mc ms g rest (Qc As.toArray) XC free := by
  have hK : vx_Back l R p e below s args y 3 8 (PreOf R mc ms Pc) (PostOf Qc mc ms free) (vx_Post XC mc ms free) := vx_callBack cw.1 hM hp.1
  obtain ⟨⟨-, -, -, -, -, -, hcode, hini, hy, hlen, hl⟩, hstt⟩ := cw
  obtain ⟨hx, hb, hml, ho, -⟩ := S
  intro T hT X
  rcases vx_callS X hx (bytes := bytes) (maxL := maxL) (ret := ret) ho hl hstt hini hcode hy hK hg (hsize.trans hml.symm) (argsL := As) (rest := rest) (fun sig h => hn.trans (hlen sig h)) hstack hW (by rw [hb]; exact hdg)
    (fun vm₁ hW₁ => ⟨hf.1, hf.2, hp.2 (T.setVm vm₁) hT hW₁⟩) with ⟨v, vm₁, ⟨U', l2, c2, s2⟩, hW₁, X', ⟨g', mk, t, L, e1, e2, hq, h1, hL, h2, h3⟩, st⟩ | ⟨q, vm₁, ⟨U', l2, c2, s2⟩, hW₁, X', ⟨g', mk, t, L, E, ce, e1, e2, hq, hce, hcv, hcl, h1, hL, h2, h3⟩, st⟩
  · dsimp only [Pt.U, Pt.locs, Pt.cells, Pt.slots] at X' e1 e2 h1 h2 h3 st
    subst h1; subst h2; subst h3
    exact Or.inl ⟨v, (T.setVm vm₁).calling g' mk As.toArray, t, U', L, hT, X', hL, e1, e2, hq, st⟩
  · dsimp only [Pt.U, Pt.locs, Pt.cells, Pt.slots] at X' e1 e2 h1 h2 h3 st hcl
    subst h1; subst h2; subst h3
    exact Or.inr ⟨q, (T.setVm vm₁).calling g' mk As.toArray, t, U', L, E, ce, hT, X', hL, e1, e2, hq, hce, hcv, vx_cls hW₁ hcl, st⟩
end Runs
section Rows
variable {p : Program} {l : Launch} {e : Env} {R : Room} {s : State} {m : MethodId} {args : Array Value} {below : List Frame} {meth : Method} {c : Code} {H : Heap} {locs : List Loc} {cells slots : Nat} {Q : State → Prop}
variable {mc ms : Nat} {free : Addr → Prop} {A0 A1 : Nat → Prop} {H0 : Heap} {a : Array Value} {pc : Nat} {ls : Array Slot} {st0 rest : List Value}
theorem vx_keep {st₀ t T' : State} {L : List Loc} (h0 : st₀.heap = H) (e1 : T'.heap = t.heap) (hS : va_S A0 H0 H locs) (hA : ∀ q, q < H.size → A1 q → A0 q) (hf : ∀ q, free q → A0 q) (hL : ∀ q ∈ L, free q.base) (hF : va_F A1 st₀ t) :
    H.size ≤ T'.heap.size ∧ (∀ q : Nat, q < H.size → ¬ A1 q → T'.heap[q]? = H[q]?) ∧ va_S A0 H0 T'.heap (locs ++ L) := by
  obtain ⟨hz, hk⟩ := hF
  rw [h0] at hz hk
  exact ⟨by rw [e1]; exact hz, fun q h1 h2 => by rw [e1]; exact hk q h1 h2,
    ⟨Nat.le_trans hS.1 (by rw [e1]; exact hz), fun q h1 h2 => by rw [e1, hk q (Nat.lt_of_lt_of_le h1 hS.1) (fun z => h2 (hA q (Nat.lt_of_lt_of_le h1 hS.1) z))]; exact hS.2.1 q h1 h2, fun q hq => by
      rcases List.mem_append.mp hq with h | h
      · exact hS.2.2 q h
      · exact hf _ (hL q h)⟩⟩
theorem vx_calli {S SX : Type} {post : Int32 → S → Prop} {px : SX → Prop} {B : S → State → Prop} {BX : String → SX → State → Prop} {AX : Nat → Prop} (hr : vx_Run p l e R s m args below meth c H locs cells slots mc ms (F0 m pc ls st0) rest (va_Qi post B A1 a) (vx_X px BX AX) free) (hS : va_S A0 H0 H locs) (hA : ∀ q, q < H.size → A1 q → A0 q) (hf : ∀ q, free q → A0 q) (hAX : ∀ q, q < H.size → AX q → A0 q)
    (kx : ∀ (E : String) (ce : Cell) (q9 : Addr) (u : SX) (t : State) (H1 : Heap) (locs1 : List Loc), t.heap = H1 → s.vm.Alike t.vm → px u → BX E u t → H.size ≤ H1.size → (∀ q : Nat, q < H.size → ¬ AX q → H1[q]? = H[q]?) → va_S A0 H0 H1 locs1 → H1[q9]? = some ce → ce.vm = .none → s.vm.findClass E = some ce.cls → vx_W p l e R s m args below meth c H1 locs1 (cells + mc) (slots + ms) Q (F0 m pc ls rest) q9)
    (kk : ∀ (r : Int32) (u : S) (t : State) (H1 : Heap) (locs1 : List Loc), t.heap = H1 → s.vm.Alike t.vm → post r u → B u t → H.size ≤ H1.size → (∀ q : Nat, q < H.size → ¬ A1 q → H1[q]? = H[q]?) → va_S A0 H0 H1 locs1 → W p l e R s m args below meth c H1 locs1 (cells + mc) (slots + ms) Q (F0 m (pc + 3) ls (.int r :: rest))) : W p l e R s m args below meth c H locs cells slots Q (F0 m pc ls st0) := by
  intro T hT X
  rcases hr T hT X with ⟨v, st₀, t, T', L, h0, X', hL, e1, e2, ⟨⟨r, u, hv, hp, hb⟩, hF⟩, st⟩ | ⟨q, st₀, t, T', L, E, ce, h0, X', hL, e1, e2, ⟨u, hp, hb, hF⟩, hce, hcv, hcl, st⟩
  · cases hv
    obtain ⟨k1, k2, k3⟩ := vx_keep h0 e1 hS hA hf hL hF
    obtain ⟨t2, a1, b1⟩ := kk r u t T'.heap (locs ++ L) e1.symm (by rw [← e2]; exact X'.warmed.alike) hp hb k1 k2 k3 T' rfl X'
    exact ⟨t2, st t2 a1, b1⟩
  · obtain ⟨k1, k2, k3⟩ := vx_keep h0 e1 hS hAX hf hL hF
    obtain ⟨t2, a1, b1⟩ := kx E ce q u t T'.heap (locs ++ L) e1.symm (by rw [← e2]; exact X'.warmed.alike) hp hb k1 k2 k3 (by rw [e1]; exact hce) hcv hcl T' rfl X'
    exact ⟨t2, st.trans a1, b1⟩
theorem vx_calll {S SX : Type} {post : Int64 → S → Prop} {px : SX → Prop} {B : S → State → Prop} {BX : String → SX → State → Prop} {AX : Nat → Prop} (hr : vx_Run p l e R s m args below meth c H locs cells slots mc ms (F0 m pc ls st0) rest (va_Ql post B A1 a) (vx_X px BX AX) free) (hS : va_S A0 H0 H locs) (hA : ∀ q, q < H.size → A1 q → A0 q) (hf : ∀ q, free q → A0 q) (hAX : ∀ q, q < H.size → AX q → A0 q)
    (kx : ∀ (E : String) (ce : Cell) (q9 : Addr) (u : SX) (t : State) (H1 : Heap) (locs1 : List Loc), t.heap = H1 → s.vm.Alike t.vm → px u → BX E u t → H.size ≤ H1.size → (∀ q : Nat, q < H.size → ¬ AX q → H1[q]? = H[q]?) → va_S A0 H0 H1 locs1 → H1[q9]? = some ce → ce.vm = .none → s.vm.findClass E = some ce.cls → vx_W p l e R s m args below meth c H1 locs1 (cells + mc) (slots + ms) Q (F0 m pc ls rest) q9)
    (kk : ∀ (r : Int64) (u : S) (t : State) (H1 : Heap) (locs1 : List Loc), t.heap = H1 → s.vm.Alike t.vm → post r u → B u t → H.size ≤ H1.size → (∀ q : Nat, q < H.size → ¬ A1 q → H1[q]? = H[q]?) → va_S A0 H0 H1 locs1 → W p l e R s m args below meth c H1 locs1 (cells + mc) (slots + ms) Q (F0 m (pc + 3) ls (.long r :: rest))) : W p l e R s m args below meth c H locs cells slots Q (F0 m pc ls st0) := by
  intro T hT X
  rcases hr T hT X with ⟨v, st₀, t, T', L, h0, X', hL, e1, e2, ⟨⟨r, u, hv, hp, hb⟩, hF⟩, st⟩ | ⟨q, st₀, t, T', L, E, ce, h0, X', hL, e1, e2, ⟨u, hp, hb, hF⟩, hce, hcv, hcl, st⟩
  · cases hv
    obtain ⟨k1, k2, k3⟩ := vx_keep h0 e1 hS hA hf hL hF
    obtain ⟨t2, a1, b1⟩ := kk r u t T'.heap (locs ++ L) e1.symm (by rw [← e2]; exact X'.warmed.alike) hp hb k1 k2 k3 T' rfl X'
    exact ⟨t2, st t2 a1, b1⟩
  · obtain ⟨k1, k2, k3⟩ := vx_keep h0 e1 hS hAX hf hL hF
    obtain ⟨t2, a1, b1⟩ := kx E ce q u t T'.heap (locs ++ L) e1.symm (by rw [← e2]; exact X'.warmed.alike) hp hb k1 k2 k3 (by rw [e1]; exact hce) hcv hcl T' rfl X'
    exact ⟨t2, st.trans a1, b1⟩
theorem vx_callf {S SX : Type} {post : UInt32 → S → Prop} {px : SX → Prop} {B : S → State → Prop} {BX : String → SX → State → Prop} {AX : Nat → Prop} (hr : vx_Run p l e R s m args below meth c H locs cells slots mc ms (F0 m pc ls st0) rest (va_Qf post B A1 a) (vx_X px BX AX) free) (hS : va_S A0 H0 H locs) (hA : ∀ q, q < H.size → A1 q → A0 q) (hf : ∀ q, free q → A0 q) (hAX : ∀ q, q < H.size → AX q → A0 q)
    (kx : ∀ (E : String) (ce : Cell) (q9 : Addr) (u : SX) (t : State) (H1 : Heap) (locs1 : List Loc), t.heap = H1 → s.vm.Alike t.vm → px u → BX E u t → H.size ≤ H1.size → (∀ q : Nat, q < H.size → ¬ AX q → H1[q]? = H[q]?) → va_S A0 H0 H1 locs1 → H1[q9]? = some ce → ce.vm = .none → s.vm.findClass E = some ce.cls → vx_W p l e R s m args below meth c H1 locs1 (cells + mc) (slots + ms) Q (F0 m pc ls rest) q9)
    (kk : ∀ (r : UInt32) (u : S) (t : State) (H1 : Heap) (locs1 : List Loc), t.heap = H1 → s.vm.Alike t.vm → post r u → B u t → H.size ≤ H1.size → (∀ q : Nat, q < H.size → ¬ A1 q → H1[q]? = H[q]?) → va_S A0 H0 H1 locs1 → W p l e R s m args below meth c H1 locs1 (cells + mc) (slots + ms) Q (F0 m (pc + 3) ls (.float r :: rest))) : W p l e R s m args below meth c H locs cells slots Q (F0 m pc ls st0) := by
  intro T hT X
  rcases hr T hT X with ⟨v, st₀, t, T', L, h0, X', hL, e1, e2, ⟨⟨r, u, hv, hp, hb⟩, hF⟩, st⟩ | ⟨q, st₀, t, T', L, E, ce, h0, X', hL, e1, e2, ⟨u, hp, hb, hF⟩, hce, hcv, hcl, st⟩
  · cases hv
    obtain ⟨k1, k2, k3⟩ := vx_keep h0 e1 hS hA hf hL hF
    obtain ⟨t2, a1, b1⟩ := kk r u t T'.heap (locs ++ L) e1.symm (by rw [← e2]; exact X'.warmed.alike) hp hb k1 k2 k3 T' rfl X'
    exact ⟨t2, st t2 a1, b1⟩
  · obtain ⟨k1, k2, k3⟩ := vx_keep h0 e1 hS hAX hf hL hF
    obtain ⟨t2, a1, b1⟩ := kx E ce q u t T'.heap (locs ++ L) e1.symm (by rw [← e2]; exact X'.warmed.alike) hp hb k1 k2 k3 (by rw [e1]; exact hce) hcv hcl T' rfl X'
    exact ⟨t2, st.trans a1, b1⟩
theorem vx_calld {S SX : Type} {post : UInt64 → S → Prop} {px : SX → Prop} {B : S → State → Prop} {BX : String → SX → State → Prop} {AX : Nat → Prop} (hr : vx_Run p l e R s m args below meth c H locs cells slots mc ms (F0 m pc ls st0) rest (va_Qd post B A1 a) (vx_X px BX AX) free) (hS : va_S A0 H0 H locs) (hA : ∀ q, q < H.size → A1 q → A0 q) (hf : ∀ q, free q → A0 q) (hAX : ∀ q, q < H.size → AX q → A0 q)
    (kx : ∀ (E : String) (ce : Cell) (q9 : Addr) (u : SX) (t : State) (H1 : Heap) (locs1 : List Loc), t.heap = H1 → s.vm.Alike t.vm → px u → BX E u t → H.size ≤ H1.size → (∀ q : Nat, q < H.size → ¬ AX q → H1[q]? = H[q]?) → va_S A0 H0 H1 locs1 → H1[q9]? = some ce → ce.vm = .none → s.vm.findClass E = some ce.cls → vx_W p l e R s m args below meth c H1 locs1 (cells + mc) (slots + ms) Q (F0 m pc ls rest) q9)
    (kk : ∀ (r : UInt64) (u : S) (t : State) (H1 : Heap) (locs1 : List Loc), t.heap = H1 → s.vm.Alike t.vm → post r u → B u t → H.size ≤ H1.size → (∀ q : Nat, q < H.size → ¬ A1 q → H1[q]? = H[q]?) → va_S A0 H0 H1 locs1 → W p l e R s m args below meth c H1 locs1 (cells + mc) (slots + ms) Q (F0 m (pc + 3) ls (.double r :: rest))) : W p l e R s m args below meth c H locs cells slots Q (F0 m pc ls st0) := by
  intro T hT X
  rcases hr T hT X with ⟨v, st₀, t, T', L, h0, X', hL, e1, e2, ⟨⟨r, u, hv, hp, hb⟩, hF⟩, st⟩ | ⟨q, st₀, t, T', L, E, ce, h0, X', hL, e1, e2, ⟨u, hp, hb, hF⟩, hce, hcv, hcl, st⟩
  · cases hv
    obtain ⟨k1, k2, k3⟩ := vx_keep h0 e1 hS hA hf hL hF
    obtain ⟨t2, a1, b1⟩ := kk r u t T'.heap (locs ++ L) e1.symm (by rw [← e2]; exact X'.warmed.alike) hp hb k1 k2 k3 T' rfl X'
    exact ⟨t2, st t2 a1, b1⟩
  · obtain ⟨k1, k2, k3⟩ := vx_keep h0 e1 hS hAX hf hL hF
    obtain ⟨t2, a1, b1⟩ := kx E ce q u t T'.heap (locs ++ L) e1.symm (by rw [← e2]; exact X'.warmed.alike) hp hb k1 k2 k3 (by rw [e1]; exact hce) hcv hcl T' rfl X'
    exact ⟨t2, st.trans a1, b1⟩
theorem vx_callv {S SX : Type} {post : S → Prop} {px : SX → Prop} {B : S → State → Prop} {BX : String → SX → State → Prop} {AX : Nat → Prop} (hr : vx_Run p l e R s m args below meth c H locs cells slots mc ms (F0 m pc ls st0) rest (va_Qv post B A1 a) (vx_X px BX AX) free) (hS : va_S A0 H0 H locs) (hA : ∀ q, q < H.size → A1 q → A0 q) (hf : ∀ q, free q → A0 q) (hAX : ∀ q, q < H.size → AX q → A0 q)
    (kx : ∀ (E : String) (ce : Cell) (q9 : Addr) (u : SX) (t : State) (H1 : Heap) (locs1 : List Loc), t.heap = H1 → s.vm.Alike t.vm → px u → BX E u t → H.size ≤ H1.size → (∀ q : Nat, q < H.size → ¬ AX q → H1[q]? = H[q]?) → va_S A0 H0 H1 locs1 → H1[q9]? = some ce → ce.vm = .none → s.vm.findClass E = some ce.cls → vx_W p l e R s m args below meth c H1 locs1 (cells + mc) (slots + ms) Q (F0 m pc ls rest) q9)
    (kk : ∀ (u : S) (t : State) (H1 : Heap) (locs1 : List Loc), t.heap = H1 → s.vm.Alike t.vm → post u → B u t → H.size ≤ H1.size → (∀ q : Nat, q < H.size → ¬ A1 q → H1[q]? = H[q]?) → va_S A0 H0 H1 locs1 → W p l e R s m args below meth c H1 locs1 (cells + mc) (slots + ms) Q (F0 m (pc + 3) ls (rest))) : W p l e R s m args below meth c H locs cells slots Q (F0 m pc ls st0) := by
  intro T hT X
  rcases hr T hT X with ⟨v, st₀, t, T', L, h0, X', hL, e1, e2, ⟨⟨u, hv, hp, hb⟩, hF⟩, st⟩ | ⟨q, st₀, t, T', L, E, ce, h0, X', hL, e1, e2, ⟨u, hp, hb, hF⟩, hce, hcv, hcl, st⟩
  · cases hv
    obtain ⟨k1, k2, k3⟩ := vx_keep h0 e1 hS hA hf hL hF
    obtain ⟨t2, a1, b1⟩ := kk u t T'.heap (locs ++ L) e1.symm (by rw [← e2]; exact X'.warmed.alike) hp hb k1 k2 k3 T' rfl X'
    exact ⟨t2, st t2 a1, b1⟩
  · obtain ⟨k1, k2, k3⟩ := vx_keep h0 e1 hS hAX hf hL hF
    obtain ⟨t2, a1, b1⟩ := kx E ce q u t T'.heap (locs ++ L) e1.symm (by rw [← e2]; exact X'.warmed.alike) hp hb k1 k2 k3 (by rw [e1]; exact hce) hcv hcl T' rfl X'
    exact ⟨t2, st.trans a1, b1⟩
/-- caught by the row x of this method's table; the rows ahead don't take it -/
theorem vx_catch {own name : String} {E : String} {ce : Cell} {q : Addr} (hown : s.vm.findClass own = some m.cls) (pre : List ExceptionTableEntry) (x : ExceptionTableEntry) (suf : List ExceptionTableEntry) (hsplit : c.exceptionTable.toList = pre ++ x :: suf)
    (hpass : ∀ z ∈ pre, covers z pc = false ∨ (z.catchType ≠ 0 ∧ ∃ nm : String, (Cond.classLink own z.catchType nm).before args s = true ∧ va_Nc E nm s)) (hx : covers x pc = true) (h0 : x.catchType ≠ 0)
    (hlink : (Cond.classLink own x.catchType name).before args s = true) (hcast : (Cond.castable E name).before args s = true) (hcell : H[q]? = some ce) (hv : ce.vm = .none) (hcl : s.vm.findClass E = some ce.cls)
    (kk : W p l e R s m args below meth c H locs cells slots Q (F0 m x.handlerPc ls [.ref q])) : vx_W p l e R s m args below meth c H locs cells slots Q (F0 m pc ls rest) q := by
  intro T hT X
  have hpl : e.platform.magicAccessors = ({} : Platform).magicAccessors := by rw [X.admits.platform]
  obtain ⟨c3, c4, hc3, hc4, hasg⟩ := Cond.castable_spec hcast
  cases Option.some.inj (hc3.symm.trans hcl)
  obtain ⟨c5, hc5, hcl5⟩ := Cond.classLink_spec hown hlink e.platform hpl
  cases Option.some.inj (hc4.symm.trans hc5)
  obtain ⟨vm', X', st⟩ := X.thenCaughtThrough q (g := F0 m pc ls rest) rfl (Steps.refl _) (by rw [hT]; exact hcell) (by rw [hv]; rfl) (by obtain ⟨k9, h9, -⟩ := Vm.findClass_spec hcl; exact ⟨k9, h9⟩) pre x suf hsplit
    (fun z hz => by
      rcases hpass z hz with h | ⟨hz0, nm, hl1, hn1⟩
      · exact Or.inl h
      · obtain ⟨c6, hc6, hcl6⟩ := Cond.classLink_spec hown hl1 e.platform hpl
        obtain ⟨a8, b8, h1, h2, h3⟩ := hn1
        cases Option.some.inj (h1.symm.trans hcl)
        cases Option.some.inj (h2.symm.trans hc6)
        exact Or.inr ⟨hz0, _, hcl6, h3⟩) hx (Or.inr ⟨h0, c4, hcl5, hasg⟩)
  obtain ⟨t, a1, b1⟩ := kk (T.setVm vm') hT X'
  exact ⟨t, st.trans a1, b1⟩
end Rows
section Ends
variable {p : Program} {l : Launch} {e : Env} {R : Room} {s : State} {m : MethodId} {args : Array Value} {below : List Frame} {meth : Method} {c : Code} {H : Heap} {locs : List Loc} {cells slots : Nat} {Q : State → Prop}
variable {mc ms : Nat} {free : Addr → Prop} {A0 A1 : Nat → Prop} {H0 : Heap} {a : Array Value} {ls : Array Slot} {st0 rest : List Value}
variable {Qc : Array Value → State → Outcome → State → Prop} {XC : String → State → State → Prop}
/-- what a body that may throw owes at its end -/
def vx_MQ (below : List Frame) (Qc : Array Value → State → Outcome → State → Prop) (XC : String → State → State → Prop) (a : Array Value) (s : State) (mc ms : Nat) (free : Addr → Prop) : State → Prop := fun t =>
  ∃ o, t.status = .running ∧ Ended t below o ∧ vx_Q Qc XC mc ms free a s o t
theorem vx_ret {g : JFrame} {mc ms : Nat} (k : W p l e R s m args below meth c H locs cells slots (MQ below Qc args s mc ms free) g) : W p l e R s m args below meth c H locs cells slots (vx_MQ below Qc XC args s mc ms free) g := by
  intro T hT X
  obtain ⟨t, a1, o, b1, b2, b3, b4⟩ := k T hT X
  exact ⟨t, a1, o, b1, b2, Or.inl ⟨b3, b4⟩⟩
/-- not caught here: it goes on to the caller -/
theorem vx_widen {g : JFrame} {q : Addr} {k n : Nat} (h1 : cells ≤ k) (h2 : slots ≤ n) (kk : vx_W p l e R s m args below meth c H locs k n Q g q) : vx_W p l e R s m args below meth c H locs cells slots Q g q := fun T hT X => kk T hT (stand_widen X h1 h2)
theorem vx_out {pc : Nat} {E : String} {ce : Cell} {q : Addr} {mc ms : Nat} (hout : ∀ x ∈ c.exceptionTable.toList, covers x pc = false) (hlocks : meth.locks = false) (hcell : H[q]? = some ce) (hv : ce.vm = .none) (hcl : s.vm.findClass E = some ce.cls)
    (hx : ∀ t : State, t.heap = H → s.vm.Alike t.vm → XC E s t) (hf : ∀ z ∈ locs, free z.base) (hc : cells ≤ mc) (hs : slots ≤ ms) :
    vx_W p l e R s m args below meth c H locs cells slots (vx_MQ below Qc XC args s mc ms free) (F0 m pc ls rest) q := by
  intro T hT X
  obtain ⟨st1, hrun, hend, hW, hsm⟩ := X.leaveThrown q (g := F0 m pc ls rest) rfl rfl rfl hout hlocks
  have hcell9 : (T.setFrames (.throwing q :: below)).heap[q]? = some ce := by
    show T.heap[q]? = some ce
    rw [hT]; exact hcell
  exact ⟨_, st1, .threw q, hrun, hend, Or.inr ⟨q, rfl, E, ce, locs, hx _ hT hW.alike, hcell9, hv, hcl, hW, hsm.mono hc hs, hf⟩⟩
theorem vx_frame {U : State} {k n : Nat} (h : s.sameButNew ({ U with vm := s.vm } : State) locs k n) : s.heap.size ≤ U.heap.size ∧ ∀ q : Nat, q < s.heap.size → (∀ z ∈ locs, z.base ≠ q) → U.heap[q]? = s.heap[q]? := by
  obtain ⟨-, h2, -, -, -, h6⟩ := h
  refine ⟨h2, fun q hq hz => ?_⟩
  obtain ⟨c9, e1, e2, e3, e4⟩ := h6 q _ (Array.getElem?_eq_getElem hq)
  have hs : c9.slots = (s.heap[q]).slots := Array.ext_getElem? fun i => e4 i fun hm => hz _ hm rfl
  have h9 : c9 = s.heap[q] := by
    rw [hs] at e2
    exact e2
  have e5 : U.heap[q]? = some c9 := e1
  rw [e5, h9, Array.getElem?_eq_getElem hq]
/-- the words of a throw but the four that speak of the heap -/
def vx_no (w : Cond) : Bool := decide (w ≠ .isRef (.static Bundle.tN "UNASSIGNED_STACK" Bundle.steD)) && decide (w ≠ .isRef (.static Bundle.tN "SUPPRESSED_SENTINEL" Bundle.listD)) && decide (w ≠ .laysStatic Bundle.tN "UNASSIGNED_STACK" Bundle.steD) && decide (w ≠ .laysStatic Bundle.tN "SUPPRESSED_SENTINEL" Bundle.listD)
def vx_at0 (own : String) (ic : Nat) (X : String) (names : List String) : List Cond := (Bundle.ownAtoms0 own ic X names).filter vx_no
def vx_atS (own : String) (ic : Nat) (X : String) (names : List String) : List Cond := (Bundle.ownAtoms own ic X names).filter vx_no
/-- a word that the tables alone decide, or a good one -/
def vx_ot (w : Cond) : Bool := w.onTables || goodWord w
theorem vx_ot_at {args a' : Array Value} {s U : State} {w : Cond} (hW : s.WarmedH U.vm) (hvm : s.vm = U.vm) (hg : vx_ot w = true) (h : w.before args s = true) : w.before a' U = true := by
  simp only [vx_ot, Bool.or_eq_true] at hg
  rcases hg with hg | hg
  · exact va_tabs hg hvm h
  · exact word_at hW (good_of_word hg) h
/-- a list's words: the good ones out of the method's own list, the others by premises of their own -/
theorem vx_hat {args : Array Value} {s : State} {L B : List Cond} (h1 : ∀ w ∈ L.filter goodWord, w.before args s = true) (h2 : ∀ w ∈ L.filter (fun w => !goodWord w), w ∈ B) (h3 : ∀ w ∈ B, w.before args s = true) : ∀ w ∈ L, w.before args s = true := by
  intro w hw
  by_cases g : goodWord w = true
  · exact h1 w (List.mem_filter.mpr ⟨hw, g⟩)
  · refine h3 w (h2 w (List.mem_filter.mpr ⟨hw, ?_⟩))
    show (!goodWord w) = true
    cases hgw : goodWord w
    · rfl
    · exact absurd hgw g
theorem vx_c {args : Array Value} {s : State} {w : Cond} {B : List Cond} (h : w.before args s = true) (t : ∀ w ∈ B, w.before args s = true) : ∀ w' ∈ w :: B, w'.before args s = true := fun w' h' => (List.mem_cons.mp h').elim (fun e => by rw [e]; exact h) (t w')
theorem vx_n {args : Array Value} {s : State} : ∀ w ∈ ([] : List Cond), w.before args s = true := fun _ h => nomatch h
theorem vx_own {args : Array Value} {s : State} {L : List Cond} (h1 : ∀ w ∈ L.filter vx_no, w.before args s = true)
    (hU : (Cond.isRef (.static Bundle.tN "UNASSIGNED_STACK" Bundle.steD)).before args s = true) (hN : (Cond.isRef (.static Bundle.tN "SUPPRESSED_SENTINEL" Bundle.listD)).before args s = true)
    (lU : (Cond.laysStatic Bundle.tN "UNASSIGNED_STACK" Bundle.steD).before args s = true) (lN : (Cond.laysStatic Bundle.tN "SUPPRESSED_SENTINEL" Bundle.listD).before args s = true) : ∀ w ∈ L, w.before args s = true := by
  intro w hw
  by_cases e1 : w = .isRef (.static Bundle.tN "UNASSIGNED_STACK" Bundle.steD)
  · rw [e1]; exact hU
  · by_cases e2 : w = .isRef (.static Bundle.tN "SUPPRESSED_SENTINEL" Bundle.listD)
    · rw [e2]; exact hN
    · by_cases e3 : w = .laysStatic Bundle.tN "UNASSIGNED_STACK" Bundle.steD
      · rw [e3]; exact lU
      · by_cases e4 : w = .laysStatic Bundle.tN "SUPPRESSED_SENTINEL" Bundle.listD
        · rw [e4]; exact lN
        · exact h1 w (List.mem_filter.mpr ⟨hw, by unfold vx_no; rw [decide_eq_true e1, decide_eq_true e2, decide_eq_true e3, decide_eq_true e4]; rfl⟩)
/-- where a static field lies, its class's statics cell in H -/
def vx_L (C n d : String) (A : Nat → Prop) (U : State) (H : Heap) : Prop := ∃ (c : ClassId) (k : Class) (i : Nat) (f : Field) (a : Nat) (cell : Cell), U.vm.findClass C = some c ∧ U.fieldFound? C n d = some (c, k, i, f) ∧ f.isStatic = true ∧ k.statics = some a ∧ H[a]? = some cell ∧ cell.vm.isStatics = true ∧ cell.cls = c ∧ f.slot < cell.slots.size ∧ k.staticTypes[f.slot]? = some f.type ∧ ¬ A a
theorem vx_L.moved {C n d : String} {A : Nat → Prop} {u U : State} {H : Heap} (hvm : u.vm.Alike U.vm) (h : vx_L C n d A u H) : vx_L C n d A U H := by
  obtain ⟨c, k, i, f, a, cell, h1, h2, h3, h4, h5, h6, h7, h8, h9, h10⟩ := h
  obtain ⟨k', hi', he⟩ := State.fieldFound?_setVm hvm h2
  exact ⟨c, k', i, f, a, cell, by rw [hvm.findClass]; exact h1, hi', h3, by rw [he]; exact h4, h5, h6, h7, h8, by rw [he]; exact h9, h10⟩
theorem vx_L.kept {C n d : String} {A : Nat → Prop} {U : State} {H H1 : Heap} (h : vx_L C n d A U H) (hq : ∀ a : Nat, a < H.size → ¬ A a → H1[a]? = H[a]?) : vx_L C n d A U H1 := by
  obtain ⟨c, k, i, f, a, cell, h1, h2, h3, h4, h5, h6, h7, h8, h9, h10⟩ := h
  exact ⟨c, k, i, f, a, cell, h1, h2, h3, h4, by rw [hq a (Array.getElem?_eq_some_iff.mp h5).1 h10]; exact h5, h6, h7, h8, h9, h10⟩
theorem vx_L.narrow {C n d : String} {A B : Nat → Prop} {U : State} {H : Heap} (h : vx_L C n d A U H) (hAB : ∀ q, B q → A q) : vx_L C n d B U H := by
  obtain ⟨c, k, i, f, a, cell, h1, h2, h3, h4, h5, h6, h7, h8, h9, h10⟩ := h
  exact ⟨c, k, i, f, a, cell, h1, h2, h3, h4, h5, h6, h7, h8, h9, fun z => h10 (hAB _ z)⟩
theorem vx_L.word {C n d : String} {A : Nat → Prop} {s : State} {args : Array Value} (h : vx_L C n d A s s.heap) : (Cond.laysStatic C n d).before args s = true := by
  obtain ⟨c, k, i, f, a, cell, h1, h2, h3, h4, h5, h6, h7, h8, h9, -⟩ := h
  show (Cond.laysStatic C n d).holds args s none s [] = true
  exact Cond.laysStatic_of h1 h2 h3 h4 h5 h6 h7 h8 h9
/-- .. and what it holds: null or some reference -/
def vx_Zq (C n d : String) (A : Nat → Prop) (U : State) (H : Heap) : Prop := va_Zq C n d A U H ∧ vx_L C n d A U H
theorem vx_Zq.moved {C n d : String} {A : Nat → Prop} {u U : State} {H : Heap} (hvm : u.vm.Alike U.vm) (h : vx_Zq C n d A u H) : vx_Zq C n d A U H := ⟨va_Zq.moved hvm h.1, vx_L.moved hvm h.2⟩
theorem vx_Zq.kept {C n d : String} {A : Nat → Prop} {U : State} {H H1 : Heap} (h : vx_Zq C n d A U H) (hq : ∀ a : Nat, a < H.size → ¬ A a → H1[a]? = H[a]?) : vx_Zq C n d A U H1 := ⟨va_Zq.kept h.1 hq, vx_L.kept h.2 hq⟩
theorem vx_Zq.narrow {C n d : String} {A B : Nat → Prop} {U : State} {H : Heap} (h : vx_Zq C n d A U H) (hAB : ∀ q, B q → A q) : vx_Zq C n d B U H := ⟨va_Zq.narrow h.1 hAB, vx_L.narrow h.2 hAB⟩
theorem vx_Zqof {args : Array Value} {s : State} {C n d : String} {A : Nat → Prop} (hl : (Cond.laysStatic C n d).before args s = true) (hini : (Cond.initialized C).before args s = true) (h : (Cond.isRef (.static C n d)).before args s = true) (hA : ∀ a : Nat, a < s.heap.size → ¬ A a) : vx_Zq C n d A s s.heap := by
  refine ⟨va_Zqof hl hini h hA, ?_⟩
  obtain ⟨c, k, i, f, a, cell, h1, h2, h3, h4, h5, h6, h7, h8, h9⟩ := Cond.laysStatic_spec hl
  exact ⟨c, k, i, f, a, cell, h1, h2, h3, h4, h5, h6, h7, h8, h9, hA a (Array.getElem?_eq_some_iff.mp h5).1⟩
theorem vx_isRef {C n d : String} {v : Value} {A : Nat → Prop} {s : State} {args : Array Value} (h : va_Z C n d v A s s.heap) (hv : v.isRef = true) : (Cond.isRef (.static C n d)).before args s = true := by
  obtain ⟨cf, kf, fi, f, a, cell, h1, h2, h3, h4, h5, h6, h7, -⟩ := h
  have he : (Term.static C n d).eval args s none [] s = some v := by
    simp [Term.eval, State.fieldNamed?, h1, h2, h4, h5, h6, h7]
  simp only [Cond.before, Cond.holds, Cond.value, he]
  cases v <;> simp_all [Value.isRef]
theorem vx_isRefq {C n d : String} {A : Nat → Prop} {s : State} {args : Array Value} (h : va_Zq C n d A s s.heap) : (Cond.isRef (.static C n d)).before args s = true := by
  rcases h with h | ⟨t, h⟩
  · exact vx_isRef h rfl
  · exact vx_isRef h rfl
/-- the same frame, seen from here: as if the method were called anew in this heap -/
theorem vx_rebase {T : State} (X : Stand p l e R s m args below meth c T locs cells slots) {R' : Room} (hf : R'.frames ≤ R.frames) (hl : R'.locals ≤ R.locals) (hc : cells + R'.cells ≤ R.cells) (hs : slots + R'.slots ≤ R.slots) :
    Stand p l e R' ((T.setVm s.vm).setFrames (.invoking m args :: below)) m args below meth c T [] 0 0 := by
  have htop : (T.setVm s.vm).topJava?.isSome := X.here.top
  have hF : ((T.setVm s.vm).setFrames (.invoking m args :: below)).frames = .invoking m args :: below := State.frames_setFrames _ (State.cur_lt_of_top htop)
  obtain ⟨g₀, hg0⟩ := Option.isSome_iff_exists.mp htop
  obtain ⟨r, hr⟩ := State.topJava?_eq_some.mp hg0
  have hl9 : e.platform.stackLimits (T.setVm s.vm).me = e.platform.stackLimits s.me := X.limits
  have hb9 : (T.setVm s.vm).me.stackBytes = s.me.stackBytes := X.bytes
  refine ⟨X.admits, X.cas, X.clock, hF, ?_, X.hears, X.method, X.code, X.here, X.tail, X.warmed, ?_, ?_, ?_⟩
  · have h := X.room
    have hU : ((T.setVm s.vm).setFrames (.invoking m args :: below)).localsInUse = s.localsInUse := by
      rw [State.localsInUse_invoking hF (meth := meth) (c := c) X.method X.code, State.localsInUse_invoking X.frames X.method X.code]
    simp only [State.hasRoom, Bool.and_eq_true, decide_eq_true_eq] at h ⊢
    obtain ⟨⟨⟨⟨h1, h2, h3, h4, h5, h6⟩, h7⟩, h8⟩, h9⟩ := h
    rw [X.frames, List.length_cons] at h2 h3
    have q1 := X.heapSize
    have q2 := X.used
    simp only [hF, hU, List.length_cons, State.stackLimits_setFrames, State.stackBytes_setFrames, hl9, hb9]
    refine ⟨⟨⟨⟨by omega, by omega, by omega, by omega, by omega, h6⟩, ?_⟩, ?_⟩, X.book⟩
    · show T.heap.size + R'.cells ≤ e.platform.maxCells
      omega
    · show T.slotsUsed + R'.slots ≤ e.platform.maxSlots
      omega
  · rw [State.stackLimits_setFrames]; rfl
  · rw [State.stackBytes_setFrames]; rfl
  · refine ⟨?_, Nat.le_refl _, Nat.le_refl _, ?_, ?_, fun a c9 h9 => ⟨c9, h9, rfl, rfl, fun _ _ => rfl⟩⟩
    · obtain ⟨t, ht, -⟩ := State.frames_cons hr
      show T.setVm s.vm = { ((T.setVm s.vm).setFrames (.invoking m args :: below)).setFrames (T.setVm s.vm).frames with heap := T.heap, slotsUsed := T.slotsUsed }
      rw [State.setFrames_setFrames, State.setFrames_self ht]
      rfl
    · show T.slotsUsed = T.slotsUsed + ((T.heap.toList.drop T.heap.size).map (·.slots.size)).sum
      rw [List.drop_eq_nil_of_le (Nat.le_of_eq Array.length_toList)]
      rfl
    · show ((T.heap.toList.drop T.heap.size).map (·.slots.size)).sum ≤ 0
      rw [List.drop_eq_nil_of_le (Nat.le_of_eq Array.length_toList)]
      exact Nat.le_refl _
/-- 'throw new E()': new; dup; invokespecial; athrow -/
theorem vx_throw0 {cc : ByteArray} {pc : Nat} (hexec : p.tables.exec = Jvm.exec) (hb : c.code = cc) (hl : l.stackTraces = false) {own cls : String} {names : List String} {ik ic mc ms : Nat} {A : Nat → Prop}
    (hown : s.vm.findClass own = some m.cls) (hcls : Bundle.fit cls = true) (hnames : ∀ n ∈ names, Bundle.fit n = true)
    (hk : (Cond.classLink own ik cls).before args s = true) (hini : (Cond.initialized cls).before args s = true) (hat : ∀ w ∈ vx_at0 own ic cls names, w.before args s = true)
    (hgood : ∀ w ∈ Cond.classLink own ik cls :: Cond.initialized cls :: vx_at0 own ic cls names, vx_ot w = true)
    (hU : vx_Zq Bundle.tN "UNASSIGNED_STACK" Bundle.steD A s s.heap) (hN : vx_Zq Bundle.tN "SUPPRESSED_SENTINEL" Bundle.listD A s s.heap) (hS : va_S A s.heap H locs) (hsize : ls.size = c.maxLocals)
    (d0 : decode cc pc = .ok (.new ik, 3)) (d3 : decode cc (pc + 3) = .ok (.dup, 1)) (d4 : decode cc (pc + 4) = .ok (.invokespecial ic, 3)) (d7 : decode cc (pc + 7) = .ok (.athrow, 1))
    (hout : ∀ x ∈ c.exceptionTable.toList, covers x (pc + 7) = false)
    (hRframes : names.length + 3 < R.frames) (hRlocals : (rest.map fun v => v.category).sum + (13 * (names.length + 1) + 42) ≤ R.locals) (hRcells : cells + 1 ≤ R.cells) (hRslots : slots + 6 ≤ R.slots) (hlocks : meth.locks = false)
    (hx : ∀ t : State, s.vm.Alike t.vm → H.size ≤ t.heap.size → (∀ q : Nat, q < H.size → t.heap[q]? = H[q]?) → XC cls s t)
    (hf : ∀ z ∈ locs, free z.base) (hc : cells + 1 ≤ mc) (hs : slots + 6 ≤ ms) :
    W p l e R s m args below meth c H locs cells slots (vx_MQ below Qc XC args s mc ms free) (F0 m pc ls rest) := by
  intro T hT X
  have htr : e.platform.stackTraces = false := (show e.platform.stackTraces = l.stackTraces by rw [X.admits.platform]).trans hl
  have Y := vx_rebase X (R' := { frames := R.frames, locals := R.locals, cells := 1, slots := 6 }) (Nat.le_refl _) (Nat.le_refl _) hRcells hRslots
  obtain ⟨s', hA⟩ : ∃ z, z = (T.setVm s.vm).setFrames (.invoking m args :: below) := ⟨_, rfl⟩
  rw [← hA] at Y
  have hvm : s'.vm = s.vm := by rw [hA]; rfl
  have hhp : s'.heap = H := by rw [hA]; exact hT
  have hW0 : s.WarmedH s'.vm := by rw [hvm]; exact State.WarmedH.refl s
  have hat' : ∀ w ∈ vx_at0 own ic cls names, w.before args s' = true := fun w hw => vx_ot_at hW0 hvm.symm (hgood w (List.mem_cons_of_mem _ (List.mem_cons_of_mem _ hw))) (hat w hw)
  have hk' : (Cond.classLink own ik cls).before args s' = true := vx_ot_at hW0 hvm.symm (hgood _ List.mem_cons_self) hk
  have hini' : (Cond.initialized cls).before args s' = true := vx_ot_at hW0 hvm.symm (hgood _ (List.mem_cons_of_mem _ List.mem_cons_self)) hini
  have hU' : vx_Zq Bundle.tN "UNASSIGNED_STACK" Bundle.steD A s' s'.heap := by rw [hhp]; exact vx_Zq.moved hW0.alike (hU.kept hS.2.1)
  have hN' : vx_Zq Bundle.tN "SUPPRESSED_SENTINEL" Bundle.listD A s' s'.heap := by rw [hhp]; exact vx_Zq.moved hW0.alike (hN.kept hS.2.1)
  have h : ∀ w ∈ Bundle.ownAtoms0 own ic cls names, w.before args s' = true := vx_own hat' (vx_isRefq hU'.1) (vx_isRefq hN'.1) hU'.2.word hN'.2.word
  have hown' : s'.vm.findClass own = some m.cls := by rw [hvm]; exact hown
  have hins : (Cond.instantiable cls 6).before args s' = true := h _ (by simp [Bundle.ownAtoms0])
  obtain ⟨vm₁, cX, kX, hfX, hkX, -, -, X₁, st1⟩ := Y.newCold hexec (own := own) (C := cls) (index := ik) (n := 6) hown' hk' hins hini'
    (g := F0 m pc ls rest) rfl (by rw [hb]; exact d0) (Nat.le_refl _) (Nat.le_refl _)
  generalize hT1 : (T.setVm vm₁).pushCell { cls := cX, slots := kX.instanceTypes.map defaultValue, vm := .none } = T1 at X₁ st1
  have hcat : (Value.ref T.heap.size).category = 1 := rfl
  have hcellA : T1.heap[T.heap.size]? = some (freshCell cX kX) := by rw [← hT1]; exact State.heap_pushCell_size _ _
  have d3' : decode c.code (pc + 3) = .ok (.dup, 1) := by rw [hb]; exact d3
  obtain ⟨U, hsteps, hrun, hend, hW, hsame, ce, hce, hO⟩ := X₁.ctorThrow0 hexec htr (own := own) (cls := cls) (names := names) (ic := ic) hown' hcls hnames h (fun x hx => nomatch hx) hfX hkX hcellA (by rw [hhp, hT]; exact Nat.le_refl _)
    (g := { method := m, pc := pc + 4, locals := ls, stack := .ref T.heap.size :: .ref T.heap.size :: rest, locked := none }) rfl hsize rfl rfl (rest := rest) rfl
    (by rw [hb]; exact d4) (by rw [hb]; exact d7) hout hRframes (by simp only [List.map_cons, List.sum_cons, hcat]; omega) hlocks
  obtain ⟨f1, f2⟩ := vx_frame hsame
  rw [hhp] at f1 f2
  have hWs : s.WarmedH U.vm := State.WarmedH.trans hW0 hW
  have hcl : s.vm.findClass cls = some ce.cls := by
    have h9 := hO.cls
    rw [hvm] at h9
    exact h9
  have hall : s.sameButNew ({ U with vm := s.vm } : State) locs mc ms := by
    subst hA
    obtain ⟨e1, e2⟩ := hsame
    rw [State.setFrames_setFrames] at e1
    have h2 : (T.setVm s.vm).sameButNew ({ U with vm := s.vm } : State) [] (0 + 1) (0 + 6) := ⟨e1, e2⟩
    have h3 := X.same.trans h2
    rw [List.append_nil] at h3
    exact h3.mono hc hs
  refine ⟨U, ?_, .threw T.heap.size, hrun, hend, Or.inr ⟨T.heap.size, rfl, cls, ce, locs, hx U hWs.alike f1 (fun q hq => f2 q hq (fun z hz => nomatch hz)), hce, hO.vm, hcl, hWs, hall, hf⟩⟩
  refine st1 _ ?_
  show Steps p.tables e below (T1.setTop { method := m, pc := pc + 3, locals := ls, stack := .ref T.heap.size :: rest, locked := none }) _
  jvm_step X₁.here [X₁.here.top, hexec, d3', Value.category]
  exact hsteps
/-- 'throw new E("text")': new; dup; ldc; invokespecial; athrow -/
theorem vx_throwS {cc : ByteArray} {pc : Nat} (hexec : p.tables.exec = Jvm.exec) (hb : c.code = cc) (hl : l.stackTraces = false) {own cls text : String} {names : List String} {ik is ic mc ms sa : Nat} {A : Nat → Prop}
    (hown : s.vm.findClass own = some m.cls) (hcls : Bundle.fit cls = true) (hnames : ∀ n ∈ names, Bundle.fit n = true)
    (hk : (Cond.classLink own ik cls).before args s = true) (hini : (Cond.initialized cls).before args s = true) (hstr : vk_R own is text sa s) (hat : ∀ w ∈ vx_atS own ic cls names, w.before args s = true)
    (hgood : ∀ w ∈ Cond.classLink own ik cls :: Cond.initialized cls :: vx_atS own ic cls names, vx_ot w = true)
    (hU : vx_Zq Bundle.tN "UNASSIGNED_STACK" Bundle.steD A s s.heap) (hN : vx_Zq Bundle.tN "SUPPRESSED_SENTINEL" Bundle.listD A s s.heap) (hS : va_S A s.heap H locs) (hsize : ls.size = c.maxLocals)
    (d0 : decode cc pc = .ok (.new ik, 3)) (d3 : decode cc (pc + 3) = .ok (.dup, 1)) (d4 : decode cc (pc + 4) = .ok (.ldc is, 2)) (d6 : decode cc (pc + 6) = .ok (.invokespecial ic, 3)) (d9 : decode cc (pc + 9) = .ok (.athrow, 1))
    (hout : ∀ x ∈ c.exceptionTable.toList, covers x (pc + 9) = false)
    (hRframes : names.length + 3 < R.frames) (hRlocals : (rest.map fun v => v.category).sum + (13 * (names.length + 1) + 43) ≤ R.locals) (hRcells : cells + 1 ≤ R.cells) (hRslots : slots + 6 ≤ R.slots) (hlocks : meth.locks = false)
    (hx : ∀ t : State, s.vm.Alike t.vm → t.heap.size = H.size + 1 → (∀ q : Nat, q < H.size → t.heap[q]? = H[q]?) → XC cls s t)
    (hf : ∀ z ∈ locs, free z.base) (hc : cells + 1 ≤ mc) (hs : slots + 6 ≤ ms) :
    W p l e R s m args below meth c H locs cells slots (vx_MQ below Qc XC args s mc ms free) (F0 m pc ls rest) := by
  intro T hT X
  have htr : e.platform.stackTraces = false := (show e.platform.stackTraces = l.stackTraces by rw [X.admits.platform]).trans hl
  have Y := vx_rebase X (R' := { frames := R.frames, locals := R.locals, cells := 1, slots := 6 }) (Nat.le_refl _) (Nat.le_refl _) hRcells hRslots
  obtain ⟨s', hA⟩ : ∃ z, z = (T.setVm s.vm).setFrames (.invoking m args :: below) := ⟨_, rfl⟩
  rw [← hA] at Y
  have hvm : s'.vm = s.vm := by rw [hA]; rfl
  have hhp : s'.heap = H := by rw [hA]; exact hT
  have hW0 : s.WarmedH s'.vm := by rw [hvm]; exact State.WarmedH.refl s
  have hat' : ∀ w ∈ vx_atS own ic cls names, w.before args s' = true := fun w hw => vx_ot_at hW0 hvm.symm (hgood w (List.mem_cons_of_mem _ (List.mem_cons_of_mem _ hw))) (hat w hw)
  have hk' : (Cond.classLink own ik cls).before args s' = true := vx_ot_at hW0 hvm.symm (hgood _ List.mem_cons_self) hk
  have hini' : (Cond.initialized cls).before args s' = true := vx_ot_at hW0 hvm.symm (hgood _ (List.mem_cons_of_mem _ List.mem_cons_self)) hini
  have hU' : vx_Zq Bundle.tN "UNASSIGNED_STACK" Bundle.steD A s' s'.heap := by rw [hhp]; exact vx_Zq.moved hW0.alike (hU.kept hS.2.1)
  have hN' : vx_Zq Bundle.tN "SUPPRESSED_SENTINEL" Bundle.listD A s' s'.heap := by rw [hhp]; exact vx_Zq.moved hW0.alike (hN.kept hS.2.1)
  have h : ∀ w ∈ Bundle.ownAtoms own ic cls names, w.before args s' = true := vx_own hat' (vx_isRefq hU'.1) (vx_isRefq hN'.1) hU'.2.word hN'.2.word
  have hown' : s'.vm.findClass own = some m.cls := by rw [hvm]; exact hown
  have hins : (Cond.instantiable cls 6).before args s' = true := h _ (by simp [Bundle.ownAtoms])
  obtain ⟨vm₁, cX, kX, hfX, hkX, -, -, X₁, st1⟩ := Y.newCold hexec (own := own) (C := cls) (index := ik) (n := 6) hown' hk' hins hini'
    (g := F0 m pc ls rest) rfl (by rw [hb]; exact d0) (Nat.le_refl _) (Nat.le_refl _)
  generalize hT1 : (T.setVm vm₁).pushCell { cls := cX, slots := kX.instanceTypes.map defaultValue, vm := .none } = T1 at X₁ st1
  have hcat : (Value.ref T.heap.size).category = 1 := rfl
  have hcellA : T1.heap[T.heap.size]? = some (freshCell cX kX) := by rw [← hT1]; exact State.heap_pushCell_size _ _
  have d3' : decode c.code (pc + 3) = .ok (.dup, 1) := by rw [hb]; exact d3
  have d4' : decode c.code (pc + 4) = .ok (.ldc is, 2) := by rw [hb]; exact d4
  have hstr' : vk_R own is text sa s' := vk_R.warm hW0 hstr
  obtain ⟨U, hsteps, hrun, hend, hW, hsame, ce, hce, hO⟩ := X₁.ctorThrowS hexec htr (own := own) (cls := cls) (names := names) (ic := ic) hown' hcls hnames h (fun x hx => nomatch hx) hfX hkX hcellA (by rw [hhp, hT]; exact Nat.le_refl _) (msg := .ref sa) rfl
    (g := { method := m, pc := pc + 6, locals := ls, stack := .ref sa :: .ref T.heap.size :: .ref T.heap.size :: rest, locked := none }) rfl hsize rfl rfl (rest := rest) rfl
    (by rw [hb]; exact d6) (by rw [hb]; exact d9) hout hRframes (by simp only [List.map_cons, List.sum_cons, hcat]; omega) hlocks
  obtain ⟨f1, f2⟩ := vx_frame hsame
  have f3 : U.heap.size = H.size + 1 := by
    obtain ⟨-, -, g3, -⟩ := id hsame
    have g4 := (Array.getElem?_eq_some_iff.mp hce).1
    have g3 : U.heap.size ≤ s'.heap.size + 1 := g3
    rw [hhp] at g3
    rw [hT] at g4
    omega
  rw [hhp] at f1 f2
  have hWs : s.WarmedH U.vm := State.WarmedH.trans hW0 hW
  have hcl : s.vm.findClass cls = some ce.cls := by
    have h9 := hO.cls
    rw [hvm] at h9
    exact h9
  have hall : s.sameButNew ({ U with vm := s.vm } : State) locs mc ms := by
    subst hA
    obtain ⟨e1, e2⟩ := hsame
    rw [State.setFrames_setFrames] at e1
    have h2 : (T.setVm s.vm).sameButNew ({ U with vm := s.vm } : State) [] (0 + 1) (0 + 6) := ⟨e1, e2⟩
    have h3 := X.same.trans h2
    rw [List.append_nil] at h3
    exact h3.mono hc hs
  refine ⟨U, ?_, .threw T.heap.size, hrun, hend, Or.inr ⟨T.heap.size, rfl, cls, ce, locs, hx U hWs.alike f3 (fun q hq => f2 q hq (fun z hz => nomatch hz)), hce, hO.vm, hcl, hWs, hall, hf⟩⟩
  refine st1 _ ?_
  show Steps p.tables e below (T1.setTop { method := m, pc := pc + 3, locals := ls, stack := .ref T.heap.size :: rest, locked := none }) _
  jvm_step X₁.here [X₁.here.top, hexec, d3', Value.category]
  exact X₁.ldcString hexec (own := own) (text := text) (index := is) (a := sa) hown' hstr'.1 hstr'.2
    (g := { method := m, pc := pc + 4, locals := ls, stack := .ref T.heap.size :: .ref T.heap.size :: rest, locked := none }) rfl d4' _ hsteps
/-- 'throw new E("text")', the text by a wide index -/
theorem vx_throwSW {cc : ByteArray} {pc : Nat} (hexec : p.tables.exec = Jvm.exec) (hb : c.code = cc) (hl : l.stackTraces = false) {own cls text : String} {names : List String} {ik is ic mc ms sa : Nat} {A : Nat → Prop}
    (hown : s.vm.findClass own = some m.cls) (hcls : Bundle.fit cls = true) (hnames : ∀ n ∈ names, Bundle.fit n = true)
    (hk : (Cond.classLink own ik cls).before args s = true) (hini : (Cond.initialized cls).before args s = true) (hstr : vk_R own is text sa s) (hat : ∀ w ∈ vx_atS own ic cls names, w.before args s = true)
    (hgood : ∀ w ∈ Cond.classLink own ik cls :: Cond.initialized cls :: vx_atS own ic cls names, vx_ot w = true)
    (hU : vx_Zq Bundle.tN "UNASSIGNED_STACK" Bundle.steD A s s.heap) (hN : vx_Zq Bundle.tN "SUPPRESSED_SENTINEL" Bundle.listD A s s.heap) (hS : va_S A s.heap H locs) (hsize : ls.size = c.maxLocals)
    (d0 : decode cc pc = .ok (.new ik, 3)) (d3 : decode cc (pc + 3) = .ok (.dup, 1)) (d4 : decode cc (pc + 4) = .ok (.ldc_w is, 3)) (d7 : decode cc (pc + 7) = .ok (.invokespecial ic, 3)) (d10 : decode cc (pc + 10) = .ok (.athrow, 1))
    (hout : ∀ x ∈ c.exceptionTable.toList, covers x (pc + 10) = false)
    (hRframes : names.length + 3 < R.frames) (hRlocals : (rest.map fun v => v.category).sum + (13 * (names.length + 1) + 43) ≤ R.locals) (hRcells : cells + 1 ≤ R.cells) (hRslots : slots + 6 ≤ R.slots) (hlocks : meth.locks = false)
    (hx : ∀ t : State, s.vm.Alike t.vm → t.heap.size = H.size + 1 → (∀ q : Nat, q < H.size → t.heap[q]? = H[q]?) → XC cls s t)
    (hf : ∀ z ∈ locs, free z.base) (hc : cells + 1 ≤ mc) (hs : slots + 6 ≤ ms) :
    W p l e R s m args below meth c H locs cells slots (vx_MQ below Qc XC args s mc ms free) (F0 m pc ls rest) := by
  intro T hT X
  have htr : e.platform.stackTraces = false := (show e.platform.stackTraces = l.stackTraces by rw [X.admits.platform]).trans hl
  have Y := vx_rebase X (R' := { frames := R.frames, locals := R.locals, cells := 1, slots := 6 }) (Nat.le_refl _) (Nat.le_refl _) hRcells hRslots
  obtain ⟨s', hA⟩ : ∃ z, z = (T.setVm s.vm).setFrames (.invoking m args :: below) := ⟨_, rfl⟩
  rw [← hA] at Y
  have hvm : s'.vm = s.vm := by rw [hA]; rfl
  have hhp : s'.heap = H := by rw [hA]; exact hT
  have hW0 : s.WarmedH s'.vm := by rw [hvm]; exact State.WarmedH.refl s
  have hat' : ∀ w ∈ vx_atS own ic cls names, w.before args s' = true := fun w hw => vx_ot_at hW0 hvm.symm (hgood w (List.mem_cons_of_mem _ (List.mem_cons_of_mem _ hw))) (hat w hw)
  have hk' : (Cond.classLink own ik cls).before args s' = true := vx_ot_at hW0 hvm.symm (hgood _ List.mem_cons_self) hk
  have hini' : (Cond.initialized cls).before args s' = true := vx_ot_at hW0 hvm.symm (hgood _ (List.mem_cons_of_mem _ List.mem_cons_self)) hini
  have hU' : vx_Zq Bundle.tN "UNASSIGNED_STACK" Bundle.steD A s' s'.heap := by rw [hhp]; exact vx_Zq.moved hW0.alike (hU.kept hS.2.1)
  have hN' : vx_Zq Bundle.tN "SUPPRESSED_SENTINEL" Bundle.listD A s' s'.heap := by rw [hhp]; exact vx_Zq.moved hW0.alike (hN.kept hS.2.1)
  have h : ∀ w ∈ Bundle.ownAtoms own ic cls names, w.before args s' = true := vx_own hat' (vx_isRefq hU'.1) (vx_isRefq hN'.1) hU'.2.word hN'.2.word
  have hown' : s'.vm.findClass own = some m.cls := by rw [hvm]; exact hown
  have hins : (Cond.instantiable cls 6).before args s' = true := h _ (by simp [Bundle.ownAtoms])
  obtain ⟨vm₁, cX, kX, hfX, hkX, -, -, X₁, st1⟩ := Y.newCold hexec (own := own) (C := cls) (index := ik) (n := 6) hown' hk' hins hini'
    (g := F0 m pc ls rest) rfl (by rw [hb]; exact d0) (Nat.le_refl _) (Nat.le_refl _)
  generalize hT1 : (T.setVm vm₁).pushCell { cls := cX, slots := kX.instanceTypes.map defaultValue, vm := .none } = T1 at X₁ st1
  have hcat : (Value.ref T.heap.size).category = 1 := rfl
  have hcellA : T1.heap[T.heap.size]? = some (freshCell cX kX) := by rw [← hT1]; exact State.heap_pushCell_size _ _
  have d3' : decode c.code (pc + 3) = .ok (.dup, 1) := by rw [hb]; exact d3
  have d4' : decode c.code (pc + 4) = .ok (.ldc_w is, 3) := by rw [hb]; exact d4
  have hstr' : vk_R own is text sa s' := vk_R.warm hW0 hstr
  obtain ⟨U, hsteps, hrun, hend, hW, hsame, ce, hce, hO⟩ := X₁.ctorThrowS hexec htr (own := own) (cls := cls) (names := names) (ic := ic) hown' hcls hnames h (fun x hx => nomatch hx) hfX hkX hcellA (by rw [hhp, hT]; exact Nat.le_refl _) (msg := .ref sa) rfl
    (g := { method := m, pc := pc + 7, locals := ls, stack := .ref sa :: .ref T.heap.size :: .ref T.heap.size :: rest, locked := none }) rfl hsize rfl rfl (rest := rest) rfl
    (by rw [hb]; exact d7) (by rw [hb]; exact d10) hout hRframes (by simp only [List.map_cons, List.sum_cons, hcat]; omega) hlocks
  obtain ⟨f1, f2⟩ := vx_frame hsame
  have f3 : U.heap.size = H.size + 1 := by
    obtain ⟨-, -, g3, -⟩ := id hsame
    have g4 := (Array.getElem?_eq_some_iff.mp hce).1
    have g3 : U.heap.size ≤ s'.heap.size + 1 := g3
    rw [hhp] at g3
    rw [hT] at g4
    omega
  rw [hhp] at f1 f2
  have hWs : s.WarmedH U.vm := State.WarmedH.trans hW0 hW
  have hcl : s.vm.findClass cls = some ce.cls := by
    have h9 := hO.cls
    rw [hvm] at h9
    exact h9
  have hall : s.sameButNew ({ U with vm := s.vm } : State) locs mc ms := by
    subst hA
    obtain ⟨e1, e2⟩ := hsame
    rw [State.setFrames_setFrames] at e1
    have h2 : (T.setVm s.vm).sameButNew ({ U with vm := s.vm } : State) [] (0 + 1) (0 + 6) := ⟨e1, e2⟩
    have h3 := X.same.trans h2
    rw [List.append_nil] at h3
    exact h3.mono hc hs
  refine ⟨U, ?_, .threw T.heap.size, hrun, hend, Or.inr ⟨T.heap.size, rfl, cls, ce, locs, hx U hWs.alike f3 (fun q hq => f2 q hq (fun z hz => nomatch hz)), hce, hO.vm, hcl, hWs, hall, hf⟩⟩
  refine st1 _ ?_
  show Steps p.tables e below (T1.setTop { method := m, pc := pc + 3, locals := ls, stack := .ref T.heap.size :: rest, locked := none }) _
  jvm_step X₁.here [X₁.here.top, hexec, d3', Value.category]
  exact X₁.ldcStringW hexec (own := own) (text := text) (index := is) (a := sa) hown' hstr'.1 hstr'.2
    (g := { method := m, pc := pc + 4, locals := ls, stack := .ref T.heap.size :: .ref T.heap.size :: rest, locked := none }) rfl d4' _ hsteps
end Ends
section Bodies
variable {l : Launch}
theorem vx_ofW {y : MethodName} {ws ws' : List Cond} {rm : Room} {Pc : Array Value → State → Prop} {Qc : Array Value → State → Outcome → State → Prop} {XC : String → State → State → Prop} {mc ms : Nat} {free : Addr → Prop} {cc : ByteArray} {maxL : Nat} {ret : Option FieldType}
    (hy : plainName y.cls = true) (hw : ws = Cond.code y cc maxL ret :: ws')
    (body : ∀ p e s m args below meth c s₁, BodyLoose p l y (headSpec ws rm) cc maxL ret e s m args below meth c s₁ → c.maxLocals = maxL → (∀ x ∈ c.exceptionTable.toList, False) → Pc args s →
      W p l e (headSpec ws rm).room s m args below meth c s.heap [] 0 0 (vx_MQ below Qc XC args s mc ms free) (entryFrame m args maxL)) : vx_Met l y ws rm Pc Qc XC mc ms free := by
  refine MetFree.of_bodyS (code := cc) (maxLocals := maxL) (ret := ret) hy ?_ ?_
  · intro args s m h hn
    obtain ⟨meth, c, h1, h2, h3, h4, h5, h6, -, -⟩ := Cond.code_spec hn (atoms_spec (ws := ws) h _ (by rw [hw]; exact List.mem_cons_self))
    exact ⟨meth, c, h1, h2, h3, h4, h5, h6⟩
  · intro p e s m args below meth c s₁ B hml hP _
    have hh0 : s₁.heap = s.heap := by rw [B.state]; rfl
    have ht : ∀ x ∈ c.exceptionTable.toList, False := by
      obtain ⟨meth9, c9, h1, h2, -, -, -, -, h7, -⟩ := Cond.code_spec B.named (atoms_spec (ws := ws) B.pre _ (by rw [hw]; exact List.mem_cons_self))
      cases Option.some.inj (h1.symm.trans B.method)
      cases Option.some.inj (h2.symm.trans (Stand.of_body B).code)
      intro x hx
      rw [Array.isEmpty_iff.mp h7] at hx
      cases hx
    obtain ⟨t, a1, o, b1, b2, b3⟩ := body p e s m args below meth c s₁ B hml ht hP s₁ hh0 (Stand.of_body B)
    exact ⟨t, o, a1, b1, b2, b3⟩
/-- the table of a body with handlers -/
theorem vx_table {p : Program} {x y : MethodName} {S : Spec} {cc bytes : ByteArray} {maxL maxL' : Nat} {ret ret' : Option FieldType} {e : Env} {s s₁ : State} {m : MethodId} {args : Array Value} {below : List Frame} {meth : Method} {c : Code} {hh : List (Nat × Nat × Nat × Nat)}
    (B : BodyLoose p l y S cc maxL ret e s m args below meth c s₁) (h : (Cond.codeWith y bytes maxL' ret' hh).before args s = true) : c.exceptionTable.toList = tableOf hh := by
  obtain ⟨m9, meth9, c9, hn9, h1, h2, -, -, h6, -⟩ := Cond.codeWith_spec h
  cases Option.some.inj (hn9.symm.trans B.named)
  cases Option.some.inj (h1.symm.trans B.method)
  cases Option.some.inj (h2.symm.trans (Stand.of_body B).code)
  rw [← h6, table_eq]
end Bodies
end VXA
/-! ===== END ===== -/
/-! ===== BEGIN a static call of a method with an exception table ===== -/
section VXS
variable {p : Program} {l : Launch} {e : Env} {R : Room} {s : State} {m : MethodId} {args : Array Value} {below : List Frame} {meth : Method} {c : Code} {T : State} {H : Heap} {locs : List Loc} {cells slots : Nat}
abbrev vx_CSW (R : Room) (s : State) (args : Array Value) (own : String) (index : Nat) (y : MethodName) (bytes : ByteArray) (maxL : Nat) (ret : Option FieldType) (hh : List (Nat × Nat × Nat × Nat)) (ws : List Cond) (rm : Room) (mc ms n : Nat) : Prop :=
  (rm.cells = mc ∧ rm.slots = ms ∧ rm.frames + 1 ≤ R.frames ∧ 8 + (maxL + 11) + rm.locals ≤ R.locals ∧ (∀ w ∈ ws, ∀ (a' : Array Value) (U : State), s.WarmedH U.vm → w.before a' U = true) ∧ Cond.codeWith y bytes maxL ret hh ∈ ws) ∧
  (Cond.codeWith y bytes maxL ret hh).before args s = true ∧ (Cond.initialized y.cls).before args s = true ∧ (y.cls ≠ "java/lang/invoke/MethodHandle" ∧ y.cls ≠ "java/lang/invoke/VarHandle") ∧
  (∀ sig, parseMethodDescriptor y.desc = some sig → n = sig.parameters.length) ∧ (Cond.methodLink own index y).before args s = true ∧ (Cond.static y).before args s = true
theorem vx_cwSW {own : String} {index maxL mc ms : Nat} {y : MethodName} {bytes : ByteArray} {ret : Option FieldType} {hh : List (Nat × Nat × Nat × Nat)} {Ts ws ws' : List Cond} {rm : Room} (n : Nat) (ht : ∀ w ∈ Ts, w.before args s = true) (hT : GoodIn Ts (va_wsS own index y ws)) (hw : ws = Cond.codeWith y bytes maxL ret hh :: ws') (hrc : rm.cells = mc) (hrs : rm.slots = ms)
    (hd : y.cls ≠ "java/lang/invoke/MethodHandle" ∧ y.cls ≠ "java/lang/invoke/VarHandle" ∧ (parseMethodDescriptor y.desc).map (fun d => d.parameters.length) = some n) (hR : rm.frames + 1 ≤ R.frames ∧ 8 + (maxL + 11) + rm.locals ≤ R.locals) :
    vx_CSW R s args own index y bytes maxL ret hh ws rm mc ms n := by
  have ok : ∀ w ∈ va_wsS own index y ws, w.before args s = true := fun w h => ht w (hT w h).1
  have hG : GoodIn Ts ws := fun w h => hT w (by unfold va_wsS; exact List.mem_append_right _ h)
  have hc : Cond.codeWith y bytes maxL ret hh ∈ ws := by rw [hw]; exact List.mem_cons_self
  refine ⟨⟨hrc, hrs, hR.1, hR.2, pay_in ht hG, hc⟩, ht _ (hG _ hc).1, ok _ (by simp [va_wsS]), ⟨hd.1, hd.2.1⟩, fun sig h => ?_, ok _ (by simp [va_wsS]), ok _ (by simp [va_wsS])⟩
  have h2 := hd.2.2
  rw [h] at h2
  exact (Option.some.inj h2).symm
theorem vx_callSW (X : Stand p l e R s m args below meth c T locs cells slots) (hexec : p.tables.exec = Jvm.exec) {own : String} {index : Nat} {y : MethodName} {bytes : ByteArray} {maxL : Nat} {ret : Option FieldType} {hh : List (Nat × Nat × Nat × Nat)}
    (hown : s.vm.findClass own = some m.cls) (hlink : (Cond.methodLink own index y).before args s = true) (hstat : (Cond.static y).before args s = true) (hinit : (Cond.initialized y.cls).before args s = true)
    (hcode : (Cond.codeWith y bytes maxL ret hh).before args s = true) (hy : y.cls ≠ "java/lang/invoke/MethodHandle" ∧ y.cls ≠ "java/lang/invoke/VarHandle")
    {W9 : Nat} {Pre : Pt → Array Value → Prop} {Post : Pt → Array Value → Option Value → Pt → Prop} (hK : Back l R p e below s args y 3 W9 Pre Post)
    {g : JFrame} (hg : g.method = m) (hsize : g.locals.size = c.maxLocals) {argsL rest : List Value} (hlen : ∀ sig, parseMethodDescriptor y.desc = some sig → argsL.length = sig.parameters.length)
    (hstack : g.stack = argsL.reverse ++ rest) (hW : 2 * g.monitorRoom + (rest.map fun v => v.category).sum ≤ W9) (hdg : decode c.code g.pc = .ok (.invokestatic index, 3))
    (hpre : ∀ vm₁, s.WarmedH vm₁ → Pre ⟨T.setVm vm₁, locs, cells, slots⟩ argsL.toArray) :
    ∃ (v : Option Value) (vm₁ : Vm) (B : Pt), s.WarmedH vm₁ ∧ Stand p l e R s m args below meth c B.U B.locs B.cells B.slots ∧ Post ⟨T.setVm vm₁, locs, cells, slots⟩ argsL.toArray v B ∧
      ∀ target, Steps p.tables e below (B.U.setTop { g with pc := g.pc + 3, stack := v.toList ++ rest }) target → Steps p.tables e below (T.setTop g) target := by
  obtain ⟨mk, methM, cM, hnamed, hmethM, -, -, -, -, -, -, hsigM⟩ := Cond.codeWith_spec hcode
  have hstatic : methM.isStatic = true := Cond.static_spec hnamed hmethM hstat
  obtain ⟨kP, hkP, -⟩ := className_of_methodNamed hnamed
  have hinitP : kP.init = .initialized := Cond.initialized_spec (findClass_of_methodNamed hnamed) hkP hinit
  obtain ⟨vm₁, X₁, hstep₁⟩ := X.invokestatic hexec hown hlink hnamed hmethM hstatic hkP hinitP hy (g := g) hg (argsL := argsL) (rest := rest) (hlen _ hsigM) hstack hdg
  obtain ⟨v, B, X', hpost, hsteps⟩ := hK m meth c ⟨T.setVm vm₁, locs, cells, slots⟩ { g with stack := rest } (.invokestatic index) mk argsL.toArray X₁ hg hsize hdg hW (X₁.named hnamed) (hpre vm₁ X₁.warmed)
  exact ⟨v, vm₁, B, X₁.warmed, X', hpost, fun target h => hstep₁ _ fun acts => by rw [doInvoke_state]; exact hsteps.trans h⟩
theorem vx_runSW {y : MethodName} {bytes cc : ByteArray} {maxL nL mc ms n index : Nat} {ret : Option FieldType} {hh : List (Nat × Nat × Nat × Nat)} {ws : List Cond} {rm : Room} {Pc : Array Value → State → Prop} {Qc : Array Value → State → Outcome → State → Prop} {free : Addr → Prop} {Ts : List Cond} {own : String} {As rest : List Value} {g : JFrame}
    (S : CallFix p m c cc nL s args Ts own) (hM : Met l y ws rm Pc Qc mc ms free) (cw : vx_CSW R s args own index y bytes maxL ret hh ws rm mc ms n) (hp : PreS s H Pc As)
    (hg : g.method = m) (hn : As.length = n) (hsize : g.locals.size = nL) (hstack : g.stack = As.reverse ++ rest) (hW : 2 * g.monitorRoom + (rest.map fun v => v.category).sum ≤ 8) (hdg : decode cc g.pc = .ok (.invokestatic index, 3)) (hf : cells + mc ≤ R.cells ∧ slots + ms ≤ R.slots) :
    va_Run p l e R s m args below meth c H locs cells slots mc ms g rest (Qc As.toArray) (free) := by
  obtain ⟨⟨hrc, hrs, hfr, hlo, hws, hcw⟩, hcode, hini, hy, hlen, hl, hstt⟩ := cw
  have hK : Back l R p e below s args y 3 8 (PreOf R mc ms Pc) (PostOf Qc mc ms free) := va_backW (hh := hh) (bytes := bytes) (maxL := maxL) (ret := ret) hM hp.1 hrc hrs hfr hlo hws hcw (fun a' U hW => word_at hW (Or.inl (by first | rfl | simp [Cond.onTables, Cond.keeps, Cond.steady])) hini)
  obtain ⟨hx, hb, hml, ho, -⟩ := S
  intro T hT X
  obtain ⟨v, vm₁, ⟨U', l2, c2, s2⟩, hW₁, X', ⟨g', mk, t, L, e1, e2, hq, h1, hL, h2, h3⟩, st⟩ := vx_callSW X hx (hh := hh) (bytes := bytes) (maxL := maxL) (ret := ret) ho hl hstt hini hcode hy hK hg (hsize.trans hml.symm) (argsL := As) (rest := rest) (fun sig h => hn.trans (hlen sig h)) hstack hW (by rw [hb]; exact hdg)
    (fun vm₁ hW₁ => ⟨hf.1, hf.2, hp.2 (T.setVm vm₁) hT hW₁⟩)
  dsimp only [Pt.U, Pt.locs, Pt.cells, Pt.slots] at X' e1 e2 h1 h2 h3 st
  subst h1; subst h2; subst h3
  exact ⟨v, (T.setVm vm₁).calling g' mk As.toArray, t, U', L, hT, X', hL, e1, e2, hq, st⟩
/-- not caught here, past rows that name other classes: it goes on to the caller -/
theorem vx_outP {p : Program} {l : Launch} {e : Env} {R : Room} {s : State} {m : MethodId} {args : Array Value} {below : List Frame} {meth : Method} {c : Code} {H : Heap} {locs : List Loc} {cells slots : Nat} {free : Addr → Prop} {ls : Array Slot} {rest : List Value} {Qc : Array Value → State → Outcome → State → Prop} {XC : String → State → State → Prop}
    {pc : Nat} {own E : String} {ce : Cell} {q : Addr} {mc ms : Nat} (hown : s.vm.findClass own = some m.cls) (hlocks : meth.locks = false)
    (hpass : ∀ z ∈ c.exceptionTable.toList, covers z pc = false ∨ (z.catchType ≠ 0 ∧ ∃ nm : String, (Cond.classLink own z.catchType nm).before args s = true ∧ va_Nc E nm s)) (hcell : H[q]? = some ce) (hv : ce.vm = .none) (hcl : s.vm.findClass E = some ce.cls)
    (hx : ∀ t : State, t.heap = H → s.vm.Alike t.vm → XC E s t) (hf : ∀ z ∈ locs, free z.base) (hc : cells ≤ mc) (hs : slots ≤ ms) :
    vx_W p l e R s m args below meth c H locs cells slots (vx_MQ below Qc XC args s mc ms free) (F0 m pc ls rest) q := by
  intro T hT X
  have hpl : e.platform.magicAccessors = ({} : Platform).magicAccessors := by rw [X.admits.platform]
  obtain ⟨vm', hW', X', st⟩ := X.outThrough hlocks q (g := F0 m pc ls rest) rfl rfl rfl (cell := ce) (by rw [hT]; exact hcell) (by rw [hv]; rfl)
    (by obtain ⟨k9, h9, -⟩ := Vm.findClass_spec hcl; exact ⟨k9, h9⟩) (fun z hz => by
      rcases hpass z hz with h | ⟨hz0, nm, hl1, hn1⟩
      · exact Or.inl h
      · obtain ⟨c6, hc6, hcl6⟩ := Cond.classLink_spec hown hl1 e.platform hpl
        obtain ⟨a8, b8, h1, h2, h3⟩ := hn1
        cases Option.some.inj (h1.symm.trans hcl)
        cases Option.some.inj (h2.symm.trans hc6)
        exact Or.inr ⟨hz0, _, hcl6, h3⟩)
  obtain ⟨g₀, hfr⟩ := X'.frames_eq
  have hcell9 : ((T.setVm vm').setFrames (.throwing q :: below)).heap[q]? = some ce := by
    show T.heap[q]? = some ce
    rw [hT]; exact hcell
  have hend : Ended ((T.setVm vm').setFrames (.throwing q :: below)) below (.threw q) := State.frames_setFrames _ (State.cur_lt_of_frames hfr)
  refine ⟨(T.setVm vm').setFrames (.throwing q :: below), ?_, .threw q, X'.here.running, hend, Or.inr ⟨q, rfl, E, ce, locs, hx _ hT (X'.ends _).1.alike, hcell9, hv, hcl, (X'.ends _).1, (X'.ends _).2.mono hc hs, hf⟩⟩
  rw [X.pushThrowing_eq]
  exact st
/-- a thing of a world lies in the heap -/
theorem vx_lt {D : va_G} {cl : List vw_C} {ws : va_W} {H1 : Heap} (h : va_P D cl ws H1) {k : Nat} {q : Nat × va_E} (hk : ws[k]? = some q) : q.1 < H1.size := (h k q hk).lt
end VXS
/-! ===== END ===== -/
/-! ===== BEGIN methods with a table of their own: called by a name, returning or throwing ===== -/
section VXH
/-! vx_backW, vx_callVX, vx_callSX, vx_callVW, vx_runVW, vx_runVX, vx_runSX, vx_ofWH follow the same proofs as their sisters above (Free/Laws.lean, Shelf42/LK1.lean); vx_outP calls Shelf42/NT130.lean (outThrough). -/
section
variable {l : Launch} {R : Room} {p : Program} {e : Env} {below : List Frame} {s : State} {sargs : Array Value} {y : MethodName} {len W9 : Nat}
theorem vx_backW {ws : List Cond} {rm : Room} {Pc : Array Value → State → Prop} {Qc : Array Value → State → Outcome → State → Prop} {XC : String → State → State → Prop} {mc ms : Nat} {free : Addr → Prop} {bytes : ByteArray} {maxL : Nat} {ret : Option FieldType} {hh : List (Nat × Nat × Nat × Nat)}
    (hM : vx_Met l y ws rm Pc Qc XC mc ms free) (hblind : FrameBlind Pc) (hrc : rm.cells = mc) (hrs : rm.slots = ms)
    (hframes : rm.frames + 1 ≤ R.frames) (hlocals : W9 + (maxL + 11) + rm.locals ≤ R.locals)
    (hws : ∀ w ∈ ws, ∀ a' U, s.WarmedH U.vm → w.before a' U = true) (hcode : Cond.codeWith y bytes maxL ret hh ∈ ws) (hinit : ∀ a' U, s.WarmedH U.vm → (Cond.initialized y.cls).before a' U = true) :
    vx_Back l R p e below s sargs y len W9 (PreOf R mc ms Pc) (PostOf Qc mc ms free) (vx_Post XC mc ms free) := by
  intro m meth c A g ig mk a X hg hsize hdg hW hn hp
  have h1 : (headSpec ws rm).pre.before a A.U = true := atoms_intro fun w hw => hws w hw _ _ X.warmed
  have h2 : (Cond.codeWith y bytes maxL ret hh).before a A.U = true := hws _ hcode _ _ X.warmed
  have h3 : (Cond.initialized y.cls).before a A.U = true := hinit _ _ X.warmed
  have h4 : A.cells + (headSpec ws rm).room.cells ≤ R.cells := by rw [show (headSpec ws rm).room.cells = mc from hrc]; exact hp.1
  have h5 : A.slots + (headSpec ws rm).room.slots ≤ R.slots := by rw [show (headSpec ws rm).room.slots = ms from hrs]; exact hp.2.1
  have hPc : Pc a (A.U.calling g mk a) := hblind _ _ _ _ hp.2.2
  obtain ⟨U, Ls, c0, s0⟩ := A
  dsimp only [Pt.U, Pt.locs, Pt.cells, Pt.slots] at h1 h2 h3 h4 h5 X hn hPc ⊢
  obtain ⟨m9, methY, cY, hn9, hmY, hcY, -, hlY, -⟩ := Cond.codeWith_spec h2
  cases Option.some.inj (hn9.symm.trans hn)
  obtain ⟨kY, hkY, -⟩ := className_of_methodNamed hn
  have hinitY : kY.init = .initialized := Cond.initialized_spec (findClass_of_methodNamed hn) hkY h3
  have h : At U g.method c below := by rw [hg]; exact X.here
  have hlocals9 : W9 + (maxL + 11) + (headSpec ws rm).room.locals ≤ R.locals := hlocals
  have happ : (headSpec ws rm).appliesLoose y e.platform (U.calling g mk a) = true :=
    Spec.appliesLoose_calling (g := g) h hdg hn hkY hinitY
      (X.room_calling (g := g) (R' := (headSpec ws rm).room) hsize hmY hcY hframes (by rw [hlY]; omega) h4 h5) h1
  obtain ⟨mid, hmid⟩ := h.above
  have hfr : (U.setTop g).frames = (.java g :: mid) ++ below := by rw [State.frames_setTop' g h.top, hmid]; rfl
  obtain ⟨o, s₂, hsteps, -, hend, hq⟩ := Steps.callFree hM p X.admits X.cas X.clock (acts := []) hfr happ hPc trivial
  have hq' : vx_Q Qc XC mc ms free a (U.calling g mk a) o s₂ := hq
  rw [State.frames_setTop' g h.top] at hend
  obtain ⟨g₀, hg0⟩ := Option.isSome_iff_exists.mp h.top
  obtain ⟨r, hr⟩ := State.topJava?_eq_some.mp hg0
  have hr' : (({ U with heap := s₂.heap, slotsUsed := s₂.slotsUsed } : State).setVm s₂.vm).frames = .java g₀ :: r := hr
  rcases hq' with ⟨hqc, L, hfe, hL⟩ | ⟨q, rfl, E, ce, L, hx, hce, hcv, hcl, hW₂, hsm, hL⟩
  · obtain ⟨⟨v, rfl⟩, hW₂, e2, q2, q3, q4, q5, q6⟩ := id hfe
    have e3 : s₂ = ({ (U.calling g mk a).setFrames s₂.frames with heap := s₂.heap, slotsUsed := s₂.slotsUsed } : State).setVm s₂.vm := by
      have : s₂ = ({ s₂ with vm := (U.calling g mk a).vm } : State).setVm s₂.vm := rfl
      rw [e2] at this
      exact this
    obtain ⟨c₂, i₂, len₂, hc₂, hd₂, hf₂⟩ := hend
    have hW' : U.WarmedH s₂.vm := hW₂
    have hcc : c₂ = c := by
      have h1 : s₂.code? g.method = U.code? g.method := by
        rw [State.code?_eq, State.code?_eq, hW'.alike.method?]
      exact Option.some.inj (hc₂.symm.trans (h1.trans h.code))
    subst hcc
    have hlen : len₂ = len := by rw [hdg] at hd₂; cases hd₂; rfl
    subst hlen
    have hs₂ : s₂ = (({ U with heap := s₂.heap, slotsUsed := s₂.slotsUsed } : State).setVm s₂.vm).setTop { g with pc := g.pc + len₂, stack := v.toList ++ g.stack } := by
      refine e3.trans ?_
      rw [hf₂, State.calling_eq h.top, State.setFrames_setFrames, State.setTop_of_frames _ hr', hr]
      rfl
    have hsame : U.sameButNew ({ U with heap := s₂.heap, slotsUsed := s₂.slotsUsed } : State) L mc ms := by
      refine ⟨?_, q2, q3, q4, q5, q6⟩
      obtain ⟨t, ht, -⟩ := State.frames_cons hr
      show ({ U with heap := s₂.heap, slotsUsed := s₂.slotsUsed } : State) = { U.setFrames U.frames with heap := s₂.heap, slotsUsed := s₂.slotsUsed }
      rw [State.setFrames_self ht]
    subst hg
    refine Or.inl ⟨v, ⟨(({ U with heap := s₂.heap, slotsUsed := s₂.slotsUsed } : State).setVm s₂.vm), Ls ++ L, c0 + mc, s0 + ms⟩,
      ⟨X.admits, X.cas, X.clock, X.frames, X.room, X.hears, X.method, X.code, (X.here.setHeapUsed s₂.heap s₂.slotsUsed).setVm hW'.alike, X.tail, State.WarmedH.trans X.warmed hW', X.limits, X.bytes, X.same.trans (hsame.setVm s.vm)⟩,
      ⟨g, mk, s₂, L, rfl, rfl, hqc, rfl, hL, rfl, rfl⟩, ?_⟩
    show Steps p.tables e below _ ((({ U with heap := s₂.heap, slotsUsed := s₂.slotsUsed } : State).setVm s₂.vm).setTop { g with pc := g.pc + len₂, stack := v.toList ++ g.stack })
    rw [← hs₂]
    exact hsteps
  · obtain ⟨e2, q2, q3, q4, q5, q6⟩ := id hsm
    have e3 : s₂ = ({ (U.calling g mk a).setFrames s₂.frames with heap := s₂.heap, slotsUsed := s₂.slotsUsed } : State).setVm s₂.vm := by
      have : s₂ = ({ s₂ with vm := (U.calling g mk a).vm } : State).setVm s₂.vm := rfl
      rw [e2] at this
      exact this
    have hf₂ : s₂.frames = .throwing q :: .java g :: U.frames.tail := hend
    have hW' : U.WarmedH s₂.vm := hW₂
    have hs₂ : s₂ = ((({ U with heap := s₂.heap, slotsUsed := s₂.slotsUsed } : State).setVm s₂.vm).setTop g).pushFrame (.throwing q) := by
      refine e3.trans ?_
      rw [hf₂, State.calling_eq h.top, State.setFrames_setFrames, State.pushFrame, State.frames_setTop _ hr', State.setTop_of_frames _ hr', State.setFrames_setFrames, hr]
      rfl
    have hsame : U.sameButNew ({ U with heap := s₂.heap, slotsUsed := s₂.slotsUsed } : State) L mc ms := by
      refine ⟨?_, q2, q3, q4, q5, q6⟩
      obtain ⟨t, ht, -⟩ := State.frames_cons hr
      show ({ U with heap := s₂.heap, slotsUsed := s₂.slotsUsed } : State) = { U.setFrames U.frames with heap := s₂.heap, slotsUsed := s₂.slotsUsed }
      rw [State.setFrames_self ht]
    subst hg
    refine Or.inr ⟨q, ⟨(({ U with heap := s₂.heap, slotsUsed := s₂.slotsUsed } : State).setVm s₂.vm), Ls ++ L, c0 + mc, s0 + ms⟩,
      ⟨X.admits, X.cas, X.clock, X.frames, X.room, X.hears, X.method, X.code, (X.here.setHeapUsed s₂.heap s₂.slotsUsed).setVm hW'.alike, X.tail, State.WarmedH.trans X.warmed hW', X.limits, X.bytes, X.same.trans (hsame.setVm s.vm)⟩,
      ⟨g, mk, s₂, L, E, ce, rfl, rfl, hx, hce, hcv, hcl, rfl, hL, rfl, rfl⟩, ?_⟩
    show Steps p.tables e below _ (((({ U with heap := s₂.heap, slotsUsed := s₂.slotsUsed } : State).setVm s₂.vm).setTop g).pushFrame (.throwing q))
    rw [← hs₂]
    exact hsteps
end
variable {p : Program} {l : Launch} {e : Env} {R : Room} {s : State} {m : MethodId} {args : Array Value} {below : List Frame} {meth : Method} {c : Code} {T : State} {H : Heap} {locs : List Loc} {cells slots : Nat}
theorem vx_callVX (X : Stand p l e R s m args below meth c T locs cells slots) (hexec : p.tables.exec = Jvm.exec) {own C : String} {index : Nat} {y : MethodName} {bytes : ByteArray} {maxL : Nat} {ret : Option FieldType} {hh : List (Nat × Nat × Nat × Nat)}
    (hown : s.vm.findClass own = some m.cls) (hlink : (Cond.methodLink own index y).before args s = true) (hinst : (Cond.instanceMethod y).before args s = true) (hsel : (Cond.selects C y y).before args s = true)
    (hcode : (Cond.codeWith y bytes maxL ret hh).before args s = true) (hy : y.cls ≠ "java/lang/invoke/MethodHandle" ∧ y.cls ≠ "java/lang/invoke/VarHandle")
    {W9 : Nat} {Pre : Pt → Array Value → Prop} {Post : Pt → Array Value → Option Value → Pt → Prop} {PostX : Pt → Array Value → Addr → Pt → Prop} (hK : vx_Back l R p e below s args y 3 W9 Pre Post PostX)
    {b : Addr} {cellB : Cell} (hcell : T.heap[b]? = some cellB) (hobj : cellB.vm.isStatics = false) (hcls : s.vm.findClass C = some cellB.cls)
    {g : JFrame} (hg : g.method = m) (hsize : g.locals.size = c.maxLocals) {argsL rest : List Value} (hlen : ∀ sig, parseMethodDescriptor y.desc = some sig → argsL.length = sig.parameters.length)
    (hstack : g.stack = argsL.reverse ++ .ref b :: rest) (hW : 2 * g.monitorRoom + (rest.map fun v => v.category).sum ≤ W9) (hdg : decode c.code g.pc = .ok (.invokevirtual index, 3))
    (hpre : ∀ vm₁, s.WarmedH vm₁ → Pre ⟨T.setVm vm₁, locs, cells, slots⟩ (Value.ref b :: argsL).toArray) :
    (∃ (v : Option Value) (vm₁ : Vm) (B : Pt), s.WarmedH vm₁ ∧ Stand p l e R s m args below meth c B.U B.locs B.cells B.slots ∧ Post ⟨T.setVm vm₁, locs, cells, slots⟩ (Value.ref b :: argsL).toArray v B ∧
      ∀ target, Steps p.tables e below (B.U.setTop { g with pc := g.pc + 3, stack := v.toList ++ rest }) target → Steps p.tables e below (T.setTop g) target) ∨
    (∃ (q : Addr) (vm₁ : Vm) (B : Pt), s.WarmedH vm₁ ∧ Stand p l e R s m args below meth c B.U B.locs B.cells B.slots ∧ PostX ⟨T.setVm vm₁, locs, cells, slots⟩ (Value.ref b :: argsL).toArray q B ∧
      Steps p.tables e below (T.setTop g) ((B.U.setTop { g with stack := rest }).pushFrame (.throwing q))) := by
  obtain ⟨mk, methM, hnamed, hmethM, hstM, habM⟩ := Cond.instanceMethod_spec hinst
  obtain ⟨m8, methM', cM, hn8, hmethM', -, -, -, -, -, -, hsigM⟩ := Cond.codeWith_spec hcode
  cases Option.some.inj (hn8.symm.trans hnamed)
  cases hmethM.symm.trans hmethM'
  obtain ⟨c2, r2, m2, q1, q2, q3, q4, kP, hkP, hkPi⟩ := Cond.selects_spec hsel
  cases hcls.symm.trans q1
  cases (State.methodFound?_of_named hnamed hy).symm.trans q2
  cases hnamed.symm.trans q3
  have hselP : selectMethod e.platform s.vm cellB.cls mk = .method mk := by rw [Launch.admits_selectMethod X.admits]; exact q4
  obtain ⟨vm₁, X₁, hstep₁⟩ := X.invokevirtual hexec hown hlink hnamed hmethM hstM hkP hkPi hy (a := b) (cell := cellB) hcell
    (fun z h => by rw [h] at hobj; cases hobj) hselP hmethM habM hkP hkPi (g := g) hg (argsL := argsL) (rest := rest) (hlen _ hsigM) hstack hdg
  rcases hK m meth c ⟨T.setVm vm₁, locs, cells, slots⟩ { g with stack := rest } (.invokevirtual index) mk (Value.ref b :: argsL).toArray X₁ hg hsize hdg hW (X₁.named hnamed) (hpre vm₁ X₁.warmed) with ⟨v, B, X', hpost, hsteps⟩ | ⟨q, B, X', hpost, hsteps⟩
  · exact Or.inl ⟨v, vm₁, B, X₁.warmed, X', hpost, fun target h => hstep₁ _ fun acts => by rw [doInvoke_state]; exact hsteps.trans h⟩
  · exact Or.inr ⟨q, vm₁, B, X₁.warmed, X', hpost, hstep₁ _ fun acts => by rw [doInvoke_state]; exact hsteps⟩
theorem vx_callSX (X : Stand p l e R s m args below meth c T locs cells slots) (hexec : p.tables.exec = Jvm.exec) {own : String} {index : Nat} {y : MethodName} {bytes : ByteArray} {maxL : Nat} {ret : Option FieldType} {hh : List (Nat × Nat × Nat × Nat)}
    (hown : s.vm.findClass own = some m.cls) (hlink : (Cond.methodLink own index y).before args s = true) (hstat : (Cond.static y).before args s = true) (hinit : (Cond.initialized y.cls).before args s = true)
    (hcode : (Cond.codeWith y bytes maxL ret hh).before args s = true) (hy : y.cls ≠ "java/lang/invoke/MethodHandle" ∧ y.cls ≠ "java/lang/invoke/VarHandle")
    {W9 : Nat} {Pre : Pt → Array Value → Prop} {Post : Pt → Array Value → Option Value → Pt → Prop} {PostX : Pt → Array Value → Addr → Pt → Prop} (hK : vx_Back l R p e below s args y 3 W9 Pre Post PostX)
    {g : JFrame} (hg : g.method = m) (hsize : g.locals.size = c.maxLocals) {argsL rest : List Value} (hlen : ∀ sig, parseMethodDescriptor y.desc = some sig → argsL.length = sig.parameters.length)
    (hstack : g.stack = argsL.reverse ++ rest) (hW : 2 * g.monitorRoom + (rest.map fun v => v.category).sum ≤ W9) (hdg : decode c.code g.pc = .ok (.invokestatic index, 3))
    (hpre : ∀ vm₁, s.WarmedH vm₁ → Pre ⟨T.setVm vm₁, locs, cells, slots⟩ argsL.toArray) :
    (∃ (v : Option Value) (vm₁ : Vm) (B : Pt), s.WarmedH vm₁ ∧ Stand p l e R s m args below meth c B.U B.locs B.cells B.slots ∧ Post ⟨T.setVm vm₁, locs, cells, slots⟩ argsL.toArray v B ∧
      ∀ target, Steps p.tables e below (B.U.setTop { g with pc := g.pc + 3, stack := v.toList ++ rest }) target → Steps p.tables e below (T.setTop g) target) ∨
    (∃ (q : Addr) (vm₁ : Vm) (B : Pt), s.WarmedH vm₁ ∧ Stand p l e R s m args below meth c B.U B.locs B.cells B.slots ∧ PostX ⟨T.setVm vm₁, locs, cells, slots⟩ argsL.toArray q B ∧
      Steps p.tables e below (T.setTop g) ((B.U.setTop { g with stack := rest }).pushFrame (.throwing q))) := by
  obtain ⟨mk, methM, cM, hnamed, hmethM, -, -, -, -, -, -, hsigM⟩ := Cond.codeWith_spec hcode
  have hstatic : methM.isStatic = true := Cond.static_spec hnamed hmethM hstat
  obtain ⟨kP, hkP, -⟩ := className_of_methodNamed hnamed
  have hinitP : kP.init = .initialized := Cond.initialized_spec (findClass_of_methodNamed hnamed) hkP hinit
  obtain ⟨vm₁, X₁, hstep₁⟩ := X.invokestatic hexec hown hlink hnamed hmethM hstatic hkP hinitP hy (g := g) hg (argsL := argsL) (rest := rest) (hlen _ hsigM) hstack hdg
  rcases hK m meth c ⟨T.setVm vm₁, locs, cells, slots⟩ { g with stack := rest } (.invokestatic index) mk argsL.toArray X₁ hg hsize hdg hW (X₁.named hnamed) (hpre vm₁ X₁.warmed) with ⟨v, B, X', hpost, hsteps⟩ | ⟨q, B, X', hpost, hsteps⟩
  · exact Or.inl ⟨v, vm₁, B, X₁.warmed, X', hpost, fun target h => hstep₁ _ fun acts => by rw [doInvoke_state]; exact hsteps.trans h⟩
  · exact Or.inr ⟨q, vm₁, B, X₁.warmed, X', hpost, hstep₁ _ fun acts => by rw [doInvoke_state]; exact hsteps⟩
theorem vx_callVW (X : Stand p l e R s m args below meth c T locs cells slots) (hexec : p.tables.exec = Jvm.exec) {own C : String} {index : Nat} {y : MethodName} {bytes : ByteArray} {maxL : Nat} {ret : Option FieldType} {hh : List (Nat × Nat × Nat × Nat)}
    (hown : s.vm.findClass own = some m.cls) (hlink : (Cond.methodLink own index y).before args s = true) (hinst : (Cond.instanceMethod y).before args s = true) (hsel : (Cond.selects C y y).before args s = true)
    (hcode : (Cond.codeWith y bytes maxL ret hh).before args s = true) (hy : y.cls ≠ "java/lang/invoke/MethodHandle" ∧ y.cls ≠ "java/lang/invoke/VarHandle")
    {W9 : Nat} {Pre : Pt → Array Value → Prop} {Post : Pt → Array Value → Option Value → Pt → Prop} (hK : Back l R p e below s args y 3 W9 Pre Post)
    {b : Addr} {cellB : Cell} (hcell : T.heap[b]? = some cellB) (hobj : cellB.vm.isStatics = false) (hcls : s.vm.findClass C = some cellB.cls)
    {g : JFrame} (hg : g.method = m) (hsize : g.locals.size = c.maxLocals) {argsL rest : List Value} (hlen : ∀ sig, parseMethodDescriptor y.desc = some sig → argsL.length = sig.parameters.length)
    (hstack : g.stack = argsL.reverse ++ .ref b :: rest) (hW : 2 * g.monitorRoom + (rest.map fun v => v.category).sum ≤ W9) (hdg : decode c.code g.pc = .ok (.invokevirtual index, 3))
    (hpre : ∀ vm₁, s.WarmedH vm₁ → Pre ⟨T.setVm vm₁, locs, cells, slots⟩ (Value.ref b :: argsL).toArray) :
    ∃ (v : Option Value) (vm₁ : Vm) (B : Pt), s.WarmedH vm₁ ∧ Stand p l e R s m args below meth c B.U B.locs B.cells B.slots ∧ Post ⟨T.setVm vm₁, locs, cells, slots⟩ (Value.ref b :: argsL).toArray v B ∧
      ∀ target, Steps p.tables e below (B.U.setTop { g with pc := g.pc + 3, stack := v.toList ++ rest }) target → Steps p.tables e below (T.setTop g) target := by
  obtain ⟨mk, methM, hnamed, hmethM, hstM, habM⟩ := Cond.instanceMethod_spec hinst
  obtain ⟨m8, methM', cM, hn8, hmethM', -, -, -, -, -, -, hsigM⟩ := Cond.codeWith_spec hcode
  cases Option.some.inj (hn8.symm.trans hnamed)
  cases hmethM.symm.trans hmethM'
  obtain ⟨c2, r2, m2, q1, q2, q3, q4, kP, hkP, hkPi⟩ := Cond.selects_spec hsel
  cases hcls.symm.trans q1
  cases (State.methodFound?_of_named hnamed hy).symm.trans q2
  cases hnamed.symm.trans q3
  have hselP : selectMethod e.platform s.vm cellB.cls mk = .method mk := by rw [Launch.admits_selectMethod X.admits]; exact q4
  obtain ⟨vm₁, X₁, hstep₁⟩ := X.invokevirtual hexec hown hlink hnamed hmethM hstM hkP hkPi hy (a := b) (cell := cellB) hcell
    (fun z h => by rw [h] at hobj; cases hobj) hselP hmethM habM hkP hkPi (g := g) hg (argsL := argsL) (rest := rest) (hlen _ hsigM) hstack hdg
  obtain ⟨v, B, X', hpost, hsteps⟩ := hK m meth c ⟨T.setVm vm₁, locs, cells, slots⟩ { g with stack := rest } (.invokevirtual index) mk (Value.ref b :: argsL).toArray X₁ hg hsize hdg hW (X₁.named hnamed) (hpre vm₁ X₁.warmed)
  exact ⟨v, vm₁, B, X₁.warmed, X', hpost, fun target h => hstep₁ _ fun acts => by rw [doInvoke_state]; exact hsteps.trans h⟩
abbrev vx_CVW (R : Room) (s : State) (args : Array Value) (own C : String) (index : Nat) (y : MethodName) (bytes : ByteArray) (maxL : Nat) (ret : Option FieldType) (hh : List (Nat × Nat × Nat × Nat)) (ws : List Cond) (rm : Room) (mc ms n : Nat) : Prop :=
  (rm.cells = mc ∧ rm.slots = ms ∧ rm.frames + 1 ≤ R.frames ∧ 8 + (maxL + 11) + rm.locals ≤ R.locals ∧ (∀ w ∈ ws, ∀ (a' : Array Value) (U : State), s.WarmedH U.vm → w.before a' U = true) ∧ Cond.codeWith y bytes maxL ret hh ∈ ws) ∧
  (Cond.codeWith y bytes maxL ret hh).before args s = true ∧ (Cond.initialized y.cls).before args s = true ∧ (y.cls ≠ "java/lang/invoke/MethodHandle" ∧ y.cls ≠ "java/lang/invoke/VarHandle") ∧
  (∀ sig, parseMethodDescriptor y.desc = some sig → n = sig.parameters.length) ∧ (Cond.methodLink own index y).before args s = true ∧ (Cond.instanceMethod y).before args s = true ∧ (Cond.selects C y y).before args s = true
theorem vx_cwVW {own C : String} {index maxL mc ms : Nat} {y : MethodName} {bytes : ByteArray} {ret : Option FieldType} {hh : List (Nat × Nat × Nat × Nat)} {Ts ws ws' : List Cond} {rm : Room} (n : Nat) (ht : ∀ w ∈ Ts, w.before args s = true) (hT : GoodIn Ts (wsV own index C y ws)) (hw : ws = Cond.codeWith y bytes maxL ret hh :: ws') (hrc : rm.cells = mc) (hrs : rm.slots = ms)
    (hd : y.cls = C ∧ y.cls ≠ "java/lang/invoke/MethodHandle" ∧ y.cls ≠ "java/lang/invoke/VarHandle" ∧ (parseMethodDescriptor y.desc).map (fun d => d.parameters.length) = some n) (hR : rm.frames + 1 ≤ R.frames ∧ 8 + (maxL + 11) + rm.locals ≤ R.locals) :
    vx_CVW R s args own C index y bytes maxL ret hh ws rm mc ms n := by
  obtain ⟨hC, hd⟩ := hd
  subst hC
  have ok : ∀ w ∈ wsV own index y.cls y ws, w.before args s = true := fun w h => ht w (hT w h).1
  have hG : GoodIn Ts ws := fun w h => hT w (by unfold wsV; exact List.mem_append_right _ h)
  have hc : Cond.codeWith y bytes maxL ret hh ∈ ws := by rw [hw]; exact List.mem_cons_self
  refine ⟨⟨hrc, hrs, hR.1, hR.2, pay_in ht hG, hc⟩, ht _ (hG _ hc).1, ok _ (by simp [wsV]), ⟨hd.1, hd.2.1⟩, fun sig h => ?_, ok _ (by simp [wsV]), ok _ (by simp [wsV]), ok _ (by simp [wsV])⟩
  have h2 := hd.2.2
  rw [h] at h2
  exact (Option.some.inj h2).symm
theorem vx_runVW {y : MethodName} {bytes cc : ByteArray} {maxL nL mc ms n index : Nat} {ret : Option FieldType} {hh : List (Nat × Nat × Nat × Nat)} {ws : List Cond} {rm : Room} {Pc : Array Value → State → Prop} {Qc : Array Value → State → Outcome → State → Prop} {free : Addr → Prop} {Ts : List Cond} {own C : String} {b : Addr} {As rest : List Value} {g : JFrame}
    (S : CallFix p m c cc nL s args Ts own) (hM : Met l y ws rm Pc Qc mc ms free) (cw : vx_CVW R s args own C index y bytes maxL ret hh ws rm mc ms n) (hp : PreV s H C b Pc As)
    (hg : g.method = m) (hn : As.length = n) (hsize : g.locals.size = nL) (hstack : g.stack = As.reverse ++ .ref b :: rest) (hW : 2 * g.monitorRoom + (rest.map fun v => v.category).sum ≤ 8) (hdg : decode cc g.pc = .ok (.invokevirtual index, 3)) (hf : cells + mc ≤ R.cells ∧ slots + ms ≤ R.slots) :
    va_Run p l e R s m args below meth c H locs cells slots mc ms g rest (Qc (Value.ref b :: As).toArray) free := by
  obtain ⟨⟨hrc, hrs, hfr, hlo, hws, hcw⟩, hcode, hini, hy, hlen, hl, hin, hse⟩ := cw
  have hK : Back l R p e below s args y 3 8 (PreOf R mc ms Pc) (PostOf Qc mc ms free) := va_backW (hh := hh) (bytes := bytes) (maxL := maxL) (ret := ret) hM hp.1 hrc hrs hfr hlo hws hcw (fun a' U hW => word_at hW (Or.inl (by first | rfl | simp [Cond.onTables, Cond.keeps, Cond.steady])) hini)
  obtain ⟨hx, hb, hml, ho, -⟩ := S
  obtain ⟨-, ⟨cellB, hcB, hoB, hclB⟩, hPc⟩ := hp
  intro T hT X
  obtain ⟨v, vm₁, ⟨U', l2, c2, s2⟩, hW₁, X', ⟨g', mk, t, L, e1, e2, hq, h1, hL, h2, h3⟩, st⟩ := vx_callVW X hx (C := C) (hh := hh) (bytes := bytes) (maxL := maxL) (ret := ret) ho hl hin hse hcode hy hK (by rw [hT]; exact hcB) hoB hclB hg (hsize.trans hml.symm) (argsL := As) (rest := rest) (fun sig h => hn.trans (hlen sig h)) hstack hW (by rw [hb]; exact hdg)
    (fun vm₁ hW₁ => ⟨hf.1, hf.2, hPc (T.setVm vm₁) hT hW₁⟩)
  dsimp only [Pt.U, Pt.locs, Pt.cells, Pt.slots] at X' e1 e2 h1 h2 h3 st
  subst h1; subst h2; subst h3
  exact ⟨v, (T.setVm vm₁).calling g' mk (Value.ref b :: As).toArray, t, U', L, hT, X', hL, e1, e2, hq, st⟩
section
variable {y : MethodName} {bytes cc : ByteArray} {maxL nL mc ms n index : Nat} {ret : Option FieldType} {ws : List Cond} {rm : Room} {Pc : Array Value → State → Prop} {Qc : Array Value → State → Outcome → State → Prop} {XC : String → State → State → Prop} {free : Addr → Prop} {Ts : List Cond} {own C : String} {b : Addr} {As rest : List Value} {g : JFrame}
theorem vx_runVX {hh : List (Nat × Nat × Nat × Nat)} (S : CallFix p m c cc nL s args Ts own) (hM : vx_Met l y ws rm Pc Qc XC mc ms free) (cw : vx_CVW R s args own C index y bytes maxL ret hh ws rm mc ms n) (hp : PreV s H C b Pc As)
    (hg : g.method = m) (hn : As.length = n) (hsize : g.locals.size = nL) (hstack : g.stack = As.reverse ++ .ref b :: rest) (hW : 2 * g.monitorRoom + (rest.map fun v => v.category).sum ≤ 8) (hdg : decode cc g.pc = .ok (.invokevirtual index, 3)) (hf : cells + mc ≤ R.cells ∧ slots + ms ≤ R.slots) :
    vx_Run p l e R s m args below meth c H locs cells slots mc ms g rest (Qc (Value.ref b :: As).toArray) XC free := by
  obtain ⟨⟨hrc, hrs, hfr, hlo, hws, hcw⟩, hcode, hini, hy, hlen, hl, hin, hse⟩ := cw
  have hK : vx_Back l R p e below s args y 3 8 (PreOf R mc ms Pc) (PostOf Qc mc ms free) (vx_Post XC mc ms free) := vx_backW (hh := hh) (bytes := bytes) (maxL := maxL) (ret := ret) hM hp.1 hrc hrs hfr hlo hws hcw (fun a' U hW => word_at hW (Or.inl (by first | rfl | simp [Cond.onTables, Cond.keeps, Cond.steady])) hini)
  obtain ⟨hx, hb, hml, ho, -⟩ := S
  obtain ⟨-, ⟨cellB, hcB, hoB, hclB⟩, hPc⟩ := hp
  intro T hT X
  rcases vx_callVX X hx (C := C) (hh := hh) (bytes := bytes) (maxL := maxL) (ret := ret) ho hl hin hse hcode hy hK (by rw [hT]; exact hcB) hoB hclB hg (hsize.trans hml.symm) (argsL := As) (rest := rest) (fun sig h => hn.trans (hlen sig h)) hstack hW (by rw [hb]; exact hdg)
    (fun vm₁ hW₁ => ⟨hf.1, hf.2, hPc (T.setVm vm₁) hT hW₁⟩) with ⟨v, vm₁, ⟨U', l2, c2, s2⟩, hW₁, X', ⟨g', mk, t, L, e1, e2, hq, h1, hL, h2, h3⟩, st⟩ | ⟨q, vm₁, ⟨U', l2, c2, s2⟩, hW₁, X', ⟨g', mk, t, L, E, ce, e1, e2, hq, hce, hcv, hcl, h1, hL, h2, h3⟩, st⟩
  · dsimp only [Pt.U, Pt.locs, Pt.cells, Pt.slots] at X' e1 e2 h1 h2 h3 st
    subst h1; subst h2; subst h3
    exact Or.inl ⟨v, (T.setVm vm₁).calling g' mk (Value.ref b :: As).toArray, t, U', L, hT, X', hL, e1, e2, hq, st⟩
  · dsimp only [Pt.U, Pt.locs, Pt.cells, Pt.slots] at X' e1 e2 h1 h2 h3 st hcl
    subst h1; subst h2; subst h3
    exact Or.inr ⟨q, (T.setVm vm₁).calling g' mk (Value.ref b :: As).toArray, t, U', L, E, ce, hT, X', hL, e1, e2, hq, hce, hcv, vx_cls hW₁ hcl, st⟩
theorem vx_runSX {hh : List (Nat × Nat × Nat × Nat)} (S : CallFix p m c cc nL s args Ts own) (hM : vx_Met l y ws rm Pc Qc XC mc ms free) (cw : vx_CSW R s args own index y bytes maxL ret hh ws rm mc ms n) (hp : PreS s H Pc As)
    (hg : g.method = m) (hn : As.length = n) (hsize : g.locals.size = nL) (hstack : g.stack = As.reverse ++ rest) (hW : 2 * g.monitorRoom + (rest.map fun v => v.category).sum ≤ 8) (hdg : decode cc g.pc = .ok (.invokestatic index, 3)) (hf : cells + mc ≤ R.cells ∧ slots + ms ≤ R.slots) :
    vx_Run p l e R s m args below meth c H locs cells slots mc ms g rest (Qc As.toArray) XC free := by
  obtain ⟨⟨hrc, hrs, hfr, hlo, hws, hcw⟩, hcode, hini, hy, hlen, hl, hstt⟩ := cw
  have hK : vx_Back l R p e below s args y 3 8 (PreOf R mc ms Pc) (PostOf Qc mc ms free) (vx_Post XC mc ms free) := vx_backW (hh := hh) (bytes := bytes) (maxL := maxL) (ret := ret) hM hp.1 hrc hrs hfr hlo hws hcw (fun a' U hW => word_at hW (Or.inl (by first | rfl | simp [Cond.onTables, Cond.keeps, Cond.steady])) hini)
  obtain ⟨hx, hb, hml, ho, -⟩ := S
  intro T hT X
  rcases vx_callSX X hx (hh := hh) (bytes := bytes) (maxL := maxL) (ret := ret) ho hl hstt hini hcode hy hK hg (hsize.trans hml.symm) (argsL := As) (rest := rest) (fun sig h => hn.trans (hlen sig h)) hstack hW (by rw [hb]; exact hdg)
    (fun vm₁ hW₁ => ⟨hf.1, hf.2, hp.2 (T.setVm vm₁) hT hW₁⟩) with ⟨v, vm₁, ⟨U', l2, c2, s2⟩, hW₁, X', ⟨g', mk, t, L, e1, e2, hq, h1, hL, h2, h3⟩, st⟩ | ⟨q, vm₁, ⟨U', l2, c2, s2⟩, hW₁, X', ⟨g', mk, t, L, E, ce, e1, e2, hq, hce, hcv, hcl, h1, hL, h2, h3⟩, st⟩
  · dsimp only [Pt.U, Pt.locs, Pt.cells, Pt.slots] at X' e1 e2 h1 h2 h3 st
    subst h1; subst h2; subst h3
    exact Or.inl ⟨v, (T.setVm vm₁).calling g' mk As.toArray, t, U', L, hT, X', hL, e1, e2, hq, st⟩
  · dsimp only [Pt.U, Pt.locs, Pt.cells, Pt.slots] at X' e1 e2 h1 h2 h3 st hcl
    subst h1; subst h2; subst h3
    exact Or.inr ⟨q, (T.setVm vm₁).calling g' mk As.toArray, t, U', L, E, ce, hT, X', hL, e1, e2, hq, hce, hcv, vx_cls hW₁ hcl, st⟩
end
end VXH
theorem vx_ofWH {l : Launch} {y : MethodName} {ws ws' : List Cond} {rm : Room} {Pc : Array Value → State → Prop} {Qc : Array Value → State → Outcome → State → Prop} {XC : String → State → State → Prop} {mc ms : Nat} {free : Addr → Prop} {cc : ByteArray} {maxL : Nat} {ret : Option FieldType} {hh : List (Nat × Nat × Nat × Nat)}
    (hy : plainName y.cls = true) (hw : ws = Cond.codeWith y cc maxL ret hh :: ws')
    (body : ∀ p e s m args below meth c s₁, BodyLoose p l y (headSpec ws rm) cc maxL ret e s m args below meth c s₁ → c.maxLocals = maxL → Pc args s →
      W p l e (headSpec ws rm).room s m args below meth c s.heap [] 0 0 (vx_MQ below Qc XC args s mc ms free) (entryFrame m args maxL)) : vx_Met l y ws rm Pc Qc XC mc ms free := by
  refine MetFree.of_bodyS (code := cc) (maxLocals := maxL) (ret := ret) hy ?_ ?_
  · intro args s m h hn
    obtain ⟨m9, meth, c, hn9, h1, h2, h3, h4, -, h5, h6, -⟩ := Cond.codeWith_spec (atoms_spec (ws := ws) h _ (by rw [hw]; exact List.mem_cons_self))
    cases hn.symm.trans hn9
    exact ⟨meth, c, h1, h2, h3, h4, h5, h6⟩
  · intro p e s m args below meth c s₁ B hml hP _
    have hh0 : s₁.heap = s.heap := by rw [B.state]; rfl
    obtain ⟨t, a1, o, b1, b2, b3⟩ := body p e s m args below meth c s₁ B hml hP s₁ hh0 (Stand.of_body B)
    exact ⟨t, o, a1, b1, b2, b3⟩
/-! ===== END ===== -/
end
section
/-! THE SMALL MACHINE: values, a memory of numbered cells, one function a method by fuel and depth -/
abbrev mv_T : Type := Nat ⊕ (Nat × Nat)
abbrev mv_V : Type := Int32 ⊕ (Int64 ⊕ Option Nat)
abbrev mv_S : Type := List mv_T × (Nat → Nat → Int32) × (Nat → Nat → Option Nat) × (Nat → Nat → Int64)
abbrev mv_O : Type := Option (Option mv_V × mv_S)
abbrev mv_L : Type := List (Nat × mv_V)
abbrev mv_K : Type := Nat × Nat × Nat × Nat × Int
def mv_c (n : Int) : Int32 := Int32.ofInt n
def mv_cl (n : Int) : Int64 := Int64.ofInt n
def mv_up {α : Type} (f : Nat → Nat → α) (a k : Nat) (v : α) : Nat → Nat → α := fun x y => if x = a then (if y = k then v else f x y) else f x y
def mv_uf {α : Type} (f : Nat → Nat → α) (a : Nat) (g : Nat → α) : Nat → Nat → α := fun x y => if x = a then g y else f x y
/-- the numbers changed, the rest as it is -/
abbrev ms_i (σ : mv_S) (f : Nat → Nat → Int32) : mv_S := (σ.1, f, σ.2.2.1, σ.2.2.2)
abbrev ms_r (σ : mv_S) (f : Nat → Nat → Option Nat) : mv_S := (σ.1, σ.2.1, f, σ.2.2.2)
abbrev ms_l (σ : mv_S) (f : Nat → Nat → Int64) : mv_S := (σ.1, σ.2.1, σ.2.2.1, f)
def mo_gI (σ : mv_S) (a c f : Nat) (k : Int32 → mv_O) : mv_O := if σ.1[a]? = some (.inl c) then k (σ.2.1 a f) else none
def mo_gR (σ : mv_S) (a c f : Nat) (k : Option Nat → mv_O) : mv_O := if σ.1[a]? = some (.inl c) then k (σ.2.2.1 a f) else none
def mo_pI (σ : mv_S) (a c f : Nat) (x : Int32) (k : mv_S → mv_O) : mv_O := if σ.1[a]? = some (.inl c) then k (ms_i σ (mv_up σ.2.1 a f x)) else none
def mo_z (x : Int32) (k : mv_O) : mv_O := if x = 0 ∨ x = 1 then k else none
def mo_pR (σ : mv_S) (a c f : Nat) (o : Option Nat) (k : mv_S → mv_O) : mv_O := if σ.1[a]? = some (.inl c) then k (ms_r σ (mv_up σ.2.2.1 a f o)) else none
def mo_rf (o : Option Nat) (k : Nat → mv_O) : mv_O := match o with
  | some a => k a
  | none => none
def mo_nl (o : Option Nat) (t e : mv_O) : mv_O := match o with
  | none => t
  | some _ => e
def mo_ix (i : Int32) (n : Nat) (k : Nat → mv_O) : mv_O := if i < 0 ∨ n ≤ i.toNatClampNeg then none else k i.toNatClampNeg
def mo_ty (σ : mv_S) (a t : Nat) (k : Nat → mv_O) : mv_O := match σ.1[a]? with
  | some (.inr (t', n)) => if t' = t then k n else none
  | _ => none
def mo_tr (σ : mv_S) (a : Nat) (k : Nat → Nat → mv_O) : mv_O := match σ.1[a]? with
  | some (.inr (t, n)) => if 3 ≤ t ∧ t ≤ 5 then k t n else none
  | _ => none
def mo_aI (σ : mv_S) (a : Nat) (i : Int32) (k : Int32 → mv_O) : mv_O := mo_ty σ a 0 fun n => mo_ix i n fun j => k (σ.2.1 a j)
def mo_aZ (σ : mv_S) (a : Nat) (i : Int32) (k : Int32 → mv_O) : mv_O := mo_ty σ a 1 fun n => mo_ix i n fun j => k (σ.2.1 a j)
def mo_aL (σ : mv_S) (a : Nat) (i : Int32) (k : Int64 → mv_O) : mv_O := mo_ty σ a 2 fun n => mo_ix i n fun j => k (σ.2.2.2 a j)
def mo_aR (σ : mv_S) (a : Nat) (i : Int32) (k : Option Nat → mv_O) : mv_O := mo_tr σ a fun _ n => mo_ix i n fun j => k (σ.2.2.1 a j)
def mo_al (σ : mv_S) (a : Nat) (k : Int32 → mv_O) : mv_O := match σ.1[a]? with
  | some (.inr (t, n)) => if t < 6 then k (nI n) else none
  | _ => none
def mo_own (a : Nat) (k : mv_O) : mv_O := if 16 ≤ a then k else none
def mo_sI (σ : mv_S) (a : Nat) (i x : Int32) (k : mv_S → mv_O) : mv_O := mo_own a (mo_ty σ a 0 fun n => mo_ix i n fun j => k (ms_i σ (mv_up σ.2.1 a j x)))
def mo_sZ (σ : mv_S) (a : Nat) (i x : Int32) (k : mv_S → mv_O) : mv_O := mo_own a (mo_ty σ a 1 fun n => mo_ix i n fun j => mo_z x (k (ms_i σ (mv_up σ.2.1 a j x))))
def mo_sL (σ : mv_S) (a : Nat) (i : Int32) (x : Int64) (k : mv_S → mv_O) : mv_O := mo_own a (mo_ty σ a 2 fun n => mo_ix i n fun j => k (ms_l σ (mv_up σ.2.2.2 a j x)))
/-- the class of what an array of kind t holds: drawers, shelves -/
def mv_el (t : Nat) : Nat := if t = 3 then 2 else 4
def mo_sR (σ : mv_S) (a : Nat) (i : Int32) (o : Option Nat) (k : mv_S → mv_O) : mv_O := mo_own a (mo_tr σ a fun t n => if t = 5 then none else mo_ix i n fun j =>
  match o with
  | none => k (ms_r σ (mv_up σ.2.2.1 a j none))
  | some b => if σ.1[b]? = some (.inl (mv_el t)) then k (ms_r σ (mv_up σ.2.2.1 a j (some b))) else none)
/-- a new array of kind t, of n places, all 0 -/
def mv_na (σ : mv_S) (t n : Nat) : mv_S := (σ.1 ++ [.inr (t, n)], mv_uf σ.2.1 σ.1.length (fun _ => 0), mv_uf σ.2.2.1 σ.1.length (fun _ => none), mv_uf σ.2.2.2 σ.1.length (fun _ => 0))
def mo_na (σ : mv_S) (t : Nat) (i : Int32) (k : Option Nat → mv_S → mv_O) : mv_O := mo_ix i 1000 fun n => k (some σ.1.length) (mv_na σ t n)
/-- a new object of class c -/
def mv_no (σ : mv_S) (c : Nat) : mv_S := (σ.1 ++ [.inl c], mv_uf σ.2.1 σ.1.length (fun _ => 0), mv_uf σ.2.2.1 σ.1.length (fun _ => none), σ.2.2.2)
def mo_no (σ : mv_S) (c : Nat) (k : Option Nat → mv_S → mv_O) : mv_O := k (some σ.1.length) (mv_no σ c)
/-- n rows of m ints behind an outer array -/
def mv_ma (σ : mv_S) (n m : Nat) : mv_S := (σ.1 ++ (.inr (5, n) :: List.replicate n (.inr (0, m))), (fun x y => if σ.1.length ≤ x then 0 else σ.2.1 x y),
  (fun x y => if x = σ.1.length then (if y < n then some (σ.1.length + 1 + y) else none) else if σ.1.length ≤ x then none else σ.2.2.1 x y), σ.2.2.2)
def mo_ma (σ : mv_S) (n m : Int32) (k : Option Nat → mv_S → mv_O) : mv_O := mo_ix n 1000 fun n' => mo_ix m 1000 fun m' => k (some σ.1.length) (mv_ma σ n' m')
/-- System.arraycopy between int arrays -/
def mo_cp (σ : mv_S) (a : Nat) (sp : Int32) (b : Nat) (dp n : Int32) (k : mv_S → mv_O) : mv_O :=
  mo_own a (mo_own b (mo_ty σ a 0 fun na => mo_ty σ b 0 fun nb =>
    if sp < 0 ∨ dp < 0 ∨ n < 0 then none else if na < sp.toNatClampNeg + n.toNatClampNeg ∨ nb < dp.toNatClampNeg + n.toNatClampNeg then none else
      k (ms_i σ (mv_uf σ.2.1 b (va_cpy (σ.2.1 a) (σ.2.1 b) sp.toNatClampNeg dp.toNatClampNeg n.toNatClampNeg)))))
def mo_rI (o : mv_O) (k : Int32 → mv_S → mv_O) : mv_O := match o with
  | some (some (.inl x), σ) => k x σ
  | _ => none
def mo_rL (o : mv_O) (k : Int64 → mv_S → mv_O) : mv_O := match o with
  | some (some (.inr (.inl x)), σ) => k x σ
  | _ => none
def mo_rR (o : mv_O) (k : Option Nat → mv_S → mv_O) : mv_O := match o with
  | some (some (.inr (.inr x)), σ) => k x σ
  | _ => none
def mo_rV (o : mv_O) (k : mv_S → mv_O) : mv_O := match o with
  | some (none, σ) => k σ
  | _ => none
def mo_dv (y : Int32) (k : mv_O) : mv_O := if y = 0 then none else k
def mv_abs (x : Int32) : Int32 := if 0 ≤ x then x else 0 - x
def mv_max (x y : Int32) : Int32 := if x < y then y else x
def mv_min (x y : Int32) : Int32 := if y < x then y else x
def mv_lg (v : mv_V) : Bool := match v with
  | .inr (.inl _) => true
  | _ => false
def mv_put1 (lv : mv_L) (i : Nat) (v : mv_V) : mv_L := (i, v) :: lv.filter (fun q => !(q.1 == i) && !(q.1 + 1 == i && mv_lg q.2))
def mv_put2 (lv : mv_L) (i : Nat) (v : mv_V) : mv_L := (i, v) :: lv.filter (fun q => !(q.1 == i) && (!(q.1 == i + 1) && !(q.1 + 1 == i && mv_lg q.2)))
def mv_jmp (pc : Nat) (off : Int) : Nat := ((pc : Int) + off).toNat
/-- what a switch does: the pairs one behind the other -/
def mv_sw (k : Nat → mv_O) (pc : Nat) (d : Int) (x : Int32) : List (Int × Int) → mv_O
  | [] => k (mv_jmp pc d)
  | (m, o) :: r => if x = mv_c m then k (mv_jmp pc o) else mv_sw k pc d x r
def mv_pairs (lo : Int) : List Int → List (Int × Int)
  | [] => []
  | o :: r => (lo, o) :: mv_pairs (lo + 1) r
/-- a call: what comes back, by the kind of answer (0 none, 1 an int, 2 a reference, 3 a long) -/
def mv_back (c : Nat) (o : mv_O) (k : List mv_V → mv_S → mv_O) : mv_O := match c with
  | 0 => mo_rV o (fun σ => k [] σ)
  | 1 => mo_rI o (fun x σ => k [.inl x] σ)
  | 2 => mo_rR o (fun x σ => k [.inr (.inr x)] σ)
  | _ => mo_rL o (fun x σ => k [.inr (.inl x)] σ)
/-- the strings that the class's text knows, by their numbers: 1 DD; 2 N D; 3 N; 4 D; 5 DN DN; 6 none -/
def mv_str (a : Nat) : List Nat := match a with
  | 1 => [68, 68, 59]
  | 2 => [78, 32, 68, 59]
  | 3 => [78, 59]
  | 4 => [68, 59]
  | 5 => [68, 78, 32, 68, 78, 59]
  | _ => []
def mo_str (a : Nat) (k : List Nat → mv_O) : mv_O := if 1 ≤ a ∧ a ≤ 6 then k (mv_str a) else none
def mv_wd (st : List mv_V) : Nat := (st.map fun v => if mv_lg v then 2 else 1).sum
def mo_is (σ : mv_S) (a c : Nat) (k : mv_O) : mv_O := if σ.1[a]? = some (.inl c) then k else none
/-- calls by their links: kind 1 virtual, 2 static, 3 a constructor, 4 a nest mate's constructor; 5.. members of the JDK -/
def mv_call (cl : Nat → List mv_V → mv_S → mv_O) (q : mv_K) (st : List mv_V) (σ : mv_S) (k : List mv_V → mv_S → mv_O) : mv_O := match q with
  | (1, m, n, c, z) => (match st.drop n with
    | .inr (.inr o) :: r => mo_rf o fun a => mo_is σ a z.toNat (if mv_wd r ≤ 8 then mv_back c (cl m (.inr (.inr (some a)) :: (st.take n).reverse) σ) (fun v σ' => k (v ++ r) σ') else none)
    | _ => none)
  | (40, m, n, c, z) => (match st.drop n with
    | .inr (.inr o) :: r => mo_rf o fun a => mo_is σ a z.toNat (if mv_wd r ≤ 8 then mv_back c (cl m (.inr (.inr (some a)) :: (st.take n).reverse) σ) (fun v σ' => k (v ++ r) σ') else none)
    | _ => none)
  | (41, m, n, c, _) => if n ≤ st.length ∧ mv_wd (st.drop n) ≤ 8 then mv_back c (cl m (st.take n).reverse σ) (fun v σ' => k (v ++ st.drop n) σ') else none
  | (2, m, n, c, _) => if n ≤ st.length ∧ mv_wd (st.drop n) ≤ 8 then mv_back c (cl m (st.take n).reverse σ) (fun v σ' => k (v ++ st.drop n) σ') else none
  | (3, m, n, _, _) => (match st.drop n with
    | .inr (.inr o) :: r => mo_rf o fun a => if mv_wd r ≤ 8 then mo_rV (cl m (.inr (.inr (some a)) :: (st.take n).reverse) σ) (fun σ' => k r σ') else none
    | _ => none)
  | (4, m, n, _, _) => (match st.drop n with
    | .inr (.inr o) :: r => mo_rf o fun a => if mv_wd r ≤ 8 then mo_rV (cl m (.inr (.inr (some a)) :: (st.take n).reverse) σ) (fun σ' => k r σ') else none
    | _ => none)
  | (5, _, _, _, _) => (match st with
    | .inl x :: r => if mv_wd r ≤ 8 then k (.inl (mv_abs x) :: r) σ else none
    | _ => none)
  | (6, _, _, _, _) => (match st with
    | .inl y :: .inl x :: r => if mv_wd r ≤ 8 then k (.inl (mv_max x y) :: r) σ else none
    | _ => none)
  | (7, _, _, _, _) => (match st with
    | .inl y :: .inl x :: r => if mv_wd r ≤ 8 then k (.inl (mv_min x y) :: r) σ else none
    | _ => none)
  | (8, _, _, _, _) => (match st with
    | .inl n :: .inl dp :: .inr (.inr ob) :: .inl sp :: .inr (.inr oa) :: r => mo_rf oa fun a => mo_rf ob fun b => if mv_wd r ≤ 8 then mo_cp σ a sp b dp n fun σ' => k r σ' else none
    | _ => none)
  | (9, _, _, _, _) => (match st with
    | .inr (.inr o) :: r => mo_rf o fun _ => if mv_wd r ≤ 8 then k r σ else none
    | _ => none)
  | (10, _, _, _, _) => (match st with
    | .inr (.inr o) :: r => mo_rf o fun a => mo_str a fun s => if mv_wd r ≤ 8 then k (.inl (if s.length = 0 then 1 else 0) :: r) σ else none
    | _ => none)
  | (11, _, _, _, _) => (match st with
    | .inr (.inr o) :: r => mo_rf o fun a => mo_str a fun s => if mv_wd r ≤ 8 then k (.inl (nI s.length) :: r) σ else none
    | _ => none)
  | (12, _, _, _, _) => (match st with
    | .inl i :: .inr (.inr o) :: r => mo_rf o fun a => mo_str a fun s => if mv_wd r ≤ 8 then mo_ix i s.length fun j => k (.inl (nI (s.getD j 0)) :: r) σ else none
    | _ => none)
  | _ => none
/-- a cell more of which nothing is said -/
def mv_opq (σ : mv_S) (n : Nat) : mv_S := (σ.1 ++ [.inr (98, n)], σ.2.1, σ.2.2.1, σ.2.2.2)
/-- a call that may throw: it says none or a long, or which exception (1 state, 2 unsupported, 3 argument) -/
def mo_t0 (o : mv_O) (k : mv_S → mv_O) (t : Int32 → mv_S → mv_O) : mv_O := match o with
  | some (none, σ) => k σ
  | some (some (.inl x), σ) => t x σ
  | _ => none
def mo_t3 (o : mv_O) (k : Int64 → mv_S → mv_O) (t : Int32 → mv_S → mv_O) : mv_O := match o with
  | some (some (.inr (.inl y)), σ) => k y σ
  | some (some (.inl x), σ) => t x σ
  | _ => none
/-- where a caller catches: which exception, the place behind the handler's first instruction, which lays the exception into local 4 -/
def mv_hl (m : Nat) : List (Nat × Nat) := if m = 28 then [(1, 43), (2, 50), (3, 60)] else [(3, 14), (1, 18)]
def mv_drop4 (lv : mv_L) : mv_L := lv.filter (fun q => !(q.1 == 4) && !(q.1 + 1 == 4 && mv_lg q.2))
def mv_hs (x : Int32) (t : Nat → mv_O) : List (Nat × Nat) → mv_O
  | [] => none
  | (c, h) :: r => if x = nI c then t h else mv_hs x t r
def mv_try (cl : Nat → List mv_V → mv_S → mv_O) (m n c : Nat) (z : Int) (st : List mv_V) (σ : mv_S) (k : List mv_V → mv_S → mv_O) (t : Nat → mv_S → mv_O) : mv_O := match st.drop n with
  | .inr (.inr o) :: r => mo_rf o fun a => mo_is σ a z.toNat (if mv_wd r ≤ 8 then (match c with
    | 0 => mo_t0 (cl m (.inr (.inr (some a)) :: (st.take n).reverse) σ) (fun σ' => k r σ') (fun x σ' => mv_hs x (fun h => t h σ') (mv_hl m))
    | _ => mo_t3 (cl m (.inr (.inr (some a)) :: (st.take n).reverse) σ) (fun y σ' => k (.inr (.inl y) :: r) σ') (fun x σ' => mv_hs x (fun h => t h σ') (mv_hl m))) else none)
  | _ => none
/-- what an ldc puts on the stack: kind 20 a number, 21 a long, 22 a text -/
def mv_ldc (q : mv_K) (k : mv_V → mv_O) : mv_O := match q with
  | (20, _, _, _, n) => k (.inl (mv_c n))
  | (22, a, _, _, _) => k (.inr (.inr (some a)))
  | _ => none
/-- one instruction -/
def mv_step (cl : Nat → List mv_V → mv_S → mv_O) (lk : Nat → mv_K) (rt : Nat) (k : Nat → mv_L → List mv_V → mv_S → mv_O) (ins : Instr) (pc : Nat) (lv : mv_L) (st : List mv_V) (σ : mv_S) : mv_O := match ins with
  | .iconst n => k (pc + 1) lv (.inl (mv_c n) :: st) σ
  | .bipush n => k (pc + 2) lv (.inl (mv_c n) :: st) σ
  | .sipush n => k (pc + 3) lv (.inl (mv_c n) :: st) σ
  | .lconst n => k (pc + 1) lv (.inr (.inl (Int64.ofNat n)) :: st) σ
  | .aconst_null => k (pc + 1) lv (.inr (.inr none) :: st) σ
  | .ldc i => mv_ldc (lk i) fun v => k (pc + 2) lv (v :: st) σ
  | .ldc_w i => (match lk i with
    | (20, _, _, _, n) => k (pc + 3) lv (.inl (mv_c n) :: st) σ
    | _ => none)
  | .ldc2_w i => (match lk i with
    | (21, _, _, _, n) => k (pc + 3) lv (.inr (.inl (mv_cl n)) :: st) σ
    | _ => none)
  | .iload_n i => (match lv.lookup i.val with
    | some (.inl x) => k (pc + 1) lv (.inl x :: st) σ
    | _ => none)
  | .iload i => (match lv.lookup i with
    | some (.inl x) => k (pc + 2) lv (.inl x :: st) σ
    | _ => none)
  | .lload_n i => (match lv.lookup i.val with
    | some (.inr (.inl x)) => k (pc + 1) lv (.inr (.inl x) :: st) σ
    | _ => none)
  | .lload i => (match lv.lookup i with
    | some (.inr (.inl x)) => k (pc + 2) lv (.inr (.inl x) :: st) σ
    | _ => none)
  | .aload_n i => (match lv.lookup i.val with
    | some (.inr (.inr x)) => k (pc + 1) lv (.inr (.inr x) :: st) σ
    | _ => none)
  | .aload i => (match lv.lookup i with
    | some (.inr (.inr x)) => k (pc + 2) lv (.inr (.inr x) :: st) σ
    | _ => none)
  | .istore_n i => (match st with
    | .inl x :: r => k (pc + 1) (mv_put1 lv i.val (.inl x)) r σ
    | _ => none)
  | .istore i => (match st with
    | .inl x :: r => k (pc + 2) (mv_put1 lv i (.inl x)) r σ
    | _ => none)
  | .lstore i => (match st with
    | .inr (.inl x) :: r => k (pc + 2) (mv_put2 lv i (.inr (.inl x))) r σ
    | _ => none)
  | .astore_n i => (match st with
    | .inr (.inr x) :: r => k (pc + 1) (mv_put1 lv i.val (.inr (.inr x))) r σ
    | _ => none)
  | .astore i => (match st with
    | .inr (.inr x) :: r => k (pc + 2) (mv_put1 lv i (.inr (.inr x))) r σ
    | _ => none)
  | .iinc i n => (match lv.lookup i with
    | some (.inl x) => k (pc + 3) (mv_put1 lv i (.inl (x + mv_c n))) st σ
    | _ => none)
  | .iadd => (match st with
    | .inl y :: .inl x :: r => k (pc + 1) lv (.inl (x + y) :: r) σ
    | _ => none)
  | .isub => (match st with
    | .inl y :: .inl x :: r => k (pc + 1) lv (.inl (x - y) :: r) σ
    | _ => none)
  | .imul => (match st with
    | .inl y :: .inl x :: r => k (pc + 1) lv (.inl (x * y) :: r) σ
    | _ => none)
  | .iand => (match st with
    | .inl y :: .inl x :: r => k (pc + 1) lv (.inl (x &&& y) :: r) σ
    | _ => none)
  | .ior => (match st with
    | .inl y :: .inl x :: r => k (pc + 1) lv (.inl (x ||| y) :: r) σ
    | _ => none)
  | .idiv => (match st with
    | .inl y :: .inl x :: r => mo_dv y (k (pc + 1) lv (.inl (x / y) :: r) σ)
    | _ => none)
  | .irem => (match st with
    | .inl y :: .inl x :: r => mo_dv y (k (pc + 1) lv (.inl (x - x / y * y) :: r) σ)
    | _ => none)
  | .ineg => (match st with
    | .inl x :: r => k (pc + 1) lv (.inl (-x) :: r) σ
    | _ => none)
  | .ishl => (match st with
    | .inl y :: .inl x :: r => k (pc + 1) lv (.inl (x <<< (y &&& 31)) :: r) σ
    | _ => none)
  | .ishr => (match st with
    | .inl y :: .inl x :: r => k (pc + 1) lv (.inl (x >>> (y &&& 31)) :: r) σ
    | _ => none)
  | .i2l => (match st with
    | .inl x :: r => k (pc + 1) lv (.inr (.inl x.toInt64) :: r) σ
    | _ => none)
  | .i2b => (match st with
    | .inl x :: r => k (pc + 1) lv (.inl x.toInt8.toInt32 :: r) σ
    | _ => none)
  | .i2s => (match st with
    | .inl x :: r => k (pc + 1) lv (.inl x.toInt16.toInt32 :: r) σ
    | _ => none)
  | .lcmp => (match st with
    | .inr (.inl y) :: .inr (.inl x) :: r => k (pc + 1) lv (.inl (lg_cmp x y) :: r) σ
    | _ => none)
  | .dup => (match st with
    | .inl x :: r => k (pc + 1) lv (.inl x :: .inl x :: r) σ
    | .inr (.inr x) :: r => k (pc + 1) lv (.inr (.inr x) :: .inr (.inr x) :: r) σ
    | _ => none)
  | .dup2 => (match st with
    | .inl x :: .inr (.inr y) :: r => k (pc + 1) lv (.inl x :: .inr (.inr y) :: .inl x :: .inr (.inr y) :: r) σ
    | _ => none)
  | .pop => (match st with
    | .inl _ :: r => k (pc + 1) lv r σ
    | .inr (.inr _) :: r => k (pc + 1) lv r σ
    | _ => none)
  | .goto off => k (mv_jmp pc off) lv st σ
  | .ifCond .eq off => (match st with
    | .inl x :: r => if x = 0 then k (mv_jmp pc off) lv r σ else k (pc + 3) lv r σ
    | _ => none)
  | .ifCond .ne off => (match st with
    | .inl x :: r => if x = 0 then k (pc + 3) lv r σ else k (mv_jmp pc off) lv r σ
    | _ => none)
  | .ifCond .lt off => (match st with
    | .inl x :: r => if x < 0 then k (mv_jmp pc off) lv r σ else k (pc + 3) lv r σ
    | _ => none)
  | .ifCond .ge off => (match st with
    | .inl x :: r => if 0 ≤ x then k (mv_jmp pc off) lv r σ else k (pc + 3) lv r σ
    | _ => none)
  | .ifCond .gt off => (match st with
    | .inl x :: r => if 0 < x then k (mv_jmp pc off) lv r σ else k (pc + 3) lv r σ
    | _ => none)
  | .ifCond .le off => (match st with
    | .inl x :: r => if x ≤ 0 then k (mv_jmp pc off) lv r σ else k (pc + 3) lv r σ
    | _ => none)
  | .if_icmp .eq off => (match st with
    | .inl y :: .inl x :: r => if x = y then k (mv_jmp pc off) lv r σ else k (pc + 3) lv r σ
    | _ => none)
  | .if_icmp .ne off => (match st with
    | .inl y :: .inl x :: r => if x = y then k (pc + 3) lv r σ else k (mv_jmp pc off) lv r σ
    | _ => none)
  | .if_icmp .lt off => (match st with
    | .inl y :: .inl x :: r => if x < y then k (mv_jmp pc off) lv r σ else k (pc + 3) lv r σ
    | _ => none)
  | .if_icmp .ge off => (match st with
    | .inl y :: .inl x :: r => if y ≤ x then k (mv_jmp pc off) lv r σ else k (pc + 3) lv r σ
    | _ => none)
  | .if_icmp .gt off => (match st with
    | .inl y :: .inl x :: r => if y < x then k (mv_jmp pc off) lv r σ else k (pc + 3) lv r σ
    | _ => none)
  | .if_icmp .le off => (match st with
    | .inl y :: .inl x :: r => if x ≤ y then k (mv_jmp pc off) lv r σ else k (pc + 3) lv r σ
    | _ => none)
  | .ifnull off => (match st with
    | .inr (.inr o) :: r => mo_nl o (k (mv_jmp pc off) lv r σ) (k (pc + 3) lv r σ)
    | _ => none)
  | .ifnonnull off => (match st with
    | .inr (.inr o) :: r => mo_nl o (k (pc + 3) lv r σ) (k (mv_jmp pc off) lv r σ)
    | _ => none)
  | .tableswitch d lo _ offs => (match st with
    | .inl x :: r => mv_sw (fun t => k t lv r σ) pc d x (mv_pairs lo offs.toList)
    | _ => none)
  | .lookupswitch d ps => (match st with
    | .inl x :: r => mv_sw (fun t => k t lv r σ) pc d x ps.toList
    | _ => none)
  | .getfield i => (match st with
    | .inr (.inr o) :: r => (match lk i with
      | (0, c, f, 0, _) => mo_rf o fun a => mo_gI σ a c f fun x => k (pc + 3) lv (.inl x :: r) σ
      | (0, c, f, 1, _) => mo_rf o fun a => mo_gI σ a c f fun x => k (pc + 3) lv (.inl x :: r) σ
      | (0, c, f, 2, _) => mo_rf o fun a => mo_gR σ a c f fun x => k (pc + 3) lv (.inr (.inr x) :: r) σ
      | _ => none)
    | _ => none)
  | .putfield i => (match lk i with
    | (0, c, f, 0, _) => (match st with
      | .inl x :: .inr (.inr o) :: r => mo_rf o fun a => mo_pI σ a c f x fun σ' => k (pc + 3) lv r σ'
      | _ => none)
    | (0, c, f, 1, _) => (match st with
      | .inl x :: .inr (.inr o) :: r => mo_rf o fun a => mo_z x (mo_pI σ a c f x fun σ' => k (pc + 3) lv r σ')
      | _ => none)
    | (0, c, f, 2, _) => (match st with
      | .inr (.inr x) :: .inr (.inr o) :: r => mo_rf o fun a => mo_pR σ a c f x fun σ' => k (pc + 3) lv r σ'
      | _ => none)
    | _ => none)
  | .iaload => (match st with
    | .inl i :: .inr (.inr o) :: r => mo_rf o fun a => mo_aI σ a i fun x => k (pc + 1) lv (.inl x :: r) σ
    | _ => none)
  | .baload => (match st with
    | .inl i :: .inr (.inr o) :: r => mo_rf o fun a => mo_aZ σ a i fun x => k (pc + 1) lv (.inl x :: r) σ
    | _ => none)
  | .laload => (match st with
    | .inl i :: .inr (.inr o) :: r => mo_rf o fun a => mo_aL σ a i fun x => k (pc + 1) lv (.inr (.inl x) :: r) σ
    | _ => none)
  | .aaload => (match st with
    | .inl i :: .inr (.inr o) :: r => mo_rf o fun a => mo_aR σ a i fun x => k (pc + 1) lv (.inr (.inr x) :: r) σ
    | _ => none)
  | .iastore => (match st with
    | .inl x :: .inl i :: .inr (.inr o) :: r => mo_rf o fun a => mo_sI σ a i x fun σ' => k (pc + 1) lv r σ'
    | _ => none)
  | .bastore => (match st with
    | .inl x :: .inl i :: .inr (.inr o) :: r => mo_rf o fun a => mo_sZ σ a i x fun σ' => k (pc + 1) lv r σ'
    | _ => none)
  | .lastore => (match st with
    | .inr (.inl x) :: .inl i :: .inr (.inr o) :: r => mo_rf o fun a => mo_sL σ a i x fun σ' => k (pc + 1) lv r σ'
    | _ => none)
  | .aastore => (match st with
    | .inr (.inr x) :: .inl i :: .inr (.inr o) :: r => mo_rf o fun a => mo_sR σ a i x fun σ' => k (pc + 1) lv r σ'
    | _ => none)
  | .arraylength => (match st with
    | .inr (.inr o) :: r => mo_rf o fun a => mo_al σ a fun x => k (pc + 1) lv (.inl x :: r) σ
    | _ => none)
  | .newarray .int => (match st with
    | .inl n :: r => mo_na σ 0 n fun o σ' => k (pc + 2) lv (.inr (.inr o) :: r) σ'
    | _ => none)
  | .newarray .boolean => (match st with
    | .inl n :: r => mo_na σ 1 n fun o σ' => k (pc + 2) lv (.inr (.inr o) :: r) σ'
    | _ => none)
  | .newarray .long => (match st with
    | .inl n :: r => mo_na σ 2 n fun o σ' => k (pc + 2) lv (.inr (.inr o) :: r) σ'
    | _ => none)
  | .anewarray i => (match lk i with
    | (32, c, _, _, _) => (match st with
      | .inl n :: r => mo_na σ (if c = 2 then 3 else 4) n fun o σ' => k (pc + 3) lv (.inr (.inr o) :: r) σ'
      | _ => none)
    | _ => none)
  | .multianewarray i _ => (match lk i with
    | (31, _, _, _, _) => (match st with
      | .inl m :: .inl n :: r => mo_ma σ n m fun o σ' => k (pc + 4) lv (.inr (.inr o) :: r) σ'
      | _ => none)
    | _ => none)
  | .new i => (match lk i with
    | (32, c, _, _, _) => mo_no σ c fun o σ' => k (pc + 3) lv (.inr (.inr o) :: st) σ'
    | (33, x, n, _, _) => some (some (.inl (nI x)), mv_opq σ n)
    | _ => none)
  | .invokevirtual i => (match lk i with
    | (42, m, n, c, z) => mv_try cl m n c z st σ (fun st' σ' => k (pc + 3) lv st' σ') (fun h σ' => k h (mv_drop4 lv) [] σ')
    | q => mv_call cl q st σ fun st' σ' => k (pc + 3) lv st' σ')
  | .invokestatic i => mv_call cl (lk i) st σ fun st' σ' => k (pc + 3) lv st' σ'
  | .invokespecial i => mv_call cl (lk i) st σ fun st' σ' => k (pc + 3) lv st' σ'
  | .ireturn => (match st with
    | [.inl x] => if rt = 0 then some (some (.inl x), σ) else if rt = 1 then mo_z x (some (some (.inl x), σ)) else none
    | _ => none)
  | .areturn => (match st with
    | [.inr (.inr x)] => if rt = 2 then some (some (.inr (.inr x)), σ) else none
    | _ => none)
  | .lreturn => (match st with
    | [.inr (.inl x)] => if rt = 3 then some (some (.inr (.inl x)), σ) else none
    | _ => none)
  | .return_ => (match st with
    | [] => if rt = 4 then some (none, σ) else none
    | _ => none)
  | _ => none
/-- the listed locals alone, in the list's order -/
def mv_pick (lv : mv_L) (ks : List Nat) : mv_L := ks.filterMap fun i => (lv.lookup i).map fun v => (i, v)
/-- a method: its number of locals, the kind of its answer, its code, its class's links, where its walk is cut -/
abbrev mv_M : Type := Nat × Nat × List (Nat × Instr × Nat) × List (Nat × mv_K) × List (Nat × List Nat)
def mv_lk (l : List (Nat × mv_K)) (i : Nat) : mv_K := (l.lookup i).getD (99, 0, 0, 0, 0)
/-- a stretch: to the method's end or the next cut -/
def mv_ev (cl : Nat → List mv_V → mv_S → mv_O) (M : mv_M) (K : Nat → mv_L → List mv_V → mv_S → mv_O) : Nat → Nat → mv_L → List mv_V → mv_S → mv_O
  | 0, _, _, _, _ => none
  | n + 1, pc, lv, st, σ => match M.2.2.1.lookup pc with
    | none => none
    | some (ins, _) => mv_step cl (mv_lk M.2.2.2.1) M.2.1 (fun pc' lv' st' σ' => match M.2.2.2.2.lookup pc' with
      | some ks => K pc' (mv_pick lv' ks) st' σ'
      | none => mv_ev cl M K n pc' lv' st' σ') ins pc lv st σ
/-- a method's walk from a cut on -/
def mv_run (cl : Nat → List mv_V → mv_S → mv_O) (M : mv_M) : Nat → Nat → mv_L → List mv_V → mv_S → mv_O
  | 0, _, _, _, _ => none
  | n + 1, pc, lv, st, σ => mv_ev cl M (mv_run cl M n) 900 pc lv st σ
def mv_args : Nat → List mv_V → mv_L
  | _, [] => []
  | i, v :: r => (i, v) :: mv_args (if mv_lg v then i + 2 else i + 1) r
end
section
/-! the methods for the small machine: code, links by class, cuts (by program: wip/whole/gen) -/
def lk_RX0 : List (Nat × mv_K) := [(3, 9, 0, 0, 0, 0), (9, 0, 0, 0, 2, 0), (15, 0, 0, 1, 2, 0), (18, 0, 0, 2, 2, 0), (21, 0, 0, 3, 2, 0), (24, 0, 0, 4, 0, 0), (28, 0, 0, 5, 0, 0), (31, 0, 3, 11, 2, 0), (36, 8, 0, 0, 0, 0), (42, 1, 34, 1, 2, 3), (46, 0, 2, 1, 0, 0), (51, 2, 5, 3, 0, 0), (55, 1, 8, 4, 0, 0), (59, 1, 2, 1, 0, 0), (63, 1, 6, 1, 0, 0), (67, 0, 2, 2, 0, 0), (70, 1, 10, 2, 0, 0), (74, 2, 3, 2, 0, 0), (78, 2, 4, 3, 0, 0), (81, 0, 3, 2, 0, 0), (84, 1, 38, 1, 1, 3), (88, 1, 33, 1, 1, 3), (92, 2, 217, 2, 0, 0), (98, 2, 7, 3, 0, 0), (101, 0, 3, 7, 0, 0), (104, 0, 3, 15, 2, 0), (107, 0, 3, 16, 2, 0), (110, 1, 57, 2, 1, 3), (114, 1, 9, 2, 1, 0), (118, 20, 0, 0, 0, (-1000000)), (119, 1, 51, 2, 1, 3), (122, 1, 55, 2, 1, 3), (125, 1, 52, 1, 1, 3), (128, 1, 53, 1, 1, 3), (131, 1, 11, 1, 1, 0), (135, 1, 54, 2, 1, 3), (139, 1, 56, 2, 0, 3), (143, 1, 12, 1, 1, 0), (146, 0, 3, 5, 0, 0), (149, 1, 49, 0, 1, 3), (153, 0, 3, 4, 0, 0)]
def lk_RX1 : List (Nat × mv_K) := [(3, 9, 0, 0, 0, 0), (9, 0, 1, 0, 0, 0), (15, 0, 1, 1, 0, 0), (18, 0, 1, 2, 2, 0), (22, 0, 1, 3, 0, 0), (25, 0, 1, 4, 0, 0), (28, 0, 1, 5, 2, 0), (31, 0, 1, 6, 2, 0), (34, 0, 1, 7, 2, 0), (37, 0, 1, 8, 2, 0), (40, 31, 0, 0, 0, 0), (42, 0, 1, 9, 2, 0), (45, 0, 1, 10, 2, 0), (48, 0, 1, 11, 2, 0), (51, 0, 1, 12, 2, 0), (54, 0, 1, 13, 2, 0), (57, 0, 3, 4, 0, 0), (62, 0, 3, 5, 0, 0), (65, 1, 49, 0, 1, 3), (69, 1, 16, 2, 0, 1), (73, 0, 3, 12, 2, 0), (76, 1, 19, 2, 1, 1), (80, 1, 15, 1, 0, 1), (84, 0, 3, 2, 0, 0), (87, 6, 0, 0, 0, 0), (93, 0, 3, 11, 2, 0), (96, 1, 18, 2, 0, 1), (100, 1, 51, 2, 1, 3), (103, 1, 17, 4, 1, 1), (107, 0, 3, 13, 2, 0), (111, 1, 56, 2, 0, 3), (115, 1, 20, 1, 1, 1), (119, 1, 21, 1, 0, 1), (122, 1, 24, 0, 1, 1), (126, 1, 25, 1, 1, 1), (130, 2, 217, 2, 0, 0), (136, 20, 0, 0, 0, 1000000), (137, 1, 22, 1, 1, 1), (140, 1, 23, 1, 1, 1), (143, 7, 0, 0, 0, 0)]
def lk_RX2 : List (Nat × mv_K) := [(3, 9, 0, 0, 0, 0), (9, 0, 2, 0, 0, 0), (15, 0, 2, 1, 0, 0), (18, 0, 2, 2, 0, 0), (21, 33, 3, 6, 0, 0), (28, 33, 2, 6, 0, 0), (33, 33, 1, 6, 0, 0)]
def lk_RX3 : List (Nat × mv_K) := [(3, 9, 0, 0, 0, 0), (9, 0, 3, 4, 0, 0), (15, 0, 3, 5, 0, 0), (18, 0, 3, 6, 0, 0), (21, 0, 3, 7, 0, 0), (24, 0, 3, 8, 2, 0), (28, 0, 3, 9, 2, 0), (31, 0, 3, 10, 2, 0), (34, 0, 3, 11, 2, 0), (37, 0, 3, 12, 2, 0), (40, 0, 3, 13, 2, 0), (44, 32, 2, 0, 0, 0), (46, 0, 3, 14, 2, 0), (50, 0, 3, 15, 2, 0), (53, 0, 3, 16, 2, 0), (56, 0, 3, 17, 2, 0), (59, 0, 3, 18, 2, 0), (62, 0, 3, 19, 2, 0), (65, 1, 30, 2, 0, 3), (69, 0, 3, 0, 0, 0), (72, 0, 3, 1, 0, 0), (75, 0, 3, 2, 0, 0), (78, 0, 3, 3, 0, 0), (81, 2, 217, 2, 0, 0), (87, 1, 31, 3, 0, 3), (91, 5, 0, 0, 0, 0), (97, 8, 0, 0, 0, 0), (103, 3, 26, 3, 0, 0), (105, 1, 34, 1, 2, 3), (109, 1, 33, 1, 1, 3), (113, 1, 38, 1, 1, 3), (116, 1, 46, 0, 1, 3), (120, 1, 47, 1, 1, 3), (123, 1, 50, 1, 1, 3), (126, 1, 52, 1, 1, 3), (129, 1, 53, 1, 1, 3), (132, 1, 51, 2, 1, 3), (136, 6, 0, 0, 0, 0), (139, 1, 57, 2, 1, 3), (142, 1, 58, 2, 1, 3)]
def lk_RX4 : List (Nat × mv_K) := [(3, 9, 0, 0, 0, 0), (9, 0, 4, 0, 2, 0), (15, 0, 4, 1, 1, 0), (19, 0, 4, 2, 0, 0), (23, 0, 4, 3, 0, 0), (26, 0, 4, 4, 2, 0), (30, 1, 61, 0, 0, 4), (33, 2, 217, 2, 0, 0), (39, 1, 64, 0, 1, 4), (43, 1, 65, 1, 1, 4), (47, 1, 68, 1, 1, 4), (50, 20, 0, 0, 0, (-2147483648)), (51, 1, 70, 1, 1, 4)]
def lk_RX5 : List (Nat × mv_K) := [(3, 9, 0, 0, 0, 0), (9, 0, 5, 0, 2, 0), (15, 0, 5, 1, 0, 0), (19, 0, 5, 2, 0, 0), (22, 0, 5, 3, 0, 0), (25, 0, 5, 4, 2, 0), (28, 7, 0, 0, 0, 0), (34, 1, 80, 0, 1, 5), (38, 1, 84, 2, 1, 5), (42, 22, 1, 0, 0, 0), (44, 22, 2, 0, 0, 0), (46, 22, 3, 0, 0, 0), (48, 22, 4, 0, 0, 0), (50, 22, 5, 0, 0, 0), (52, 22, 6, 0, 0, 0), (54, 2, 79, 1, 2, 0), (58, 10, 0, 0, 0, 0), (63, 11, 0, 0, 0, 0), (67, 12, 0, 0, 0, 0), (71, 1, 82, 1, 1, 5), (75, 1, 81, 1, 1, 5), (79, 1, 83, 0, 1, 5), (82, 2, 85, 3, 1, 0), (86, 2, 87, 3, 1, 0), (89, 2, 88, 2, 1, 0), (92, 2, 89, 2, 1, 0), (95, 0, 3, 4, 0, 0), (100, 2, 90, 2, 1, 0), (103, 1, 35, 2, 1, 3), (107, 1, 36, 4, 1, 3), (111, 0, 3, 7, 0, 0), (114, 2, 86, 1, 1, 0), (117, 1, 30, 2, 0, 3), (121, 1, 33, 1, 1, 3), (124, 0, 3, 11, 2, 0), (127, 0, 3, 13, 2, 0), (131, 0, 3, 3, 0, 0), (133, 0, 3, 5, 0, 0)]
def lk_RX6 : List (Nat × mv_K) := [(1, 9, 0, 0, 0, 0), (7, 32, 3, 0, 0, 0), (9, 3, 29, 0, 0, 0), (10, 0, 6, 0, 2, 0), (16, 0, 6, 1, 2, 0), (19, 0, 6, 2, 2, 0), (22, 0, 6, 3, 2, 0), (25, 0, 6, 4, 1, 0), (29, 32, 4, 0, 0, 0), (31, 0, 6, 5, 2, 0), (35, 32, 5, 0, 0, 0), (37, 4, 75, 0, 0, 0), (38, 0, 6, 6, 2, 0), (42, 32, 0, 0, 0, 0), (44, 4, 0, 0, 0, 0), (45, 0, 6, 7, 2, 0), (49, 32, 1, 0, 0, 0), (51, 4, 13, 0, 0, 0), (52, 0, 6, 8, 2, 0), (56, 0, 6, 9, 2, 0), (60, 0, 6, 10, 2, 0), (63, 31, 0, 0, 0, 0), (65, 0, 6, 11, 2, 0), (68, 0, 6, 12, 2, 0), (71, 4, 60, 0, 0, 0), (72, 1, 126, 1, 2, 6), (76, 1, 67, 0, 1, 4), (80, 0, 4, 4, 2, 0), (83, 0, 4, 3, 0, 0), (87, 1, 76, 2, 0, 5), (91, 1, 77, 0, 1, 5), (94, 1, 32, 1, 0, 3), (98, 1, 78, 1, 1, 5), (102, 1, 33, 1, 1, 3), (106, 0, 3, 11, 2, 0), (109, 0, 3, 13, 2, 0), (113, 1, 37, 1, 1, 3), (117, 1, 48, 1, 1, 3), (120, 0, 3, 0, 0, 0), (123, 0, 3, 1, 0, 0), (126, 0, 3, 4, 0, 0), (129, 0, 3, 5, 0, 0), (132, 0, 3, 6, 0, 0), (135, 0, 3, 3, 0, 0), (138, 0, 3, 12, 2, 0), (141, 0, 3, 2, 0, 0), (144, 1, 73, 1, 1, 4), (147, 1, 74, 1, 1, 4), (150, 1, 42, 0, 1, 3), (153, 1, 46, 0, 1, 3), (156, 1, 47, 1, 1, 3), (159, 1, 50, 1, 1, 3), (162, 1, 127, 2, 1, 6), (166, 1, 55, 2, 1, 3), (169, 1, 56, 2, 0, 3), (173, 1, 39, 0, 1, 3), (176, 1, 40, 0, 1, 3), (179, 1, 19, 2, 1, 1), (183, 1, 49, 0, 1, 3), (187, 1, 70, 1, 1, 4), (190, 1, 54, 2, 1, 3), (194, 1, 14, 1, 0, 1), (197, 0, 1, 0, 0, 0), (200, 0, 1, 1, 0, 0), (203, 1, 34, 1, 2, 3), (207, 0, 2, 1, 0, 0), (212, 0, 2, 2, 0, 0), (215, 0, 3, 15, 2, 0), (218, 1, 58, 2, 1, 3), (222, 1, 1, 3, 0, 0), (226, 0, 3, 7, 0, 0), (229, 1, 128, 2, 1, 6), (233, 1, 41, 1, 1, 3), (237, 20, 0, 0, 0, 1103515245), (238, 20, 0, 0, 0, 2147483647), (239, 1, 64, 0, 1, 4), (242, 1, 65, 1, 1, 4), (245, 0, 3, 8, 2, 0), (248, 2, 129, 2, 1, 0), (251, 8, 0, 0, 0, 0), (257, 20, 0, 0, 0, (-1000000001)), (258, 1, 38, 1, 1, 3), (261, 20, 0, 0, 0, (-1000000003)), (262, 20, 0, 0, 0, (-1000000004)), (263, 20, 0, 0, 0, (-1000000000)), (264, 1, 59, 1, 1, 3), (267, 1, 131, 1, 1, 6), (270, 1, 130, 1, 0, 6), (274, 1, 66, 0, 1, 4), (277, 1, 72, 0, 1, 4), (280, 7, 0, 0, 0, 0), (285, 1, 43, 0, 1, 3), (288, 1, 44, 0, 1, 3), (291, 1, 45, 0, 1, 3), (294, 1, 61, 0, 0, 4), (297, 1, 62, 1, 0, 4), (301, 1, 63, 2, 0, 4), (304, 1, 68, 1, 1, 4), (307, 1, 71, 2, 0, 4), (310, 33, 3, 6, 0, 0), (317, 0, 4, 1, 1, 0), (320, 33, 1, 6, 0, 0), (325, 0, 4, 2, 0, 0), (328, 1, 69, 2, 1, 4), (331, 0, 4, 0, 2, 0), (335, 1, 27, 0, 1, 2), (338, 42, 28, 0, 0, 2), (341, 0, 2, 0, 0, 0), (344, 33, 2, 6, 0, 0), (346, 5, 0, 0, 0, 0), (349, 2, 217, 2, 0, 0)]
def lk_RX7 : List (Nat × mv_K) := [(1, 9, 0, 0, 0, 0), (9, 0, 7, 0, 2, 0), (13, 0, 7, 1, 2, 0), (16, 0, 7, 2, 2, 0), (19, 0, 7, 3, 2, 0), (22, 0, 7, 4, 2, 0), (25, 0, 7, 5, 2, 0), (28, 0, 7, 6, 2, 0), (31, 0, 7, 7, 2, 0), (34, 0, 7, 8, 2, 0), (37, 0, 7, 15, 2, 0), (40, 0, 7, 18, 2, 0), (43, 0, 7, 19, 2, 0), (46, 0, 7, 20, 2, 0), (49, 0, 7, 21, 2, 0), (52, 0, 7, 22, 2, 0), (55, 0, 7, 24, 2, 0), (58, 0, 7, 27, 2, 0), (62, 0, 7, 28, 2, 0), (65, 0, 7, 31, 2, 0), (68, 0, 7, 32, 2, 0), (71, 0, 7, 33, 2, 0), (74, 0, 7, 34, 2, 0), (77, 0, 7, 35, 2, 0), (80, 0, 7, 10, 0, 0), (84, 1, 135, 0, 1, 7), (88, 2, 134, 3, 1, 0), (92, 21, 0, 0, 0, 7), (94, 2, 139, 1, 1, 0), (98, 0, 7, 11, 0, 0), (101, 0, 7, 13, 0, 0), (104, 0, 7, 12, 0, 0), (107, 1, 144, 0, 1, 7), (110, 21, 0, 0, 0, 48), (112, 21, 0, 0, 0, 57), (114, 1, 145, 0, 1, 7), (118, 0, 7, 14, 0, 0), (121, 1, 147, 1, 1, 7), (125, 1, 146, 1, 1, 7), (128, 21, 0, 0, 0, 2), (130, 21, 0, 0, 0, 4), (132, 1, 149, 2, 1, 7), (136, 21, 0, 0, 0, 99), (138, 2, 138, 1, 1, 0), (141, 1, 151, 2, 1, 7), (145, 1, 148, 0, 1, 7), (148, 1, 150, 1, 1, 7), (151, 0, 7, 17, 0, 0), (154, 0, 7, 16, 0, 0), (157, 1, 153, 0, 0, 7), (160, 1, 154, 0, 1, 7), (163, 2, 141, 1, 1, 0), (166, 1, 136, 1, 1, 7), (169, 1, 142, 1, 1, 7), (172, 21, 0, 0, 0, 5), (174, 21, 0, 0, 0, 999), (176, 21, 0, 0, 0, (-1)), (178, 21, 0, 0, 0, 9), (180, 1, 160, 1, 1, 7), (183, 1, 161, 2, 1, 7), (186, 1, 162, 0, 1, 7), (189, 1, 143, 2, 1, 7), (192, 1, 164, 2, 1, 7), (195, 1, 165, 2, 1, 7), (198, 1, 167, 2, 1, 7), (201, 1, 166, 2, 0, 7), (205, 1, 169, 1, 1, 7), (208, 20, 0, 0, 0, 1000000), (209, 0, 7, 23, 0, 0), (212, 1, 171, 0, 1, 7), (215, 1, 172, 0, 1, 7), (218, 1, 175, 0, 0, 7), (221, 1, 176, 0, 0, 7), (224, 0, 7, 25, 0, 0), (227, 0, 7, 26, 0, 0), (230, 1, 177, 1, 1, 7), (233, 1, 178, 1, 1, 7), (236, 1, 179, 0, 0, 7), (239, 1, 140, 2, 1, 7), (242, 1, 181, 1, 1, 7), (245, 1, 137, 1, 1, 7), (248, 1, 186, 2, 0, 7), (251, 0, 7, 29, 0, 0), (254, 0, 7, 30, 0, 0), (257, 1, 182, 0, 1, 7), (260, 1, 184, 1, 1, 7), (263, 1, 185, 3, 1, 7), (267, 1, 187, 1, 0, 7), (271, 1, 191, 0, 0, 7), (274, 1, 189, 1, 1, 7), (277, 1, 190, 0, 1, 7), (280, 1, 193, 0, 0, 7), (283, 1, 194, 0, 0, 7), (286, 21, 0, 0, 0, 30), (288, 20, 0, 0, 0, 1103515245), (289, 20, 0, 0, 0, 2147483647), (290, 20, 0, 0, 0, 65536), (291, 20, 0, 0, 0, (-1000000001)), (292, 1, 199, 1, 1, 7), (295, 20, 0, 0, 0, (-1000000003)), (296, 20, 0, 0, 0, (-1000000004)), (297, 20, 0, 0, 0, (-2147483648)), (298, 1, 203, 1, 1, 7), (301, 0, 7, 9, 1, 0), (305, 2, 208, 2, 1, 0), (308, 1, 214, 1, 1, 7)]
def lk_RL : List (Nat × mv_K) := [(7, 42, 122, 2, 3, 6), (8, 32, 6, 0, 0, 0), (13, 33, 3, 6, 0, 0), (15, 33, 1, 6, 0, 0), (17, 3, 91, 0, 0, 0), (18, 32, 7, 0, 0, 0), (20, 3, 132, 0, 0, 0), (21, 1, 92, 1, 1, 6), (25, 1, 152, 1, 1, 7), (26, 1, 93, 2, 1, 6), (30, 1, 156, 2, 1, 7), (31, 1, 94, 1, 1, 6), (34, 1, 157, 1, 1, 7), (35, 1, 95, 2, 1, 6), (38, 1, 158, 2, 1, 7), (39, 1, 96, 2, 1, 6), (42, 1, 159, 2, 1, 7), (43, 1, 97, 1, 1, 6), (46, 1, 163, 1, 1, 7), (47, 1, 98, 1, 1, 6), (50, 1, 155, 1, 1, 7), (51, 1, 99, 2, 1, 6), (54, 1, 167, 2, 1, 7), (55, 1, 100, 2, 1, 6), (58, 1, 168, 2, 1, 7), (59, 1, 101, 1, 1, 6), (62, 1, 170, 1, 1, 7), (63, 1, 102, 0, 1, 6), (67, 1, 173, 0, 1, 7), (68, 1, 103, 1, 1, 6), (71, 1, 174, 1, 1, 7), (72, 1, 104, 1, 1, 6), (75, 1, 180, 1, 1, 7), (76, 1, 105, 2, 1, 6), (79, 1, 183, 2, 1, 7), (80, 1, 106, 2, 1, 6), (83, 1, 188, 2, 1, 7), (84, 1, 107, 0, 1, 6), (87, 1, 192, 0, 1, 7), (88, 1, 108, 0, 1, 6), (91, 1, 195, 0, 1, 7), (92, 1, 109, 0, 1, 6), (95, 1, 196, 0, 1, 7), (96, 1, 110, 3, 1, 6), (100, 1, 197, 3, 1, 7), (101, 1, 111, 4, 1, 6), (105, 1, 198, 4, 1, 7), (106, 1, 112, 2, 1, 6), (109, 1, 200, 2, 1, 7), (110, 1, 113, 2, 1, 6), (113, 1, 201, 2, 1, 7), (114, 1, 114, 1, 1, 6), (117, 1, 202, 1, 1, 7), (118, 1, 115, 1, 1, 6), (121, 1, 204, 1, 1, 7), (122, 1, 116, 0, 1, 6), (125, 1, 205, 0, 1, 7), (126, 1, 117, 0, 1, 6), (129, 1, 206, 0, 1, 7), (130, 1, 118, 1, 1, 6), (133, 1, 207, 1, 1, 7), (134, 1, 119, 3, 1, 6), (137, 1, 209, 3, 1, 7), (138, 1, 120, 3, 1, 6), (141, 1, 210, 3, 1, 7), (142, 1, 121, 3, 1, 6), (145, 1, 211, 3, 1, 7), (146, 41, 218, 4, 1, 0), (151, 1, 212, 2, 3, 7), (152, 1, 133, 0, 1, 7), (155, 1, 123, 5, 1, 6), (159, 1, 213, 5, 1, 7), (160, 1, 124, 1, 1, 6), (163, 1, 215, 1, 1, 7), (164, 40, 125, 1, 1, 6), (167, 1, 216, 1, 1, 7)]
def lk_RJ7 : List (Nat × mv_K) := []
def mc_0 : List (Nat × Instr × Nat) := [(0, .aload_n 0, 1), (1, .invokespecial 3, 3), (4, .aload_n 0, 1), (5, .sipush 160, 3), (8, .newarray .int, 2), (10, .putfield 9, 3), (13, .aload_n 0, 1), (14, .sipush 160, 3), (17, .newarray .int, 2), (19, .putfield 15, 3), (22, .aload_n 0, 1), (23, .bipush 16, 2), (25, .newarray .int, 2), (27, .putfield 18, 3), (30, .aload_n 0, 1), (31, .bipush 16, 2), (33, .newarray .int, 2), (35, .putfield 21, 3), (38, .aload_n 0, 1), (39, .iconst (-1), 1), (40, .putfield 24, 3), (43, .aload_n 0, 1), (44, .iconst (-1), 1), (45, .putfield 28, 3), (48, .return_, 1)]
def mm_0 : mv_M := (1, 4, mc_0, lk_RX0, [])
def mc_1 : List (Nat × Instr × Nat) := [(0, .aload_n 1, 1), (1, .getfield 31, 3), (4, .iconst 0, 1), (5, .aload_n 3, 1), (6, .iconst 0, 1), (7, .bipush 16, 2), (9, .invokestatic 36, 3), (12, .aload_n 1, 1), (13, .iload_n 2, 1), (14, .invokevirtual 42, 3), (17, .astore 4, 2), (19, .aload 4, 2), (21, .ifnonnull 4, 3), (24, .return_, 1), (25, .aload 4, 2), (27, .getfield 46, 3), (30, .tableswitch 197 1 7 #[42, 71, 96, 157, 171, 179, 125], 42), (72, .aload_n 1, 1), (73, .iload_n 2, 1), (74, .aload_n 0, 1), (75, .getfield 9, 3), (78, .invokestatic 51, 3), (81, .aload_n 0, 1), (82, .aload_n 1, 1), (83, .aload_n 0, 1), (84, .getfield 9, 3), (87, .bipush 6, 2), (89, .iconst 0, 1), (90, .invokevirtual 55, 3), (93, .aload_n 0, 1), (94, .aload_n 3, 1), (95, .invokevirtual 59, 3), (98, .goto 129, 3), (101, .aload_n 0, 1), (102, .aload_n 1, 1), (103, .invokevirtual 63, 3), (106, .aload_n 0, 1), (107, .aload_n 1, 1), (108, .aload_n 0, 1), (109, .getfield 9, 3), (112, .bipush 6, 2), (114, .iconst 0, 1), (115, .invokevirtual 55, 3), (118, .aload_n 0, 1), (119, .aload_n 3, 1), (120, .invokevirtual 59, 3), (123, .goto 104, 3), (126, .aload_n 1, 1), (127, .iload_n 2, 1), (128, .aload_n 0, 1), (129, .getfield 9, 3), (132, .invokestatic 51, 3), (135, .aload_n 0, 1), (136, .aload_n 1, 1), (137, .aload_n 0, 1), (138, .getfield 9, 3), (141, .bipush 6, 2), (143, .iconst 1, 1), (144, .invokevirtual 55, 3), (147, .aload_n 0, 1), (148, .aload_n 3, 1), (149, .invokevirtual 59, 3), (152, .goto 75, 3), (155, .aload_n 1, 1), (156, .iload_n 2, 1), (157, .aload_n 0, 1), (158, .getfield 9, 3), (161, .invokestatic 51, 3), (164, .aload_n 0, 1), (165, .aload_n 1, 1), (166, .aload_n 0, 1), (167, .getfield 9, 3), (170, .aload 4, 2), (172, .getfield 67, 3), (175, .iconst 1, 1), (176, .invokevirtual 55, 3), (179, .aload_n 0, 1), (180, .aload_n 3, 1), (181, .invokevirtual 59, 3), (184, .goto 43, 3), (187, .aload_n 0, 1), (188, .aload_n 1, 1), (189, .iload_n 2, 1), (190, .invokevirtual 70, 3), (193, .aload_n 0, 1), (194, .aload_n 3, 1), (195, .invokevirtual 59, 3), (198, .goto 29, 3), (201, .aload_n 1, 1), (202, .aload_n 3, 1), (203, .invokestatic 74, 3), (206, .goto 21, 3), (209, .aload_n 1, 1), (210, .aload_n 3, 1), (211, .invokestatic 74, 3), (214, .aload_n 1, 1), (215, .aload 4, 2), (217, .getfield 67, 3), (220, .aload_n 3, 1), (221, .invokestatic 78, 3), (224, .goto 3, 3), (227, .return_, 1)]
def mm_1 : mv_M := (5, 4, mc_1, lk_RX0, [])
def mc_2 : List (Nat × Instr × Nat) := [(0, .aload_n 0, 1), (1, .getfield 24, 3), (4, .ifCond .lt 30, 3), (7, .aload_n 0, 1), (8, .getfield 28, 3), (11, .ifCond .lt 23, 3), (14, .aload_n 1, 1), (15, .aload_n 0, 1), (16, .getfield 24, 3), (19, .dup2, 1), (20, .iaload, 1), (21, .iconst 1, 1), (22, .isub, 1), (23, .iastore, 1), (24, .aload_n 1, 1), (25, .aload_n 0, 1), (26, .getfield 28, 3), (29, .dup2, 1), (30, .iaload, 1), (31, .iconst 1, 1), (32, .iadd, 1), (33, .iastore, 1), (34, .return_, 1)]
def mm_2 : mv_M := (2, 4, mc_2, lk_RX0, [])
def mc_3 : List (Nat × Instr × Nat) := [(0, .iconst 0, 1), (1, .istore_n 2, 1), (2, .iload_n 2, 1), (3, .aload_n 0, 1), (4, .getfield 81, 3), (7, .if_icmp .ge 17, 3), (10, .aload_n 1, 1), (11, .iload_n 2, 1), (12, .aload_n 0, 1), (13, .iload_n 2, 1), (14, .invokevirtual 84, 3), (17, .iastore, 1), (18, .iinc 2 1, 3), (21, .goto (-19), 3), (24, .return_, 1)]
def mm_3 : mv_M := (3, 4, mc_3, lk_RX0, [(2, [0, 1, 2])])
def mc_4 : List (Nat × Instr × Nat) := [(0, .aload_n 0, 1), (1, .iload_n 1, 1), (2, .invokevirtual 88, 3), (5, .ifCond .eq 16, 3), (8, .aload_n 2, 1), (9, .iload_n 1, 1), (10, .iaload, 1), (11, .ifCond .le 10, 3), (14, .aload_n 2, 1), (15, .iload_n 1, 1), (16, .dup2, 1), (17, .iaload, 1), (18, .iconst 1, 1), (19, .isub, 1), (20, .iastore, 1), (21, .return_, 1)]
def mm_4 : mv_M := (3, 4, mc_4, lk_RX0, [])
def mc_5 : List (Nat × Instr × Nat) := [(0, .aload_n 2, 1), (1, .iconst 0, 1), (2, .invokestatic 92, 3), (5, .aload_n 0, 1), (6, .iload_n 1, 1), (7, .aload_n 2, 1), (8, .invokestatic 98, 3), (11, .return_, 1)]
def mm_5 : mv_M := (3, 4, mc_5, lk_RX0, [])
def mc_6 : List (Nat × Instr × Nat) := [(0, .aload_n 0, 1), (1, .getfield 9, 3), (4, .iconst 0, 1), (5, .invokestatic 92, 3), (8, .iconst 0, 1), (9, .istore_n 2, 1), (10, .iload_n 2, 1), (11, .aload_n 1, 1), (12, .getfield 101, 3), (15, .if_icmp .ge 18, 3), (18, .aload_n 1, 1), (19, .iload_n 2, 1), (20, .aload_n 0, 1), (21, .getfield 9, 3), (24, .invokestatic 98, 3), (27, .iinc 2 1, 3), (30, .goto (-20), 3), (33, .return_, 1)]
def mm_6 : mv_M := (3, 4, mc_6, lk_RX0, [(10, [0, 1, 2])])
def mc_7 : List (Nat × Instr × Nat) := [(0, .iconst 0, 1), (1, .istore_n 3, 1), (2, .iload_n 3, 1), (3, .aload_n 0, 1), (4, .getfield 104, 3), (7, .iload_n 1, 1), (8, .iaload, 1), (9, .if_icmp .ge 62, 3), (12, .iload_n 1, 1), (13, .iconst 4, 1), (14, .imul, 1), (15, .iload_n 3, 1), (16, .iadd, 1), (17, .istore 4, 2), (19, .aload_n 0, 1), (20, .getfield 107, 3), (23, .iload 4, 2), (25, .iaload, 1), (26, .bipush 10, 2), (28, .imul, 1), (29, .istore 5, 2), (31, .iconst 0, 1), (32, .istore 6, 2), (34, .iload 6, 2), (36, .bipush 10, 2), (38, .if_icmp .ge 27, 3), (41, .aload_n 2, 1), (42, .iload 5, 2), (44, .iload 6, 2), (46, .iadd, 1), (47, .dup2, 1), (48, .iaload, 1), (49, .aload_n 0, 1), (50, .iload 4, 2), (52, .iload 6, 2), (54, .invokevirtual 110, 3), (57, .iadd, 1), (58, .iastore, 1), (59, .iinc 6 1, 3), (62, .goto (-28), 3), (65, .iinc 3 1, 3), (68, .goto (-66), 3), (71, .return_, 1)]
def mm_7 : mv_M := (7, 4, mc_7, lk_RX0, [(2, [0, 1, 2, 3]), (34, [0, 1, 2, 3, 4, 5, 6])])
def mc_8 : List (Nat × Instr × Nat) := [(0, .aload_n 0, 1), (1, .iconst (-1), 1), (2, .putfield 24, 3), (5, .aload_n 0, 1), (6, .iconst (-1), 1), (7, .putfield 28, 3), (10, .iconst 0, 1), (11, .istore 5, 2), (13, .aload_n 0, 1), (14, .aload_n 1, 1), (15, .aload_n 2, 1), (16, .invokevirtual 114, 3), (19, .istore 6, 2), (21, .iconst 0, 1), (22, .istore 7, 2), (24, .iload 7, 2), (26, .aload_n 1, 1), (27, .getfield 81, 3), (30, .if_icmp .ge 137, 3), (33, .aload_n 0, 1), (34, .getfield 18, 3), (37, .iload 7, 2), (39, .iaload, 1), (40, .iload 6, 2), (42, .iadd, 1), (43, .iload 5, 2), (45, .if_icmp .gt 6, 3), (48, .goto 113, 3), (51, .iconst 0, 1), (52, .istore 8, 2), (54, .iload 8, 2), (56, .aload_n 1, 1), (57, .getfield 81, 3), (60, .if_icmp .ge 101, 3), (63, .iload 7, 2), (65, .iload 8, 2), (67, .if_icmp .eq 88, 3), (70, .aload_n 0, 1), (71, .getfield 21, 3), (74, .iload 8, 2), (76, .iaload, 1), (77, .ldc 118, 2), (79, .if_icmp .eq 76, 3), (82, .aload_n 1, 1), (83, .iload 7, 2), (85, .iload 8, 2), (87, .invokevirtual 119, 3), (90, .iload_n 3, 1), (91, .if_icmp .le 6, 3), (94, .goto 61, 3), (97, .aload_n 0, 1), (98, .getfield 18, 3), (101, .iload 7, 2), (103, .iaload, 1), (104, .aload_n 0, 1), (105, .getfield 21, 3), (108, .iload 8, 2), (110, .iaload, 1), (111, .iadd, 1), (112, .iload 4, 2), (114, .ifCond .eq 14, 3), (117, .aload_n 1, 1), (118, .iload 7, 2), (120, .iload 8, 2), (122, .invokevirtual 122, 3), (125, .goto 4, 3), (128, .iconst 0, 1), (129, .isub, 1), (130, .istore 9, 2), (132, .iload 9, 2), (134, .iload 5, 2), (136, .if_icmp .le 19, 3), (139, .iload 9, 2), (141, .istore 5, 2), (143, .aload_n 0, 1), (144, .iload 7, 2), (146, .putfield 24, 3), (149, .aload_n 0, 1), (150, .iload 8, 2), (152, .putfield 28, 3), (155, .iinc 8 1, 3), (158, .goto (-104), 3), (161, .iinc 7 1, 3), (164, .goto (-140), 3), (167, .return_, 1)]
def mm_8 : mv_M := (10, 4, mc_8, lk_RX0, [(24, [0, 1, 3, 4, 5, 6, 7]), (54, [0, 1, 3, 4, 5, 6, 7, 8])])
def mc_9 : List (Nat × Instr × Nat) := [(0, .ldc 118, 2), (2, .istore_n 3, 1), (3, .iconst 0, 1), (4, .istore 4, 2), (6, .iload 4, 2), (8, .aload_n 1, 1), (9, .getfield 81, 3), (12, .if_icmp .ge 111, 3), (15, .iload 4, 2), (17, .bipush 10, 2), (19, .imul, 1), (20, .aload_n 1, 1), (21, .getfield 31, 3), (24, .iload 4, 2), (26, .iaload, 1), (27, .iadd, 1), (28, .istore 5, 2), (30, .aload_n 0, 1), (31, .getfield 18, 3), (34, .iload 4, 2), (36, .aload_n 1, 1), (37, .iload 4, 2), (39, .invokevirtual 125, 3), (42, .ifCond .eq 17, 3), (45, .aload_n 2, 1), (46, .iload 5, 2), (48, .iconst 1, 1), (49, .isub, 1), (50, .iaload, 1), (51, .aload_n 2, 1), (52, .iload 5, 2), (54, .iaload, 1), (55, .isub, 1), (56, .goto 5, 3), (59, .ldc 118, 2), (61, .iastore, 1), (62, .aload_n 0, 1), (63, .getfield 21, 3), (66, .iload 4, 2), (68, .aload_n 1, 1), (69, .iload 4, 2), (71, .invokevirtual 128, 3), (74, .ifCond .eq 17, 3), (77, .aload_n 2, 1), (78, .iload 5, 2), (80, .iconst 1, 1), (81, .iadd, 1), (82, .iaload, 1), (83, .aload_n 2, 1), (84, .iload 5, 2), (86, .iaload, 1), (87, .isub, 1), (88, .goto 5, 3), (91, .ldc 118, 2), (93, .iastore, 1), (94, .aload_n 0, 1), (95, .getfield 21, 3), (98, .iload 4, 2), (100, .iaload, 1), (101, .iload_n 3, 1), (102, .if_icmp .le 13, 3), (105, .aload_n 0, 1), (106, .getfield 21, 3), (109, .iload 4, 2), (111, .iaload, 1), (112, .goto 4, 3), (115, .iload_n 3, 1), (116, .istore_n 3, 1), (117, .iinc 4 1, 3), (120, .goto (-114), 3), (123, .iload_n 3, 1), (124, .ireturn, 1)]
def mm_9 : mv_M := (6, 0, mc_9, lk_RX0, [(6, [0, 1, 2, 3, 4]), (61, [0, 1, 2, 3, 4, 5])])
def mc_10 : List (Nat × Instr × Nat) := [(0, .iload_n 2, 1), (1, .iconst 1, 1), (2, .iadd, 1), (3, .aload_n 1, 1), (4, .getfield 101, 3), (7, .if_icmp .ge 9, 3), (10, .iload_n 2, 1), (11, .iconst 1, 1), (12, .iadd, 1), (13, .goto 4, 3), (16, .iconst 0, 1), (17, .istore_n 3, 1), (18, .aload_n 1, 1), (19, .iload_n 2, 1), (20, .aload_n 0, 1), (21, .getfield 9, 3), (24, .invokestatic 51, 3), (27, .aload_n 1, 1), (28, .iload_n 3, 1), (29, .aload_n 0, 1), (30, .getfield 15, 3), (33, .invokestatic 51, 3), (36, .aload_n 0, 1), (37, .aload_n 1, 1), (38, .invokevirtual 131, 3), (41, .istore 4, 2), (43, .iconst (-1), 1), (44, .istore 5, 2), (46, .iconst (-1), 1), (47, .istore 6, 2), (49, .iconst 0, 1), (50, .istore 7, 2), (52, .iload 7, 2), (54, .aload_n 1, 1), (55, .getfield 81, 3), (58, .if_icmp .ge 83, 3), (61, .iconst 0, 1), (62, .istore 8, 2), (64, .iload 8, 2), (66, .aload_n 1, 1), (67, .getfield 81, 3), (70, .if_icmp .ge 65, 3), (73, .aload_n 1, 1), (74, .iload 7, 2), (76, .iload 8, 2), (78, .invokevirtual 135, 3), (81, .ifCond .ne 6, 3), (84, .goto 45, 3), (87, .aload_n 1, 1), (88, .iload 7, 2), (90, .iload 8, 2), (92, .invokevirtual 139, 3), (95, .aload_n 0, 1), (96, .aload_n 1, 1), (97, .invokevirtual 131, 3), (100, .istore 9, 2), (102, .aload_n 1, 1), (103, .iload 8, 2), (105, .iload 7, 2), (107, .invokevirtual 139, 3), (110, .iload 9, 2), (112, .iload 4, 2), (114, .if_icmp .le 15, 3), (117, .iload 9, 2), (119, .istore 4, 2), (121, .iload 7, 2), (123, .istore 5, 2), (125, .iload 8, 2), (127, .istore 6, 2), (129, .iinc 8 1, 3), (132, .goto (-68), 3), (135, .iinc 7 1, 3), (138, .goto (-86), 3), (141, .aload_n 0, 1), (142, .iload 5, 2), (144, .putfield 24, 3), (147, .aload_n 0, 1), (148, .iload 6, 2), (150, .putfield 28, 3), (153, .return_, 1)]
def mm_10 : mv_M := (10, 4, mc_10, lk_RX0, [(52, [0, 1, 4, 5, 6, 7]), (64, [0, 1, 4, 5, 6, 7, 8])])
def mc_11 : List (Nat × Instr × Nat) := [(0, .aload_n 0, 1), (1, .aload_n 1, 1), (2, .aload_n 0, 1), (3, .getfield 15, 3), (6, .bipush 6, 2), (8, .iconst 0, 1), (9, .invokevirtual 55, 3), (12, .aload_n 0, 1), (13, .getfield 24, 3), (16, .ifCond .lt 10, 3), (19, .aload_n 0, 1), (20, .getfield 28, 3), (23, .ifCond .ge 9, 3), (26, .aload_n 0, 1), (27, .aload_n 1, 1), (28, .invokevirtual 143, 3), (31, .ireturn, 1), (32, .aload_n 1, 1), (33, .getfield 146, 3), (36, .iconst 2, 1), (37, .if_icmp .ne 14, 3), (40, .aload_n 1, 1), (41, .invokevirtual 149, 3), (44, .ifCond .eq 7, 3), (47, .iconst 1, 1), (48, .goto 4, 3), (51, .iconst 0, 1), (52, .istore_n 2, 1), (53, .iconst 2, 1), (54, .aload_n 1, 1), (55, .aload_n 0, 1), (56, .getfield 24, 3), (59, .aload_n 0, 1), (60, .getfield 28, 3), (63, .invokevirtual 119, 3), (66, .imul, 1), (67, .aload_n 1, 1), (68, .getfield 153, 3), (71, .if_icmp .gt 7, 3), (74, .iconst 1, 1), (75, .goto 4, 3), (78, .iconst 0, 1), (79, .istore_n 3, 1), (80, .aload_n 1, 1), (81, .aload_n 0, 1), (82, .getfield 24, 3), (85, .aload_n 0, 1), (86, .getfield 28, 3), (89, .invokevirtual 139, 3), (92, .iload_n 3, 1), (93, .ifCond .eq 18, 3), (96, .iload_n 2, 1), (97, .ifCond .eq 10, 3), (100, .aload_n 1, 1), (101, .invokevirtual 149, 3), (104, .ifCond .eq 7, 3), (107, .iconst 1, 1), (108, .goto 4, 3), (111, .iconst 0, 1), (112, .istore 4, 2), (114, .iload 4, 2), (116, .ifCond .ne 15, 3), (119, .aload_n 1, 1), (120, .aload_n 0, 1), (121, .getfield 28, 3), (124, .aload_n 0, 1), (125, .getfield 24, 3), (128, .invokevirtual 139, 3), (131, .aload_n 0, 1), (132, .aload_n 1, 1), (133, .invokevirtual 143, 3), (136, .istore 5, 2), (138, .iload 4, 2), (140, .ifCond .eq 15, 3), (143, .aload_n 1, 1), (144, .aload_n 0, 1), (145, .getfield 28, 3), (148, .aload_n 0, 1), (149, .getfield 24, 3), (152, .invokevirtual 139, 3), (155, .iload 5, 2), (157, .ireturn, 1)]
def mm_11 : mv_M := (6, 0, mc_11, lk_RX0, [(79, [0, 1, 2])])
def mc_12 : List (Nat × Instr × Nat) := [(0, .iconst 0, 1), (1, .istore_n 2, 1), (2, .iconst 0, 1), (3, .istore_n 3, 1), (4, .iload_n 3, 1), (5, .aload_n 1, 1), (6, .getfield 81, 3), (9, .if_icmp .ge 28, 3), (12, .iload_n 2, 1), (13, .aload_n 0, 1), (14, .getfield 9, 3), (17, .iload_n 3, 1), (18, .bipush 10, 2), (20, .imul, 1), (21, .aload_n 1, 1), (22, .getfield 31, 3), (25, .iload_n 3, 1), (26, .iaload, 1), (27, .iadd, 1), (28, .iaload, 1), (29, .iadd, 1), (30, .istore_n 2, 1), (31, .iinc 3 1, 3), (34, .goto (-30), 3), (37, .iload_n 2, 1), (38, .ireturn, 1)]
def mm_12 : mv_M := (4, 0, mc_12, lk_RX0, [(4, [0, 1, 2, 3])])
def mc_13 : List (Nat × Instr × Nat) := [(0, .aload_n 0, 1), (1, .invokespecial 3, 3), (4, .aload_n 0, 1), (5, .iconst 0, 1), (6, .putfield 9, 3), (9, .aload_n 0, 1), (10, .iconst 0, 1), (11, .putfield 15, 3), (14, .aload_n 0, 1), (15, .bipush 16, 2), (17, .newarray .int, 2), (19, .putfield 18, 3), (22, .aload_n 0, 1), (23, .iconst 0, 1), (24, .putfield 22, 3), (27, .aload_n 0, 1), (28, .iconst 0, 1), (29, .putfield 25, 3), (32, .aload_n 0, 1), (33, .bipush 16, 2), (35, .newarray .int, 2), (37, .putfield 28, 3), (40, .aload_n 0, 1), (41, .bipush 16, 2), (43, .newarray .int, 2), (45, .putfield 31, 3), (48, .aload_n 0, 1), (49, .bipush 16, 2), (51, .newarray .int, 2), (53, .putfield 34, 3), (56, .aload_n 0, 1), (57, .bipush 16, 2), (59, .newarray .int, 2), (61, .putfield 37, 3), (64, .aload_n 0, 1), (65, .bipush 16, 2), (67, .bipush 16, 2), (69, .multianewarray 40 2, 4), (73, .putfield 42, 3), (76, .aload_n 0, 1), (77, .bipush 16, 2), (79, .newarray .int, 2), (81, .putfield 45, 3), (84, .aload_n 0, 1), (85, .bipush 16, 2), (87, .newarray .int, 2), (89, .putfield 48, 3), (92, .aload_n 0, 1), (93, .bipush 16, 2), (95, .newarray .int, 2), (97, .putfield 51, 3), (100, .aload_n 0, 1), (101, .bipush 16, 2), (103, .newarray .int, 2), (105, .putfield 54, 3), (108, .return_, 1)]
def mm_13 : mv_M := (1, 4, mc_13, lk_RX1, [])
def mc_14 : List (Nat × Instr × Nat) := [(0, .aload_n 0, 1), (1, .iconst 0, 1), (2, .putfield 9, 3), (5, .aload_n 0, 1), (6, .aload_n 1, 1), (7, .getfield 57, 3), (10, .putfield 15, 3), (13, .aload_n 1, 1), (14, .getfield 62, 3), (17, .ifCond .eq 29, 3), (20, .aload_n 0, 1), (21, .aload_n 1, 1), (22, .aload_n 1, 1), (23, .getfield 62, 3), (26, .iconst 2, 1), (27, .if_icmp .ne 14, 3), (30, .aload_n 1, 1), (31, .invokevirtual 65, 3), (34, .ifCond .eq 7, 3), (37, .iconst 1, 1), (38, .goto 4, 3), (41, .iconst 0, 1), (42, .invokevirtual 69, 3), (45, .return_, 1), (46, .aload_n 0, 1), (47, .aload_n 1, 1), (48, .aload_n 1, 1), (49, .getfield 73, 3), (52, .invokevirtual 76, 3), (55, .istore_n 2, 1), (56, .iload_n 2, 1), (57, .ifCond .lt 26, 3), (60, .iload_n 2, 1), (61, .aload_n 1, 1), (62, .getfield 57, 3), (65, .if_icmp .gt 18, 3), (68, .aload_n 0, 1), (69, .aload_n 1, 1), (70, .getfield 57, 3), (73, .iload_n 2, 1), (74, .isub, 1), (75, .putfield 15, 3), (78, .aload_n 0, 1), (79, .aload_n 1, 1), (80, .invokevirtual 80, 3), (83, .return_, 1)]
def mm_14 : mv_M := (3, 4, mc_14, lk_RX1, [])
def mc_15 : List (Nat × Instr × Nat) := [(0, .iconst 0, 1), (1, .istore_n 2, 1), (2, .iload_n 2, 1), (3, .aload_n 1, 1), (4, .getfield 84, 3), (7, .if_icmp .ge 43, 3), (10, .aload_n 0, 1), (11, .dup, 1), (12, .getfield 9, 3), (15, .iconst 0, 1), (16, .aload_n 0, 1), (17, .getfield 18, 3), (20, .iload_n 2, 1), (21, .iaload, 1), (22, .invokestatic 87, 3), (25, .iadd, 1), (26, .putfield 9, 3), (29, .aload_n 1, 1), (30, .getfield 93, 3), (33, .iload_n 2, 1), (34, .dup2, 1), (35, .iaload, 1), (36, .aload_n 0, 1), (37, .getfield 18, 3), (40, .iload_n 2, 1), (41, .iaload, 1), (42, .isub, 1), (43, .iastore, 1), (44, .iinc 2 1, 3), (47, .goto (-45), 3), (50, .return_, 1)]
def mm_15 : mv_M := (3, 4, mc_15, lk_RX1, [(2, [0, 1, 2])])
def mc_16 : List (Nat × Instr × Nat) := [(0, .aload_n 0, 1), (1, .aload_n 1, 1), (2, .aload_n 1, 1), (3, .getfield 73, 3), (6, .invokevirtual 96, 3), (9, .iconst 1, 1), (10, .istore_n 3, 1), (11, .iload_n 3, 1), (12, .bipush 6, 2), (14, .if_icmp .gt 81, 3), (17, .iconst 0, 1), (18, .istore 4, 2), (20, .iload 4, 2), (22, .aload_n 1, 1), (23, .getfield 84, 3), (26, .if_icmp .ge 63, 3), (29, .iconst 0, 1), (30, .istore 5, 2), (32, .aload_n 0, 1), (33, .getfield 18, 3), (36, .iload 4, 2), (38, .iaload, 1), (39, .ifCond .le 44, 3), (42, .iload 5, 2), (44, .aload_n 1, 1), (45, .getfield 84, 3), (48, .if_icmp .ge 35, 3), (51, .aload_n 1, 1), (52, .iload 4, 2), (54, .iload 5, 2), (56, .invokevirtual 100, 3), (59, .iload_n 3, 1), (60, .if_icmp .ne 17, 3), (63, .aload_n 0, 1), (64, .aload_n 1, 1), (65, .iload 4, 2), (67, .iload 5, 2), (69, .iload_n 2, 1), (70, .invokevirtual 103, 3), (73, .ifCond .ne 4, 3), (76, .return_, 1), (77, .iinc 5 1, 3), (80, .goto (-48), 3), (83, .iinc 4 1, 3), (86, .goto (-66), 3), (89, .iinc 3 1, 3), (92, .goto (-81), 3), (95, .return_, 1)]
def mm_16 : mv_M := (6, 4, mc_16, lk_RX1, [(11, [0, 1, 2, 3]), (20, [0, 1, 2, 3, 4]), (32, [0, 1, 2, 3, 4, 5])])
def mc_17 : List (Nat × Instr × Nat) := [(0, .aload_n 1, 1), (1, .getfield 107, 3), (4, .iload_n 2, 1), (5, .baload, 1), (6, .ifCond .ne 12, 3), (9, .aload_n 1, 1), (10, .getfield 107, 3), (13, .iload_n 3, 1), (14, .baload, 1), (15, .ifCond .eq 5, 3), (18, .iconst 1, 1), (19, .ireturn, 1), (20, .iconst 2, 1), (21, .aload_n 1, 1), (22, .iload_n 2, 1), (23, .iload_n 3, 1), (24, .invokevirtual 100, 3), (27, .imul, 1), (28, .istore 5, 2), (30, .iconst 0, 1), (31, .istore 6, 2), (33, .iload 6, 2), (35, .bipush 10, 2), (37, .if_icmp .ge 105, 3), (40, .aload_n 0, 1), (41, .getfield 18, 3), (44, .iload_n 2, 1), (45, .iaload, 1), (46, .ifCond .le 96, 3), (49, .aload_n 0, 1), (50, .getfield 18, 3), (53, .iload_n 3, 1), (54, .iaload, 1), (55, .ifCond .ge 87, 3), (58, .aload_n 0, 1), (59, .getfield 15, 3), (62, .iload 5, 2), (64, .if_icmp .ge 5, 3), (67, .iconst 0, 1), (68, .ireturn, 1), (69, .aload_n 1, 1), (70, .iload_n 2, 1), (71, .iload_n 3, 1), (72, .invokevirtual 111, 3), (75, .iload 4, 2), (77, .ifCond .eq 18, 3), (80, .aload_n 1, 1), (81, .invokevirtual 65, 3), (84, .ifCond .ne 11, 3), (87, .aload_n 1, 1), (88, .iload_n 3, 1), (89, .iload_n 2, 1), (90, .invokevirtual 111, 3), (93, .iconst 1, 1), (94, .ireturn, 1), (95, .aload_n 0, 1), (96, .dup, 1), (97, .getfield 15, 3), (100, .iload 5, 2), (102, .isub, 1), (103, .putfield 15, 3), (106, .aload_n 0, 1), (107, .dup, 1), (108, .getfield 9, 3), (111, .iconst 1, 1), (112, .iadd, 1), (113, .putfield 9, 3), (116, .aload_n 0, 1), (117, .getfield 18, 3), (120, .iload_n 2, 1), (121, .dup2, 1), (122, .iaload, 1), (123, .iconst 1, 1), (124, .isub, 1), (125, .iastore, 1), (126, .aload_n 0, 1), (127, .getfield 18, 3), (130, .iload_n 3, 1), (131, .dup2, 1), (132, .iaload, 1), (133, .iconst 1, 1), (134, .iadd, 1), (135, .iastore, 1), (136, .iinc 6 1, 3), (139, .goto (-106), 3), (142, .iconst 1, 1), (143, .ireturn, 1)]
def mm_17 : mv_M := (7, 1, mc_17, lk_RX1, [(33, [0, 1, 2, 3, 4, 5, 6])])
def mc_18 : List (Nat × Instr × Nat) := [(0, .iconst 0, 1), (1, .istore_n 3, 1), (2, .iload_n 3, 1), (3, .aload_n 1, 1), (4, .getfield 84, 3), (7, .if_icmp .ge 36, 3), (10, .aload_n 0, 1), (11, .getfield 18, 3), (14, .iload_n 3, 1), (15, .aload_n 2, 1), (16, .iload_n 3, 1), (17, .iaload, 1), (18, .iconst (-1), 1), (19, .if_icmp .ne 7, 3), (22, .iconst 0, 1), (23, .goto 13, 3), (26, .aload_n 1, 1), (27, .getfield 93, 3), (30, .iload_n 3, 1), (31, .iaload, 1), (32, .aload_n 2, 1), (33, .iload_n 3, 1), (34, .iaload, 1), (35, .isub, 1), (36, .iastore, 1), (37, .iinc 3 1, 3), (40, .goto (-38), 3), (43, .return_, 1)]
def mm_18 : mv_M := (4, 4, mc_18, lk_RX1, [(2, [0, 1, 2, 3])])
def mc_19 : List (Nat × Instr × Nat) := [(0, .aload_n 0, 1), (1, .aload_n 1, 1), (2, .aload_n 2, 1), (3, .invokevirtual 96, 3), (6, .aload_n 0, 1), (7, .aload_n 1, 1), (8, .invokevirtual 115, 3), (11, .ifCond .ne 6, 3), (14, .bipush (-4), 2), (16, .ireturn, 1), (17, .iconst 0, 1), (18, .istore_n 3, 1), (19, .iconst 0, 1), (20, .istore 4, 2), (22, .iload 4, 2), (24, .sipush 1000, 3), (27, .if_icmp .ge 47, 3), (30, .aload_n 0, 1), (31, .aload_n 1, 1), (32, .invokevirtual 119, 3), (35, .aload_n 0, 1), (36, .invokevirtual 122, 3), (39, .istore 5, 2), (41, .iload 5, 2), (43, .ifCond .ge 6, 3), (46, .goto 28, 3), (49, .iload_n 3, 1), (50, .iconst 2, 1), (51, .aload_n 0, 1), (52, .getfield 48, 3), (55, .iload 5, 2), (57, .iaload, 1), (58, .imul, 1), (59, .aload_n 0, 1), (60, .iload 5, 2), (62, .invokevirtual 126, 3), (65, .imul, 1), (66, .iadd, 1), (67, .istore_n 3, 1), (68, .iinc 4 1, 3), (71, .goto (-49), 3), (74, .iload_n 3, 1), (75, .ireturn, 1)]
def mm_19 : mv_M := (6, 0, mc_19, lk_RX1, [(22, [0, 1, 3, 4])])
def mc_20 : List (Nat × Instr × Nat) := [(0, .aload_n 0, 1), (1, .iconst 0, 1), (2, .putfield 22, 3), (5, .aload_n 0, 1), (6, .iconst 0, 1), (7, .putfield 25, 3), (10, .iconst 0, 1), (11, .istore_n 2, 1), (12, .iconst 0, 1), (13, .istore_n 3, 1), (14, .iload_n 3, 1), (15, .aload_n 1, 1), (16, .getfield 84, 3), (19, .if_icmp .ge 114, 3), (22, .aload_n 0, 1), (23, .getfield 18, 3), (26, .iload_n 3, 1), (27, .iaload, 1), (28, .istore 4, 2), (30, .iload 4, 2), (32, .ifCond .eq 14, 3), (35, .aload_n 1, 1), (36, .getfield 107, 3), (39, .iload_n 3, 1), (40, .baload, 1), (41, .ifCond .eq 5, 3), (44, .iconst 0, 1), (45, .ireturn, 1), (46, .iload_n 2, 1), (47, .iload 4, 2), (49, .iadd, 1), (50, .istore_n 2, 1), (51, .iload 4, 2), (53, .ifCond .le 37, 3), (56, .aload_n 0, 1), (57, .getfield 28, 3), (60, .aload_n 0, 1), (61, .getfield 22, 3), (64, .iload_n 3, 1), (65, .iastore, 1), (66, .aload_n 0, 1), (67, .getfield 34, 3), (70, .aload_n 0, 1), (71, .getfield 22, 3), (74, .iload 4, 2), (76, .iastore, 1), (77, .aload_n 0, 1), (78, .dup, 1), (79, .getfield 22, 3), (82, .iconst 1, 1), (83, .iadd, 1), (84, .putfield 22, 3), (87, .goto 40, 3), (90, .iload 4, 2), (92, .ifCond .ge 35, 3), (95, .aload_n 0, 1), (96, .getfield 31, 3), (99, .aload_n 0, 1), (100, .getfield 25, 3), (103, .iload_n 3, 1), (104, .iastore, 1), (105, .aload_n 0, 1), (106, .getfield 37, 3), (109, .aload_n 0, 1), (110, .getfield 25, 3), (113, .iload 4, 2), (115, .ineg, 1), (116, .iastore, 1), (117, .aload_n 0, 1), (118, .dup, 1), (119, .getfield 25, 3), (122, .iconst 1, 1), (123, .iadd, 1), (124, .putfield 25, 3), (127, .iinc 3 1, 3), (130, .goto (-116), 3), (133, .iconst 0, 1), (134, .istore_n 3, 1), (135, .iload_n 3, 1), (136, .aload_n 0, 1), (137, .getfield 22, 3), (140, .if_icmp .ge 19, 3), (143, .aload_n 0, 1), (144, .getfield 42, 3), (147, .iload_n 3, 1), (148, .aaload, 1), (149, .iconst 0, 1), (150, .invokestatic 130, 3), (153, .iinc 3 1, 3), (156, .goto (-21), 3), (159, .iload_n 2, 1), (160, .ifCond .ne 7, 3), (163, .iconst 1, 1), (164, .goto 4, 3), (167, .iconst 0, 1), (168, .ireturn, 1)]
def mm_20 : mv_M := (5, 1, mc_20, lk_RX1, [(14, [0, 1, 2, 3]), (135, [0, 2, 3])])
def mc_21 : List (Nat × Instr × Nat) := [(0, .iconst 0, 1), (1, .istore_n 2, 1), (2, .iload_n 2, 1), (3, .aload_n 0, 1), (4, .getfield 22, 3), (7, .if_icmp .ge 37, 3), (10, .aload_n 0, 1), (11, .getfield 45, 3), (14, .iload_n 2, 1), (15, .aload_n 0, 1), (16, .getfield 34, 3), (19, .iload_n 2, 1), (20, .iaload, 1), (21, .ifCond .le 7, 3), (24, .iconst 0, 1), (25, .goto 5, 3), (28, .ldc 136, 2), (30, .iastore, 1), (31, .aload_n 0, 1), (32, .getfield 51, 3), (35, .iload_n 2, 1), (36, .iconst (-1), 1), (37, .iastore, 1), (38, .iinc 2 1, 3), (41, .goto (-39), 3), (44, .iconst 0, 1), (45, .istore_n 2, 1), (46, .iload_n 2, 1), (47, .aload_n 0, 1), (48, .getfield 25, 3), (51, .if_icmp .ge 24, 3), (54, .aload_n 0, 1), (55, .getfield 48, 3), (58, .iload_n 2, 1), (59, .ldc 136, 2), (61, .iastore, 1), (62, .aload_n 0, 1), (63, .getfield 54, 3), (66, .iload_n 2, 1), (67, .iconst (-1), 1), (68, .iastore, 1), (69, .iinc 2 1, 3), (72, .goto (-26), 3), (75, .iconst 1, 1), (76, .istore_n 2, 1), (77, .iconst 0, 1), (78, .istore_n 3, 1), (79, .iload_n 2, 1), (80, .ifCond .eq 38, 3), (83, .iload_n 3, 1), (84, .sipush 1000, 3), (87, .if_icmp .ge 31, 3), (90, .aload_n 0, 1), (91, .aload_n 1, 1), (92, .invokevirtual 137, 3), (95, .ifCond .eq 15, 3), (98, .aload_n 0, 1), (99, .aload_n 1, 1), (100, .invokevirtual 140, 3), (103, .ifCond .eq 7, 3), (106, .iconst 1, 1), (107, .goto 4, 3), (110, .iconst 0, 1), (111, .istore_n 2, 1), (112, .iinc 3 1, 3), (115, .goto (-36), 3), (118, .return_, 1)]
def mm_21 : mv_M := (4, 4, mc_21, lk_RX1, [(2, [0, 1, 2]), (46, [0, 1, 2]), (79, [0, 1, 2, 3])])
def mc_22 : List (Nat × Instr × Nat) := [(0, .iconst 0, 1), (1, .istore_n 2, 1), (2, .iconst 0, 1), (3, .istore_n 3, 1), (4, .iload_n 3, 1), (5, .aload_n 0, 1), (6, .getfield 22, 3), (9, .if_icmp .ge 95, 3), (12, .iconst 0, 1), (13, .istore 4, 2), (15, .aload_n 0, 1), (16, .getfield 45, 3), (19, .iload_n 3, 1), (20, .iaload, 1), (21, .ldc 136, 2), (23, .if_icmp .ge 75, 3), (26, .iload 4, 2), (28, .aload_n 0, 1), (29, .getfield 25, 3), (32, .if_icmp .ge 66, 3), (35, .aload_n 0, 1), (36, .getfield 45, 3), (39, .iload_n 3, 1), (40, .iaload, 1), (41, .aload_n 1, 1), (42, .aload_n 0, 1), (43, .getfield 28, 3), (46, .iload_n 3, 1), (47, .iaload, 1), (48, .aload_n 0, 1), (49, .getfield 31, 3), (52, .iload 4, 2), (54, .iaload, 1), (55, .invokevirtual 100, 3), (58, .iadd, 1), (59, .istore 5, 2), (61, .iload 5, 2), (63, .aload_n 0, 1), (64, .getfield 48, 3), (67, .iload 4, 2), (69, .iaload, 1), (70, .if_icmp .ge 22, 3), (73, .aload_n 0, 1), (74, .getfield 48, 3), (77, .iload 4, 2), (79, .iload 5, 2), (81, .iastore, 1), (82, .aload_n 0, 1), (83, .getfield 54, 3), (86, .iload 4, 2), (88, .iload_n 3, 1), (89, .iastore, 1), (90, .iconst 1, 1), (91, .istore_n 2, 1), (92, .iinc 4 1, 3), (95, .goto (-80), 3), (98, .iinc 3 1, 3), (101, .goto (-97), 3), (104, .iload_n 2, 1), (105, .ireturn, 1)]
def mm_22 : mv_M := (6, 1, mc_22, lk_RX1, [(4, [0, 1, 2, 3]), (15, [0, 1, 2, 3, 4])])
def mc_23 : List (Nat × Instr × Nat) := [(0, .iconst 0, 1), (1, .istore_n 2, 1), (2, .iconst 0, 1), (3, .istore_n 3, 1), (4, .iload_n 3, 1), (5, .aload_n 0, 1), (6, .getfield 25, 3), (9, .if_icmp .ge 107, 3), (12, .iconst 0, 1), (13, .istore 4, 2), (15, .aload_n 0, 1), (16, .getfield 48, 3), (19, .iload_n 3, 1), (20, .iaload, 1), (21, .ldc 136, 2), (23, .if_icmp .ge 87, 3), (26, .iload 4, 2), (28, .aload_n 0, 1), (29, .getfield 22, 3), (32, .if_icmp .ge 78, 3), (35, .aload_n 0, 1), (36, .getfield 48, 3), (39, .iload_n 3, 1), (40, .iaload, 1), (41, .aload_n 1, 1), (42, .aload_n 0, 1), (43, .getfield 28, 3), (46, .iload 4, 2), (48, .iaload, 1), (49, .aload_n 0, 1), (50, .getfield 31, 3), (53, .iload_n 3, 1), (54, .iaload, 1), (55, .invokevirtual 100, 3), (58, .isub, 1), (59, .istore 5, 2), (61, .aload_n 0, 1), (62, .getfield 42, 3), (65, .iload 4, 2), (67, .aaload, 1), (68, .iload_n 3, 1), (69, .iaload, 1), (70, .ifCond .le 34, 3), (73, .iload 5, 2), (75, .aload_n 0, 1), (76, .getfield 45, 3), (79, .iload 4, 2), (81, .iaload, 1), (82, .if_icmp .ge 22, 3), (85, .aload_n 0, 1), (86, .getfield 45, 3), (89, .iload 4, 2), (91, .iload 5, 2), (93, .iastore, 1), (94, .aload_n 0, 1), (95, .getfield 51, 3), (98, .iload 4, 2), (100, .iload_n 3, 1), (101, .iastore, 1), (102, .iconst 1, 1), (103, .istore_n 2, 1), (104, .iinc 4 1, 3), (107, .goto (-92), 3), (110, .iinc 3 1, 3), (113, .goto (-109), 3), (116, .iload_n 2, 1), (117, .ireturn, 1)]
def mm_23 : mv_M := (6, 1, mc_23, lk_RX1, [(4, [0, 1, 2, 3]), (15, [0, 1, 2, 3, 4])])
def mc_24 : List (Nat × Instr × Nat) := [(0, .iconst (-1), 1), (1, .istore_n 1, 1), (2, .iconst 0, 1), (3, .istore_n 2, 1), (4, .iload_n 2, 1), (5, .aload_n 0, 1), (6, .getfield 25, 3), (9, .if_icmp .ge 50, 3), (12, .aload_n 0, 1), (13, .getfield 37, 3), (16, .iload_n 2, 1), (17, .iaload, 1), (18, .ifCond .le 35, 3), (21, .aload_n 0, 1), (22, .getfield 48, 3), (25, .iload_n 2, 1), (26, .iaload, 1), (27, .ldc 136, 2), (29, .if_icmp .ge 24, 3), (32, .iload_n 1, 1), (33, .ifCond .lt 18, 3), (36, .aload_n 0, 1), (37, .getfield 48, 3), (40, .iload_n 2, 1), (41, .iaload, 1), (42, .aload_n 0, 1), (43, .getfield 48, 3), (46, .iload_n 1, 1), (47, .iaload, 1), (48, .if_icmp .ge 5, 3), (51, .iload_n 2, 1), (52, .istore_n 1, 1), (53, .iinc 2 1, 3), (56, .goto (-52), 3), (59, .iload_n 1, 1), (60, .ireturn, 1)]
def mm_24 : mv_M := (3, 0, mc_24, lk_RX1, [(4, [0, 1, 2])])
def mc_25 : List (Nat × Instr × Nat) := [(0, .aload_n 0, 1), (1, .getfield 37, 3), (4, .iload_n 1, 1), (5, .iaload, 1), (6, .istore_n 2, 1), (7, .aload_n 0, 1), (8, .getfield 54, 3), (11, .iload_n 1, 1), (12, .iaload, 1), (13, .istore_n 3, 1), (14, .iconst 0, 1), (15, .istore 4, 2), (17, .iload 4, 2), (19, .bipush 16, 2), (21, .if_icmp .ge 52, 3), (24, .iload_n 3, 1), (25, .ifCond .lt 48, 3), (28, .aload_n 0, 1), (29, .getfield 51, 3), (32, .iload_n 3, 1), (33, .iaload, 1), (34, .ifCond .lt 39, 3), (37, .aload_n 0, 1), (38, .getfield 51, 3), (41, .iload_n 3, 1), (42, .iaload, 1), (43, .istore 5, 2), (45, .iload_n 2, 1), (46, .aload_n 0, 1), (47, .getfield 42, 3), (50, .iload_n 3, 1), (51, .aaload, 1), (52, .iload 5, 2), (54, .iaload, 1), (55, .invokestatic 143, 3), (58, .istore_n 2, 1), (59, .aload_n 0, 1), (60, .getfield 54, 3), (63, .iload 5, 2), (65, .iaload, 1), (66, .istore_n 3, 1), (67, .iinc 4 1, 3), (70, .goto (-53), 3), (73, .iload_n 3, 1), (74, .ifCond .ge 5, 3), (77, .iconst 0, 1), (78, .ireturn, 1), (79, .iload_n 2, 1), (80, .aload_n 0, 1), (81, .getfield 34, 3), (84, .iload_n 3, 1), (85, .iaload, 1), (86, .invokestatic 143, 3), (89, .istore_n 2, 1), (90, .aload_n 0, 1), (91, .getfield 34, 3), (94, .iload_n 3, 1), (95, .dup2, 1), (96, .iaload, 1), (97, .iload_n 2, 1), (98, .isub, 1), (99, .iastore, 1), (100, .aload_n 0, 1), (101, .getfield 37, 3), (104, .iload_n 1, 1), (105, .dup2, 1), (106, .iaload, 1), (107, .iload_n 2, 1), (108, .isub, 1), (109, .iastore, 1), (110, .iload_n 1, 1), (111, .istore 4, 2), (113, .iconst 0, 1), (114, .istore 5, 2), (116, .iload 5, 2), (118, .bipush 16, 2), (120, .if_icmp .ge 73, 3), (123, .iload 4, 2), (125, .ifCond .lt 68, 3), (128, .aload_n 0, 1), (129, .getfield 54, 3), (132, .iload 4, 2), (134, .iaload, 1), (135, .istore 6, 2), (137, .iload 6, 2), (139, .ifCond .ge 6, 3), (142, .goto 51, 3), (145, .aload_n 0, 1), (146, .getfield 42, 3), (149, .iload 6, 2), (151, .aaload, 1), (152, .iload 4, 2), (154, .dup2, 1), (155, .iaload, 1), (156, .iload_n 2, 1), (157, .iadd, 1), (158, .iastore, 1), (159, .aload_n 0, 1), (160, .getfield 51, 3), (163, .iload 6, 2), (165, .iaload, 1), (166, .istore 4, 2), (168, .iload 4, 2), (170, .ifCond .lt 17, 3), (173, .aload_n 0, 1), (174, .getfield 42, 3), (177, .iload 6, 2), (179, .aaload, 1), (180, .iload 4, 2), (182, .dup2, 1), (183, .iaload, 1), (184, .iload_n 2, 1), (185, .isub, 1), (186, .iastore, 1), (187, .iinc 5 1, 3), (190, .goto (-74), 3), (193, .iload_n 2, 1), (194, .ireturn, 1)]
def mm_25 : mv_M := (7, 0, mc_25, lk_RX1, [(17, [0, 1, 2, 3, 4]), (116, [0, 2, 4, 5])])
def mc_26 : List (Nat × Instr × Nat) := [(0, .aload_n 0, 1), (1, .invokespecial 3, 3), (4, .aload_n 0, 1), (5, .iload_n 1, 1), (6, .putfield 9, 3), (9, .aload_n 0, 1), (10, .iload_n 2, 1), (11, .putfield 15, 3), (14, .aload_n 0, 1), (15, .iload_n 3, 1), (16, .putfield 18, 3), (19, .return_, 1)]
def mm_26 : mv_M := (4, 4, mc_26, lk_RX2, [])
def mc_27 : List (Nat × Instr × Nat) := [(0, .iconst 5, 1), (1, .aload_n 0, 1), (2, .getfield 18, 3), (5, .iadd, 1), (6, .istore_n 1, 1), (7, .iload_n 1, 1), (8, .iconst 2, 1), (9, .isub, 1), (10, .istore_n 2, 1), (11, .iconst 4, 1), (12, .istore_n 3, 1), (13, .aload_n 0, 1), (14, .getfield 15, 3), (17, .tableswitch 69 1 7 #[43, 45, 49, 51, 56, 58, 65], 43), (60, .iload_n 1, 1), (61, .ireturn, 1), (62, .iconst 3, 1), (63, .iload_n 1, 1), (64, .imul, 1), (65, .ireturn, 1), (66, .iload_n 2, 1), (67, .ireturn, 1), (68, .iload_n 1, 1), (69, .bipush 20, 2), (71, .iadd, 1), (72, .ireturn, 1), (73, .iload_n 3, 1), (74, .ireturn, 1), (75, .iload_n 3, 1), (76, .aload_n 0, 1), (77, .getfield 18, 3), (80, .imul, 1), (81, .ireturn, 1), (82, .iload_n 2, 1), (83, .iconst 2, 1), (84, .idiv, 1), (85, .ireturn, 1), (86, .iconst 5, 1), (87, .ireturn, 1)]
def mm_27 : mv_M := (4, 0, mc_27, lk_RX2, [])
def mc_28 : List (Nat × Instr × Nat) := [(0, .aload_n 0, 1), (1, .getfield 15, 3), (4, .iconst 5, 1), (5, .if_icmp .eq 10, 3), (8, .aload_n 0, 1), (9, .getfield 18, 3), (12, .ifCond .ne 4, 3), (15, .return_, 1), (16, .aload_n 0, 1), (17, .getfield 15, 3), (20, .bipush 6, 2), (22, .if_icmp .ne 13, 3), (25, .new 21, 3), (28, .dup, 1), (29, .ldc 23, 2), (31, .invokespecial 25, 3), (34, .athrow, 1), (35, .aload_n 0, 1), (36, .getfield 15, 3), (39, .iconst 4, 1), (40, .if_icmp .ne 13, 3), (43, .new 28, 3), (46, .dup, 1), (47, .ldc 30, 2), (49, .invokespecial 32, 3), (52, .athrow, 1), (53, .new 33, 3), (56, .dup, 1), (57, .ldc 35, 2), (59, .invokespecial 37, 3), (62, .athrow, 1)]
def mm_28 : mv_M := (1, 4, mc_28, lk_RX2, [])
def mc_29 : List (Nat × Instr × Nat) := [(0, .aload_n 0, 1), (1, .invokespecial 3, 3), (4, .aload_n 0, 1), (5, .bipush 60, 2), (7, .putfield 9, 3), (10, .aload_n 0, 1), (11, .iconst 0, 1), (12, .putfield 15, 3), (15, .aload_n 0, 1), (16, .iconst 0, 1), (17, .putfield 18, 3), (20, .aload_n 0, 1), (21, .iconst 0, 1), (22, .putfield 21, 3), (25, .aload_n 0, 1), (26, .bipush 16, 2), (28, .newarray .int, 2), (30, .putfield 24, 3), (33, .aload_n 0, 1), (34, .sipush 256, 3), (37, .newarray .int, 2), (39, .putfield 28, 3), (42, .aload_n 0, 1), (43, .bipush 64, 2), (45, .newarray .int, 2), (47, .putfield 31, 3), (50, .aload_n 0, 1), (51, .bipush 16, 2), (53, .newarray .int, 2), (55, .putfield 34, 3), (58, .aload_n 0, 1), (59, .bipush 16, 2), (61, .newarray .int, 2), (63, .putfield 37, 3), (66, .aload_n 0, 1), (67, .bipush 16, 2), (69, .newarray .boolean, 2), (71, .putfield 40, 3), (74, .aload_n 0, 1), (75, .bipush 6, 2), (77, .anewarray 44, 3), (80, .putfield 46, 3), (83, .aload_n 0, 1), (84, .bipush 6, 2), (86, .newarray .int, 2), (88, .putfield 50, 3), (91, .aload_n 0, 1), (92, .bipush 24, 2), (94, .newarray .int, 2), (96, .putfield 53, 3), (99, .aload_n 0, 1), (100, .bipush 24, 2), (102, .newarray .int, 2), (104, .putfield 56, 3), (107, .aload_n 0, 1), (108, .bipush 24, 2), (110, .newarray .int, 2), (112, .putfield 59, 3), (115, .aload_n 0, 1), (116, .bipush 10, 2), (118, .newarray .int, 2), (120, .putfield 62, 3), (123, .aload_n 0, 1), (124, .iconst 3, 1), (125, .iconst 3, 1), (126, .invokevirtual 65, 3), (129, .return_, 1)]
def mm_29 : mv_M := (1, 4, mc_29, lk_RX3, [])
def mc_30 : List (Nat × Instr × Nat) := [(0, .aload_n 0, 1), (1, .iload_n 1, 1), (2, .putfield 69, 3), (5, .aload_n 0, 1), (6, .iload_n 2, 1), (7, .putfield 72, 3), (10, .aload_n 0, 1), (11, .iload_n 1, 1), (12, .iload_n 2, 1), (13, .imul, 1), (14, .putfield 75, 3), (17, .aload_n 0, 1), (18, .iconst 0, 1), (19, .putfield 78, 3), (22, .aload_n 0, 1), (23, .getfield 34, 3), (26, .iconst 2, 1), (27, .invokestatic 81, 3), (30, .aload_n 0, 1), (31, .getfield 37, 3), (34, .iconst (-1), 1), (35, .invokestatic 81, 3), (38, .iconst 0, 1), (39, .istore_n 3, 1), (40, .iload_n 3, 1), (41, .bipush 16, 2), (43, .if_icmp .ge 16, 3), (46, .aload_n 0, 1), (47, .getfield 40, 3), (50, .iload_n 3, 1), (51, .iconst 0, 1), (52, .bastore, 1), (53, .iinc 3 1, 3), (56, .goto (-16), 3), (59, .iconst 0, 1), (60, .istore_n 3, 1), (61, .iconst 0, 1), (62, .istore 4, 2), (64, .iload 4, 2), (66, .aload_n 0, 1), (67, .getfield 69, 3), (70, .if_icmp .ge 45, 3), (73, .iconst 0, 1), (74, .istore 5, 2), (76, .iload 5, 2), (78, .aload_n 0, 1), (79, .getfield 72, 3), (82, .if_icmp .ge 27, 3), (85, .iload_n 3, 1), (86, .bipush 16, 2), (88, .if_icmp .ge 21, 3), (91, .aload_n 0, 1), (92, .iload_n 3, 1), (93, .iload 4, 2), (95, .iload 5, 2), (97, .invokevirtual 87, 3), (100, .iinc 3 1, 3), (103, .iinc 5 1, 3), (106, .goto (-30), 3), (109, .iinc 4 1, 3), (112, .goto (-48), 3), (115, .return_, 1)]
def mm_30 : mv_M := (6, 4, mc_30, lk_RX3, [(40, [0, 3]), (64, [0, 3, 4]), (76, [0, 3, 4, 5])])
def mc_31 : List (Nat × Instr × Nat) := [(0, .aload_n 0, 1), (1, .getfield 24, 3), (4, .iload_n 1, 1), (5, .iload_n 3, 1), (6, .iastore, 1), (7, .iload_n 1, 1), (8, .iconst 4, 1), (9, .imul, 1), (10, .istore 4, 2), (12, .aload_n 0, 1), (13, .getfield 31, 3), (16, .iload 4, 2), (18, .iload_n 2, 1), (19, .ifCond .le 12, 3), (22, .iload_n 1, 1), (23, .aload_n 0, 1), (24, .getfield 72, 3), (27, .isub, 1), (28, .goto 4, 3), (31, .iconst (-1), 1), (32, .iastore, 1), (33, .aload_n 0, 1), (34, .getfield 31, 3), (37, .iload 4, 2), (39, .iconst 1, 1), (40, .iadd, 1), (41, .iload_n 3, 1), (42, .aload_n 0, 1), (43, .getfield 72, 3), (46, .iconst 1, 1), (47, .isub, 1), (48, .if_icmp .ge 9, 3), (51, .iload_n 1, 1), (52, .iconst 1, 1), (53, .iadd, 1), (54, .goto 4, 3), (57, .iconst (-1), 1), (58, .iastore, 1), (59, .aload_n 0, 1), (60, .getfield 31, 3), (63, .iload 4, 2), (65, .iconst 2, 1), (66, .iadd, 1), (67, .iload_n 2, 1), (68, .aload_n 0, 1), (69, .getfield 69, 3), (72, .iconst 1, 1), (73, .isub, 1), (74, .if_icmp .ge 12, 3), (77, .iload_n 1, 1), (78, .aload_n 0, 1), (79, .getfield 72, 3), (82, .iadd, 1), (83, .goto 4, 3), (86, .iconst (-1), 1), (87, .iastore, 1), (88, .aload_n 0, 1), (89, .getfield 31, 3), (92, .iload 4, 2), (94, .iconst 3, 1), (95, .iadd, 1), (96, .iload_n 3, 1), (97, .ifCond .le 9, 3), (100, .iload_n 1, 1), (101, .iconst 1, 1), (102, .isub, 1), (103, .goto 4, 3), (106, .iconst (-1), 1), (107, .iastore, 1), (108, .iconst 0, 1), (109, .istore 5, 2), (111, .iconst 0, 1), (112, .istore 6, 2), (114, .iload 6, 2), (116, .aload_n 0, 1), (117, .getfield 69, 3), (120, .if_icmp .ge 64, 3), (123, .iconst 0, 1), (124, .istore 7, 2), (126, .iload 7, 2), (128, .aload_n 0, 1), (129, .getfield 72, 3), (132, .if_icmp .ge 46, 3), (135, .iload 5, 2), (137, .bipush 16, 2), (139, .if_icmp .ge 39, 3), (142, .aload_n 0, 1), (143, .getfield 28, 3), (146, .iload_n 1, 1), (147, .bipush 16, 2), (149, .imul, 1), (150, .iload 5, 2), (152, .iadd, 1), (153, .iload_n 2, 1), (154, .iload 6, 2), (156, .isub, 1), (157, .invokestatic 91, 3), (160, .iload_n 3, 1), (161, .iload 7, 2), (163, .isub, 1), (164, .invokestatic 91, 3), (167, .iadd, 1), (168, .iastore, 1), (169, .iinc 5 1, 3), (172, .iinc 7 1, 3), (175, .goto (-49), 3), (178, .iinc 6 1, 3), (181, .goto (-67), 3), (184, .return_, 1)]
def mm_31 : mv_M := (8, 4, mc_31, lk_RX3, [(58, [0, 1, 2, 3, 4]), (114, [0, 1, 2, 3, 5, 6]), (126, [0, 1, 2, 3, 5, 6, 7])])
def mc_32 : List (Nat × Instr × Nat) := [(0, .aload_n 0, 1), (1, .aload_n 1, 1), (2, .getfield 69, 3), (5, .putfield 69, 3), (8, .aload_n 0, 1), (9, .aload_n 1, 1), (10, .getfield 72, 3), (13, .putfield 72, 3), (16, .aload_n 0, 1), (17, .aload_n 1, 1), (18, .getfield 75, 3), (21, .putfield 75, 3), (24, .aload_n 0, 1), (25, .aload_n 1, 1), (26, .getfield 78, 3), (29, .putfield 78, 3), (32, .aload_n 0, 1), (33, .aload_n 1, 1), (34, .getfield 9, 3), (37, .putfield 9, 3), (40, .aload_n 0, 1), (41, .aload_n 1, 1), (42, .getfield 15, 3), (45, .putfield 15, 3), (48, .aload_n 0, 1), (49, .aload_n 1, 1), (50, .getfield 18, 3), (53, .putfield 18, 3), (56, .aload_n 0, 1), (57, .aload_n 1, 1), (58, .getfield 21, 3), (61, .putfield 21, 3), (64, .aload_n 1, 1), (65, .getfield 24, 3), (68, .iconst 0, 1), (69, .aload_n 0, 1), (70, .getfield 24, 3), (73, .iconst 0, 1), (74, .bipush 16, 2), (76, .invokestatic 97, 3), (79, .aload_n 1, 1), (80, .getfield 28, 3), (83, .iconst 0, 1), (84, .aload_n 0, 1), (85, .getfield 28, 3), (88, .iconst 0, 1), (89, .sipush 256, 3), (92, .invokestatic 97, 3), (95, .aload_n 1, 1), (96, .getfield 31, 3), (99, .iconst 0, 1), (100, .aload_n 0, 1), (101, .getfield 31, 3), (104, .iconst 0, 1), (105, .bipush 64, 2), (107, .invokestatic 97, 3), (110, .aload_n 1, 1), (111, .getfield 34, 3), (114, .iconst 0, 1), (115, .aload_n 0, 1), (116, .getfield 34, 3), (119, .iconst 0, 1), (120, .bipush 16, 2), (122, .invokestatic 97, 3), (125, .aload_n 1, 1), (126, .getfield 37, 3), (129, .iconst 0, 1), (130, .aload_n 0, 1), (131, .getfield 37, 3), (134, .iconst 0, 1), (135, .bipush 16, 2), (137, .invokestatic 97, 3), (140, .iconst 0, 1), (141, .istore_n 2, 1), (142, .iload_n 2, 1), (143, .bipush 16, 2), (145, .if_icmp .ge 21, 3), (148, .aload_n 0, 1), (149, .getfield 40, 3), (152, .iload_n 2, 1), (153, .aload_n 1, 1), (154, .getfield 40, 3), (157, .iload_n 2, 1), (158, .baload, 1), (159, .bastore, 1), (160, .iinc 2 1, 3), (163, .goto (-21), 3), (166, .iconst 0, 1), (167, .istore_n 2, 1), (168, .iload_n 2, 1), (169, .bipush 6, 2), (171, .if_icmp .ge 21, 3), (174, .aload_n 0, 1), (175, .getfield 46, 3), (178, .iload_n 2, 1), (179, .aload_n 1, 1), (180, .getfield 46, 3), (183, .iload_n 2, 1), (184, .aaload, 1), (185, .aastore, 1), (186, .iinc 2 1, 3), (189, .goto (-21), 3), (192, .aload_n 1, 1), (193, .getfield 50, 3), (196, .iconst 0, 1), (197, .aload_n 0, 1), (198, .getfield 50, 3), (201, .iconst 0, 1), (202, .bipush 6, 2), (204, .invokestatic 97, 3), (207, .aload_n 1, 1), (208, .getfield 53, 3), (211, .iconst 0, 1), (212, .aload_n 0, 1), (213, .getfield 53, 3), (216, .iconst 0, 1), (217, .bipush 24, 2), (219, .invokestatic 97, 3), (222, .aload_n 1, 1), (223, .getfield 56, 3), (226, .iconst 0, 1), (227, .aload_n 0, 1), (228, .getfield 56, 3), (231, .iconst 0, 1), (232, .bipush 24, 2), (234, .invokestatic 97, 3), (237, .aload_n 1, 1), (238, .getfield 59, 3), (241, .iconst 0, 1), (242, .aload_n 0, 1), (243, .getfield 59, 3), (246, .iconst 0, 1), (247, .bipush 24, 2), (249, .invokestatic 97, 3), (252, .return_, 1)]
def mm_32 : mv_M := (3, 4, mc_32, lk_RX3, [(142, [0, 1, 2]), (168, [0, 1, 2])])
def mc_33 : List (Nat × Instr × Nat) := [(0, .iload_n 1, 1), (1, .ifCond .lt 21, 3), (4, .iload_n 1, 1), (5, .aload_n 0, 1), (6, .getfield 75, 3), (9, .if_icmp .ge 13, 3), (12, .iload_n 1, 1), (13, .bipush 16, 2), (15, .if_icmp .ge 7, 3), (18, .iconst 1, 1), (19, .goto 4, 3), (22, .iconst 0, 1), (23, .ireturn, 1)]
def mm_33 : mv_M := (2, 1, mc_33, lk_RX3, [])
def mc_34 : List (Nat × Instr × Nat) := [(0, .iload_n 1, 1), (1, .ifCond .lt 26, 3), (4, .iload_n 1, 1), (5, .aload_n 0, 1), (6, .getfield 21, 3), (9, .if_icmp .ge 18, 3), (12, .iload_n 1, 1), (13, .bipush 6, 2), (15, .if_icmp .ge 12, 3), (18, .aload_n 0, 1), (19, .getfield 46, 3), (22, .iload_n 1, 1), (23, .aaload, 1), (24, .goto 4, 3), (27, .aconst_null, 1), (28, .areturn, 1)]
def mm_34 : mv_M := (2, 2, mc_34, lk_RX3, [])
def mc_35 : List (Nat × Instr × Nat) := [(0, .iload_n 1, 1), (1, .ifCond .lt 18, 3), (4, .iload_n 1, 1), (5, .bipush 7, 2), (7, .if_icmp .gt 12, 3), (10, .aload_n 0, 1), (11, .getfield 21, 3), (14, .bipush 6, 2), (16, .if_icmp .lt 5, 3), (19, .iconst 0, 1), (20, .ireturn, 1), (21, .aload_n 0, 1), (22, .getfield 46, 3), (25, .aload_n 0, 1), (26, .getfield 21, 3), (29, .new 44, 3), (32, .dup, 1), (33, .aload_n 0, 1), (34, .getfield 21, 3), (37, .iload_n 1, 1), (38, .iload_n 2, 1), (39, .invokespecial 103, 3), (42, .aastore, 1), (43, .aload_n 0, 1), (44, .getfield 50, 3), (47, .aload_n 0, 1), (48, .getfield 21, 3), (51, .iconst 0, 1), (52, .iastore, 1), (53, .aload_n 0, 1), (54, .dup, 1), (55, .getfield 21, 3), (58, .iconst 1, 1), (59, .iadd, 1), (60, .putfield 21, 3), (63, .iconst 1, 1), (64, .ireturn, 1)]
def mm_35 : mv_M := (3, 1, mc_35, lk_RX3, [])
def mc_36 : List (Nat × Instr × Nat) := [(0, .aload_n 0, 1), (1, .iload_n 1, 1), (2, .invokevirtual 105, 3), (5, .ifnull 24, 3), (8, .aload_n 0, 1), (9, .iload_n 2, 1), (10, .invokevirtual 109, 3), (13, .ifCond .eq 16, 3), (16, .iload 4, 2), (18, .iconst 1, 1), (19, .if_icmp .lt 10, 3), (22, .iload 4, 2), (24, .bipush 99, 2), (26, .if_icmp .le 5, 3), (29, .iconst 0, 1), (30, .ireturn, 1), (31, .aload_n 0, 1), (32, .getfield 50, 3), (35, .iload_n 1, 1), (36, .iaload, 1), (37, .iconst 4, 1), (38, .if_icmp .lt 5, 3), (41, .iconst 0, 1), (42, .ireturn, 1), (43, .iload_n 1, 1), (44, .iconst 4, 1), (45, .imul, 1), (46, .aload_n 0, 1), (47, .getfield 50, 3), (50, .iload_n 1, 1), (51, .iaload, 1), (52, .iadd, 1), (53, .istore 5, 2), (55, .aload_n 0, 1), (56, .getfield 53, 3), (59, .iload 5, 2), (61, .iload_n 2, 1), (62, .iastore, 1), (63, .aload_n 0, 1), (64, .getfield 56, 3), (67, .iload 5, 2), (69, .iload_n 3, 1), (70, .iastore, 1), (71, .aload_n 0, 1), (72, .getfield 59, 3), (75, .iload 5, 2), (77, .iload 4, 2), (79, .iastore, 1), (80, .aload_n 0, 1), (81, .getfield 50, 3), (84, .iload_n 1, 1), (85, .dup2, 1), (86, .iaload, 1), (87, .iconst 1, 1), (88, .iadd, 1), (89, .iastore, 1), (90, .iconst 1, 1), (91, .ireturn, 1)]
def mm_36 : mv_M := (6, 1, mc_36, lk_RX3, [])
def mc_37 : List (Nat × Instr × Nat) := [(0, .aload_n 0, 1), (1, .getfield 37, 3), (4, .iload_n 1, 1), (5, .iaload, 1), (6, .iconst (-1), 1), (7, .if_icmp .ne 8, 3), (10, .bipush (-4), 2), (12, .goto 9, 3), (15, .aload_n 0, 1), (16, .getfield 37, 3), (19, .iload_n 1, 1), (20, .iaload, 1), (21, .ireturn, 1)]
def mm_37 : mv_M := (2, 0, mc_37, lk_RX3, [])
def mc_38 : List (Nat × Instr × Nat) := [(0, .aload_n 0, 1), (1, .getfield 37, 3), (4, .iload_n 1, 1), (5, .iaload, 1), (6, .iconst (-1), 1), (7, .if_icmp .ne 12, 3), (10, .aload_n 0, 1), (11, .getfield 34, 3), (14, .iload_n 1, 1), (15, .iaload, 1), (16, .goto 9, 3), (19, .aload_n 0, 1), (20, .getfield 37, 3), (23, .iload_n 1, 1), (24, .iaload, 1), (25, .ireturn, 1)]
def mm_38 : mv_M := (2, 0, mc_38, lk_RX3, [])
def mc_39 : List (Nat × Instr × Nat) := [(0, .iconst 0, 1), (1, .istore_n 1, 1), (2, .iload_n 1, 1), (3, .aload_n 0, 1), (4, .getfield 75, 3), (7, .if_icmp .ge 25, 3), (10, .aload_n 0, 1), (11, .iload_n 1, 1), (12, .invokevirtual 113, 3), (15, .aload_n 0, 1), (16, .getfield 34, 3), (19, .iload_n 1, 1), (20, .iaload, 1), (21, .if_icmp .eq 5, 3), (24, .iload_n 1, 1), (25, .ireturn, 1), (26, .iinc 1 1, 3), (29, .goto (-27), 3), (32, .bipush (-4), 2), (34, .ireturn, 1)]
def mm_39 : mv_M := (2, 0, mc_39, lk_RX3, [(2, [0, 1])])
def mc_40 : List (Nat × Instr × Nat) := [(0, .iconst 0, 1), (1, .istore_n 1, 1), (2, .iconst 0, 1), (3, .istore_n 2, 1), (4, .iload_n 2, 1), (5, .aload_n 0, 1), (6, .getfield 75, 3), (9, .if_icmp .ge 27, 3), (12, .iload_n 1, 1), (13, .aload_n 0, 1), (14, .getfield 34, 3), (17, .iload_n 2, 1), (18, .iaload, 1), (19, .aload_n 0, 1), (20, .iload_n 2, 1), (21, .invokevirtual 113, 3), (24, .isub, 1), (25, .invokestatic 91, 3), (28, .iadd, 1), (29, .istore_n 1, 1), (30, .iinc 2 1, 3), (33, .goto (-29), 3), (36, .iload_n 1, 1), (37, .ireturn, 1)]
def mm_40 : mv_M := (3, 0, mc_40, lk_RX3, [(4, [0, 1, 2])])
def mc_41 : List (Nat × Instr × Nat) := [(0, .iconst 0, 1), (1, .istore_n 2, 1), (2, .iconst 0, 1), (3, .istore_n 3, 1), (4, .iload_n 3, 1), (5, .aload_n 0, 1), (6, .getfield 75, 3), (9, .if_icmp .ge 25, 3), (12, .iload_n 2, 1), (13, .aload_n 0, 1), (14, .getfield 34, 3), (17, .iload_n 3, 1), (18, .iaload, 1), (19, .aload_n 1, 1), (20, .iload_n 3, 1), (21, .iaload, 1), (22, .isub, 1), (23, .invokestatic 91, 3), (26, .iadd, 1), (27, .istore_n 2, 1), (28, .iinc 3 1, 3), (31, .goto (-27), 3), (34, .iload_n 2, 1), (35, .ireturn, 1)]
def mm_41 : mv_M := (4, 0, mc_41, lk_RX3, [(4, [0, 1, 2, 3])])
def mc_42 : List (Nat × Instr × Nat) := [(0, .iconst 0, 1), (1, .istore_n 1, 1), (2, .iconst 0, 1), (3, .istore_n 2, 1), (4, .iload_n 2, 1), (5, .aload_n 0, 1), (6, .getfield 75, 3), (9, .if_icmp .ge 27, 3), (12, .iload_n 1, 1), (13, .aload_n 0, 1), (14, .getfield 37, 3), (17, .iload_n 2, 1), (18, .iaload, 1), (19, .iconst (-1), 1), (20, .if_icmp .ne 7, 3), (23, .iconst 0, 1), (24, .goto 4, 3), (27, .iconst 1, 1), (28, .iadd, 1), (29, .istore_n 1, 1), (30, .iinc 2 1, 3), (33, .goto (-29), 3), (36, .iload_n 1, 1), (37, .ireturn, 1)]
def mm_42 : mv_M := (3, 0, mc_42, lk_RX3, [(4, [0, 1, 2])])
def mc_43 : List (Nat × Instr × Nat) := [(0, .iconst 0, 1), (1, .istore_n 1, 1), (2, .iconst 0, 1), (3, .istore_n 2, 1), (4, .iload_n 2, 1), (5, .aload_n 0, 1), (6, .getfield 75, 3), (9, .if_icmp .ge 26, 3), (12, .iload_n 1, 1), (13, .aload_n 0, 1), (14, .getfield 40, 3), (17, .iload_n 2, 1), (18, .baload, 1), (19, .ifCond .eq 7, 3), (22, .iconst 1, 1), (23, .goto 4, 3), (26, .iconst 0, 1), (27, .iadd, 1), (28, .istore_n 1, 1), (29, .iinc 2 1, 3), (32, .goto (-28), 3), (35, .iload_n 1, 1), (36, .ireturn, 1)]
def mm_43 : mv_M := (3, 0, mc_43, lk_RX3, [(4, [0, 1, 2])])
def mc_44 : List (Nat × Instr × Nat) := [(0, .iconst 0, 1), (1, .istore_n 1, 1), (2, .iconst 0, 1), (3, .istore_n 2, 1), (4, .iload_n 2, 1), (5, .aload_n 0, 1), (6, .getfield 75, 3), (9, .if_icmp .ge 18, 3), (12, .iload_n 1, 1), (13, .aload_n 0, 1), (14, .getfield 34, 3), (17, .iload_n 2, 1), (18, .iaload, 1), (19, .iadd, 1), (20, .istore_n 1, 1), (21, .iinc 2 1, 3), (24, .goto (-20), 3), (27, .iload_n 1, 1), (28, .ireturn, 1)]
def mm_44 : mv_M := (3, 0, mc_44, lk_RX3, [(4, [0, 1, 2])])
def mc_45 : List (Nat × Instr × Nat) := [(0, .iconst 0, 1), (1, .istore_n 1, 1), (2, .iconst 0, 1), (3, .istore_n 2, 1), (4, .iload_n 2, 1), (5, .aload_n 0, 1), (6, .getfield 21, 3), (9, .if_icmp .ge 18, 3), (12, .iload_n 1, 1), (13, .aload_n 0, 1), (14, .getfield 50, 3), (17, .iload_n 2, 1), (18, .iaload, 1), (19, .iadd, 1), (20, .istore_n 1, 1), (21, .iinc 2 1, 3), (24, .goto (-20), 3), (27, .iload_n 1, 1), (28, .ireturn, 1)]
def mm_45 : mv_M := (3, 0, mc_45, lk_RX3, [(4, [0, 1, 2])])
def mc_46 : List (Nat × Instr × Nat) := [(0, .aload_n 0, 1), (1, .getfield 78, 3), (4, .istore_n 1, 1), (5, .iconst 0, 1), (6, .istore_n 2, 1), (7, .iload_n 2, 1), (8, .bipush 10, 2), (10, .if_icmp .ge 82, 3), (13, .aload_n 0, 1), (14, .getfield 62, 3), (17, .iload_n 2, 1), (18, .iload_n 1, 1), (19, .iastore, 1), (20, .iinc 2 1, 3), (23, .iload_n 1, 1), (24, .istore_n 3, 1), (25, .iload_n 1, 1), (26, .iconst 4, 1), (27, .imul, 1), (28, .istore 4, 2), (30, .iload 4, 2), (32, .iload_n 1, 1), (33, .iconst 4, 1), (34, .imul, 1), (35, .iconst 4, 1), (36, .iadd, 1), (37, .if_icmp .ge 42, 3), (40, .aload_n 0, 1), (41, .getfield 31, 3), (44, .iload 4, 2), (46, .iaload, 1), (47, .istore 5, 2), (49, .iload 5, 2), (51, .ifCond .lt 22, 3), (54, .aload_n 0, 1), (55, .getfield 34, 3), (58, .iload 5, 2), (60, .iaload, 1), (61, .aload_n 0, 1), (62, .getfield 34, 3), (65, .iload_n 3, 1), (66, .iaload, 1), (67, .if_icmp .ge 6, 3), (70, .iload 5, 2), (72, .istore_n 3, 1), (73, .iinc 4 1, 3), (76, .goto (-46), 3), (79, .iload_n 3, 1), (80, .iload_n 1, 1), (81, .if_icmp .ne 6, 3), (84, .goto 8, 3), (87, .iload_n 3, 1), (88, .istore_n 1, 1), (89, .goto (-82), 3), (92, .iload_n 2, 1), (93, .ireturn, 1)]
def mm_46 : mv_M := (6, 0, mc_46, lk_RX3, [(7, [0, 1, 2]), (30, [0, 1, 2, 3, 4])])
def mc_47 : List (Nat × Instr × Nat) := [(0, .iload_n 1, 1), (1, .iconst 1, 1), (2, .if_icmp .lt 20, 3), (5, .iload_n 1, 1), (6, .bipush 10, 2), (8, .if_icmp .gt 14, 3), (11, .aload_n 0, 1), (12, .getfield 62, 3), (15, .iload_n 1, 1), (16, .iconst 1, 1), (17, .isub, 1), (18, .iaload, 1), (19, .goto 7, 3), (22, .aload_n 0, 1), (23, .getfield 78, 3), (26, .ireturn, 1)]
def mm_47 : mv_M := (2, 0, mc_47, lk_RX3, [])
def mc_48 : List (Nat × Instr × Nat) := [(0, .aload_n 0, 1), (1, .invokevirtual 116, 3), (4, .istore_n 2, 1), (5, .iconst 0, 1), (6, .istore_n 3, 1), (7, .iload_n 3, 1), (8, .iload_n 2, 1), (9, .if_icmp .ge 21, 3), (12, .aload_n 0, 1), (13, .getfield 62, 3), (16, .iload_n 3, 1), (17, .iaload, 1), (18, .iload_n 1, 1), (19, .if_icmp .ne 5, 3), (22, .iconst 1, 1), (23, .ireturn, 1), (24, .iinc 3 1, 3), (27, .goto (-20), 3), (30, .iconst 0, 1), (31, .ireturn, 1)]
def mm_48 : mv_M := (4, 1, mc_48, lk_RX3, [(7, [0, 1, 2, 3])])
def mc_49 : List (Nat × Instr × Nat) := [(0, .aload_n 0, 1), (1, .aload_n 0, 1), (2, .aload_n 0, 1), (3, .invokevirtual 116, 3), (6, .invokevirtual 120, 3), (9, .invokevirtual 123, 3), (12, .ireturn, 1)]
def mm_49 : mv_M := (1, 1, mc_49, lk_RX3, [])
def mc_50 : List (Nat × Instr × Nat) := [(0, .iload_n 1, 1), (1, .iconst 4, 1), (2, .imul, 1), (3, .istore_n 2, 1), (4, .aload_n 0, 1), (5, .getfield 31, 3), (8, .iload_n 2, 1), (9, .iaload, 1), (10, .ifCond .lt 36, 3), (13, .aload_n 0, 1), (14, .getfield 31, 3), (17, .iload_n 2, 1), (18, .iconst 1, 1), (19, .iadd, 1), (20, .iaload, 1), (21, .ifCond .lt 25, 3), (24, .aload_n 0, 1), (25, .getfield 31, 3), (28, .iload_n 2, 1), (29, .iconst 2, 1), (30, .iadd, 1), (31, .iaload, 1), (32, .ifCond .lt 14, 3), (35, .aload_n 0, 1), (36, .getfield 31, 3), (39, .iload_n 2, 1), (40, .iconst 3, 1), (41, .iadd, 1), (42, .iaload, 1), (43, .ifCond .ge 7, 3), (46, .iconst 1, 1), (47, .goto 4, 3), (50, .iconst 0, 1), (51, .ireturn, 1)]
def mm_50 : mv_M := (3, 1, mc_50, lk_RX3, [])
def mc_51 : List (Nat × Instr × Nat) := [(0, .aload_n 0, 1), (1, .getfield 28, 3), (4, .iload_n 1, 1), (5, .bipush 16, 2), (7, .imul, 1), (8, .iload_n 2, 1), (9, .iadd, 1), (10, .iaload, 1), (11, .ireturn, 1)]
def mm_51 : mv_M := (3, 0, mc_51, lk_RX3, [])
def mc_52 : List (Nat × Instr × Nat) := [(0, .aload_n 0, 1), (1, .getfield 40, 3), (4, .iload_n 1, 1), (5, .baload, 1), (6, .ifCond .ne 16, 3), (9, .aload_n 0, 1), (10, .getfield 34, 3), (13, .iload_n 1, 1), (14, .iaload, 1), (15, .ifCond .le 7, 3), (18, .iconst 1, 1), (19, .goto 4, 3), (22, .iconst 0, 1), (23, .ireturn, 1)]
def mm_52 : mv_M := (2, 1, mc_52, lk_RX3, [])
def mc_53 : List (Nat × Instr × Nat) := [(0, .aload_n 0, 1), (1, .getfield 40, 3), (4, .iload_n 1, 1), (5, .baload, 1), (6, .ifCond .ne 18, 3), (9, .aload_n 0, 1), (10, .getfield 34, 3), (13, .iload_n 1, 1), (14, .iaload, 1), (15, .bipush 9, 2), (17, .if_icmp .ge 7, 3), (20, .iconst 1, 1), (21, .goto 4, 3), (24, .iconst 0, 1), (25, .ireturn, 1)]
def mm_53 : mv_M := (2, 1, mc_53, lk_RX3, [])
def mc_54 : List (Nat × Instr × Nat) := [(0, .aload_n 0, 1), (1, .iload_n 1, 1), (2, .invokevirtual 109, 3), (5, .ifCond .eq 36, 3), (8, .aload_n 0, 1), (9, .iload_n 2, 1), (10, .invokevirtual 109, 3), (13, .ifCond .eq 28, 3), (16, .iload_n 1, 1), (17, .iload_n 2, 1), (18, .if_icmp .eq 23, 3), (21, .aload_n 0, 1), (22, .iload_n 1, 1), (23, .invokevirtual 126, 3), (26, .ifCond .eq 15, 3), (29, .aload_n 0, 1), (30, .iload_n 2, 1), (31, .invokevirtual 129, 3), (34, .ifCond .eq 7, 3), (37, .iconst 1, 1), (38, .goto 4, 3), (41, .iconst 0, 1), (42, .ireturn, 1)]
def mm_54 : mv_M := (3, 1, mc_54, lk_RX3, [])
def mc_55 : List (Nat × Instr × Nat) := [(0, .aload_n 0, 1), (1, .getfield 34, 3), (4, .iload_n 2, 1), (5, .iaload, 1), (6, .aload_n 0, 1), (7, .getfield 34, 3), (10, .iload_n 1, 1), (11, .iaload, 1), (12, .isub, 1), (13, .istore_n 3, 1), (14, .iconst 2, 1), (15, .aload_n 0, 1), (16, .iload_n 1, 1), (17, .iload_n 2, 1), (18, .invokevirtual 132, 3), (21, .imul, 1), (22, .iload_n 3, 1), (23, .ifCond .le 7, 3), (26, .iload_n 3, 1), (27, .goto 4, 3), (30, .iconst 0, 1), (31, .iadd, 1), (32, .ireturn, 1)]
def mm_55 : mv_M := (4, 0, mc_55, lk_RX3, [])
def mc_56 : List (Nat × Instr × Nat) := [(0, .aload_n 0, 1), (1, .getfield 34, 3), (4, .iload_n 1, 1), (5, .dup2, 1), (6, .iaload, 1), (7, .iconst 1, 1), (8, .isub, 1), (9, .iastore, 1), (10, .aload_n 0, 1), (11, .getfield 34, 3), (14, .iload_n 2, 1), (15, .dup2, 1), (16, .iaload, 1), (17, .iconst 1, 1), (18, .iadd, 1), (19, .iastore, 1), (20, .return_, 1)]
def mm_56 : mv_M := (3, 4, mc_56, lk_RX3, [])
def mc_57 : List (Nat × Instr × Nat) := [(0, .iload_n 2, 1), (1, .aload_n 0, 1), (2, .getfield 56, 3), (5, .iload_n 1, 1), (6, .iaload, 1), (7, .isub, 1), (8, .invokestatic 91, 3), (11, .istore_n 3, 1), (12, .iconst 0, 1), (13, .aload_n 0, 1), (14, .getfield 59, 3), (17, .iload_n 1, 1), (18, .iaload, 1), (19, .bipush 10, 2), (21, .iload_n 3, 1), (22, .imul, 1), (23, .isub, 1), (24, .invokestatic 136, 3), (27, .ireturn, 1)]
def mm_57 : mv_M := (4, 0, mc_57, lk_RX3, [])
def mc_58 : List (Nat × Instr × Nat) := [(0, .iconst 0, 1), (1, .istore_n 3, 1), (2, .iconst 0, 1), (3, .istore 4, 2), (5, .iload 4, 2), (7, .aload_n 0, 1), (8, .getfield 50, 3), (11, .iload_n 1, 1), (12, .iaload, 1), (13, .if_icmp .ge 35, 3), (16, .iload_n 1, 1), (17, .iconst 4, 1), (18, .imul, 1), (19, .iload 4, 2), (21, .iadd, 1), (22, .istore 5, 2), (24, .iload_n 3, 1), (25, .aload_n 0, 1), (26, .iload 5, 2), (28, .aload_n 2, 1), (29, .aload_n 0, 1), (30, .getfield 53, 3), (33, .iload 5, 2), (35, .iaload, 1), (36, .iaload, 1), (37, .invokevirtual 139, 3), (40, .iadd, 1), (41, .istore_n 3, 1), (42, .iinc 4 1, 3), (45, .goto (-40), 3), (48, .iload_n 3, 1), (49, .ireturn, 1)]
def mm_58 : mv_M := (6, 0, mc_58, lk_RX3, [(5, [0, 1, 2, 3, 4])])
def mc_59 : List (Nat × Instr × Nat) := [(0, .iconst 0, 1), (1, .istore_n 2, 1), (2, .iconst 0, 1), (3, .istore_n 3, 1), (4, .iload_n 3, 1), (5, .aload_n 0, 1), (6, .getfield 21, 3), (9, .if_icmp .ge 18, 3), (12, .iload_n 2, 1), (13, .aload_n 0, 1), (14, .iload_n 3, 1), (15, .aload_n 1, 1), (16, .invokevirtual 142, 3), (19, .iadd, 1), (20, .istore_n 2, 1), (21, .iinc 3 1, 3), (24, .goto (-20), 3), (27, .iload_n 2, 1), (28, .ireturn, 1)]
def mm_59 : mv_M := (4, 0, mc_59, lk_RX3, [(4, [0, 1, 2, 3])])
def mc_60 : List (Nat × Instr × Nat) := [(0, .aload_n 0, 1), (1, .invokespecial 3, 3), (4, .aload_n 0, 1), (5, .aconst_null, 1), (6, .putfield 9, 3), (9, .aload_n 0, 1), (10, .iconst 0, 1), (11, .putfield 15, 3), (14, .aload_n 0, 1), (15, .iconst 0, 1), (16, .putfield 19, 3), (19, .aload_n 0, 1), (20, .iconst 0, 1), (21, .putfield 23, 3), (24, .aload_n 0, 1), (25, .bipush 100, 2), (27, .newarray .int, 2), (29, .putfield 26, 3), (32, .return_, 1)]
def mm_60 : mv_M := (1, 4, mc_60, lk_RX4, [])
def mc_61 : List (Nat × Instr × Nat) := [(0, .aload_n 0, 1), (1, .aconst_null, 1), (2, .putfield 9, 3), (5, .aload_n 0, 1), (6, .iconst 0, 1), (7, .putfield 15, 3), (10, .aload_n 0, 1), (11, .iconst 0, 1), (12, .putfield 23, 3), (15, .return_, 1)]
def mm_61 : mv_M := (1, 4, mc_61, lk_RX4, [])
def mc_62 : List (Nat × Instr × Nat) := [(0, .aload_n 0, 1), (1, .invokevirtual 30, 3), (4, .aload_n 0, 1), (5, .aload_n 1, 1), (6, .putfield 9, 3), (9, .return_, 1)]
def mm_62 : mv_M := (2, 4, mc_62, lk_RX4, [])
def mc_63 : List (Nat × Instr × Nat) := [(0, .aload_n 0, 1), (1, .aconst_null, 1), (2, .putfield 9, 3), (5, .aload_n 0, 1), (6, .iconst 1, 1), (7, .putfield 15, 3), (10, .aload_n 0, 1), (11, .iload_n 1, 1), (12, .putfield 19, 3), (15, .aload_n 0, 1), (16, .iload_n 2, 1), (17, .putfield 23, 3), (20, .aload_n 0, 1), (21, .getfield 26, 3), (24, .iconst 0, 1), (25, .invokestatic 33, 3), (28, .return_, 1)]
def mm_63 : mv_M := (3, 4, mc_63, lk_RX4, [])
def mc_64 : List (Nat × Instr × Nat) := [(0, .aload_n 0, 1), (1, .getfield 15, 3), (4, .ifCond .ne 14, 3), (7, .aload_n 0, 1), (8, .getfield 9, 3), (11, .ifnonnull 7, 3), (14, .iconst 1, 1), (15, .goto 4, 3), (18, .iconst 0, 1), (19, .ireturn, 1)]
def mm_64 : mv_M := (1, 1, mc_64, lk_RX4, [])
def mc_65 : List (Nat × Instr × Nat) := [(0, .aload_n 0, 1), (1, .getfield 15, 3), (4, .ifCond .eq 15, 3), (7, .aload_n 0, 1), (8, .getfield 19, 3), (11, .iload_n 1, 1), (12, .if_icmp .ne 7, 3), (15, .iconst 1, 1), (16, .goto 4, 3), (19, .iconst 0, 1), (20, .ireturn, 1)]
def mm_65 : mv_M := (2, 1, mc_65, lk_RX4, [])
def mc_66 : List (Nat × Instr × Nat) := [(0, .aload_n 0, 1), (1, .invokevirtual 39, 3), (4, .ifCond .eq 6, 3), (7, .bipush (-11), 2), (9, .ireturn, 1), (10, .aload_n 0, 1), (11, .getfield 15, 3), (14, .ifCond .eq 7, 3), (17, .iconst 0, 1), (18, .goto 5, 3), (21, .bipush (-12), 2), (23, .ireturn, 1)]
def mm_66 : mv_M := (1, 0, mc_66, lk_RX4, [])
def mc_67 : List (Nat × Instr × Nat) := [(0, .aload_n 0, 1), (1, .invokevirtual 39, 3), (4, .ifCond .eq 6, 3), (7, .bipush (-11), 2), (9, .ireturn, 1), (10, .aload_n 0, 1), (11, .iconst 0, 1), (12, .invokevirtual 43, 3), (15, .ifCond .eq 7, 3), (18, .iconst 0, 1), (19, .goto 5, 3), (22, .bipush (-12), 2), (24, .ireturn, 1)]
def mm_67 : mv_M := (1, 0, mc_67, lk_RX4, [])
def mc_68 : List (Nat × Instr × Nat) := [(0, .iload_n 1, 1), (1, .ifCond .lt 21, 3), (4, .iload_n 1, 1), (5, .aload_n 0, 1), (6, .getfield 23, 3), (9, .if_icmp .ge 13, 3), (12, .iload_n 1, 1), (13, .bipush 100, 2), (15, .if_icmp .ge 7, 3), (18, .iconst 1, 1), (19, .goto 4, 3), (22, .iconst 0, 1), (23, .ireturn, 1)]
def mm_68 : mv_M := (2, 1, mc_68, lk_RX4, [])
def mc_69 : List (Nat × Instr × Nat) := [(0, .iload_n 1, 1), (1, .ifCond .lt 29, 3), (4, .iload_n 2, 1), (5, .ifCond .lt 25, 3), (8, .iload_n 2, 1), (9, .aload_n 0, 1), (10, .getfield 23, 3), (13, .if_icmp .gt 17, 3), (16, .iload_n 1, 1), (17, .aload_n 0, 1), (18, .getfield 23, 3), (21, .iload_n 2, 1), (22, .isub, 1), (23, .if_icmp .gt 7, 3), (26, .iconst 1, 1), (27, .goto 4, 3), (30, .iconst 0, 1), (31, .ireturn, 1)]
def mm_69 : mv_M := (3, 1, mc_69, lk_RX4, [])
def mc_70 : List (Nat × Instr × Nat) := [(0, .aload_n 0, 1), (1, .iload_n 1, 1), (2, .invokevirtual 47, 3), (5, .ifCond .eq 12, 3), (8, .aload_n 0, 1), (9, .getfield 26, 3), (12, .iload_n 1, 1), (13, .iaload, 1), (14, .goto 4, 3), (17, .iconst 0, 1), (18, .ireturn, 1)]
def mm_70 : mv_M := (2, 0, mc_70, lk_RX4, [])
def mc_71 : List (Nat × Instr × Nat) := [(0, .aload_n 0, 1), (1, .iload_n 1, 1), (2, .invokevirtual 47, 3), (5, .ifCond .ne 4, 3), (8, .return_, 1), (9, .aload_n 0, 1), (10, .getfield 19, 3), (13, .ifCond .ne 14, 3), (16, .aload_n 0, 1), (17, .getfield 26, 3), (20, .iload_n 1, 1), (21, .iload_n 2, 1), (22, .i2b, 1), (23, .iastore, 1), (24, .goto 29, 3), (27, .aload_n 0, 1), (28, .getfield 19, 3), (31, .iconst 1, 1), (32, .if_icmp .ne 14, 3), (35, .aload_n 0, 1), (36, .getfield 26, 3), (39, .iload_n 1, 1), (40, .iload_n 2, 1), (41, .i2s, 1), (42, .iastore, 1), (43, .goto 10, 3), (46, .aload_n 0, 1), (47, .getfield 26, 3), (50, .iload_n 1, 1), (51, .iload_n 2, 1), (52, .iastore, 1), (53, .return_, 1)]
def mm_71 : mv_M := (3, 4, mc_71, lk_RX4, [])
def mc_72 : List (Nat × Instr × Nat) := [(0, .aload_n 0, 1), (1, .getfield 19, 3), (4, .ifCond .ne 6, 3), (7, .bipush (-128), 2), (9, .ireturn, 1), (10, .aload_n 0, 1), (11, .getfield 19, 3), (14, .iconst 1, 1), (15, .if_icmp .ne 9, 3), (18, .sipush (-32768), 3), (21, .goto 5, 3), (24, .ldc 50, 2), (26, .ireturn, 1)]
def mm_72 : mv_M := (1, 0, mc_72, lk_RX4, [])
def mc_73 : List (Nat × Instr × Nat) := [(0, .aload_n 0, 1), (1, .getfield 23, 3), (4, .iload_n 1, 1), (5, .if_icmp .eq 5, 3), (8, .iconst 0, 1), (9, .ireturn, 1), (10, .iconst 0, 1), (11, .istore_n 2, 1), (12, .iload_n 2, 1), (13, .aload_n 0, 1), (14, .getfield 23, 3), (17, .if_icmp .ge 33, 3), (20, .aload_n 0, 1), (21, .iload_n 2, 1), (22, .invokevirtual 51, 3), (25, .istore_n 3, 1), (26, .iload_n 3, 1), (27, .ifCond .lt 9, 3), (30, .iload_n 3, 1), (31, .bipush 9, 2), (33, .if_icmp .le 11, 3), (36, .iload_n 3, 1), (37, .bipush 99, 2), (39, .if_icmp .eq 5, 3), (42, .iconst 0, 1), (43, .ireturn, 1), (44, .iinc 2 1, 3), (47, .goto (-35), 3), (50, .iconst 1, 1), (51, .ireturn, 1)]
def mm_73 : mv_M := (4, 1, mc_73, lk_RX4, [(12, [0, 2])])
def mc_74 : List (Nat × Instr × Nat) := [(0, .aload_n 0, 1), (1, .iload_n 1, 1), (2, .invokevirtual 51, 3), (5, .istore_n 2, 1), (6, .iload_n 2, 1), (7, .bipush 99, 2), (9, .if_icmp .ne 7, 3), (12, .iconst (-1), 1), (13, .goto 4, 3), (16, .iload_n 2, 1), (17, .ireturn, 1)]
def mm_74 : mv_M := (3, 0, mc_74, lk_RX4, [])
def mc_75 : List (Nat × Instr × Nat) := [(0, .aload_n 0, 1), (1, .invokespecial 3, 3), (4, .aload_n 0, 1), (5, .iconst 0, 1), (6, .newarray .int, 2), (8, .putfield 9, 3), (11, .aload_n 0, 1), (12, .iconst 0, 1), (13, .putfield 15, 3), (16, .aload_n 0, 1), (17, .iconst 0, 1), (18, .putfield 19, 3), (21, .aload_n 0, 1), (22, .iconst 0, 1), (23, .putfield 22, 3), (26, .aload_n 0, 1), (27, .iconst 4, 1), (28, .newarray .int, 2), (30, .putfield 25, 3), (33, .return_, 1)]
def mm_75 : mv_M := (1, 4, mc_75, lk_RX5, [])
def mc_76 : List (Nat × Instr × Nat) := [(0, .aload_n 0, 1), (1, .aload_n 1, 1), (2, .putfield 9, 3), (5, .aload_n 0, 1), (6, .iload_n 2, 1), (7, .aload_n 1, 1), (8, .arraylength, 1), (9, .invokestatic 28, 3), (12, .putfield 15, 3), (15, .return_, 1)]
def mm_76 : mv_M := (3, 4, mc_76, lk_RX5, [])
def mc_77 : List (Nat × Instr × Nat) := [(0, .aload_n 0, 1), (1, .iconst 0, 1), (2, .putfield 19, 3), (5, .iconst 0, 1), (6, .istore_n 1, 1), (7, .iload_n 1, 1), (8, .ifCond .eq 22, 3), (11, .iload_n 1, 1), (12, .aload_n 0, 1), (13, .getfield 15, 3), (16, .if_icmp .ge 36, 3), (19, .aload_n 0, 1), (20, .getfield 19, 3), (23, .aload_n 0, 1), (24, .getfield 15, 3), (27, .if_icmp .ge 25, 3), (30, .aload_n 0, 1), (31, .invokevirtual 34, 3), (34, .ifCond .ne 12, 3), (37, .sipush (-1000), 3), (40, .aload_n 0, 1), (41, .getfield 19, 3), (44, .isub, 1), (45, .ireturn, 1), (46, .iinc 1 1, 3), (49, .goto (-42), 3), (52, .iconst 0, 1), (53, .ireturn, 1)]
def mm_77 : mv_M := (2, 0, mc_77, lk_RX5, [(7, [0, 1])])
def mc_78 : List (Nat × Instr × Nat) := [(0, .aload_n 0, 1), (1, .iconst 0, 1), (2, .putfield 19, 3), (5, .iconst 0, 1), (6, .istore_n 2, 1), (7, .aload_n 0, 1), (8, .getfield 19, 3), (11, .aload_n 0, 1), (12, .getfield 15, 3), (15, .if_icmp .ge 49, 3), (18, .iload_n 2, 1), (19, .aload_n 0, 1), (20, .getfield 15, 3), (23, .if_icmp .ge 41, 3), (26, .aload_n 0, 1), (27, .getfield 19, 3), (30, .istore_n 3, 1), (31, .aload_n 0, 1), (32, .invokevirtual 34, 3), (35, .ifCond .eq 17, 3), (38, .aload_n 0, 1), (39, .aload_n 1, 1), (40, .aload_n 0, 1), (41, .getfield 9, 3), (44, .iload_n 3, 1), (45, .iaload, 1), (46, .invokevirtual 38, 3), (49, .ifCond .ne 9, 3), (52, .sipush (-2000), 3), (55, .iload_n 3, 1), (56, .isub, 1), (57, .ireturn, 1), (58, .iinc 2 1, 3), (61, .goto (-54), 3), (64, .iload_n 2, 1), (65, .ireturn, 1)]
def mm_78 : mv_M := (4, 0, mc_78, lk_RX5, [(7, [0, 1, 2])])
def mc_79 : List (Nat × Instr × Nat) := [(0, .iload_n 0, 1), (1, .tableswitch 118 98 119 #[109, 118, 103, 118, 118, 106, 118, 118, 118, 118, 112, 118, 118, 118, 118, 109, 118, 103, 109, 118, 118, 115], 103), (104, .ldc 42, 2), (106, .areturn, 1), (107, .ldc 44, 2), (109, .areturn, 1), (110, .ldc 46, 2), (112, .areturn, 1), (113, .ldc 48, 2), (115, .areturn, 1), (116, .ldc 50, 2), (118, .areturn, 1), (119, .ldc 52, 2), (121, .areturn, 1)]
def mm_79 : mv_M := (1, 2, mc_79, lk_RX5, [])
def mc_80 : List (Nat × Instr × Nat) := [(0, .aload_n 0, 1), (1, .iconst 0, 1), (2, .putfield 22, 3), (5, .aload_n 0, 1), (6, .getfield 19, 3), (9, .aload_n 0, 1), (10, .getfield 15, 3), (13, .if_icmp .ge 18, 3), (16, .aload_n 0, 1), (17, .getfield 9, 3), (20, .aload_n 0, 1), (21, .getfield 19, 3), (24, .iaload, 1), (25, .invokestatic 54, 3), (28, .goto 5, 3), (31, .ldc 52, 2), (33, .astore_n 1, 1), (34, .aload_n 1, 1), (35, .invokevirtual 58, 3), (38, .ifCond .eq 5, 3), (41, .iconst 0, 1), (42, .ireturn, 1), (43, .aload_n 0, 1), (44, .dup, 1), (45, .getfield 19, 3), (48, .iconst 1, 1), (49, .iadd, 1), (50, .putfield 19, 3), (53, .iconst 0, 1), (54, .istore_n 2, 1), (55, .iload_n 2, 1), (56, .aload_n 1, 1), (57, .invokevirtual 63, 3), (60, .if_icmp .ge 61, 3), (63, .aload_n 1, 1), (64, .iload_n 2, 1), (65, .invokevirtual 67, 3), (68, .istore_n 3, 1), (69, .iload_n 3, 1), (70, .bipush 68, 2), (72, .if_icmp .ne 13, 3), (75, .aload_n 0, 1), (76, .iconst 1, 1), (77, .invokevirtual 71, 3), (80, .istore 4, 2), (82, .goto 26, 3), (85, .iload_n 3, 1), (86, .bipush 78, 2), (88, .if_icmp .ne 13, 3), (91, .aload_n 0, 1), (92, .iconst 3, 1), (93, .invokevirtual 71, 3), (96, .istore 4, 2), (98, .goto 10, 3), (101, .aload_n 0, 1), (102, .iload_n 3, 1), (103, .invokevirtual 75, 3), (106, .istore 4, 2), (108, .iload 4, 2), (110, .ifCond .ne 5, 3), (113, .iconst 0, 1), (114, .ireturn, 1), (115, .iinc 2 1, 3), (118, .goto (-63), 3), (121, .iconst 1, 1), (122, .ireturn, 1)]
def mm_80 : mv_M := (5, 1, mc_80, lk_RX5, [(55, [0, 1, 2])])
def mc_81 : List (Nat × Instr × Nat) := [(0, .aload_n 0, 1), (1, .getfield 19, 3), (4, .aload_n 0, 1), (5, .getfield 15, 3), (8, .if_icmp .ge 16, 3), (11, .aload_n 0, 1), (12, .getfield 9, 3), (15, .aload_n 0, 1), (16, .getfield 19, 3), (19, .iaload, 1), (20, .iload_n 1, 1), (21, .if_icmp .eq 5, 3), (24, .iconst 0, 1), (25, .ireturn, 1), (26, .aload_n 0, 1), (27, .dup, 1), (28, .getfield 19, 3), (31, .iconst 1, 1), (32, .iadd, 1), (33, .putfield 19, 3), (36, .iconst 1, 1), (37, .ireturn, 1)]
def mm_81 : mv_M := (2, 1, mc_81, lk_RX5, [])
def mc_82 : List (Nat × Instr × Nat) := [(0, .aload_n 0, 1), (1, .invokevirtual 79, 3), (4, .ifCond .eq 11, 3), (7, .aload_n 0, 1), (8, .getfield 22, 3), (11, .iconst 4, 1), (12, .if_icmp .lt 5, 3), (15, .iconst 0, 1), (16, .ireturn, 1), (17, .iconst 0, 1), (18, .istore_n 2, 1), (19, .iconst 0, 1), (20, .istore_n 3, 1), (21, .iload_n 3, 1), (22, .iload_n 1, 1), (23, .if_icmp .ge 51, 3), (26, .aload_n 0, 1), (27, .invokevirtual 79, 3), (30, .ifCond .eq 44, 3), (33, .iload_n 2, 1), (34, .bipush 10, 2), (36, .imul, 1), (37, .aload_n 0, 1), (38, .getfield 9, 3), (41, .aload_n 0, 1), (42, .getfield 19, 3), (45, .iaload, 1), (46, .iadd, 1), (47, .bipush 48, 2), (49, .isub, 1), (50, .istore_n 2, 1), (51, .aload_n 0, 1), (52, .dup, 1), (53, .getfield 19, 3), (56, .iconst 1, 1), (57, .iadd, 1), (58, .putfield 19, 3), (61, .iload_n 2, 1), (62, .ifCond .ne 6, 3), (65, .goto 9, 3), (68, .iinc 3 1, 3), (71, .goto (-50), 3), (74, .aload_n 0, 1), (75, .getfield 25, 3), (78, .aload_n 0, 1), (79, .getfield 22, 3), (82, .iload_n 2, 1), (83, .iastore, 1), (84, .aload_n 0, 1), (85, .dup, 1), (86, .getfield 22, 3), (89, .iconst 1, 1), (90, .iadd, 1), (91, .putfield 22, 3), (94, .iconst 1, 1), (95, .ireturn, 1)]
def mm_82 : mv_M := (4, 1, mc_82, lk_RX5, [(21, [0, 1, 2, 3])])
def mc_83 : List (Nat × Instr × Nat) := [(0, .aload_n 0, 1), (1, .getfield 19, 3), (4, .aload_n 0, 1), (5, .getfield 15, 3), (8, .if_icmp .ge 35, 3), (11, .aload_n 0, 1), (12, .getfield 9, 3), (15, .aload_n 0, 1), (16, .getfield 19, 3), (19, .iaload, 1), (20, .bipush 48, 2), (22, .if_icmp .lt 21, 3), (25, .aload_n 0, 1), (26, .getfield 9, 3), (29, .aload_n 0, 1), (30, .getfield 19, 3), (33, .iaload, 1), (34, .bipush 57, 2), (36, .if_icmp .gt 7, 3), (39, .iconst 1, 1), (40, .goto 4, 3), (43, .iconst 0, 1), (44, .ireturn, 1)]
def mm_83 : mv_M := (1, 1, mc_83, lk_RX5, [])
def mc_84 : List (Nat × Instr × Nat) := [(0, .iload_n 2, 1), (1, .tableswitch 228 98 119 #[137, 228, 182, 228, 228, 120, 228, 228, 228, 228, 171, 228, 228, 228, 228, 148, 228, 103, 159, 228, 228, 199], 103), (104, .aload_n 1, 1), (105, .aload_n 0, 1), (106, .getfield 25, 3), (109, .iconst 0, 1), (110, .iaload, 1), (111, .aload_n 0, 1), (112, .getfield 25, 3), (115, .iconst 1, 1), (116, .iaload, 1), (117, .invokestatic 82, 3), (120, .ireturn, 1), (121, .aload_n 1, 1), (122, .aload_n 0, 1), (123, .getfield 25, 3), (126, .iconst 0, 1), (127, .iaload, 1), (128, .aload_n 0, 1), (129, .getfield 25, 3), (132, .iconst 1, 1), (133, .iaload, 1), (134, .invokestatic 86, 3), (137, .ireturn, 1), (138, .aload_n 1, 1), (139, .aload_n 0, 1), (140, .getfield 25, 3), (143, .iconst 0, 1), (144, .iaload, 1), (145, .invokestatic 89, 3), (148, .ireturn, 1), (149, .aload_n 1, 1), (150, .aload_n 0, 1), (151, .getfield 25, 3), (154, .iconst 0, 1), (155, .iaload, 1), (156, .invokestatic 92, 3), (159, .ireturn, 1), (160, .aload_n 1, 1), (161, .aload_n 0, 1), (162, .getfield 25, 3), (165, .iconst 0, 1), (166, .iaload, 1), (167, .putfield 95, 3), (170, .iconst 1, 1), (171, .ireturn, 1), (172, .aload_n 1, 1), (173, .aload_n 0, 1), (174, .getfield 25, 3), (177, .iconst 0, 1), (178, .iaload, 1), (179, .invokestatic 100, 3), (182, .ireturn, 1), (183, .aload_n 1, 1), (184, .aload_n 0, 1), (185, .getfield 25, 3), (188, .iconst 0, 1), (189, .iaload, 1), (190, .aload_n 0, 1), (191, .getfield 25, 3), (194, .iconst 1, 1), (195, .iaload, 1), (196, .invokevirtual 103, 3), (199, .ireturn, 1), (200, .aload_n 1, 1), (201, .aload_n 0, 1), (202, .getfield 25, 3), (205, .iconst 0, 1), (206, .iaload, 1), (207, .aload_n 0, 1), (208, .getfield 25, 3), (211, .iconst 1, 1), (212, .iaload, 1), (213, .aload_n 0, 1), (214, .getfield 25, 3), (217, .iconst 2, 1), (218, .iaload, 1), (219, .aload_n 0, 1), (220, .getfield 25, 3), (223, .iconst 3, 1), (224, .iaload, 1), (225, .invokevirtual 107, 3), (228, .ireturn, 1), (229, .iconst 0, 1), (230, .ireturn, 1)]
def mm_84 : mv_M := (3, 1, mc_84, lk_RX5, [])
def mc_85 : List (Nat × Instr × Nat) := [(0, .aload_n 0, 1), (1, .getfield 111, 3), (4, .ifCond .gt 17, 3), (7, .iload_n 1, 1), (8, .invokestatic 114, 3), (11, .ifCond .eq 10, 3), (14, .iload_n 2, 1), (15, .invokestatic 114, 3), (18, .ifCond .ne 5, 3), (21, .iconst 0, 1), (22, .ireturn, 1), (23, .aload_n 0, 1), (24, .iload_n 1, 1), (25, .iload_n 2, 1), (26, .invokevirtual 117, 3), (29, .iconst 1, 1), (30, .ireturn, 1)]
def mm_85 : mv_M := (3, 1, mc_85, lk_RX5, [])
def mc_86 : List (Nat × Instr × Nat) := [(0, .iload_n 0, 1), (1, .iconst 2, 1), (2, .if_icmp .lt 12, 3), (5, .iload_n 0, 1), (6, .iconst 4, 1), (7, .if_icmp .gt 7, 3), (10, .iconst 1, 1), (11, .goto 4, 3), (14, .iconst 0, 1), (15, .ireturn, 1)]
def mm_86 : mv_M := (1, 1, mc_86, lk_RX5, [])
def mc_87 : List (Nat × Instr × Nat) := [(0, .aload_n 0, 1), (1, .iload_n 1, 1), (2, .invokevirtual 121, 3), (5, .ifCond .ne 5, 3), (8, .iconst 0, 1), (9, .ireturn, 1), (10, .aload_n 0, 1), (11, .getfield 124, 3), (14, .iload_n 1, 1), (15, .iload_n 2, 1), (16, .iastore, 1), (17, .iconst 1, 1), (18, .ireturn, 1)]
def mm_87 : mv_M := (3, 1, mc_87, lk_RX5, [])
def mc_88 : List (Nat × Instr × Nat) := [(0, .aload_n 0, 1), (1, .iload_n 1, 1), (2, .invokevirtual 121, 3), (5, .ifCond .eq 12, 3), (8, .aload_n 0, 1), (9, .getfield 127, 3), (12, .iload_n 1, 1), (13, .baload, 1), (14, .ifCond .eq 5, 3), (17, .iconst 0, 1), (18, .ireturn, 1), (19, .aload_n 0, 1), (20, .getfield 127, 3), (23, .iload_n 1, 1), (24, .iconst 1, 1), (25, .bastore, 1), (26, .iconst 1, 1), (27, .ireturn, 1)]
def mm_88 : mv_M := (2, 1, mc_88, lk_RX5, [])
def mc_89 : List (Nat × Instr × Nat) := [(0, .aload_n 0, 1), (1, .iload_n 1, 1), (2, .invokevirtual 121, 3), (5, .ifCond .ne 5, 3), (8, .iconst 0, 1), (9, .ireturn, 1), (10, .aload_n 0, 1), (11, .iload_n 1, 1), (12, .putfield 131, 3), (15, .iconst 1, 1), (16, .ireturn, 1)]
def mm_89 : mv_M := (2, 1, mc_89, lk_RX5, [])
def mc_90 : List (Nat × Instr × Nat) := [(0, .iload_n 1, 1), (1, .iconst 2, 1), (2, .if_icmp .le 5, 3), (5, .iconst 0, 1), (6, .ireturn, 1), (7, .aload_n 0, 1), (8, .iload_n 1, 1), (9, .putfield 133, 3), (12, .iconst 1, 1), (13, .ireturn, 1)]
def mm_90 : mv_M := (2, 1, mc_90, lk_RX5, [])
def mc_91 : List (Nat × Instr × Nat) := [(0, .aload_n 0, 1), (1, .invokespecial 1, 3), (4, .aload_n 0, 1), (5, .new 7, 3), (8, .dup, 1), (9, .invokespecial 9, 3), (12, .putfield 10, 3), (15, .aload_n 0, 1), (16, .new 7, 3), (19, .dup, 1), (20, .invokespecial 9, 3), (23, .putfield 16, 3), (26, .aload_n 0, 1), (27, .new 7, 3), (30, .dup, 1), (31, .invokespecial 9, 3), (34, .putfield 19, 3), (37, .aload_n 0, 1), (38, .new 7, 3), (41, .dup, 1), (42, .invokespecial 9, 3), (45, .putfield 22, 3), (48, .aload_n 0, 1), (49, .iconst 0, 1), (50, .putfield 25, 3), (53, .aload_n 0, 1), (54, .bipush 8, 2), (56, .anewarray 29, 3), (59, .putfield 31, 3), (62, .aload_n 0, 1), (63, .new 35, 3), (66, .dup, 1), (67, .invokespecial 37, 3), (70, .putfield 38, 3), (73, .aload_n 0, 1), (74, .new 42, 3), (77, .dup, 1), (78, .invokespecial 44, 3), (81, .putfield 45, 3), (84, .aload_n 0, 1), (85, .new 49, 3), (88, .dup, 1), (89, .invokespecial 51, 3), (92, .putfield 52, 3), (95, .aload_n 0, 1), (96, .bipush 16, 2), (98, .newarray .int, 2), (100, .putfield 56, 3), (103, .aload_n 0, 1), (104, .bipush 16, 2), (106, .newarray .int, 2), (108, .putfield 60, 3), (111, .aload_n 0, 1), (112, .bipush 6, 2), (114, .bipush 16, 2), (116, .multianewarray 63 2, 4), (120, .putfield 65, 3), (123, .aload_n 0, 1), (124, .bipush 6, 2), (126, .newarray .int, 2), (128, .putfield 68, 3), (131, .iconst 0, 1), (132, .istore_n 1, 1), (133, .iload_n 1, 1), (134, .bipush 8, 2), (136, .if_icmp .ge 22, 3), (139, .aload_n 0, 1), (140, .getfield 31, 3), (143, .iload_n 1, 1), (144, .new 29, 3), (147, .dup, 1), (148, .invokespecial 71, 3), (151, .aastore, 1), (152, .iinc 1 1, 3), (155, .goto (-22), 3), (158, .return_, 1)]
def mm_91 : mv_M := (2, 4, mc_91, lk_RX6, [(133, [0, 1])])
def mc_92 : List (Nat × Instr × Nat) := [(0, .aload_n 0, 1), (1, .iload_n 1, 1), (2, .invokevirtual 72, 3), (5, .astore_n 2, 1), (6, .aload_n 2, 1), (7, .ifnonnull 5, 3), (10, .iconst (-1), 1), (11, .ireturn, 1), (12, .aload_n 2, 1), (13, .invokevirtual 76, 3), (16, .istore_n 3, 1), (17, .iload_n 3, 1), (18, .ifCond .eq 5, 3), (21, .iload_n 3, 1), (22, .ireturn, 1), (23, .aload_n 0, 1), (24, .getfield 38, 3), (27, .aload_n 2, 1), (28, .getfield 80, 3), (31, .aload_n 2, 1), (32, .getfield 83, 3), (35, .invokevirtual 87, 3), (38, .aload_n 0, 1), (39, .getfield 38, 3), (42, .invokevirtual 91, 3), (45, .istore 4, 2), (47, .iload 4, 2), (49, .ifCond .eq 6, 3), (52, .iload 4, 2), (54, .ireturn, 1), (55, .aload_n 0, 1), (56, .getfield 19, 3), (59, .aload_n 0, 1), (60, .getfield 10, 3), (63, .invokevirtual 94, 3), (66, .aload_n 0, 1), (67, .getfield 38, 3), (70, .aload_n 0, 1), (71, .getfield 19, 3), (74, .invokevirtual 98, 3), (77, .istore 5, 2), (79, .iload 5, 2), (81, .ifCond .le 14, 3), (84, .aload_n 0, 1), (85, .getfield 10, 3), (88, .aload_n 0, 1), (89, .getfield 19, 3), (92, .invokevirtual 94, 3), (95, .iload 5, 2), (97, .ireturn, 1)]
def mm_92 : mv_M := (6, 0, mc_92, lk_RX6, [])
def mc_93 : List (Nat × Instr × Nat) := [(0, .aload_n 0, 1), (1, .getfield 10, 3), (4, .iload_n 1, 1), (5, .invokevirtual 102, 3), (8, .ifCond .ne 5, 3), (11, .iconst (-1), 1), (12, .ireturn, 1), (13, .iload_n 2, 1), (14, .tableswitch 84 0 3 #[30, 40, 58, 67], 30), (44, .aload_n 0, 1), (45, .getfield 10, 3), (48, .getfield 106, 3), (51, .iload_n 1, 1), (52, .iaload, 1), (53, .ireturn, 1), (54, .aload_n 0, 1), (55, .getfield 10, 3), (58, .getfield 109, 3), (61, .iload_n 1, 1), (62, .baload, 1), (63, .ifCond .eq 7, 3), (66, .iconst 1, 1), (67, .goto 4, 3), (70, .iconst 0, 1), (71, .ireturn, 1), (72, .aload_n 0, 1), (73, .getfield 10, 3), (76, .iload_n 1, 1), (77, .invokevirtual 113, 3), (80, .ireturn, 1), (81, .aload_n 0, 1), (82, .getfield 10, 3), (85, .iload_n 1, 1), (86, .invokevirtual 117, 3), (89, .ifCond .eq 7, 3), (92, .iconst 1, 1), (93, .goto 4, 3), (96, .iconst 0, 1), (97, .ireturn, 1), (98, .iconst (-1), 1), (99, .ireturn, 1)]
def mm_93 : mv_M := (3, 0, mc_93, lk_RX6, [])
def mc_94 : List (Nat × Instr × Nat) := [(0, .iload_n 1, 1), (1, .tableswitch 87 0 5 #[39, 47, 55, 63, 71, 79], 39), (40, .aload_n 0, 1), (41, .getfield 10, 3), (44, .getfield 120, 3), (47, .ireturn, 1), (48, .aload_n 0, 1), (49, .getfield 10, 3), (52, .getfield 123, 3), (55, .ireturn, 1), (56, .aload_n 0, 1), (57, .getfield 10, 3), (60, .getfield 126, 3), (63, .ireturn, 1), (64, .aload_n 0, 1), (65, .getfield 10, 3), (68, .getfield 129, 3), (71, .ireturn, 1), (72, .aload_n 0, 1), (73, .getfield 10, 3), (76, .getfield 132, 3), (79, .ireturn, 1), (80, .aload_n 0, 1), (81, .getfield 10, 3), (84, .getfield 135, 3), (87, .ireturn, 1), (88, .iconst (-1), 1), (89, .ireturn, 1)]
def mm_94 : mv_M := (2, 0, mc_94, lk_RX6, [])
def mc_95 : List (Nat × Instr × Nat) := [(0, .iload_n 1, 1), (1, .ifCond .ne 32, 3), (4, .iload_n 2, 1), (5, .ifCond .lt 28, 3), (8, .iload_n 2, 1), (9, .sipush 999, 3), (12, .if_icmp .gt 21, 3), (15, .aload_n 0, 1), (16, .getfield 10, 3), (19, .getfield 126, 3), (22, .istore_n 3, 1), (23, .aload_n 0, 1), (24, .getfield 10, 3), (27, .iload_n 2, 1), (28, .putfield 126, 3), (31, .iload_n 3, 1), (32, .ireturn, 1), (33, .iload_n 1, 1), (34, .iconst 1, 1), (35, .if_icmp .ne 30, 3), (38, .iload_n 2, 1), (39, .ifCond .lt 26, 3), (42, .iload_n 2, 1), (43, .iconst 2, 1), (44, .if_icmp .gt 21, 3), (47, .aload_n 0, 1), (48, .getfield 10, 3), (51, .getfield 129, 3), (54, .istore_n 3, 1), (55, .aload_n 0, 1), (56, .getfield 10, 3), (59, .iload_n 2, 1), (60, .putfield 129, 3), (63, .iload_n 3, 1), (64, .ireturn, 1), (65, .iconst (-1), 1), (66, .ireturn, 1)]
def mm_95 : mv_M := (4, 0, mc_95, lk_RX6, [])
def mc_96 : List (Nat × Instr × Nat) := [(0, .aload_n 0, 1), (1, .getfield 10, 3), (4, .iload_n 1, 1), (5, .invokevirtual 102, 3), (8, .ifCond .eq 14, 3), (11, .iload_n 2, 1), (12, .iconst (-1), 1), (13, .if_icmp .lt 9, 3), (16, .iload_n 2, 1), (17, .bipush 9, 2), (19, .if_icmp .le 5, 3), (22, .iconst (-1), 1), (23, .ireturn, 1), (24, .aload_n 0, 1), (25, .getfield 10, 3), (28, .iload_n 1, 1), (29, .invokevirtual 113, 3), (32, .istore_n 3, 1), (33, .aload_n 0, 1), (34, .getfield 10, 3), (37, .getfield 138, 3), (40, .iload_n 1, 1), (41, .iload_n 2, 1), (42, .iastore, 1), (43, .iload_n 3, 1), (44, .ireturn, 1)]
def mm_96 : mv_M := (4, 0, mc_96, lk_RX6, [])
def mc_97 : List (Nat × Instr × Nat) := [(0, .aload_n 0, 1), (1, .iload_n 1, 1), (2, .invokevirtual 72, 3), (5, .astore_n 2, 1), (6, .aload_n 2, 1), (7, .ifnonnull 5, 3), (10, .iconst (-1), 1), (11, .ireturn, 1), (12, .aload_n 2, 1), (13, .invokevirtual 76, 3), (16, .istore_n 3, 1), (17, .iload_n 3, 1), (18, .ifCond .eq 5, 3), (21, .iload_n 3, 1), (22, .ireturn, 1), (23, .aload_n 2, 1), (24, .aload_n 0, 1), (25, .getfield 10, 3), (28, .getfield 141, 3), (31, .invokevirtual 144, 3), (34, .ifCond .ne 6, 3), (37, .bipush (-13), 2), (39, .ireturn, 1), (40, .iconst 0, 1), (41, .istore 4, 2), (43, .iload 4, 2), (45, .aload_n 0, 1), (46, .getfield 10, 3), (49, .getfield 141, 3), (52, .if_icmp .ge 25, 3), (55, .aload_n 0, 1), (56, .getfield 10, 3), (59, .getfield 138, 3), (62, .iload 4, 2), (64, .aload_n 2, 1), (65, .iload 4, 2), (67, .invokevirtual 147, 3), (70, .iastore, 1), (71, .iinc 4 1, 3), (74, .goto (-31), 3), (77, .aload_n 0, 1), (78, .getfield 10, 3), (81, .invokevirtual 150, 3), (84, .ireturn, 1)]
def mm_97 : mv_M := (5, 0, mc_97, lk_RX6, [(43, [0, 2, 4])])
def mc_98 : List (Nat × Instr × Nat) := [(0, .aload_n 0, 1), (1, .getfield 10, 3), (4, .invokevirtual 153, 3), (7, .istore_n 2, 1), (8, .iload_n 1, 1), (9, .tableswitch 62 0 2 #[27, 36, 38], 27), (36, .aload_n 0, 1), (37, .getfield 10, 3), (40, .iload_n 2, 1), (41, .invokevirtual 156, 3), (44, .ireturn, 1), (45, .iload_n 2, 1), (46, .ireturn, 1), (47, .aload_n 0, 1), (48, .getfield 10, 3), (51, .aload_n 0, 1), (52, .getfield 10, 3), (55, .iload_n 2, 1), (56, .invokevirtual 156, 3), (59, .invokevirtual 159, 3), (62, .ifCond .eq 7, 3), (65, .iconst 1, 1), (66, .goto 4, 3), (69, .iconst 0, 1), (70, .ireturn, 1), (71, .iconst (-1), 1), (72, .ireturn, 1)]
def mm_98 : mv_M := (3, 0, mc_98, lk_RX6, [])
def mc_99 : List (Nat × Instr × Nat) := [(0, .aload_n 0, 1), (1, .iload_n 1, 1), (2, .iload_n 2, 1), (3, .invokevirtual 162, 3), (6, .istore_n 3, 1), (7, .iload_n 3, 1), (8, .ifCond .eq 7, 3), (11, .iload_n 3, 1), (12, .goto 12, 3), (15, .aload_n 0, 1), (16, .getfield 10, 3), (19, .iload_n 1, 1), (20, .iload_n 2, 1), (21, .invokevirtual 166, 3), (24, .ireturn, 1)]
def mm_99 : mv_M := (4, 0, mc_99, lk_RX6, [])
def mc_100 : List (Nat × Instr × Nat) := [(0, .aload_n 0, 1), (1, .iload_n 1, 1), (2, .iload_n 2, 1), (3, .invokevirtual 162, 3), (6, .istore_n 3, 1), (7, .iload_n 3, 1), (8, .ifCond .eq 5, 3), (11, .iload_n 3, 1), (12, .ireturn, 1), (13, .aload_n 0, 1), (14, .getfield 10, 3), (17, .iload_n 1, 1), (18, .iload_n 2, 1), (19, .invokevirtual 166, 3), (22, .istore 4, 2), (24, .aload_n 0, 1), (25, .getfield 10, 3), (28, .iload_n 1, 1), (29, .iload_n 2, 1), (30, .invokevirtual 169, 3), (33, .iload 4, 2), (35, .ireturn, 1)]
def mm_100 : mv_M := (5, 0, mc_100, lk_RX6, [])
def mc_101 : List (Nat × Instr × Nat) := [(0, .iload_n 1, 1), (1, .lookupswitch 43 #[(0, 27), (1, 35)], 27), (28, .aload_n 0, 1), (29, .getfield 10, 3), (32, .invokevirtual 173, 3), (35, .ireturn, 1), (36, .aload_n 0, 1), (37, .getfield 10, 3), (40, .invokevirtual 176, 3), (43, .ireturn, 1), (44, .iconst (-1), 1), (45, .ireturn, 1)]
def mm_101 : mv_M := (2, 0, mc_101, lk_RX6, [])
def mc_102 : List (Nat × Instr × Nat) := [(0, .aload_n 0, 1), (1, .getfield 52, 3), (4, .aload_n 0, 1), (5, .getfield 10, 3), (8, .aload_n 0, 1), (9, .getfield 10, 3), (12, .getfield 138, 3), (15, .invokevirtual 179, 3), (18, .ireturn, 1)]
def mm_102 : mv_M := (1, 0, mc_102, lk_RX6, [])
def mc_103 : List (Nat × Instr × Nat) := [(0, .aload_n 0, 1), (1, .iload_n 1, 1), (2, .invokevirtual 72, 3), (5, .astore_n 2, 1), (6, .aload_n 2, 1), (7, .ifnonnull 5, 3), (10, .iconst (-1), 1), (11, .ireturn, 1), (12, .aload_n 2, 1), (13, .invokevirtual 76, 3), (16, .istore_n 3, 1), (17, .iload_n 3, 1), (18, .ifCond .eq 5, 3), (21, .iload_n 3, 1), (22, .ireturn, 1), (23, .aload_n 0, 1), (24, .getfield 16, 3), (27, .aload_n 0, 1), (28, .getfield 10, 3), (31, .invokevirtual 94, 3), (34, .aload_n 0, 1), (35, .getfield 16, 3), (38, .invokevirtual 183, 3), (41, .istore 4, 2), (43, .iconst 0, 1), (44, .istore 5, 2), (46, .iconst 0, 1), (47, .istore 6, 2), (49, .iload 6, 2), (51, .iconst 1, 1), (52, .iadd, 1), (53, .aload_n 2, 1), (54, .getfield 83, 3), (57, .if_icmp .ge 101, 3), (60, .aload_n 2, 1), (61, .iload 6, 2), (63, .invokevirtual 187, 3), (66, .istore 7, 2), (68, .aload_n 2, 1), (69, .iload 6, 2), (71, .iconst 1, 1), (72, .iadd, 1), (73, .invokevirtual 187, 3), (76, .istore 8, 2), (78, .aload_n 0, 1), (79, .getfield 16, 3), (82, .iload 7, 2), (84, .iload 8, 2), (86, .invokevirtual 190, 3), (89, .ifCond .ne 6, 3), (92, .iload 6, 2), (94, .ireturn, 1), (95, .iload 5, 2), (97, .aload_n 0, 1), (98, .getfield 16, 3), (101, .iload 7, 2), (103, .iload 8, 2), (105, .invokevirtual 166, 3), (108, .iadd, 1), (109, .istore 5, 2), (111, .aload_n 0, 1), (112, .getfield 16, 3), (115, .iload 7, 2), (117, .iload 8, 2), (119, .invokevirtual 169, 3), (122, .iload 5, 2), (124, .aload_n 0, 1), (125, .getfield 16, 3), (128, .getfield 126, 3), (131, .if_icmp .gt 18, 3), (134, .iload 4, 2), (136, .ifCond .eq 16, 3), (139, .aload_n 0, 1), (140, .getfield 16, 3), (143, .invokevirtual 183, 3), (146, .ifCond .ne 6, 3), (149, .iload 6, 2), (151, .ireturn, 1), (152, .iinc 6 2, 3), (155, .goto (-106), 3), (158, .aload_n 2, 1), (159, .getfield 83, 3), (162, .iconst 1, 1), (163, .iand, 1), (164, .iconst 1, 1), (165, .if_icmp .ne 10, 3), (168, .aload_n 2, 1), (169, .getfield 83, 3), (172, .goto 5, 3), (175, .bipush (-4), 2), (177, .ireturn, 1)]
def mm_103 : mv_M := (9, 0, mc_103, lk_RX6, [(49, [0, 2, 4, 5, 6])])
def mc_104 : List (Nat × Instr × Nat) := [(0, .iload_n 1, 1), (1, .ifCond .lt 8, 3), (4, .iload_n 1, 1), (5, .iconst 2, 1), (6, .if_icmp .le 5, 3), (9, .iconst (-1), 1), (10, .ireturn, 1), (11, .aload_n 0, 1), (12, .getfield 16, 3), (15, .aload_n 0, 1), (16, .getfield 10, 3), (19, .invokevirtual 94, 3), (22, .aload_n 0, 1), (23, .getfield 52, 3), (26, .aload_n 0, 1), (27, .getfield 16, 3), (30, .invokevirtual 194, 3), (33, .iload_n 1, 1), (34, .ifCond .ne 11, 3), (37, .aload_n 0, 1), (38, .getfield 16, 3), (41, .invokevirtual 176, 3), (44, .ireturn, 1), (45, .iload_n 1, 1), (46, .iconst 1, 1), (47, .if_icmp .ne 13, 3), (50, .aload_n 0, 1), (51, .getfield 52, 3), (54, .getfield 197, 3), (57, .goto 10, 3), (60, .aload_n 0, 1), (61, .getfield 52, 3), (64, .getfield 200, 3), (67, .ireturn, 1)]
def mm_104 : mv_M := (2, 0, mc_104, lk_RX6, [])
def mc_105 : List (Nat × Instr × Nat) := [(0, .aload_n 0, 1), (1, .getfield 10, 3), (4, .iload_n 1, 1), (5, .invokevirtual 203, 3), (8, .astore_n 3, 1), (9, .aload_n 3, 1), (10, .ifnonnull 5, 3), (13, .iconst (-1), 1), (14, .ireturn, 1), (15, .iload_n 2, 1), (16, .tableswitch 68 0 3 #[32, 37, 42, 52], 32), (48, .aload_n 3, 1), (49, .getfield 207, 3), (52, .ireturn, 1), (53, .aload_n 3, 1), (54, .getfield 212, 3), (57, .ireturn, 1), (58, .aload_n 0, 1), (59, .getfield 10, 3), (62, .getfield 215, 3), (65, .iload_n 1, 1), (66, .iaload, 1), (67, .ireturn, 1), (68, .aload_n 0, 1), (69, .getfield 10, 3), (72, .iload_n 1, 1), (73, .aload_n 0, 1), (74, .getfield 10, 3), (77, .getfield 106, 3), (80, .invokevirtual 218, 3), (83, .ireturn, 1), (84, .iconst (-1), 1), (85, .ireturn, 1)]
def mm_105 : mv_M := (4, 0, mc_105, lk_RX6, [])
def mc_106 : List (Nat × Instr × Nat) := [(0, .aload_n 0, 1), (1, .getfield 10, 3), (4, .iload_n 1, 1), (5, .invokevirtual 203, 3), (8, .ifnull 14, 3), (11, .aload_n 0, 1), (12, .getfield 10, 3), (15, .iload_n 2, 1), (16, .invokevirtual 102, 3), (19, .ifCond .ne 5, 3), (22, .iconst (-1), 1), (23, .ireturn, 1), (24, .aload_n 0, 1), (25, .getfield 45, 3), (28, .aload_n 0, 1), (29, .getfield 10, 3), (32, .iload_n 1, 1), (33, .aload_n 0, 1), (34, .getfield 56, 3), (37, .invokevirtual 222, 3), (40, .aload_n 0, 1), (41, .getfield 56, 3), (44, .iload_n 2, 1), (45, .iaload, 1), (46, .ireturn, 1)]
def mm_106 : mv_M := (3, 0, mc_106, lk_RX6, [])
def mc_107 : List (Nat × Instr × Nat) := [(0, .aload_n 0, 1), (1, .getfield 10, 3), (4, .getfield 226, 3), (7, .istore_n 1, 1), (8, .iload_n 1, 1), (9, .iconst 1, 1), (10, .if_icmp .ge 6, 3), (13, .bipush (-3), 2), (15, .ireturn, 1), (16, .aload_n 0, 1), (17, .aload_n 0, 1), (18, .getfield 10, 3), (21, .aload_n 0, 1), (22, .getfield 10, 3), (25, .getfield 132, 3), (28, .iload_n 1, 1), (29, .irem, 1), (30, .invokevirtual 229, 3), (33, .ireturn, 1)]
def mm_107 : mv_M := (2, 0, mc_107, lk_RX6, [])
def mc_108 : List (Nat × Instr × Nat) := [(0, .aload_n 0, 1), (1, .getfield 10, 3), (4, .getfield 226, 3), (7, .istore_n 1, 1), (8, .iload_n 1, 1), (9, .iconst 1, 1), (10, .if_icmp .ge 6, 3), (13, .bipush (-3), 2), (15, .ireturn, 1), (16, .aload_n 0, 1), (17, .getfield 16, 3), (20, .aload_n 0, 1), (21, .getfield 10, 3), (24, .invokevirtual 94, 3), (27, .iconst 0, 1), (28, .istore_n 2, 1), (29, .iconst 1, 1), (30, .istore_n 3, 1), (31, .iload_n 3, 1), (32, .bipush 60, 2), (34, .if_icmp .gt 50, 3), (37, .aload_n 0, 1), (38, .aload_n 0, 1), (39, .getfield 16, 3), (42, .aload_n 0, 1), (43, .getfield 16, 3), (46, .getfield 132, 3), (49, .iload_n 1, 1), (50, .irem, 1), (51, .invokevirtual 229, 3), (54, .istore 4, 2), (56, .iload 4, 2), (58, .ifCond .ne 9, 3), (61, .iload_n 2, 1), (62, .iconst 1, 1), (63, .iadd, 1), (64, .goto 4, 3), (67, .iconst 0, 1), (68, .istore_n 2, 1), (69, .iload_n 2, 1), (70, .iload_n 1, 1), (71, .if_icmp .ne 7, 3), (74, .iload_n 3, 1), (75, .iload_n 1, 1), (76, .isub, 1), (77, .ireturn, 1), (78, .iinc 3 1, 3), (81, .goto (-50), 3), (84, .bipush (-4), 2), (86, .ireturn, 1)]
def mm_108 : mv_M := (5, 0, mc_108, lk_RX6, [(31, [0, 1, 2, 3])])
def mc_109 : List (Nat × Instr × Nat) := [(0, .aload_n 0, 1), (1, .getfield 10, 3), (4, .getfield 226, 3), (7, .istore_n 1, 1), (8, .iload_n 1, 1), (9, .iconst 1, 1), (10, .if_icmp .ge 6, 3), (13, .bipush (-3), 2), (15, .ireturn, 1), (16, .aload_n 0, 1), (17, .getfield 16, 3), (20, .aload_n 0, 1), (21, .getfield 10, 3), (24, .invokevirtual 94, 3), (27, .iconst 0, 1), (28, .istore_n 2, 1), (29, .iload_n 2, 1), (30, .bipush 60, 2), (32, .if_icmp .ge 27, 3), (35, .aload_n 0, 1), (36, .aload_n 0, 1), (37, .getfield 16, 3), (40, .aload_n 0, 1), (41, .getfield 16, 3), (44, .getfield 132, 3), (47, .iload_n 1, 1), (48, .irem, 1), (49, .invokevirtual 229, 3), (52, .pop, 1), (53, .iinc 2 1, 3), (56, .goto (-27), 3), (59, .aload_n 0, 1), (60, .getfield 19, 3), (63, .aload_n 0, 1), (64, .getfield 16, 3), (67, .invokevirtual 94, 3), (70, .iconst 1, 1), (71, .istore_n 2, 1), (72, .iload_n 2, 1), (73, .bipush 30, 2), (75, .if_icmp .gt 46, 3), (78, .aload_n 0, 1), (79, .aload_n 0, 1), (80, .getfield 16, 3), (83, .aload_n 0, 1), (84, .getfield 16, 3), (87, .getfield 132, 3), (90, .iload_n 1, 1), (91, .irem, 1), (92, .invokevirtual 229, 3), (95, .pop, 1), (96, .aload_n 0, 1), (97, .getfield 16, 3), (100, .aload_n 0, 1), (101, .getfield 19, 3), (104, .getfield 106, 3), (107, .invokevirtual 233, 3), (110, .ifCond .ne 5, 3), (113, .iload_n 2, 1), (114, .ireturn, 1), (115, .iinc 2 1, 3), (118, .goto (-46), 3), (121, .bipush (-4), 2), (123, .ireturn, 1)]
def mm_109 : mv_M := (3, 0, mc_109, lk_RX6, [(29, [0, 1, 2]), (72, [0, 1, 2])])
def mc_110 : List (Nat × Instr × Nat) := [(0, .iload_n 1, 1), (1, .iconst 1, 1), (2, .if_icmp .lt 18, 3), (5, .iload_n 1, 1), (6, .bipush 30, 2), (8, .if_icmp .gt 12, 3), (11, .iload_n 3, 1), (12, .ifCond .lt 8, 3), (15, .iload_n 3, 1), (16, .iconst 1, 1), (17, .if_icmp .le 5, 3), (20, .iconst (-1), 1), (21, .ireturn, 1), (22, .aload_n 0, 1), (23, .getfield 10, 3), (26, .getfield 226, 3), (29, .istore 4, 2), (31, .iload 4, 2), (33, .iconst 1, 1), (34, .if_icmp .ge 6, 3), (37, .bipush (-3), 2), (39, .ireturn, 1), (40, .aload_n 0, 1), (41, .getfield 16, 3), (44, .aload_n 0, 1), (45, .getfield 10, 3), (48, .invokevirtual 94, 3), (51, .iload_n 2, 1), (52, .istore 5, 2), (54, .iconst 0, 1), (55, .istore 6, 2), (57, .iconst 0, 1), (58, .istore 7, 2), (60, .iload 7, 2), (62, .iload_n 1, 1), (63, .if_icmp .ge 49, 3), (66, .iload 5, 2), (68, .ldc 237, 2), (70, .imul, 1), (71, .sipush 12345, 3), (74, .iadd, 1), (75, .istore 5, 2), (77, .iload 5, 2), (79, .ldc 238, 2), (81, .iand, 1), (82, .bipush 16, 2), (84, .ishr, 1), (85, .iload 4, 2), (87, .irem, 1), (88, .istore 8, 2), (90, .aload_n 0, 1), (91, .aload_n 0, 1), (92, .getfield 16, 3), (95, .iload 8, 2), (97, .invokevirtual 229, 3), (100, .ifCond .eq 6, 3), (103, .iinc 6 1, 3), (106, .iinc 7 1, 3), (109, .goto (-49), 3), (112, .iload_n 3, 1), (113, .ifCond .ne 20, 3), (116, .aload_n 0, 1), (117, .getfield 16, 3), (120, .aload_n 0, 1), (121, .getfield 10, 3), (124, .getfield 106, 3), (127, .invokevirtual 233, 3), (130, .goto 5, 3), (133, .iload 6, 2), (135, .ireturn, 1)]
def mm_110 : mv_M := (9, 0, mc_110, lk_RX6, [(60, [0, 1, 3, 4, 5, 6, 7])])
def mc_111 : List (Nat × Instr × Nat) := [(0, .aload_n 0, 1), (1, .iload_n 1, 1), (2, .invokevirtual 72, 3), (5, .astore 5, 2), (7, .aload_n 0, 1), (8, .iload_n 2, 1), (9, .invokevirtual 72, 3), (12, .astore 6, 2), (14, .aload 5, 2), (16, .ifnull 24, 3), (19, .aload 6, 2), (21, .ifnull 19, 3), (24, .iload_n 3, 1), (25, .iconst 1, 1), (26, .if_icmp .lt 14, 3), (29, .iload_n 3, 1), (30, .aload_n 0, 1), (31, .getfield 10, 3), (34, .getfield 123, 3), (37, .if_icmp .lt 5, 3), (40, .iconst (-1), 1), (41, .ireturn, 1), (42, .aload 5, 2), (44, .invokevirtual 239, 3), (47, .ifCond .ne 11, 3), (50, .aload 6, 2), (52, .invokevirtual 239, 3), (55, .ifCond .eq 6, 3), (58, .bipush (-11), 2), (60, .ireturn, 1), (61, .aload 5, 2), (63, .iconst 0, 1), (64, .invokevirtual 242, 3), (67, .ifCond .eq 12, 3), (70, .aload 6, 2), (72, .iconst 0, 1), (73, .invokevirtual 242, 3), (76, .ifCond .ne 6, 3), (79, .bipush (-12), 2), (81, .ireturn, 1), (82, .aload 5, 2), (84, .aload_n 0, 1), (85, .getfield 10, 3), (88, .getfield 141, 3), (91, .invokevirtual 144, 3), (94, .ifCond .eq 18, 3), (97, .aload 6, 2), (99, .aload_n 0, 1), (100, .getfield 10, 3), (103, .getfield 141, 3), (106, .invokevirtual 144, 3), (109, .ifCond .ne 6, 3), (112, .bipush (-13), 2), (114, .ireturn, 1), (115, .iconst 0, 1), (116, .istore 7, 2), (118, .iconst 0, 1), (119, .istore 8, 2), (121, .iload 8, 2), (123, .aload_n 0, 1), (124, .getfield 10, 3), (127, .getfield 141, 3), (130, .if_icmp .ge 103, 3), (133, .aload_n 0, 1), (134, .getfield 10, 3), (137, .getfield 245, 3), (140, .iload 8, 2), (142, .iaload, 1), (143, .iload_n 3, 1), (144, .if_icmp .ge 7, 3), (147, .iconst 1, 1), (148, .goto 4, 3), (151, .iconst 0, 1), (152, .istore 9, 2), (154, .aload_n 0, 1), (155, .getfield 56, 3), (158, .iload 8, 2), (160, .iload 9, 2), (162, .ifCond .eq 13, 3), (165, .aload 5, 2), (167, .iload 8, 2), (169, .invokevirtual 147, 3), (172, .goto 10, 3), (175, .aload 6, 2), (177, .iload 8, 2), (179, .invokevirtual 147, 3), (182, .iastore, 1), (183, .aload_n 0, 1), (184, .getfield 10, 3), (187, .getfield 245, 3), (190, .iload 8, 2), (192, .iaload, 1), (193, .iload_n 3, 1), (194, .if_icmp .ne 33, 3), (197, .iload 8, 2), (199, .ifCond .le 28, 3), (202, .aload_n 0, 1), (203, .getfield 56, 3), (206, .iload 8, 2), (208, .iconst 1, 1), (209, .isub, 1), (210, .iaload, 1), (211, .aload_n 0, 1), (212, .getfield 56, 3), (215, .iload 8, 2), (217, .iaload, 1), (218, .invokestatic 248, 3), (221, .ifCond .eq 6, 3), (224, .iinc 7 1, 3), (227, .iinc 8 1, 3), (230, .goto (-109), 3), (233, .iload 4, 2), (235, .ifCond .eq 21, 3), (238, .aload_n 0, 1), (239, .getfield 56, 3), (242, .iconst 0, 1), (243, .aload_n 0, 1), (244, .getfield 10, 3), (247, .getfield 138, 3), (250, .iconst 0, 1), (251, .bipush 16, 2), (253, .invokestatic 251, 3), (256, .iload 7, 2), (258, .ireturn, 1)]
def mm_111 : mv_M := (10, 0, mc_111, lk_RX6, [(121, [0, 3, 4, 5, 6, 7, 8]), (152, [0, 3, 4, 5, 6, 7, 8])])
def mc_112 : List (Nat × Instr × Nat) := [(0, .aload_n 0, 1), (1, .getfield 10, 3), (4, .iload_n 1, 1), (5, .invokevirtual 102, 3), (8, .ifCond .eq 19, 3), (11, .aload_n 0, 1), (12, .getfield 10, 3), (15, .iload_n 2, 1), (16, .invokevirtual 102, 3), (19, .ifCond .eq 8, 3), (22, .iload_n 1, 1), (23, .iload_n 2, 1), (24, .if_icmp .ne 7, 3), (27, .ldc_w 257, 3), (30, .ireturn, 1), (31, .aload_n 0, 1), (32, .getfield 10, 3), (35, .iload_n 1, 1), (36, .invokevirtual 258, 3), (39, .iconst 1, 1), (40, .iadd, 1), (41, .istore_n 3, 1), (42, .aload_n 0, 1), (43, .getfield 10, 3), (46, .iload_n 2, 1), (47, .invokevirtual 258, 3), (50, .iconst 1, 1), (51, .isub, 1), (52, .istore 4, 2), (54, .iload_n 3, 1), (55, .bipush 9, 2), (57, .if_icmp .gt 8, 3), (60, .iload 4, 2), (62, .ifCond .ge 7, 3), (65, .ldc_w 261, 3), (68, .ireturn, 1), (69, .aload_n 0, 1), (70, .getfield 10, 3), (73, .getfield 138, 3), (76, .iconst 0, 1), (77, .aload_n 0, 1), (78, .getfield 56, 3), (81, .iconst 0, 1), (82, .bipush 16, 2), (84, .invokestatic 251, 3), (87, .aload_n 0, 1), (88, .getfield 56, 3), (91, .iload_n 1, 1), (92, .iload_n 3, 1), (93, .iastore, 1), (94, .aload_n 0, 1), (95, .getfield 56, 3), (98, .iload_n 2, 1), (99, .iload 4, 2), (101, .iastore, 1), (102, .aload_n 0, 1), (103, .getfield 52, 3), (106, .aload_n 0, 1), (107, .getfield 10, 3), (110, .aload_n 0, 1), (111, .getfield 56, 3), (114, .invokevirtual 179, 3), (117, .istore 5, 2), (119, .aload_n 0, 1), (120, .getfield 52, 3), (123, .aload_n 0, 1), (124, .getfield 10, 3), (127, .aload_n 0, 1), (128, .getfield 10, 3), (131, .getfield 138, 3), (134, .invokevirtual 179, 3), (137, .istore 6, 2), (139, .iload 5, 2), (141, .ifCond .lt 8, 3), (144, .iload 6, 2), (146, .ifCond .ge 7, 3), (149, .ldc_w 262, 3), (152, .ireturn, 1), (153, .iload 5, 2), (155, .iload 6, 2), (157, .isub, 1), (158, .ireturn, 1)]
def mm_112 : mv_M := (7, 0, mc_112, lk_RX6, [])
def mc_113 : List (Nat × Instr × Nat) := [(0, .aload_n 0, 1), (1, .iload_n 1, 1), (2, .iload_n 2, 1), (3, .invokevirtual 162, 3), (6, .istore_n 3, 1), (7, .iload_n 3, 1), (8, .ifCond .eq 9, 3), (11, .ldc_w 263, 3), (14, .iload_n 3, 1), (15, .iadd, 1), (16, .ireturn, 1), (17, .aload_n 0, 1), (18, .getfield 10, 3), (21, .aload_n 0, 1), (22, .getfield 10, 3), (25, .getfield 106, 3), (28, .invokevirtual 264, 3), (31, .istore 4, 2), (33, .aload_n 0, 1), (34, .getfield 10, 3), (37, .iload_n 1, 1), (38, .iload_n 2, 1), (39, .invokevirtual 169, 3), (42, .aload_n 0, 1), (43, .getfield 10, 3), (46, .aload_n 0, 1), (47, .getfield 10, 3), (50, .getfield 106, 3), (53, .invokevirtual 264, 3), (56, .istore 5, 2), (58, .aload_n 0, 1), (59, .getfield 10, 3), (62, .iload_n 2, 1), (63, .iload_n 1, 1), (64, .invokevirtual 169, 3), (67, .iload 4, 2), (69, .iload 5, 2), (71, .isub, 1), (72, .ireturn, 1)]
def mm_113 : mv_M := (6, 0, mc_113, lk_RX6, [])
def mc_114 : List (Nat × Instr × Nat) := [(0, .iload_n 1, 1), (1, .ifCond .lt 8, 3), (4, .iload_n 1, 1), (5, .iconst 2, 1), (6, .if_icmp .le 5, 3), (9, .iconst (-1), 1), (10, .ireturn, 1), (11, .aload_n 0, 1), (12, .getfield 10, 3), (15, .getfield 226, 3), (18, .istore_n 2, 1), (19, .iload_n 2, 1), (20, .iconst 1, 1), (21, .if_icmp .ge 6, 3), (24, .bipush (-3), 2), (26, .ireturn, 1), (27, .iconst 0, 1), (28, .istore_n 3, 1), (29, .iload_n 3, 1), (30, .iload_n 2, 1), (31, .if_icmp .ge 27, 3), (34, .aload_n 0, 1), (35, .getfield 45, 3), (38, .aload_n 0, 1), (39, .getfield 10, 3), (42, .iload_n 3, 1), (43, .aload_n 0, 1), (44, .getfield 65, 3), (47, .iload_n 3, 1), (48, .aaload, 1), (49, .invokevirtual 222, 3), (52, .iinc 3 1, 3), (55, .goto (-26), 3), (58, .iload_n 1, 1), (59, .iconst 2, 1), (60, .if_icmp .ne 9, 3), (63, .aload_n 0, 1), (64, .iload_n 2, 1), (65, .invokevirtual 267, 3), (68, .ireturn, 1), (69, .aload_n 0, 1), (70, .iload_n 2, 1), (71, .invokevirtual 270, 3), (74, .iconst 0, 1), (75, .istore_n 3, 1), (76, .iconst 1, 1), (77, .istore 4, 2), (79, .iload 4, 2), (81, .iload_n 2, 1), (82, .if_icmp .ge 28, 3), (85, .aload_n 0, 1), (86, .getfield 68, 3), (89, .iload 4, 2), (91, .iaload, 1), (92, .aload_n 0, 1), (93, .getfield 68, 3), (96, .iload_n 3, 1), (97, .iaload, 1), (98, .if_icmp .le 6, 3), (101, .iload 4, 2), (103, .istore_n 3, 1), (104, .iinc 4 1, 3), (107, .goto (-28), 3), (110, .iload_n 1, 1), (111, .ifCond .ne 7, 3), (114, .iload_n 3, 1), (115, .goto 9, 3), (118, .aload_n 0, 1), (119, .getfield 68, 3), (122, .iload_n 3, 1), (123, .iaload, 1), (124, .ireturn, 1)]
def mm_114 : mv_M := (5, 0, mc_114, lk_RX6, [(29, [0, 1, 2, 3]), (79, [0, 1, 2, 3, 4])])
def mc_115 : List (Nat × Instr × Nat) := [(0, .aload_n 0, 1), (1, .iload_n 1, 1), (2, .invokevirtual 72, 3), (5, .astore_n 2, 1), (6, .aload_n 2, 1), (7, .ifnonnull 5, 3), (10, .iconst (-1), 1), (11, .ireturn, 1), (12, .aload_n 2, 1), (13, .invokevirtual 274, 3), (16, .istore_n 3, 1), (17, .iload_n 3, 1), (18, .ifCond .eq 5, 3), (21, .iload_n 3, 1), (22, .ireturn, 1), (23, .aload_n 2, 1), (24, .invokevirtual 277, 3), (27, .istore 4, 2), (29, .iconst 0, 1), (30, .istore 5, 2), (32, .iload 5, 2), (34, .aload_n 0, 1), (35, .getfield 10, 3), (38, .getfield 141, 3), (41, .if_icmp .ge 51, 3), (44, .iload 5, 2), (46, .aload_n 2, 1), (47, .getfield 83, 3), (50, .if_icmp .ge 42, 3), (53, .aload_n 2, 1), (54, .iload 5, 2), (56, .invokevirtual 187, 3), (59, .istore 6, 2), (61, .iload 6, 2), (63, .iload 4, 2), (65, .if_icmp .eq 21, 3), (68, .iload 6, 2), (70, .aload_n 0, 1), (71, .getfield 10, 3), (74, .getfield 106, 3), (77, .iload 5, 2), (79, .iaload, 1), (80, .if_icmp .eq 6, 3), (83, .iload 5, 2), (85, .ireturn, 1), (86, .iinc 5 1, 3), (89, .goto (-57), 3), (92, .aload_n 2, 1), (93, .getfield 83, 3), (96, .aload_n 0, 1), (97, .getfield 10, 3), (100, .getfield 141, 3), (103, .if_icmp .ne 6, 3), (106, .bipush (-4), 2), (108, .ireturn, 1), (109, .aload_n 2, 1), (110, .getfield 83, 3), (113, .aload_n 0, 1), (114, .getfield 10, 3), (117, .getfield 141, 3), (120, .invokestatic 280, 3), (123, .ireturn, 1)]
def mm_115 : mv_M := (7, 0, mc_115, lk_RX6, [(32, [0, 2, 4, 5])])
def mc_116 : List (Nat × Instr × Nat) := [(0, .aload_n 0, 1), (1, .getfield 22, 3), (4, .aload_n 0, 1), (5, .getfield 10, 3), (8, .invokevirtual 94, 3), (11, .aload_n 0, 1), (12, .iconst 1, 1), (13, .putfield 25, 3), (16, .aload_n 0, 1), (17, .getfield 10, 3), (20, .getfield 132, 3), (23, .ireturn, 1)]
def mm_116 : mv_M := (1, 0, mc_116, lk_RX6, [])
def mc_117 : List (Nat × Instr × Nat) := [(0, .aload_n 0, 1), (1, .getfield 25, 3), (4, .ifCond .ne 6, 3), (7, .bipush (-3), 2), (9, .ireturn, 1), (10, .aload_n 0, 1), (11, .getfield 10, 3), (14, .aload_n 0, 1), (15, .getfield 22, 3), (18, .invokevirtual 94, 3), (21, .aload_n 0, 1), (22, .getfield 10, 3), (25, .getfield 132, 3), (28, .ireturn, 1)]
def mm_117 : mv_M := (1, 0, mc_117, lk_RX6, [])
def mc_118 : List (Nat × Instr × Nat) := [(0, .iload_n 1, 1), (1, .tableswitch 87 0 5 #[39, 47, 55, 63, 71, 79], 39), (40, .aload_n 0, 1), (41, .getfield 10, 3), (44, .getfield 141, 3), (47, .ireturn, 1), (48, .aload_n 0, 1), (49, .getfield 10, 3), (52, .getfield 226, 3), (55, .ireturn, 1), (56, .aload_n 0, 1), (57, .getfield 10, 3), (60, .invokevirtual 285, 3), (63, .ireturn, 1), (64, .aload_n 0, 1), (65, .getfield 10, 3), (68, .invokevirtual 150, 3), (71, .ireturn, 1), (72, .aload_n 0, 1), (73, .getfield 10, 3), (76, .invokevirtual 288, 3), (79, .ireturn, 1), (80, .aload_n 0, 1), (81, .getfield 10, 3), (84, .invokevirtual 291, 3), (87, .ireturn, 1), (88, .iconst (-1), 1), (89, .ireturn, 1)]
def mm_118 : mv_M := (2, 0, mc_118, lk_RX6, [])
def mc_119 : List (Nat × Instr × Nat) := [(0, .aload_n 0, 1), (1, .iload_n 1, 1), (2, .invokevirtual 72, 3), (5, .astore 4, 2), (7, .aload 4, 2), (9, .ifnull 12, 3), (12, .iload_n 2, 1), (13, .ifCond .lt 8, 3), (16, .iload_n 2, 1), (17, .iconst 1, 1), (18, .if_icmp .le 5, 3), (21, .iconst (-1), 1), (22, .ireturn, 1), (23, .iload_n 2, 1), (24, .ifCond .ne 10, 3), (27, .aload 4, 2), (29, .invokevirtual 294, 3), (32, .iconst 0, 1), (33, .ireturn, 1), (34, .aload_n 0, 1), (35, .getfield 10, 3), (38, .iload_n 3, 1), (39, .invokevirtual 203, 3), (42, .astore 5, 2), (44, .aload 5, 2), (46, .ifnonnull 5, 3), (49, .iconst (-1), 1), (50, .ireturn, 1), (51, .aload 4, 2), (53, .aload 5, 2), (55, .invokevirtual 297, 3), (58, .iconst 0, 1), (59, .ireturn, 1)]
def mm_119 : mv_M := (6, 0, mc_119, lk_RX6, [])
def mc_120 : List (Nat × Instr × Nat) := [(0, .aload_n 0, 1), (1, .iload_n 1, 1), (2, .invokevirtual 72, 3), (5, .astore 4, 2), (7, .aload 4, 2), (9, .ifnull 18, 3), (12, .iload_n 2, 1), (13, .ifCond .lt 14, 3), (16, .iload_n 2, 1), (17, .iconst 2, 1), (18, .if_icmp .gt 9, 3), (21, .iload_n 3, 1), (22, .bipush 100, 2), (24, .if_icmp .le 5, 3), (27, .iconst (-1), 1), (28, .ireturn, 1), (29, .iload_n 3, 1), (30, .ifCond .ge 6, 3), (33, .bipush (-14), 2), (35, .ireturn, 1), (36, .aload 4, 2), (38, .iload_n 2, 1), (39, .iload_n 3, 1), (40, .invokevirtual 301, 3), (43, .iconst 0, 1), (44, .ireturn, 1)]
def mm_120 : mv_M := (5, 0, mc_120, lk_RX6, [])
def mc_121 : List (Nat × Instr × Nat) := [(0, .aload_n 0, 1), (1, .iload_n 1, 1), (2, .invokevirtual 72, 3), (5, .astore 4, 2), (7, .aload 4, 2), (9, .ifnonnull 5, 3), (12, .iconst (-1), 1), (13, .ireturn, 1), (14, .aload 4, 2), (16, .invokevirtual 274, 3), (19, .istore 5, 2), (21, .iload 5, 2), (23, .ifCond .eq 6, 3), (26, .iload 5, 2), (28, .ireturn, 1), (29, .aload 4, 2), (31, .iload_n 2, 1), (32, .invokevirtual 304, 3), (35, .ifCond .ne 6, 3), (38, .bipush (-13), 2), (40, .ireturn, 1), (41, .aload 4, 2), (43, .iload_n 2, 1), (44, .iload_n 3, 1), (45, .invokevirtual 307, 3), (48, .iconst 0, 1), (49, .ireturn, 1)]
def mm_121 : mv_M := (6, 0, mc_121, lk_RX6, [])
def mc_122 : List (Nat × Instr × Nat) := [(0, .aload_n 0, 1), (1, .iload_n 1, 1), (2, .invokevirtual 72, 3), (5, .astore_n 3, 1), (6, .aload_n 3, 1), (7, .ifnonnull 14, 3), (10, .new 310, 3), (13, .dup, 1), (14, .ldc_w 312, 3), (17, .invokespecial 314, 3), (20, .athrow, 1), (21, .aload_n 3, 1), (22, .getfield 317, 3), (25, .ifCond .eq 11, 3), (28, .aload_n 3, 1), (29, .iload_n 2, 1), (30, .invokevirtual 304, 3), (33, .ifCond .ne 14, 3), (36, .new 320, 3), (39, .dup, 1), (40, .ldc_w 322, 3), (43, .invokespecial 324, 3), (46, .athrow, 1), (47, .aload_n 3, 1), (48, .iload_n 2, 1), (49, .invokevirtual 187, 3), (52, .i2l, 1), (53, .lreturn, 1)]
def mm_122 : mv_M := (4, 3, mc_122, lk_RX6, [])
def mc_123 : List (Nat × Instr × Nat) := [(0, .aload_n 0, 1), (1, .iload_n 1, 1), (2, .invokevirtual 72, 3), (5, .astore 6, 2), (7, .aload_n 0, 1), (8, .iload_n 3, 1), (9, .invokevirtual 72, 3), (12, .astore 7, 2), (14, .aload 6, 2), (16, .ifnull 8, 3), (19, .aload 7, 2), (21, .ifnonnull 5, 3), (24, .iconst (-1), 1), (25, .ireturn, 1), (26, .aload 6, 2), (28, .invokevirtual 239, 3), (31, .ifCond .ne 11, 3), (34, .aload 7, 2), (36, .invokevirtual 239, 3), (39, .ifCond .eq 6, 3), (42, .bipush (-11), 2), (44, .ireturn, 1), (45, .aload 6, 2), (47, .getfield 317, 3), (50, .ifCond .eq 16, 3), (53, .aload 7, 2), (55, .aload 6, 2), (57, .getfield 325, 3), (60, .invokevirtual 242, 3), (63, .ifCond .ne 6, 3), (66, .bipush (-12), 2), (68, .ireturn, 1), (69, .aload 6, 2), (71, .iload_n 2, 1), (72, .iload 5, 2), (74, .invokevirtual 328, 3), (77, .ifCond .eq 15, 3), (80, .aload 7, 2), (82, .iload 4, 2), (84, .iload 5, 2), (86, .invokevirtual 328, 3), (89, .ifCond .ne 6, 3), (92, .bipush (-13), 2), (94, .ireturn, 1), (95, .aload 6, 2), (97, .getfield 80, 3), (100, .iload_n 2, 1), (101, .aload 7, 2), (103, .getfield 80, 3), (106, .iload 4, 2), (108, .iload 5, 2), (110, .invokestatic 251, 3), (113, .iload 5, 2), (115, .ireturn, 1)]
def mm_123 : mv_M := (8, 0, mc_123, lk_RX6, [])
def mc_124 : List (Nat × Instr × Nat) := [(0, .aload_n 0, 1), (1, .iload_n 1, 1), (2, .invokevirtual 72, 3), (5, .astore_n 2, 1), (6, .aload_n 2, 1), (7, .ifnonnull 5, 3), (10, .iconst (-1), 1), (11, .ireturn, 1), (12, .aload_n 2, 1), (13, .invokevirtual 239, 3), (16, .ifCond .eq 6, 3), (19, .bipush (-11), 2), (21, .ireturn, 1), (22, .aload_n 2, 1), (23, .getfield 331, 3), (26, .ifnonnull 8, 3), (29, .bipush (-12), 2), (31, .goto 10, 3), (34, .aload_n 2, 1), (35, .getfield 331, 3), (38, .invokevirtual 335, 3), (41, .ireturn, 1)]
def mm_124 : mv_M := (3, 0, mc_124, lk_RX6, [])
def mc_125 : List (Nat × Instr × Nat) := [(0, .aload_n 0, 1), (1, .iload_n 1, 1), (2, .invokevirtual 72, 3), (5, .astore_n 2, 1), (6, .aload_n 2, 1), (7, .ifnonnull 5, 3), (10, .iconst (-1), 1), (11, .ireturn, 1), (12, .aload_n 2, 1), (13, .invokevirtual 239, 3), (16, .ifCond .eq 6, 3), (19, .bipush (-11), 2), (21, .ireturn, 1), (22, .aload_n 2, 1), (23, .getfield 331, 3), (26, .astore_n 3, 1), (27, .aload_n 3, 1), (28, .ifnonnull 6, 3), (31, .bipush (-12), 2), (33, .ireturn, 1), (34, .aload_n 3, 1), (35, .invokevirtual 338, 3), (38, .goto 31, 3), (41, .astore 4, 2), (43, .aload_n 3, 1), (44, .getfield 341, 3), (47, .ireturn, 1), (48, .astore 4, 2), (50, .bipush 100, 2), (52, .aload_n 3, 1), (53, .getfield 341, 3), (56, .iadd, 1), (57, .ireturn, 1), (58, .astore 4, 2), (60, .sipush 200, 3), (63, .aload_n 3, 1), (64, .invokevirtual 335, 3), (67, .iadd, 1), (68, .ireturn, 1), (69, .bipush (-15), 2), (71, .ireturn, 1)]
def mm_125 : mv_M := (5, 0, mc_125, lk_RX6, [])
def mc_126 : List (Nat × Instr × Nat) := [(0, .iload_n 1, 1), (1, .ifCond .lt 18, 3), (4, .iload_n 1, 1), (5, .bipush 8, 2), (7, .if_icmp .ge 12, 3), (10, .aload_n 0, 1), (11, .getfield 31, 3), (14, .iload_n 1, 1), (15, .aaload, 1), (16, .goto 4, 3), (19, .aconst_null, 1), (20, .areturn, 1)]
def mm_126 : mv_M := (2, 2, mc_126, lk_RX6, [])
def mc_127 : List (Nat × Instr × Nat) := [(0, .aload_n 0, 1), (1, .getfield 10, 3), (4, .iload_n 1, 1), (5, .invokevirtual 102, 3), (8, .ifCond .eq 19, 3), (11, .aload_n 0, 1), (12, .getfield 10, 3), (15, .iload_n 2, 1), (16, .invokevirtual 102, 3), (19, .ifCond .eq 8, 3), (22, .iload_n 1, 1), (23, .iload_n 2, 1), (24, .if_icmp .ne 5, 3), (27, .iconst (-1), 1), (28, .ireturn, 1), (29, .aload_n 0, 1), (30, .getfield 10, 3), (33, .iload_n 1, 1), (34, .iload_n 2, 1), (35, .invokevirtual 190, 3), (38, .ifCond .eq 7, 3), (41, .iconst 0, 1), (42, .goto 5, 3), (45, .bipush (-3), 2), (47, .ireturn, 1)]
def mm_127 : mv_M := (3, 0, mc_127, lk_RX6, [])
def mc_128 : List (Nat × Instr × Nat) := [(0, .aload_n 0, 1), (1, .getfield 45, 3), (4, .aload_n 1, 1), (5, .iload_n 2, 1), (6, .aload_n 0, 1), (7, .getfield 56, 3), (10, .invokevirtual 222, 3), (13, .aload_n 1, 1), (14, .getfield 106, 3), (17, .iconst 0, 1), (18, .aload_n 0, 1), (19, .getfield 60, 3), (22, .iconst 0, 1), (23, .bipush 16, 2), (25, .invokestatic 251, 3), (28, .aload_n 0, 1), (29, .getfield 56, 3), (32, .iconst 0, 1), (33, .aload_n 1, 1), (34, .getfield 138, 3), (37, .iconst 0, 1), (38, .bipush 16, 2), (40, .invokestatic 251, 3), (43, .aload_n 0, 1), (44, .getfield 52, 3), (47, .aload_n 1, 1), (48, .invokevirtual 194, 3), (51, .aload_n 1, 1), (52, .dup, 1), (53, .getfield 132, 3), (56, .iconst 1, 1), (57, .iadd, 1), (58, .putfield 132, 3), (61, .aload_n 1, 1), (62, .aload_n 0, 1), (63, .getfield 60, 3), (66, .invokevirtual 233, 3), (69, .ireturn, 1)]
def mm_128 : mv_M := (3, 0, mc_128, lk_RX6, [])
def mc_129 : List (Nat × Instr × Nat) := [(0, .iload_n 0, 1), (1, .iconst (-1), 1), (2, .if_icmp .eq 22, 3), (5, .iload_n 1, 1), (6, .iconst (-1), 1), (7, .if_icmp .eq 17, 3), (10, .iload_n 0, 1), (11, .iload_n 1, 1), (12, .isub, 1), (13, .invokestatic 346, 3), (16, .iconst 2, 1), (17, .if_icmp .le 7, 3), (20, .iconst 1, 1), (21, .goto 4, 3), (24, .iconst 0, 1), (25, .ireturn, 1)]
def mm_129 : mv_M := (2, 1, mc_129, lk_RX6, [])
def mc_130 : List (Nat × Instr × Nat) := [(0, .aload_n 0, 1), (1, .getfield 68, 3), (4, .iconst 0, 1), (5, .invokestatic 349, 3), (8, .iconst 0, 1), (9, .istore_n 2, 1), (10, .iload_n 2, 1), (11, .iload_n 1, 1), (12, .if_icmp .ge 83, 3), (15, .iconst 0, 1), (16, .istore_n 3, 1), (17, .aload_n 0, 1), (18, .getfield 10, 3), (21, .iload_n 2, 1), (22, .aload_n 0, 1), (23, .getfield 65, 3), (26, .iconst 0, 1), (27, .aaload, 1), (28, .invokevirtual 218, 3), (31, .istore 4, 2), (33, .iconst 1, 1), (34, .istore 5, 2), (36, .iload 5, 2), (38, .iload_n 1, 1), (39, .if_icmp .ge 40, 3), (42, .aload_n 0, 1), (43, .getfield 10, 3), (46, .iload_n 2, 1), (47, .aload_n 0, 1), (48, .getfield 65, 3), (51, .iload 5, 2), (53, .aaload, 1), (54, .invokevirtual 218, 3), (57, .istore 6, 2), (59, .iload 6, 2), (61, .iload 4, 2), (63, .if_icmp .le 10, 3), (66, .iload 6, 2), (68, .istore 4, 2), (70, .iload 5, 2), (72, .istore_n 3, 1), (73, .iinc 5 1, 3), (76, .goto (-40), 3), (79, .aload_n 0, 1), (80, .getfield 68, 3), (83, .iload_n 3, 1), (84, .dup2, 1), (85, .iaload, 1), (86, .iconst 1, 1), (87, .iadd, 1), (88, .iastore, 1), (89, .iinc 2 1, 3), (92, .goto (-82), 3), (95, .return_, 1)]
def mm_130 : mv_M := (7, 4, mc_130, lk_RX6, [(10, [0, 1, 2]), (36, [0, 1, 2, 3, 4, 5])])
def mc_131 : List (Nat × Instr × Nat) := [(0, .iconst 0, 1), (1, .istore_n 2, 1), (2, .aload_n 0, 1), (3, .getfield 10, 3), (6, .aload_n 0, 1), (7, .getfield 65, 3), (10, .iconst 0, 1), (11, .aaload, 1), (12, .invokevirtual 264, 3), (15, .istore_n 3, 1), (16, .iconst 1, 1), (17, .istore 4, 2), (19, .iload 4, 2), (21, .iload_n 1, 1), (22, .if_icmp .ge 37, 3), (25, .aload_n 0, 1), (26, .getfield 10, 3), (29, .aload_n 0, 1), (30, .getfield 65, 3), (33, .iload 4, 2), (35, .aaload, 1), (36, .invokevirtual 264, 3), (39, .istore 5, 2), (41, .iload 5, 2), (43, .iload_n 3, 1), (44, .if_icmp .le 9, 3), (47, .iload 5, 2), (49, .istore_n 3, 1), (50, .iload 4, 2), (52, .istore_n 2, 1), (53, .iinc 4 1, 3), (56, .goto (-37), 3), (59, .iload_n 2, 1), (60, .ireturn, 1)]
def mm_131 : mv_M := (6, 0, mc_131, lk_RX6, [(19, [0, 1, 2, 3, 4])])
def mc_132 : List (Nat × Instr × Nat) := [(0, .aload_n 0, 1), (1, .invokespecial 1, 3), (4, .aload_n 0, 1), (5, .sipush 130, 3), (8, .newarray .int, 2), (10, .putfield 9, 3), (13, .aload_n 0, 1), (14, .sipush 130, 3), (17, .newarray .int, 2), (19, .putfield 13, 3), (22, .aload_n 0, 1), (23, .sipush 130, 3), (26, .newarray .int, 2), (28, .putfield 16, 3), (31, .aload_n 0, 1), (32, .bipush 8, 2), (34, .newarray .int, 2), (36, .putfield 19, 3), (39, .aload_n 0, 1), (40, .bipush 8, 2), (42, .newarray .int, 2), (44, .putfield 22, 3), (47, .aload_n 0, 1), (48, .bipush 8, 2), (50, .newarray .int, 2), (52, .putfield 25, 3), (55, .aload_n 0, 1), (56, .sipush 800, 3), (59, .newarray .int, 2), (61, .putfield 28, 3), (64, .aload_n 0, 1), (65, .bipush 8, 2), (67, .newarray .int, 2), (69, .putfield 31, 3), (72, .aload_n 0, 1), (73, .bipush 8, 2), (75, .newarray .int, 2), (77, .putfield 34, 3), (80, .aload_n 0, 1), (81, .iconst 4, 1), (82, .newarray .int, 2), (84, .putfield 37, 3), (87, .aload_n 0, 1), (88, .bipush 8, 2), (90, .newarray .int, 2), (92, .dup, 1), (93, .iconst 0, 1), (94, .iconst (-1), 1), (95, .iastore, 1), (96, .dup, 1), (97, .iconst 1, 1), (98, .iconst 0, 1), (99, .iastore, 1), (100, .dup, 1), (101, .iconst 2, 1), (102, .iconst 0, 1), (103, .iastore, 1), (104, .dup, 1), (105, .iconst 3, 1), (106, .iconst 1, 1), (107, .iastore, 1), (108, .dup, 1), (109, .iconst 4, 1), (110, .iconst 1, 1), (111, .iastore, 1), (112, .dup, 1), (113, .iconst 5, 1), (114, .iconst 0, 1), (115, .iastore, 1), (116, .dup, 1), (117, .bipush 6, 2), (119, .iconst 0, 1), (120, .iastore, 1), (121, .dup, 1), (122, .bipush 7, 2), (124, .iconst (-1), 1), (125, .iastore, 1), (126, .putfield 40, 3), (129, .aload_n 0, 1), (130, .bipush 16, 2), (132, .newarray .int, 2), (134, .putfield 43, 3), (137, .aload_n 0, 1), (138, .sipush 256, 3), (141, .newarray .int, 2), (143, .putfield 46, 3), (146, .aload_n 0, 1), (147, .bipush 32, 2), (149, .newarray .int, 2), (151, .putfield 49, 3), (154, .aload_n 0, 1), (155, .bipush 32, 2), (157, .newarray .int, 2), (159, .putfield 52, 3), (162, .aload_n 0, 1), (163, .sipush 130, 3), (166, .newarray .int, 2), (168, .putfield 55, 3), (171, .aload_n 0, 1), (172, .sipush 256, 3), (175, .newarray .boolean, 2), (177, .putfield 58, 3), (180, .aload_n 0, 1), (181, .sipush 130, 3), (184, .newarray .int, 2), (186, .putfield 62, 3), (189, .aload_n 0, 1), (190, .bipush 16, 2), (192, .newarray .int, 2), (194, .putfield 65, 3), (197, .aload_n 0, 1), (198, .bipush 16, 2), (200, .newarray .int, 2), (202, .putfield 68, 3), (205, .aload_n 0, 1), (206, .bipush 16, 2), (208, .newarray .int, 2), (210, .putfield 71, 3), (213, .aload_n 0, 1), (214, .sipush 130, 3), (217, .newarray .int, 2), (219, .putfield 74, 3), (222, .aload_n 0, 1), (223, .bipush 36, 2), (225, .newarray .int, 2), (227, .putfield 77, 3), (230, .aload_n 0, 1), (231, .getfield 9, 3), (234, .iconst 0, 1), (235, .iconst 3, 1), (236, .iastore, 1), (237, .aload_n 0, 1), (238, .getfield 9, 3), (241, .iconst 1, 1), (242, .iconst 3, 1), (243, .iastore, 1), (244, .aload_n 0, 1), (245, .getfield 9, 3), (248, .iconst 2, 1), (249, .bipush 60, 2), (251, .iastore, 1), (252, .iconst 0, 1), (253, .istore_n 1, 1), (254, .iload_n 1, 1), (255, .bipush 16, 2), (257, .if_icmp .ge 30, 3), (260, .aload_n 0, 1), (261, .getfield 9, 3), (264, .bipush 8, 2), (266, .iload_n 1, 1), (267, .iadd, 1), (268, .iconst 2, 1), (269, .iastore, 1), (270, .aload_n 0, 1), (271, .getfield 9, 3), (274, .bipush 24, 2), (276, .iload_n 1, 1), (277, .iadd, 1), (278, .bipush (-4), 2), (280, .iastore, 1), (281, .iinc 1 1, 3), (284, .goto (-30), 3), (287, .return_, 1)]
def mm_132 : mv_M := (2, 4, mc_132, lk_RX7, [(254, [0, 1])])
def mc_133 : List (Nat × Instr × Nat) := [(0, .aload_n 0, 1), (1, .getfield 80, 3), (4, .ireturn, 1)]
def mm_133 : mv_M := (1, 0, mc_133, lk_RX7, [])
def mc_134 : List (Nat × Instr × Nat) := [(0, .lload_n 0, 1), (1, .lload_n 2, 1), (2, .lcmp, 1), (3, .ifCond .lt 14, 3), (6, .lload_n 0, 1), (7, .lload 4, 2), (9, .lcmp, 1), (10, .ifCond .gt 7, 3), (13, .iconst 1, 1), (14, .goto 4, 3), (17, .iconst 0, 1), (18, .ireturn, 1)]
def mm_134 : mv_M := (6, 1, mc_134, lk_RX7, [])
def mc_135 : List (Nat × Instr × Nat) := [(0, .aload_n 0, 1), (1, .getfield 9, 3), (4, .iconst 0, 1), (5, .iaload, 1), (6, .aload_n 0, 1), (7, .getfield 9, 3), (10, .iconst 1, 1), (11, .iaload, 1), (12, .imul, 1), (13, .ireturn, 1)]
def mm_135 : mv_M := (1, 0, mc_135, lk_RX7, [])
def mc_136 : List (Nat × Instr × Nat) := [(0, .iload_n 1, 1), (1, .i2l, 1), (2, .lconst 0, 1), (3, .aload_n 0, 1), (4, .invokevirtual 84, 3), (7, .iconst 1, 1), (8, .isub, 1), (9, .i2l, 1), (10, .invokestatic 88, 3), (13, .ireturn, 1)]
def mm_136 : mv_M := (2, 1, mc_136, lk_RX7, [])
def mc_137 : List (Nat × Instr × Nat) := [(0, .iload_n 1, 1), (1, .i2l, 1), (2, .lconst 0, 1), (3, .aload_n 0, 1), (4, .getfield 9, 3), (7, .bipush 7, 2), (9, .iaload, 1), (10, .iconst 1, 1), (11, .isub, 1), (12, .i2l, 1), (13, .invokestatic 88, 3), (16, .ireturn, 1)]
def mm_137 : mv_M := (2, 1, mc_137, lk_RX7, [])
def mc_138 : List (Nat × Instr × Nat) := [(0, .iload_n 0, 1), (1, .i2l, 1), (2, .lconst 0, 1), (3, .ldc2_w 92, 3), (6, .invokestatic 88, 3), (9, .ireturn, 1)]
def mm_138 : mv_M := (1, 1, mc_138, lk_RX7, [])
def mc_139 : List (Nat × Instr × Nat) := [(0, .iload_n 0, 1), (1, .ifCond .ge 8, 3), (4, .iload_n 0, 1), (5, .ineg, 1), (6, .goto 4, 3), (9, .iload_n 0, 1), (10, .ireturn, 1)]
def mm_139 : mv_M := (1, 0, mc_139, lk_RX7, [])
def mc_140 : List (Nat × Instr × Nat) := [(0, .aload_n 0, 1), (1, .getfield 9, 3), (4, .bipush 40, 2), (6, .bipush 15, 2), (8, .iload_n 1, 1), (9, .imul, 1), (10, .iadd, 1), (11, .iload_n 2, 1), (12, .iadd, 1), (13, .iaload, 1), (14, .ireturn, 1)]
def mm_140 : mv_M := (3, 0, mc_140, lk_RX7, [])
def mc_141 : List (Nat × Instr × Nat) := [(0, .iconst 0, 1), (1, .istore_n 1, 1), (2, .iload_n 0, 1), (3, .istore_n 2, 1), (4, .iload_n 2, 1), (5, .ifCond .le 16, 3), (8, .iload_n 1, 1), (9, .iload_n 2, 1), (10, .iconst 1, 1), (11, .iand, 1), (12, .iadd, 1), (13, .istore_n 1, 1), (14, .iload_n 2, 1), (15, .iconst 1, 1), (16, .ishr, 1), (17, .istore_n 2, 1), (18, .goto (-14), 3), (21, .iload_n 1, 1), (22, .ireturn, 1)]
def mm_141 : mv_M := (3, 0, mc_141, lk_RX7, [(4, [1, 2])])
def mc_142 : List (Nat × Instr × Nat) := [(0, .aload_n 0, 1), (1, .getfield 9, 3), (4, .bipush 6, 2), (6, .iaload, 1), (7, .iload_n 1, 1), (8, .ishr, 1), (9, .iconst 1, 1), (10, .iand, 1), (11, .iconst 1, 1), (12, .if_icmp .ne 7, 3), (15, .iconst 1, 1), (16, .goto 4, 3), (19, .iconst 0, 1), (20, .ireturn, 1)]
def mm_142 : mv_M := (2, 1, mc_142, lk_RX7, [])
def mc_143 : List (Nat × Instr × Nat) := [(0, .iload_n 1, 1), (1, .aload_n 0, 1), (2, .getfield 9, 3), (5, .iconst 1, 1), (6, .iaload, 1), (7, .idiv, 1), (8, .iload_n 2, 1), (9, .aload_n 0, 1), (10, .getfield 9, 3), (13, .iconst 1, 1), (14, .iaload, 1), (15, .idiv, 1), (16, .isub, 1), (17, .invokestatic 94, 3), (20, .iload_n 1, 1), (21, .aload_n 0, 1), (22, .getfield 9, 3), (25, .iconst 1, 1), (26, .iaload, 1), (27, .irem, 1), (28, .iload_n 2, 1), (29, .aload_n 0, 1), (30, .getfield 9, 3), (33, .iconst 1, 1), (34, .iaload, 1), (35, .irem, 1), (36, .isub, 1), (37, .invokestatic 94, 3), (40, .iadd, 1), (41, .ireturn, 1)]
def mm_143 : mv_M := (3, 0, mc_143, lk_RX7, [])
def mc_144 : List (Nat × Instr × Nat) := [(0, .aload_n 0, 1), (1, .getfield 98, 3), (4, .aload_n 0, 1), (5, .getfield 101, 3), (8, .if_icmp .ge 20, 3), (11, .aload_n 0, 1), (12, .getfield 28, 3), (15, .aload_n 0, 1), (16, .getfield 104, 3), (19, .aload_n 0, 1), (20, .getfield 98, 3), (23, .iadd, 1), (24, .iaload, 1), (25, .goto 6, 3), (28, .sipush (-1000), 3), (31, .ireturn, 1)]
def mm_144 : mv_M := (1, 0, mc_144, lk_RX7, [])
def mc_145 : List (Nat × Instr × Nat) := [(0, .aload_n 0, 1), (1, .invokevirtual 107, 3), (4, .i2l, 1), (5, .ldc2_w 110, 3), (8, .ldc2_w 112, 3), (11, .invokestatic 88, 3), (14, .ireturn, 1)]
def mm_145 : mv_M := (1, 1, mc_145, lk_RX7, [])
def mc_146 : List (Nat × Instr × Nat) := [(0, .aload_n 0, 1), (1, .invokevirtual 107, 3), (4, .iload_n 1, 1), (5, .if_icmp .eq 5, 3), (8, .iconst 0, 1), (9, .ireturn, 1), (10, .aload_n 0, 1), (11, .dup, 1), (12, .getfield 98, 3), (15, .iconst 1, 1), (16, .iadd, 1), (17, .putfield 98, 3), (20, .iconst 1, 1), (21, .ireturn, 1)]
def mm_146 : mv_M := (2, 1, mc_146, lk_RX7, [])
def mc_147 : List (Nat × Instr × Nat) := [(0, .aload_n 0, 1), (1, .invokevirtual 114, 3), (4, .ifCond .ne 5, 3), (7, .iconst 0, 1), (8, .ireturn, 1), (9, .aload_n 0, 1), (10, .invokevirtual 107, 3), (13, .bipush 48, 2), (15, .isub, 1), (16, .istore_n 2, 1), (17, .aload_n 0, 1), (18, .dup, 1), (19, .getfield 98, 3), (22, .iconst 1, 1), (23, .iadd, 1), (24, .putfield 98, 3), (27, .iconst 1, 1), (28, .istore_n 3, 1), (29, .iload_n 3, 1), (30, .iload_n 1, 1), (31, .if_icmp .ge 43, 3), (34, .iload_n 2, 1), (35, .ifCond .le 39, 3), (38, .aload_n 0, 1), (39, .invokevirtual 114, 3), (42, .ifCond .eq 32, 3), (45, .bipush 10, 2), (47, .iload_n 2, 1), (48, .imul, 1), (49, .aload_n 0, 1), (50, .invokevirtual 107, 3), (53, .iadd, 1), (54, .bipush 48, 2), (56, .isub, 1), (57, .istore_n 2, 1), (58, .aload_n 0, 1), (59, .dup, 1), (60, .getfield 98, 3), (63, .iconst 1, 1), (64, .iadd, 1), (65, .putfield 98, 3), (68, .iinc 3 1, 3), (71, .goto (-42), 3), (74, .aload_n 0, 1), (75, .getfield 37, 3), (78, .aload_n 0, 1), (79, .getfield 118, 3), (82, .iload_n 2, 1), (83, .iastore, 1), (84, .aload_n 0, 1), (85, .dup, 1), (86, .getfield 118, 3), (89, .iconst 1, 1), (90, .iadd, 1), (91, .putfield 118, 3), (94, .iconst 1, 1), (95, .ireturn, 1)]
def mm_147 : mv_M := (4, 1, mc_147, lk_RX7, [(29, [0, 1, 2, 3])])
def mc_148 : List (Nat × Instr × Nat) := [(0, .aload_n 0, 1), (1, .invokevirtual 107, 3), (4, .istore_n 1, 1), (5, .aload_n 0, 1), (6, .iconst 0, 1), (7, .putfield 118, 3), (10, .iconst 0, 1), (11, .istore_n 2, 1), (12, .aload_n 0, 1), (13, .dup, 1), (14, .getfield 98, 3), (17, .iconst 1, 1), (18, .iadd, 1), (19, .putfield 98, 3), (22, .iload_n 1, 1), (23, .tableswitch 228 98 119 #[160, 228, 101, 228, 228, 126, 228, 228, 228, 228, 169, 228, 228, 228, 228, 160, 228, 101, 160, 228, 228, 178], 101), (124, .aload_n 0, 1), (125, .iconst 1, 1), (126, .invokevirtual 121, 3), (129, .ifCond .eq 15, 3), (132, .aload_n 0, 1), (133, .iconst 1, 1), (134, .invokevirtual 121, 3), (137, .ifCond .eq 7, 3), (140, .iconst 1, 1), (141, .goto 4, 3), (144, .iconst 0, 1), (145, .istore_n 2, 1), (146, .goto 117, 3), (149, .aload_n 0, 1), (150, .iconst 3, 1), (151, .invokevirtual 121, 3), (154, .ifCond .eq 24, 3), (157, .aload_n 0, 1), (158, .bipush 32, 2), (160, .invokevirtual 125, 3), (163, .ifCond .eq 15, 3), (166, .aload_n 0, 1), (167, .iconst 1, 1), (168, .invokevirtual 121, 3), (171, .ifCond .eq 7, 3), (174, .iconst 1, 1), (175, .goto 4, 3), (178, .iconst 0, 1), (179, .istore_n 2, 1), (180, .goto 83, 3), (183, .aload_n 0, 1), (184, .iconst 3, 1), (185, .invokevirtual 121, 3), (188, .istore_n 2, 1), (189, .goto 74, 3), (192, .aload_n 0, 1), (193, .iconst 1, 1), (194, .invokevirtual 121, 3), (197, .istore_n 2, 1), (198, .goto 65, 3), (201, .aload_n 0, 1), (202, .iconst 1, 1), (203, .invokevirtual 121, 3), (206, .ifCond .eq 40, 3), (209, .aload_n 0, 1), (210, .iconst 3, 1), (211, .invokevirtual 121, 3), (214, .ifCond .eq 32, 3), (217, .aload_n 0, 1), (218, .bipush 32, 2), (220, .invokevirtual 125, 3), (223, .ifCond .eq 23, 3), (226, .aload_n 0, 1), (227, .iconst 1, 1), (228, .invokevirtual 121, 3), (231, .ifCond .eq 15, 3), (234, .aload_n 0, 1), (235, .iconst 3, 1), (236, .invokevirtual 121, 3), (239, .ifCond .eq 7, 3), (242, .iconst 1, 1), (243, .goto 4, 3), (246, .iconst 0, 1), (247, .istore_n 2, 1), (248, .goto 15, 3), (251, .aload_n 0, 1), (252, .dup, 1), (253, .getfield 98, 3), (256, .iconst 1, 1), (257, .isub, 1), (258, .putfield 98, 3), (261, .iconst 0, 1), (262, .ireturn, 1), (263, .iload_n 2, 1), (264, .ifCond .eq 16, 3), (267, .aload_n 0, 1), (268, .bipush 59, 2), (270, .invokevirtual 125, 3), (273, .ifCond .eq 7, 3), (276, .iconst 1, 1), (277, .goto 4, 3), (280, .iconst 0, 1), (281, .ireturn, 1)]
def mm_148 : mv_M := (3, 1, mc_148, lk_RX7, [(124, [0]), (149, [0]), (183, [0]), (192, [0]), (201, [0]), (251, [0])])
def mc_149 : List (Nat × Instr × Nat) := [(0, .iload_n 1, 1), (1, .i2l, 1), (2, .ldc2_w 128, 3), (5, .ldc2_w 130, 3), (8, .invokestatic 88, 3), (11, .ifCond .eq 27, 3), (14, .iload_n 2, 1), (15, .i2l, 1), (16, .ldc2_w 128, 3), (19, .ldc2_w 130, 3), (22, .invokestatic 88, 3), (25, .ifCond .eq 13, 3), (28, .aload_n 0, 1), (29, .getfield 16, 3), (32, .bipush 7, 2), (34, .iaload, 1), (35, .ifCond .le 5, 3), (38, .iconst 0, 1), (39, .ireturn, 1), (40, .aload_n 0, 1), (41, .getfield 16, 3), (44, .iconst 0, 1), (45, .iload_n 1, 1), (46, .iastore, 1), (47, .aload_n 0, 1), (48, .getfield 16, 3), (51, .iconst 1, 1), (52, .iload_n 2, 1), (53, .iastore, 1), (54, .aload_n 0, 1), (55, .getfield 16, 3), (58, .bipush 6, 2), (60, .iconst 0, 1), (61, .iastore, 1), (62, .aload_n 0, 1), (63, .getfield 16, 3), (66, .iconst 5, 1), (67, .iconst 0, 1), (68, .iastore, 1), (69, .iconst 0, 1), (70, .istore_n 3, 1), (71, .iload_n 3, 1), (72, .bipush 16, 2), (74, .if_icmp .ge 30, 3), (77, .aload_n 0, 1), (78, .getfield 16, 3), (81, .bipush 8, 2), (83, .iload_n 3, 1), (84, .iadd, 1), (85, .iconst 2, 1), (86, .iastore, 1), (87, .aload_n 0, 1), (88, .getfield 16, 3), (91, .bipush 24, 2), (93, .iload_n 3, 1), (94, .iadd, 1), (95, .bipush (-4), 2), (97, .iastore, 1), (98, .iinc 3 1, 3), (101, .goto (-30), 3), (104, .iconst 1, 1), (105, .ireturn, 1)]
def mm_149 : mv_M := (4, 1, mc_149, lk_RX7, [(71, [0, 3])])
def mc_150 : List (Nat × Instr × Nat) := [(0, .aload_n 0, 1), (1, .getfield 37, 3), (4, .iconst 0, 1), (5, .iaload, 1), (6, .istore_n 2, 1), (7, .iload_n 2, 1), (8, .aload_n 0, 1), (9, .getfield 16, 3), (12, .iconst 0, 1), (13, .iaload, 1), (14, .aload_n 0, 1), (15, .getfield 16, 3), (18, .iconst 1, 1), (19, .iaload, 1), (20, .imul, 1), (21, .if_icmp .ge 7, 3), (24, .iconst 1, 1), (25, .goto 4, 3), (28, .iconst 0, 1), (29, .istore_n 3, 1), (30, .iload_n 1, 1), (31, .tableswitch 279 98 116 #[122, 279, 198, 279, 279, 101, 279, 279, 279, 279, 180, 279, 279, 279, 279, 158, 279, 89, 171], 89), (120, .aload_n 0, 1), (121, .iload_n 2, 1), (122, .aload_n 0, 1), (123, .getfield 37, 3), (126, .iconst 1, 1), (127, .iaload, 1), (128, .invokevirtual 132, 3), (131, .ireturn, 1), (132, .iload_n 3, 1), (133, .ifCond .eq 18, 3), (136, .aload_n 0, 1), (137, .getfield 16, 3), (140, .bipush 8, 2), (142, .iload_n 2, 1), (143, .iadd, 1), (144, .aload_n 0, 1), (145, .getfield 37, 3), (148, .iconst 1, 1), (149, .iaload, 1), (150, .iastore, 1), (151, .iload_n 3, 1), (152, .ireturn, 1), (153, .iload_n 3, 1), (154, .ifCond .eq 18, 3), (157, .aload_n 0, 1), (158, .getfield 16, 3), (161, .bipush 6, 2), (163, .iaload, 1), (164, .iload_n 2, 1), (165, .ishr, 1), (166, .iconst 1, 1), (167, .iand, 1), (168, .iconst 1, 1), (169, .if_icmp .ne 5, 3), (172, .iconst 0, 1), (173, .ireturn, 1), (174, .aload_n 0, 1), (175, .getfield 16, 3), (178, .bipush 6, 2), (180, .dup2, 1), (181, .iaload, 1), (182, .iconst 1, 1), (183, .iload_n 2, 1), (184, .ishl, 1), (185, .ior, 1), (186, .iastore, 1), (187, .iconst 1, 1), (188, .ireturn, 1), (189, .iload_n 3, 1), (190, .ifCond .eq 10, 3), (193, .aload_n 0, 1), (194, .getfield 16, 3), (197, .iconst 5, 1), (198, .iload_n 2, 1), (199, .iastore, 1), (200, .iload_n 3, 1), (201, .ireturn, 1), (202, .aload_n 0, 1), (203, .getfield 16, 3), (206, .iconst 2, 1), (207, .iload_n 2, 1), (208, .iastore, 1), (209, .iconst 1, 1), (210, .ireturn, 1), (211, .aload_n 0, 1), (212, .getfield 16, 3), (215, .iconst 3, 1), (216, .iload_n 2, 1), (217, .iastore, 1), (218, .iload_n 2, 1), (219, .iconst 3, 1), (220, .if_icmp .ge 7, 3), (223, .iconst 1, 1), (224, .goto 4, 3), (227, .iconst 0, 1), (228, .ireturn, 1), (229, .iload_n 2, 1), (230, .bipush 7, 2), (232, .if_icmp .gt 15, 3), (235, .aload_n 0, 1), (236, .getfield 16, 3), (239, .bipush 7, 2), (241, .iaload, 1), (242, .bipush 6, 2), (244, .if_icmp .ne 5, 3), (247, .iconst 0, 1), (248, .ireturn, 1), (249, .bipush 40, 2), (251, .bipush 15, 2), (253, .aload_n 0, 1), (254, .getfield 16, 3), (257, .bipush 7, 2), (259, .iaload, 1), (260, .imul, 1), (261, .iadd, 1), (262, .istore 4, 2), (264, .aload_n 0, 1), (265, .getfield 16, 3), (268, .iload 4, 2), (270, .iload_n 2, 1), (271, .iastore, 1), (272, .aload_n 0, 1), (273, .getfield 16, 3), (276, .iload 4, 2), (278, .iconst 1, 1), (279, .iadd, 1), (280, .aload_n 0, 1), (281, .getfield 37, 3), (284, .iconst 1, 1), (285, .iaload, 1), (286, .iastore, 1), (287, .aload_n 0, 1), (288, .getfield 16, 3), (291, .iload 4, 2), (293, .iconst 2, 1), (294, .iadd, 1), (295, .iconst 0, 1), (296, .iastore, 1), (297, .aload_n 0, 1), (298, .getfield 16, 3), (301, .bipush 7, 2), (303, .dup2, 1), (304, .iaload, 1), (305, .iconst 1, 1), (306, .iadd, 1), (307, .iastore, 1), (308, .iconst 1, 1), (309, .ireturn, 1), (310, .bipush 40, 2), (312, .bipush 15, 2), (314, .iload_n 2, 1), (315, .imul, 1), (316, .iadd, 1), (317, .istore 4, 2), (319, .iload_n 2, 1), (320, .aload_n 0, 1), (321, .getfield 16, 3), (324, .bipush 7, 2), (326, .iaload, 1), (327, .if_icmp .ge 55, 3), (330, .aload_n 0, 1), (331, .getfield 37, 3), (334, .iconst 1, 1), (335, .iaload, 1), (336, .aload_n 0, 1), (337, .getfield 16, 3), (340, .iconst 0, 1), (341, .iaload, 1), (342, .aload_n 0, 1), (343, .getfield 16, 3), (346, .iconst 1, 1), (347, .iaload, 1), (348, .imul, 1), (349, .if_icmp .ge 33, 3), (352, .aload_n 0, 1), (353, .getfield 37, 3), (356, .iconst 3, 1), (357, .iaload, 1), (358, .i2l, 1), (359, .lconst 1, 1), (360, .ldc2_w 136, 3), (363, .invokestatic 88, 3), (366, .ifCond .eq 16, 3), (369, .aload_n 0, 1), (370, .getfield 16, 3), (373, .iload 4, 2), (375, .iconst 2, 1), (376, .iadd, 1), (377, .iaload, 1), (378, .iconst 4, 1), (379, .if_icmp .ne 5, 3), (382, .iconst 0, 1), (383, .ireturn, 1), (384, .iload 4, 2), (386, .iconst 3, 1), (387, .iadd, 1), (388, .iconst 3, 1), (389, .aload_n 0, 1), (390, .getfield 16, 3), (393, .iload 4, 2), (395, .iconst 2, 1), (396, .iadd, 1), (397, .iaload, 1), (398, .imul, 1), (399, .iadd, 1), (400, .istore 5, 2), (402, .iconst 0, 1), (403, .istore 6, 2), (405, .iload 6, 2), (407, .iconst 3, 1), (408, .if_icmp .ge 28, 3), (411, .aload_n 0, 1), (412, .getfield 16, 3), (415, .iload 5, 2), (417, .iload 6, 2), (419, .iadd, 1), (420, .aload_n 0, 1), (421, .getfield 37, 3), (424, .iconst 1, 1), (425, .iload 6, 2), (427, .iadd, 1), (428, .iaload, 1), (429, .iastore, 1), (430, .iinc 6 1, 3), (433, .goto (-28), 3), (436, .aload_n 0, 1), (437, .getfield 16, 3), (440, .iload 4, 2), (442, .iconst 2, 1), (443, .iadd, 1), (444, .dup2, 1), (445, .iaload, 1), (446, .iconst 1, 1), (447, .iadd, 1), (448, .iastore, 1), (449, .iconst 1, 1), (450, .ireturn, 1)]
def mm_150 : mv_M := (7, 1, mc_150, lk_RX7, [(120, [0, 2]), (132, [0, 2, 3]), (153, [0, 2, 3]), (189, [0, 2, 3]), (202, [0, 2]), (211, [0, 2]), (229, [0, 2]), (310, [0, 2]), (405, [0, 4, 5, 6])])
def mc_151 : List (Nat × Instr × Nat) := [(0, .iload_n 1, 1), (1, .invokestatic 138, 3), (4, .ifCond .ne 7, 3), (7, .iconst (-1), 1), (8, .goto 47, 3), (11, .aload_n 0, 1), (12, .getfield 19, 3), (15, .iload_n 1, 1), (16, .iaload, 1), (17, .ifCond .ne 8, 3), (20, .bipush (-11), 2), (22, .goto 33, 3), (25, .aload_n 0, 1), (26, .getfield 19, 3), (29, .iload_n 1, 1), (30, .iaload, 1), (31, .iconst 2, 1), (32, .if_icmp .ne 17, 3), (35, .iload_n 2, 1), (36, .ifCond .lt 18, 3), (39, .aload_n 0, 1), (40, .getfield 22, 3), (43, .iload_n 1, 1), (44, .iaload, 1), (45, .iload_n 2, 1), (46, .if_icmp .eq 8, 3), (49, .bipush (-12), 2), (51, .goto 4, 3), (54, .iconst 0, 1), (55, .ireturn, 1)]
def mm_151 : mv_M := (3, 0, mc_151, lk_RX7, [])
def mc_152 : List (Nat × Instr × Nat) := [(0, .aload_n 0, 1), (1, .iload_n 1, 1), (2, .iconst 0, 1), (3, .invokevirtual 141, 3), (6, .istore_n 2, 1), (7, .iload_n 2, 1), (8, .ifCond .eq 5, 3), (11, .iload_n 2, 1), (12, .ireturn, 1), (13, .aload_n 0, 1), (14, .bipush 100, 2), (16, .iload_n 1, 1), (17, .imul, 1), (18, .putfield 104, 3), (21, .aload_n 0, 1), (22, .aload_n 0, 1), (23, .getfield 25, 3), (26, .iload_n 1, 1), (27, .iaload, 1), (28, .putfield 101, 3), (31, .aload_n 0, 1), (32, .iconst 0, 1), (33, .putfield 98, 3), (36, .iconst 0, 1), (37, .istore_n 3, 1), (38, .aload_n 0, 1), (39, .invokevirtual 145, 3), (42, .ifCond .ne 12, 3), (45, .sipush (-1000), 3), (48, .aload_n 0, 1), (49, .getfield 98, 3), (52, .isub, 1), (53, .ireturn, 1), (54, .iinc 3 1, 3), (57, .aload_n 0, 1), (58, .getfield 98, 3), (61, .aload_n 0, 1), (62, .getfield 101, 3), (65, .if_icmp .lt (-27), 3), (68, .iconst 0, 1), (69, .istore 4, 2), (71, .iload 4, 2), (73, .sipush 130, 3), (76, .if_icmp .ge 23, 3), (79, .aload_n 0, 1), (80, .getfield 16, 3), (83, .iload 4, 2), (85, .aload_n 0, 1), (86, .getfield 9, 3), (89, .iload 4, 2), (91, .iaload, 1), (92, .iastore, 1), (93, .iinc 4 1, 3), (96, .goto (-25), 3), (99, .aload_n 0, 1), (100, .iconst 0, 1), (101, .putfield 98, 3), (104, .aload_n 0, 1), (105, .getfield 98, 3), (108, .aload_n 0, 1), (109, .getfield 101, 3), (112, .if_icmp .ge 40, 3), (115, .aload_n 0, 1), (116, .getfield 98, 3), (119, .istore 4, 2), (121, .aload_n 0, 1), (122, .invokevirtual 107, 3), (125, .istore 5, 2), (127, .aload_n 0, 1), (128, .invokevirtual 145, 3), (131, .istore 6, 2), (133, .aload_n 0, 1), (134, .iload 5, 2), (136, .invokevirtual 148, 3), (139, .ifCond .ne 10, 3), (142, .sipush (-2000), 3), (145, .iload 4, 2), (147, .isub, 1), (148, .ireturn, 1), (149, .goto (-45), 3), (152, .iconst 0, 1), (153, .istore 4, 2), (155, .iload 4, 2), (157, .sipush 130, 3), (160, .if_icmp .ge 23, 3), (163, .aload_n 0, 1), (164, .getfield 9, 3), (167, .iload 4, 2), (169, .aload_n 0, 1), (170, .getfield 16, 3), (173, .iload 4, 2), (175, .iaload, 1), (176, .iastore, 1), (177, .iinc 4 1, 3), (180, .goto (-25), 3), (183, .iload_n 3, 1), (184, .ireturn, 1)]
def mm_152 : mv_M := (7, 0, mc_152, lk_RX7, [(38, [0, 3]), (71, [0, 3, 4]), (104, [0, 3]), (155, [0, 3, 4])])
def mc_153 : List (Nat × Instr × Nat) := [(0, .aload_n 0, 1), (1, .aload_n 0, 1), (2, .getfield 9, 3), (5, .iconst 5, 1), (6, .iaload, 1), (7, .putfield 151, 3), (10, .aload_n 0, 1), (11, .iconst 1, 1), (12, .aload_n 0, 1), (13, .getfield 151, 3), (16, .ishl, 1), (17, .putfield 154, 3), (20, .bipush (-4), 2), (22, .istore_n 1, 1), (23, .iconst 0, 1), (24, .istore_n 2, 1), (25, .iload_n 2, 1), (26, .iconst 4, 1), (27, .if_icmp .ge 161, 3), (30, .aload_n 0, 1), (31, .getfield 151, 3), (34, .aload_n 0, 1), (35, .getfield 9, 3), (38, .iconst 1, 1), (39, .iaload, 1), (40, .idiv, 1), (41, .aload_n 0, 1), (42, .getfield 40, 3), (45, .iconst 2, 1), (46, .iload_n 2, 1), (47, .imul, 1), (48, .iaload, 1), (49, .iadd, 1), (50, .istore_n 3, 1), (51, .aload_n 0, 1), (52, .getfield 151, 3), (55, .aload_n 0, 1), (56, .getfield 9, 3), (59, .iconst 1, 1), (60, .iaload, 1), (61, .irem, 1), (62, .aload_n 0, 1), (63, .getfield 40, 3), (66, .iconst 2, 1), (67, .iload_n 2, 1), (68, .imul, 1), (69, .iconst 1, 1), (70, .iadd, 1), (71, .iaload, 1), (72, .iadd, 1), (73, .istore 4, 2), (75, .iload_n 3, 1), (76, .i2l, 1), (77, .lconst 0, 1), (78, .aload_n 0, 1), (79, .getfield 9, 3), (82, .iconst 0, 1), (83, .iaload, 1), (84, .iconst 1, 1), (85, .isub, 1), (86, .i2l, 1), (87, .invokestatic 88, 3), (90, .ifCond .eq 92, 3), (93, .iload 4, 2), (95, .i2l, 1), (96, .lconst 0, 1), (97, .aload_n 0, 1), (98, .getfield 9, 3), (101, .iconst 1, 1), (102, .iaload, 1), (103, .iconst 1, 1), (104, .isub, 1), (105, .i2l, 1), (106, .invokestatic 88, 3), (109, .ifCond .ne 6, 3), (112, .goto 70, 3), (115, .iload_n 3, 1), (116, .aload_n 0, 1), (117, .getfield 9, 3), (120, .iconst 1, 1), (121, .iaload, 1), (122, .imul, 1), (123, .iload 4, 2), (125, .iadd, 1), (126, .istore 5, 2), (128, .aload_n 0, 1), (129, .getfield 9, 3), (132, .bipush 8, 2), (134, .iload 5, 2), (136, .iadd, 1), (137, .iaload, 1), (138, .aload_n 0, 1), (139, .getfield 9, 3), (142, .bipush 8, 2), (144, .aload_n 0, 1), (145, .getfield 151, 3), (148, .iadd, 1), (149, .iaload, 1), (150, .if_icmp .ge 32, 3), (153, .iload_n 1, 1), (154, .ifCond .lt 25, 3), (157, .aload_n 0, 1), (158, .getfield 9, 3), (161, .bipush 8, 2), (163, .iload 5, 2), (165, .iadd, 1), (166, .iaload, 1), (167, .aload_n 0, 1), (168, .getfield 9, 3), (171, .bipush 8, 2), (173, .iload_n 1, 1), (174, .iadd, 1), (175, .iaload, 1), (176, .if_icmp .ge 6, 3), (179, .iload 5, 2), (181, .istore_n 1, 1), (182, .iinc 2 1, 3), (185, .goto (-160), 3), (188, .iload_n 1, 1), (189, .ifCond .ge 4, 3), (192, .return_, 1), (193, .aload_n 0, 1), (194, .iload_n 1, 1), (195, .putfield 151, 3), (198, .aload_n 0, 1), (199, .dup, 1), (200, .getfield 154, 3), (203, .iconst 1, 1), (204, .aload_n 0, 1), (205, .getfield 151, 3), (208, .ishl, 1), (209, .ior, 1), (210, .putfield 154, 3), (213, .goto (-193), 3)]
def mm_153 : mv_M := (6, 4, mc_153, lk_RX7, [(20, [0]), (25, [0, 1, 2])])
def mc_154 : List (Nat × Instr × Nat) := [(0, .aload_n 0, 1), (1, .invokevirtual 157, 3), (4, .aload_n 0, 1), (5, .getfield 151, 3), (8, .aload_n 0, 1), (9, .getfield 9, 3), (12, .iconst 1, 1), (13, .iaload, 1), (14, .idiv, 1), (15, .istore_n 1, 1), (16, .aload_n 0, 1), (17, .getfield 151, 3), (20, .aload_n 0, 1), (21, .getfield 9, 3), (24, .iconst 1, 1), (25, .iaload, 1), (26, .irem, 1), (27, .istore_n 2, 1), (28, .iload_n 1, 1), (29, .ifCond .eq 31, 3), (32, .iload_n 2, 1), (33, .ifCond .eq 27, 3), (36, .iload_n 1, 1), (37, .aload_n 0, 1), (38, .getfield 9, 3), (41, .iconst 0, 1), (42, .iaload, 1), (43, .iconst 1, 1), (44, .isub, 1), (45, .if_icmp .eq 15, 3), (48, .iload_n 2, 1), (49, .aload_n 0, 1), (50, .getfield 9, 3), (53, .iconst 1, 1), (54, .iaload, 1), (55, .iconst 1, 1), (56, .isub, 1), (57, .if_icmp .ne 7, 3), (60, .iconst 1, 1), (61, .goto 4, 3), (64, .iconst 0, 1), (65, .ireturn, 1)]
def mm_154 : mv_M := (3, 1, mc_154, lk_RX7, [])
def mc_155 : List (Nat × Instr × Nat) := [(0, .iload_n 1, 1), (1, .i2l, 1), (2, .lconst 0, 1), (3, .ldc2_w 128, 3), (6, .invokestatic 88, 3), (9, .ifCond .ne 5, 3), (12, .iconst (-1), 1), (13, .ireturn, 1), (14, .aload_n 0, 1), (15, .invokevirtual 160, 3), (18, .istore_n 2, 1), (19, .iload_n 1, 1), (20, .ifCond .ne 10, 3), (23, .aload_n 0, 1), (24, .getfield 151, 3), (27, .goto 27, 3), (30, .iload_n 1, 1), (31, .iconst 1, 1), (32, .if_icmp .ne 13, 3), (35, .aload_n 0, 1), (36, .getfield 154, 3), (39, .invokestatic 163, 3), (42, .goto 12, 3), (45, .iload_n 2, 1), (46, .ifCond .eq 7, 3), (49, .iconst 1, 1), (50, .goto 4, 3), (53, .iconst 0, 1), (54, .ireturn, 1)]
def mm_155 : mv_M := (3, 0, mc_155, lk_RX7, [])
def mc_156 : List (Nat × Instr × Nat) := [(0, .aload_n 0, 1), (1, .iload_n 1, 1), (2, .invokevirtual 166, 3), (5, .ifCond .ne 5, 3), (8, .iconst (-1), 1), (9, .ireturn, 1), (10, .iload_n 2, 1), (11, .tableswitch 76 0 3 #[29, 39, 53, 63], 29), (40, .aload_n 0, 1), (41, .getfield 9, 3), (44, .bipush 8, 2), (46, .iload_n 1, 1), (47, .iadd, 1), (48, .iaload, 1), (49, .ireturn, 1), (50, .aload_n 0, 1), (51, .iload_n 1, 1), (52, .invokevirtual 169, 3), (55, .ifCond .eq 7, 3), (58, .iconst 1, 1), (59, .goto 4, 3), (62, .iconst 0, 1), (63, .ireturn, 1), (64, .aload_n 0, 1), (65, .getfield 9, 3), (68, .bipush 24, 2), (70, .iload_n 1, 1), (71, .iadd, 1), (72, .iaload, 1), (73, .ireturn, 1), (74, .aload_n 0, 1), (75, .invokevirtual 157, 3), (78, .aload_n 0, 1), (79, .getfield 154, 3), (82, .iload_n 1, 1), (83, .ishr, 1), (84, .iconst 1, 1), (85, .iand, 1), (86, .ireturn, 1), (87, .iconst (-1), 1), (88, .ireturn, 1)]
def mm_156 : mv_M := (3, 0, mc_156, lk_RX7, [])
def mc_157 : List (Nat × Instr × Nat) := [(0, .iload_n 1, 1), (1, .i2l, 1), (2, .lconst 0, 1), (3, .ldc2_w 172, 3), (6, .invokestatic 88, 3), (9, .ifCond .eq 12, 3), (12, .aload_n 0, 1), (13, .getfield 9, 3), (16, .iload_n 1, 1), (17, .iaload, 1), (18, .goto 4, 3), (21, .iconst (-1), 1), (22, .ireturn, 1)]
def mm_157 : mv_M := (2, 0, mc_157, lk_RX7, [])
def mc_158 : List (Nat × Instr × Nat) := [(0, .iload_n 1, 1), (1, .i2l, 1), (2, .lconst 0, 1), (3, .lconst 1, 1), (4, .invokestatic 88, 3), (7, .ifCond .eq 25, 3), (10, .iload_n 2, 1), (11, .i2l, 1), (12, .lconst 0, 1), (13, .iload_n 1, 1), (14, .ifCond .ne 9, 3), (17, .ldc2_w 174, 3), (20, .goto 6, 3), (23, .ldc2_w 128, 3), (26, .invokestatic 88, 3), (29, .ifCond .ne 5, 3), (32, .iconst (-1), 1), (33, .ireturn, 1), (34, .aload_n 0, 1), (35, .getfield 9, 3), (38, .iconst 2, 1), (39, .iload_n 1, 1), (40, .iadd, 1), (41, .iaload, 1), (42, .istore_n 3, 1), (43, .aload_n 0, 1), (44, .getfield 9, 3), (47, .iconst 2, 1), (48, .iload_n 1, 1), (49, .iadd, 1), (50, .iload_n 2, 1), (51, .iastore, 1), (52, .iload_n 3, 1), (53, .ireturn, 1)]
def mm_158 : mv_M := (4, 0, mc_158, lk_RX7, [])
def mc_159 : List (Nat × Instr × Nat) := [(0, .aload_n 0, 1), (1, .iload_n 1, 1), (2, .invokevirtual 166, 3), (5, .ifCond .eq 17, 3), (8, .iload_n 2, 1), (9, .i2l, 1), (10, .ldc2_w 176, 3), (13, .ldc2_w 178, 3), (16, .invokestatic 88, 3), (19, .ifCond .ne 5, 3), (22, .iconst (-1), 1), (23, .ireturn, 1), (24, .aload_n 0, 1), (25, .getfield 9, 3), (28, .bipush 24, 2), (30, .iload_n 1, 1), (31, .iadd, 1), (32, .iaload, 1), (33, .istore_n 3, 1), (34, .aload_n 0, 1), (35, .getfield 9, 3), (38, .bipush 24, 2), (40, .iload_n 1, 1), (41, .iadd, 1), (42, .iload_n 2, 1), (43, .ifCond .ge 8, 3), (46, .bipush (-4), 2), (48, .goto 4, 3), (51, .iload_n 2, 1), (52, .iastore, 1), (53, .iload_n 3, 1), (54, .ireturn, 1)]
def mm_159 : mv_M := (4, 0, mc_159, lk_RX7, [])
def mc_160 : List (Nat × Instr × Nat) := [(0, .aload_n 0, 1), (1, .iload_n 1, 1), (2, .iconst 0, 1), (3, .invokevirtual 141, 3), (6, .istore_n 2, 1), (7, .iload_n 2, 1), (8, .ifCond .eq 5, 3), (11, .iload_n 2, 1), (12, .ireturn, 1), (13, .aload_n 0, 1), (14, .getfield 25, 3), (17, .iload_n 1, 1), (18, .iaload, 1), (19, .aload_n 0, 1), (20, .invokevirtual 84, 3), (23, .if_icmp .eq 6, 3), (26, .bipush (-13), 2), (28, .ireturn, 1), (29, .iconst 0, 1), (30, .istore_n 3, 1), (31, .iload_n 3, 1), (32, .aload_n 0, 1), (33, .getfield 25, 3), (36, .iload_n 1, 1), (37, .iaload, 1), (38, .if_icmp .ge 50, 3), (41, .aload_n 0, 1), (42, .getfield 28, 3), (45, .bipush 100, 2), (47, .iload_n 1, 1), (48, .imul, 1), (49, .iload_n 3, 1), (50, .iadd, 1), (51, .iaload, 1), (52, .i2l, 1), (53, .lconst 0, 1), (54, .ldc2_w 178, 3), (57, .invokestatic 88, 3), (60, .ifCond .ne 22, 3), (63, .aload_n 0, 1), (64, .getfield 28, 3), (67, .bipush 100, 2), (69, .iload_n 1, 1), (70, .imul, 1), (71, .iload_n 3, 1), (72, .iadd, 1), (73, .iaload, 1), (74, .bipush 99, 2), (76, .if_icmp .eq 6, 3), (79, .bipush (-13), 2), (81, .ireturn, 1), (82, .iinc 3 1, 3), (85, .goto (-54), 3), (88, .iconst 0, 1), (89, .ireturn, 1)]
def mm_160 : mv_M := (4, 0, mc_160, lk_RX7, [(31, [0, 1, 3])])
def mc_161 : List (Nat × Instr × Nat) := [(0, .aload_n 0, 1), (1, .getfield 28, 3), (4, .bipush 100, 2), (6, .iload_n 1, 1), (7, .imul, 1), (8, .iload_n 2, 1), (9, .iadd, 1), (10, .iaload, 1), (11, .istore_n 3, 1), (12, .iload_n 3, 1), (13, .bipush 99, 2), (15, .if_icmp .ne 8, 3), (18, .bipush (-4), 2), (20, .goto 4, 3), (23, .iload_n 3, 1), (24, .ireturn, 1)]
def mm_161 : mv_M := (4, 0, mc_161, lk_RX7, [])
def mc_162 : List (Nat × Instr × Nat) := [(0, .iconst 0, 1), (1, .istore_n 1, 1), (2, .iconst 0, 1), (3, .istore_n 2, 1), (4, .iload_n 2, 1), (5, .aload_n 0, 1), (6, .invokevirtual 84, 3), (9, .if_icmp .ge 29, 3), (12, .iload_n 1, 1), (13, .aload_n 0, 1), (14, .getfield 9, 3), (17, .bipush 24, 2), (19, .iload_n 2, 1), (20, .iadd, 1), (21, .iaload, 1), (22, .ifCond .lt 7, 3), (25, .iconst 1, 1), (26, .goto 4, 3), (29, .iconst 0, 1), (30, .iadd, 1), (31, .istore_n 1, 1), (32, .iinc 2 1, 3), (35, .goto (-31), 3), (38, .iload_n 1, 1), (39, .ireturn, 1)]
def mm_162 : mv_M := (3, 0, mc_162, lk_RX7, [(4, [0, 1, 2])])
def mc_163 : List (Nat × Instr × Nat) := [(0, .aload_n 0, 1), (1, .iload_n 1, 1), (2, .invokevirtual 180, 3), (5, .istore_n 2, 1), (6, .iload_n 2, 1), (7, .ifCond .eq 5, 3), (10, .iload_n 2, 1), (11, .ireturn, 1), (12, .iconst 0, 1), (13, .istore_n 3, 1), (14, .iload_n 3, 1), (15, .aload_n 0, 1), (16, .getfield 25, 3), (19, .iload_n 1, 1), (20, .iaload, 1), (21, .if_icmp .ge 24, 3), (24, .aload_n 0, 1), (25, .getfield 9, 3), (28, .bipush 24, 2), (30, .iload_n 3, 1), (31, .iadd, 1), (32, .aload_n 0, 1), (33, .iload_n 1, 1), (34, .iload_n 3, 1), (35, .invokevirtual 183, 3), (38, .iastore, 1), (39, .iinc 3 1, 3), (42, .goto (-28), 3), (45, .aload_n 0, 1), (46, .invokevirtual 186, 3), (49, .ireturn, 1)]
def mm_163 : mv_M := (4, 0, mc_163, lk_RX7, [(14, [0, 1, 3])])
def mc_164 : List (Nat × Instr × Nat) := [(0, .iload_n 1, 1), (1, .iload_n 2, 1), (2, .if_icmp .eq 50, 3), (5, .aload_n 0, 1), (6, .getfield 9, 3), (9, .bipush 8, 2), (11, .iload_n 1, 1), (12, .iadd, 1), (13, .iaload, 1), (14, .iconst 1, 1), (15, .if_icmp .lt 37, 3), (18, .aload_n 0, 1), (19, .getfield 9, 3), (22, .bipush 8, 2), (24, .iload_n 2, 1), (25, .iadd, 1), (26, .iaload, 1), (27, .bipush 8, 2), (29, .if_icmp .gt 23, 3), (32, .aload_n 0, 1), (33, .iload_n 1, 1), (34, .invokevirtual 169, 3), (37, .ifCond .ne 15, 3), (40, .aload_n 0, 1), (41, .iload_n 2, 1), (42, .invokevirtual 169, 3), (45, .ifCond .ne 7, 3), (48, .iconst 1, 1), (49, .goto 4, 3), (52, .iconst 0, 1), (53, .ireturn, 1)]
def mm_164 : mv_M := (3, 1, mc_164, lk_RX7, [])
def mc_165 : List (Nat × Instr × Nat) := [(0, .aload_n 0, 1), (1, .getfield 9, 3), (4, .bipush 8, 2), (6, .iload_n 2, 1), (7, .iadd, 1), (8, .iaload, 1), (9, .aload_n 0, 1), (10, .getfield 9, 3), (13, .bipush 8, 2), (15, .iload_n 1, 1), (16, .iadd, 1), (17, .iaload, 1), (18, .isub, 1), (19, .istore_n 3, 1), (20, .iconst 2, 1), (21, .aload_n 0, 1), (22, .iload_n 1, 1), (23, .iload_n 2, 1), (24, .invokevirtual 189, 3), (27, .imul, 1), (28, .iload_n 3, 1), (29, .ifCond .le 7, 3), (32, .iload_n 3, 1), (33, .goto 4, 3), (36, .iconst 0, 1), (37, .iadd, 1), (38, .ireturn, 1)]
def mm_165 : mv_M := (4, 0, mc_165, lk_RX7, [])
def mc_166 : List (Nat × Instr × Nat) := [(0, .aload_n 0, 1), (1, .getfield 9, 3), (4, .bipush 8, 2), (6, .iload_n 1, 1), (7, .iadd, 1), (8, .dup2, 1), (9, .iaload, 1), (10, .iconst 1, 1), (11, .isub, 1), (12, .iastore, 1), (13, .aload_n 0, 1), (14, .getfield 9, 3), (17, .bipush 8, 2), (19, .iload_n 2, 1), (20, .iadd, 1), (21, .dup2, 1), (22, .iaload, 1), (23, .iconst 1, 1), (24, .iadd, 1), (25, .iastore, 1), (26, .return_, 1)]
def mm_166 : mv_M := (3, 4, mc_166, lk_RX7, [])
def mc_167 : List (Nat × Instr × Nat) := [(0, .aload_n 0, 1), (1, .iload_n 1, 1), (2, .invokevirtual 166, 3), (5, .ifCond .eq 16, 3), (8, .aload_n 0, 1), (9, .iload_n 2, 1), (10, .invokevirtual 166, 3), (13, .ifCond .eq 8, 3), (16, .iload_n 1, 1), (17, .iload_n 2, 1), (18, .if_icmp .ne 7, 3), (21, .iconst (-1), 1), (22, .goto 23, 3), (25, .aload_n 0, 1), (26, .iload_n 1, 1), (27, .iload_n 2, 1), (28, .invokevirtual 192, 3), (31, .ifCond .eq 12, 3), (34, .aload_n 0, 1), (35, .iload_n 1, 1), (36, .iload_n 2, 1), (37, .invokevirtual 195, 3), (40, .goto 5, 3), (43, .bipush (-3), 2), (45, .ireturn, 1)]
def mm_167 : mv_M := (3, 0, mc_167, lk_RX7, [])
def mc_168 : List (Nat × Instr × Nat) := [(0, .aload_n 0, 1), (1, .iload_n 1, 1), (2, .iload_n 2, 1), (3, .invokevirtual 198, 3), (6, .istore_n 3, 1), (7, .iload_n 3, 1), (8, .ifCond .lt 9, 3), (11, .aload_n 0, 1), (12, .iload_n 1, 1), (13, .iload_n 2, 1), (14, .invokevirtual 201, 3), (17, .iload_n 3, 1), (18, .ireturn, 1)]
def mm_168 : mv_M := (4, 0, mc_168, lk_RX7, [])
def mc_169 : List (Nat × Instr × Nat) := [(0, .iconst 0, 1), (1, .istore_n 2, 1), (2, .iconst 0, 1), (3, .istore_n 3, 1), (4, .iload_n 3, 1), (5, .aload_n 0, 1), (6, .invokevirtual 84, 3), (9, .if_icmp .ge 48, 3), (12, .iload_n 2, 1), (13, .aload_n 0, 1), (14, .getfield 9, 3), (17, .iload_n 1, 1), (18, .iload_n 3, 1), (19, .iadd, 1), (20, .iaload, 1), (21, .ifCond .ge 7, 3), (24, .iconst 0, 1), (25, .goto 24, 3), (28, .aload_n 0, 1), (29, .getfield 9, 3), (32, .bipush 8, 2), (34, .iload_n 3, 1), (35, .iadd, 1), (36, .iaload, 1), (37, .aload_n 0, 1), (38, .getfield 9, 3), (41, .iload_n 1, 1), (42, .iload_n 3, 1), (43, .iadd, 1), (44, .iaload, 1), (45, .isub, 1), (46, .invokestatic 94, 3), (49, .iadd, 1), (50, .istore_n 2, 1), (51, .iinc 3 1, 3), (54, .goto (-50), 3), (57, .iload_n 2, 1), (58, .ireturn, 1)]
def mm_169 : mv_M := (4, 0, mc_169, lk_RX7, [(4, [0, 1, 2, 3])])
def mc_170 : List (Nat × Instr × Nat) := [(0, .iload_n 1, 1), (1, .i2l, 1), (2, .lconst 0, 1), (3, .lconst 1, 1), (4, .invokestatic 88, 3), (7, .ifCond .ne 5, 3), (10, .iconst (-1), 1), (11, .ireturn, 1), (12, .iload_n 1, 1), (13, .iconst 1, 1), (14, .if_icmp .ne 10, 3), (17, .aload_n 0, 1), (18, .bipush 24, 2), (20, .invokevirtual 205, 3), (23, .ireturn, 1), (24, .iconst 0, 1), (25, .istore_n 2, 1), (26, .iload_n 2, 1), (27, .aload_n 0, 1), (28, .invokevirtual 84, 3), (31, .if_icmp .ge 44, 3), (34, .aload_n 0, 1), (35, .getfield 9, 3), (38, .bipush 24, 2), (40, .iload_n 2, 1), (41, .iadd, 1), (42, .iaload, 1), (43, .ifCond .lt 26, 3), (46, .aload_n 0, 1), (47, .getfield 9, 3), (50, .bipush 24, 2), (52, .iload_n 2, 1), (53, .iadd, 1), (54, .iaload, 1), (55, .aload_n 0, 1), (56, .getfield 9, 3), (59, .bipush 8, 2), (61, .iload_n 2, 1), (62, .iadd, 1), (63, .iaload, 1), (64, .if_icmp .eq 5, 3), (67, .iload_n 2, 1), (68, .ireturn, 1), (69, .iinc 2 1, 3), (72, .goto (-46), 3), (75, .bipush (-4), 2), (77, .ireturn, 1)]
def mm_170 : mv_M := (3, 0, mc_170, lk_RX7, [(26, [0, 2])])
def mc_171 : List (Nat × Instr × Nat) := [(0, .aload_n 0, 1), (1, .invokevirtual 84, 3), (4, .istore_n 1, 1), (5, .iconst 0, 1), (6, .istore_n 2, 1), (7, .iload_n 2, 1), (8, .bipush 32, 2), (10, .if_icmp .ge 43, 3), (13, .aload_n 0, 1), (14, .getfield 49, 3), (17, .iload_n 2, 1), (18, .iload_n 2, 1), (19, .iload_n 1, 1), (20, .if_icmp .ge 16, 3), (23, .aload_n 0, 1), (24, .getfield 43, 3), (27, .iload_n 2, 1), (28, .iaload, 1), (29, .ifCond .le 7, 3), (32, .iconst 0, 1), (33, .goto 5, 3), (36, .ldc 208, 2), (38, .iastore, 1), (39, .aload_n 0, 1), (40, .getfield 52, 3), (43, .iload_n 2, 1), (44, .bipush (-4), 2), (46, .iastore, 1), (47, .iinc 2 1, 3), (50, .goto (-43), 3), (53, .iconst 1, 1), (54, .istore_n 2, 1), (55, .iload_n 2, 1), (56, .ifCond .eq 196, 3), (59, .iconst 0, 1), (60, .istore_n 2, 1), (61, .iconst 0, 1), (62, .istore_n 3, 1), (63, .iload_n 3, 1), (64, .iload_n 1, 1), (65, .if_icmp .ge 184, 3), (68, .iconst 0, 1), (69, .istore 4, 2), (71, .iload 4, 2), (73, .iload_n 1, 1), (74, .if_icmp .ge 169, 3), (77, .iconst 2, 1), (78, .aload_n 0, 1), (79, .iload_n 3, 1), (80, .iload 4, 2), (82, .invokevirtual 189, 3), (85, .imul, 1), (86, .istore 5, 2), (88, .aload_n 0, 1), (89, .getfield 49, 3), (92, .iload_n 3, 1), (93, .iaload, 1), (94, .ldc 208, 2), (96, .if_icmp .ge 57, 3), (99, .aload_n 0, 1), (100, .getfield 49, 3), (103, .iload_n 3, 1), (104, .iaload, 1), (105, .iload 5, 2), (107, .iadd, 1), (108, .aload_n 0, 1), (109, .getfield 49, 3), (112, .bipush 16, 2), (114, .iload 4, 2), (116, .iadd, 1), (117, .iaload, 1), (118, .if_icmp .ge 35, 3), (121, .aload_n 0, 1), (122, .getfield 49, 3), (125, .bipush 16, 2), (127, .iload 4, 2), (129, .iadd, 1), (130, .aload_n 0, 1), (131, .getfield 49, 3), (134, .iload_n 3, 1), (135, .iaload, 1), (136, .iload 5, 2), (138, .iadd, 1), (139, .iastore, 1), (140, .aload_n 0, 1), (141, .getfield 52, 3), (144, .bipush 16, 2), (146, .iload 4, 2), (148, .iadd, 1), (149, .iload_n 3, 1), (150, .iastore, 1), (151, .iconst 1, 1), (152, .istore_n 2, 1), (153, .aload_n 0, 1), (154, .getfield 46, 3), (157, .bipush 16, 2), (159, .iload_n 3, 1), (160, .imul, 1), (161, .iload 4, 2), (163, .iadd, 1), (164, .iaload, 1), (165, .ifCond .le 72, 3), (168, .aload_n 0, 1), (169, .getfield 49, 3), (172, .bipush 16, 2), (174, .iload 4, 2), (176, .iadd, 1), (177, .iaload, 1), (178, .ldc 208, 2), (180, .if_icmp .ge 57, 3), (183, .aload_n 0, 1), (184, .getfield 49, 3), (187, .bipush 16, 2), (189, .iload 4, 2), (191, .iadd, 1), (192, .iaload, 1), (193, .iload 5, 2), (195, .isub, 1), (196, .aload_n 0, 1), (197, .getfield 49, 3), (200, .iload_n 3, 1), (201, .iaload, 1), (202, .if_icmp .ge 35, 3), (205, .aload_n 0, 1), (206, .getfield 49, 3), (209, .iload_n 3, 1), (210, .aload_n 0, 1), (211, .getfield 49, 3), (214, .bipush 16, 2), (216, .iload 4, 2), (218, .iadd, 1), (219, .iaload, 1), (220, .iload 5, 2), (222, .isub, 1), (223, .iastore, 1), (224, .aload_n 0, 1), (225, .getfield 52, 3), (228, .iload_n 3, 1), (229, .bipush 16, 2), (231, .iload 4, 2), (233, .iadd, 1), (234, .iastore, 1), (235, .iconst 1, 1), (236, .istore_n 2, 1), (237, .iinc 4 1, 3), (240, .goto (-169), 3), (243, .iinc 3 1, 3), (246, .goto (-183), 3), (249, .goto (-194), 3), (252, .bipush (-4), 2), (254, .istore_n 3, 1), (255, .iconst 0, 1), (256, .istore 4, 2), (258, .iload 4, 2), (260, .iload_n 1, 1), (261, .if_icmp .ge 63, 3), (264, .aload_n 0, 1), (265, .getfield 43, 3), (268, .iload 4, 2), (270, .iaload, 1), (271, .ifCond .ge 47, 3), (274, .aload_n 0, 1), (275, .getfield 49, 3), (278, .bipush 16, 2), (280, .iload 4, 2), (282, .iadd, 1), (283, .iaload, 1), (284, .ldc 208, 2), (286, .if_icmp .ge 32, 3), (289, .iload_n 3, 1), (290, .ifCond .lt 25, 3), (293, .aload_n 0, 1), (294, .getfield 49, 3), (297, .bipush 16, 2), (299, .iload 4, 2), (301, .iadd, 1), (302, .iaload, 1), (303, .aload_n 0, 1), (304, .getfield 49, 3), (307, .bipush 16, 2), (309, .iload_n 3, 1), (310, .iadd, 1), (311, .iaload, 1), (312, .if_icmp .ge 6, 3), (315, .iload 4, 2), (317, .istore_n 3, 1), (318, .iinc 4 1, 3), (321, .goto (-63), 3), (324, .iload_n 3, 1), (325, .ireturn, 1)]
def mm_171 : mv_M := (6, 0, mc_171, lk_RX7, [(7, [0, 1, 2]), (55, [0, 1, 2]), (63, [0, 1, 2, 3]), (71, [0, 1, 2, 3, 4]), (153, [0, 1, 2, 3, 4, 5]), (258, [0, 1, 3, 4])])
def mc_172 : List (Nat × Instr × Nat) := [(0, .aload_n 0, 1), (1, .invokevirtual 84, 3), (4, .istore_n 1, 1), (5, .iconst 0, 1), (6, .istore_n 2, 1), (7, .iconst 0, 1), (8, .istore_n 3, 1), (9, .iload_n 3, 1), (10, .iload_n 1, 1), (11, .if_icmp .ge 79, 3), (14, .aload_n 0, 1), (15, .getfield 43, 3), (18, .iload_n 3, 1), (19, .aload_n 0, 1), (20, .getfield 9, 3), (23, .bipush 24, 2), (25, .iload_n 3, 1), (26, .iadd, 1), (27, .iaload, 1), (28, .ifCond .ge 7, 3), (31, .iconst 0, 1), (32, .goto 22, 3), (35, .aload_n 0, 1), (36, .getfield 9, 3), (39, .bipush 8, 2), (41, .iload_n 3, 1), (42, .iadd, 1), (43, .iaload, 1), (44, .aload_n 0, 1), (45, .getfield 9, 3), (48, .bipush 24, 2), (50, .iload_n 3, 1), (51, .iadd, 1), (52, .iaload, 1), (53, .isub, 1), (54, .iastore, 1), (55, .aload_n 0, 1), (56, .getfield 43, 3), (59, .iload_n 3, 1), (60, .iaload, 1), (61, .ifCond .eq 14, 3), (64, .aload_n 0, 1), (65, .iload_n 3, 1), (66, .invokevirtual 169, 3), (69, .ifCond .eq 6, 3), (72, .bipush (-4), 2), (74, .ireturn, 1), (75, .iload_n 2, 1), (76, .aload_n 0, 1), (77, .getfield 43, 3), (80, .iload_n 3, 1), (81, .iaload, 1), (82, .iadd, 1), (83, .istore_n 2, 1), (84, .iinc 3 1, 3), (87, .goto (-78), 3), (90, .iload_n 2, 1), (91, .ifCond .eq 6, 3), (94, .bipush (-4), 2), (96, .ireturn, 1), (97, .iconst 0, 1), (98, .istore_n 3, 1), (99, .iload_n 3, 1), (100, .sipush 256, 3), (103, .if_icmp .ge 16, 3), (106, .aload_n 0, 1), (107, .getfield 46, 3), (110, .iload_n 3, 1), (111, .iconst 0, 1), (112, .iastore, 1), (113, .iinc 3 1, 3), (116, .goto (-17), 3), (119, .iconst 0, 1), (120, .istore_n 3, 1), (121, .aload_n 0, 1), (122, .iconst 0, 1), (123, .putfield 209, 3), (126, .aload_n 0, 1), (127, .invokevirtual 212, 3), (130, .istore 4, 2), (132, .iload 4, 2), (134, .ifCond .ge 5, 3), (137, .iload_n 3, 1), (138, .ireturn, 1), (139, .iload_n 3, 1), (140, .aload_n 0, 1), (141, .getfield 49, 3), (144, .bipush 16, 2), (146, .iload 4, 2), (148, .iadd, 1), (149, .iaload, 1), (150, .iadd, 1), (151, .istore_n 3, 1), (152, .aload_n 0, 1), (153, .dup, 1), (154, .getfield 209, 3), (157, .iconst 1, 1), (158, .iadd, 1), (159, .putfield 209, 3), (162, .aload_n 0, 1), (163, .getfield 43, 3), (166, .iload 4, 2), (168, .dup2, 1), (169, .iaload, 1), (170, .iconst 1, 1), (171, .iadd, 1), (172, .iastore, 1), (173, .bipush 16, 2), (175, .iload 4, 2), (177, .iadd, 1), (178, .istore 5, 2), (180, .aload_n 0, 1), (181, .getfield 52, 3), (184, .iload 5, 2), (186, .iaload, 1), (187, .ifCond .lt 69, 3), (190, .aload_n 0, 1), (191, .getfield 52, 3), (194, .iload 5, 2), (196, .iaload, 1), (197, .istore 6, 2), (199, .iload 5, 2), (201, .bipush 16, 2), (203, .if_icmp .lt 26, 3), (206, .aload_n 0, 1), (207, .getfield 46, 3), (210, .bipush 16, 2), (212, .iload 6, 2), (214, .imul, 1), (215, .iload 5, 2), (217, .iadd, 1), (218, .bipush 16, 2), (220, .isub, 1), (221, .dup2, 1), (222, .iaload, 1), (223, .iconst 1, 1), (224, .iadd, 1), (225, .iastore, 1), (226, .goto 23, 3), (229, .aload_n 0, 1), (230, .getfield 46, 3), (233, .bipush 16, 2), (235, .iload 5, 2), (237, .imul, 1), (238, .iload 6, 2), (240, .iadd, 1), (241, .bipush 16, 2), (243, .isub, 1), (244, .dup2, 1), (245, .iaload, 1), (246, .iconst 1, 1), (247, .isub, 1), (248, .iastore, 1), (249, .iload 6, 2), (251, .istore 5, 2), (253, .goto (-73), 3), (256, .aload_n 0, 1), (257, .getfield 43, 3), (260, .iload 5, 2), (262, .dup2, 1), (263, .iaload, 1), (264, .iconst 1, 1), (265, .isub, 1), (266, .iastore, 1), (267, .goto (-141), 3)]
def mm_172 : mv_M := (7, 0, mc_172, lk_RX7, [(9, [0, 1, 2, 3]), (99, [0, 3]), (126, [0, 3]), (180, [0, 3, 5])])
def mc_173 : List (Nat × Instr × Nat) := [(0, .aload_n 0, 1), (1, .invokevirtual 215, 3), (4, .ireturn, 1)]
def mm_173 : mv_M := (1, 0, mc_173, lk_RX7, [])
def mc_174 : List (Nat × Instr × Nat) := [(0, .aload_n 0, 1), (1, .iload_n 1, 1), (2, .iconst 0, 1), (3, .invokevirtual 141, 3), (6, .istore_n 2, 1), (7, .iload_n 2, 1), (8, .ifCond .eq 5, 3), (11, .iload_n 2, 1), (12, .ireturn, 1), (13, .aload_n 0, 1), (14, .invokevirtual 218, 3), (17, .aload_n 0, 1), (18, .invokevirtual 160, 3), (21, .istore_n 3, 1), (22, .aload_n 0, 1), (23, .getfield 9, 3), (26, .iconst 2, 1), (27, .iaload, 1), (28, .istore 4, 2), (30, .bipush (-4), 2), (32, .istore 5, 2), (34, .iconst 0, 1), (35, .istore 6, 2), (37, .iload 6, 2), (39, .aload_n 0, 1), (40, .getfield 25, 3), (43, .iload_n 1, 1), (44, .iaload, 1), (45, .if_icmp .ge 160, 3), (48, .iload 5, 2), (50, .bipush (-4), 2), (52, .if_icmp .ne 153, 3), (55, .iload 6, 2), (57, .iconst 1, 1), (58, .iadd, 1), (59, .aload_n 0, 1), (60, .getfield 25, 3), (63, .iload_n 1, 1), (64, .iaload, 1), (65, .if_icmp .ne 14, 3), (68, .aload_n 0, 1), (69, .getfield 25, 3), (72, .iload_n 1, 1), (73, .iaload, 1), (74, .istore 5, 2), (76, .goto 123, 3), (79, .aload_n 0, 1), (80, .getfield 28, 3), (83, .bipush 100, 2), (85, .iload_n 1, 1), (86, .imul, 1), (87, .iload 6, 2), (89, .iadd, 1), (90, .iaload, 1), (91, .istore 7, 2), (93, .aload_n 0, 1), (94, .getfield 28, 3), (97, .bipush 100, 2), (99, .iload_n 1, 1), (100, .imul, 1), (101, .iload 6, 2), (103, .iadd, 1), (104, .iconst 1, 1), (105, .iadd, 1), (106, .iaload, 1), (107, .istore 8, 2), (109, .aload_n 0, 1), (110, .iload 7, 2), (112, .invokevirtual 166, 3), (115, .ifCond .eq 36, 3), (118, .aload_n 0, 1), (119, .iload 8, 2), (121, .invokevirtual 166, 3), (124, .ifCond .eq 27, 3), (127, .aload_n 0, 1), (128, .iload 7, 2), (130, .iload 8, 2), (132, .invokevirtual 192, 3), (135, .ifCond .eq 16, 3), (138, .aload_n 0, 1), (139, .iload 7, 2), (141, .iload 8, 2), (143, .invokevirtual 195, 3), (146, .iload 4, 2), (148, .if_icmp .le 10, 3), (151, .iload 6, 2), (153, .istore 5, 2), (155, .goto 44, 3), (158, .iload 4, 2), (160, .aload_n 0, 1), (161, .iload 7, 2), (163, .iload 8, 2), (165, .invokevirtual 195, 3), (168, .isub, 1), (169, .istore 4, 2), (171, .aload_n 0, 1), (172, .iload 7, 2), (174, .iload 8, 2), (176, .invokevirtual 201, 3), (179, .iload_n 3, 1), (180, .ifCond .eq 15, 3), (183, .aload_n 0, 1), (184, .invokevirtual 160, 3), (187, .ifCond .ne 8, 3), (190, .iload 6, 2), (192, .goto 5, 3), (195, .bipush (-4), 2), (197, .istore 5, 2), (199, .iinc 6 2, 3), (202, .goto (-165), 3), (205, .aload_n 0, 1), (206, .invokevirtual 221, 3), (209, .iload 5, 2), (211, .ireturn, 1)]
def mm_174 : mv_M := (9, 0, mc_174, lk_RX7, [(37, [0, 1, 3, 4, 5, 6])])
def mc_175 : List (Nat × Instr × Nat) := [(0, .iconst 0, 1), (1, .istore_n 1, 1), (2, .iload_n 1, 1), (3, .sipush 130, 3), (6, .if_icmp .ge 21, 3), (9, .aload_n 0, 1), (10, .getfield 55, 3), (13, .iload_n 1, 1), (14, .aload_n 0, 1), (15, .getfield 9, 3), (18, .iload_n 1, 1), (19, .iaload, 1), (20, .iastore, 1), (21, .iinc 1 1, 3), (24, .goto (-22), 3), (27, .return_, 1)]
def mm_175 : mv_M := (2, 4, mc_175, lk_RX7, [(2, [0, 1])])
def mc_176 : List (Nat × Instr × Nat) := [(0, .iconst 0, 1), (1, .istore_n 1, 1), (2, .iload_n 1, 1), (3, .sipush 130, 3), (6, .if_icmp .ge 21, 3), (9, .aload_n 0, 1), (10, .getfield 9, 3), (13, .iload_n 1, 1), (14, .aload_n 0, 1), (15, .getfield 55, 3), (18, .iload_n 1, 1), (19, .iaload, 1), (20, .iastore, 1), (21, .iinc 1 1, 3), (24, .goto (-22), 3), (27, .return_, 1)]
def mm_176 : mv_M := (2, 4, mc_176, lk_RX7, [(2, [0, 1])])
def mc_177 : List (Nat × Instr × Nat) := [(0, .aload_n 0, 1), (1, .getfield 9, 3), (4, .bipush 24, 2), (6, .iload_n 1, 1), (7, .iadd, 1), (8, .iaload, 1), (9, .ifCond .lt 36, 3), (12, .aload_n 0, 1), (13, .getfield 9, 3), (16, .bipush 8, 2), (18, .iload_n 1, 1), (19, .iadd, 1), (20, .iaload, 1), (21, .aload_n 0, 1), (22, .getfield 9, 3), (25, .bipush 24, 2), (27, .iload_n 1, 1), (28, .iadd, 1), (29, .iaload, 1), (30, .if_icmp .le 15, 3), (33, .aload_n 0, 1), (34, .iload_n 1, 1), (35, .invokevirtual 169, 3), (38, .ifCond .ne 7, 3), (41, .iconst 1, 1), (42, .goto 4, 3), (45, .iconst 0, 1), (46, .ireturn, 1)]
def mm_177 : mv_M := (2, 1, mc_177, lk_RX7, [])
def mc_178 : List (Nat × Instr × Nat) := [(0, .aload_n 0, 1), (1, .getfield 9, 3), (4, .bipush 24, 2), (6, .iload_n 1, 1), (7, .iadd, 1), (8, .iaload, 1), (9, .ifCond .lt 36, 3), (12, .aload_n 0, 1), (13, .getfield 9, 3), (16, .bipush 8, 2), (18, .iload_n 1, 1), (19, .iadd, 1), (20, .iaload, 1), (21, .aload_n 0, 1), (22, .getfield 9, 3), (25, .bipush 24, 2), (27, .iload_n 1, 1), (28, .iadd, 1), (29, .iaload, 1), (30, .if_icmp .ge 15, 3), (33, .aload_n 0, 1), (34, .iload_n 1, 1), (35, .invokevirtual 169, 3), (38, .ifCond .ne 7, 3), (41, .iconst 1, 1), (42, .goto 4, 3), (45, .iconst 0, 1), (46, .ireturn, 1)]
def mm_178 : mv_M := (2, 1, mc_178, lk_RX7, [])
def mc_179 : List (Nat × Instr × Nat) := [(0, .aload_n 0, 1), (1, .iconst 0, 1), (2, .putfield 224, 3), (5, .aload_n 0, 1), (6, .aload_n 0, 1), (7, .getfield 9, 3), (10, .iconst 2, 1), (11, .iaload, 1), (12, .putfield 227, 3), (15, .aload_n 0, 1), (16, .getfield 9, 3), (19, .iconst 3, 1), (20, .iaload, 1), (21, .ifCond .ne 86, 3), (24, .aload_n 0, 1), (25, .invokevirtual 215, 3), (28, .istore_n 1, 1), (29, .iload_n 1, 1), (30, .ifCond .lt 11, 3), (33, .iload_n 1, 1), (34, .aload_n 0, 1), (35, .getfield 227, 3), (38, .if_icmp .le 4, 3), (41, .return_, 1), (42, .aload_n 0, 1), (43, .dup, 1), (44, .getfield 227, 3), (47, .iload_n 1, 1), (48, .isub, 1), (49, .putfield 227, 3), (52, .aload_n 0, 1), (53, .aload_n 0, 1), (54, .getfield 209, 3), (57, .putfield 224, 3), (60, .iconst 0, 1), (61, .istore_n 2, 1), (62, .iload_n 2, 1), (63, .aload_n 0, 1), (64, .invokevirtual 84, 3), (67, .if_icmp .ge 39, 3), (70, .aload_n 0, 1), (71, .getfield 9, 3), (74, .bipush 24, 2), (76, .iload_n 2, 1), (77, .iadd, 1), (78, .iaload, 1), (79, .ifCond .lt 21, 3), (82, .aload_n 0, 1), (83, .getfield 9, 3), (86, .bipush 8, 2), (88, .iload_n 2, 1), (89, .iadd, 1), (90, .aload_n 0, 1), (91, .getfield 9, 3), (94, .bipush 24, 2), (96, .iload_n 2, 1), (97, .iadd, 1), (98, .iaload, 1), (99, .iastore, 1), (100, .iinc 2 1, 3), (103, .goto (-41), 3), (106, .return_, 1), (107, .aload_n 0, 1), (108, .getfield 9, 3), (111, .iconst 3, 1), (112, .iaload, 1), (113, .iconst 2, 1), (114, .if_icmp .ne 14, 3), (117, .aload_n 0, 1), (118, .invokevirtual 160, 3), (121, .ifCond .eq 7, 3), (124, .iconst 1, 1), (125, .goto 4, 3), (128, .iconst 0, 1), (129, .istore_n 1, 1), (130, .iconst 0, 1), (131, .istore_n 2, 1), (132, .iload_n 2, 1), (133, .sipush 256, 3), (136, .if_icmp .ge 16, 3), (139, .aload_n 0, 1), (140, .getfield 58, 3), (143, .iload_n 2, 1), (144, .iconst 0, 1), (145, .bastore, 1), (146, .iinc 2 1, 3), (149, .goto (-17), 3), (152, .bipush (-4), 2), (154, .istore_n 2, 1), (155, .iconst 0, 1), (156, .istore_n 3, 1), (157, .iconst 0, 1), (158, .istore 4, 2), (160, .iload 4, 2), (162, .aload_n 0, 1), (163, .invokevirtual 84, 3), (166, .if_icmp .ge 98, 3), (169, .iconst 0, 1), (170, .istore 5, 2), (172, .iload 5, 2), (174, .aload_n 0, 1), (175, .invokevirtual 84, 3), (178, .if_icmp .ge 80, 3), (181, .aload_n 0, 1), (182, .iload 4, 2), (184, .invokevirtual 230, 3), (187, .ifCond .eq 65, 3), (190, .aload_n 0, 1), (191, .iload 5, 2), (193, .invokevirtual 233, 3), (196, .ifCond .eq 56, 3), (199, .aload_n 0, 1), (200, .getfield 58, 3), (203, .bipush 16, 2), (205, .iload 4, 2), (207, .imul, 1), (208, .iload 5, 2), (210, .iadd, 1), (211, .baload, 1), (212, .ifCond .ne 40, 3), (215, .iload_n 2, 1), (216, .ifCond .lt 18, 3), (219, .aload_n 0, 1), (220, .iload 4, 2), (222, .iload 5, 2), (224, .invokevirtual 189, 3), (227, .iload_n 3, 1), (228, .if_icmp .lt 6, 3), (231, .goto 21, 3), (234, .bipush 16, 2), (236, .iload 4, 2), (238, .imul, 1), (239, .iload 5, 2), (241, .iadd, 1), (242, .istore_n 2, 1), (243, .aload_n 0, 1), (244, .iload 4, 2), (246, .iload 5, 2), (248, .invokevirtual 189, 3), (251, .istore_n 3, 1), (252, .iinc 5 1, 3), (255, .goto (-83), 3), (258, .iinc 4 1, 3), (261, .goto (-101), 3), (264, .iload_n 2, 1), (265, .ifCond .lt 13, 3), (268, .iconst 2, 1), (269, .iload_n 3, 1), (270, .imul, 1), (271, .aload_n 0, 1), (272, .getfield 227, 3), (275, .if_icmp .le 4, 3), (278, .return_, 1), (279, .aload_n 0, 1), (280, .iload_n 2, 1), (281, .bipush 16, 2), (283, .idiv, 1), (284, .iload_n 2, 1), (285, .bipush 16, 2), (287, .irem, 1), (288, .invokevirtual 201, 3), (291, .iload_n 1, 1), (292, .ifCond .eq 32, 3), (295, .aload_n 0, 1), (296, .invokevirtual 160, 3), (299, .ifCond .ne 25, 3), (302, .aload_n 0, 1), (303, .iload_n 2, 1), (304, .bipush 16, 2), (306, .irem, 1), (307, .iload_n 2, 1), (308, .bipush 16, 2), (310, .idiv, 1), (311, .invokevirtual 201, 3), (314, .aload_n 0, 1), (315, .getfield 58, 3), (318, .iload_n 2, 1), (319, .iconst 1, 1), (320, .bastore, 1), (321, .goto (-169), 3), (324, .aload_n 0, 1), (325, .dup, 1), (326, .getfield 227, 3), (329, .iconst 2, 1), (330, .iload_n 3, 1), (331, .imul, 1), (332, .isub, 1), (333, .putfield 227, 3), (336, .aload_n 0, 1), (337, .dup, 1), (338, .getfield 224, 3), (341, .iconst 1, 1), (342, .iadd, 1), (343, .putfield 224, 3), (346, .goto (-194), 3)]
def mm_179 : mv_M := (6, 4, mc_179, lk_RX7, [(62, [0, 2]), (132, [0, 1, 2]), (152, [0, 1]), (160, [0, 1, 2, 3, 4]), (172, [0, 1, 2, 3, 4, 5])])
def mc_180 : List (Nat × Instr × Nat) := [(0, .iload_n 1, 1), (1, .i2l, 1), (2, .lconst 0, 1), (3, .ldc2_w 128, 3), (6, .invokestatic 88, 3), (9, .ifCond .ne 5, 3), (12, .iconst (-1), 1), (13, .ireturn, 1), (14, .aload_n 0, 1), (15, .invokevirtual 218, 3), (18, .aload_n 0, 1), (19, .invokevirtual 236, 3), (22, .aload_n 0, 1), (23, .bipush 24, 2), (25, .invokevirtual 205, 3), (28, .istore_n 2, 1), (29, .aload_n 0, 1), (30, .invokevirtual 221, 3), (33, .iload_n 1, 1), (34, .ifCond .ne 7, 3), (37, .iload_n 2, 1), (38, .goto 19, 3), (41, .iload_n 1, 1), (42, .iconst 1, 1), (43, .if_icmp .ne 10, 3), (46, .aload_n 0, 1), (47, .getfield 224, 3), (50, .goto 7, 3), (53, .aload_n 0, 1), (54, .getfield 227, 3), (57, .ireturn, 1)]
def mm_180 : mv_M := (3, 0, mc_180, lk_RX7, [])
def mc_181 : List (Nat × Instr × Nat) := [(0, .iconst 0, 1), (1, .istore_n 2, 1), (2, .iconst 0, 1), (3, .istore_n 3, 1), (4, .iload_n 3, 1), (5, .aload_n 0, 1), (6, .iload_n 1, 1), (7, .iconst 2, 1), (8, .invokevirtual 239, 3), (11, .if_icmp .ge 71, 3), (14, .aload_n 0, 1), (15, .iload_n 1, 1), (16, .iconst 5, 1), (17, .iconst 3, 1), (18, .iload_n 3, 1), (19, .imul, 1), (20, .iadd, 1), (21, .invokevirtual 239, 3), (24, .bipush 10, 2), (26, .aload_n 0, 1), (27, .getfield 9, 3), (30, .bipush 8, 2), (32, .aload_n 0, 1), (33, .iload_n 1, 1), (34, .iconst 3, 1), (35, .iconst 3, 1), (36, .iload_n 3, 1), (37, .imul, 1), (38, .iadd, 1), (39, .invokevirtual 239, 3), (42, .iadd, 1), (43, .iaload, 1), (44, .aload_n 0, 1), (45, .iload_n 1, 1), (46, .iconst 4, 1), (47, .iconst 3, 1), (48, .iload_n 3, 1), (49, .imul, 1), (50, .iadd, 1), (51, .invokevirtual 239, 3), (54, .isub, 1), (55, .invokestatic 94, 3), (58, .imul, 1), (59, .isub, 1), (60, .istore 4, 2), (62, .iload_n 2, 1), (63, .iload 4, 2), (65, .ifCond .le 8, 3), (68, .iload 4, 2), (70, .goto 4, 3), (73, .iconst 0, 1), (74, .iadd, 1), (75, .istore_n 2, 1), (76, .iinc 3 1, 3), (79, .goto (-75), 3), (82, .iload_n 2, 1), (83, .ireturn, 1)]
def mm_181 : mv_M := (5, 0, mc_181, lk_RX7, [(4, [0, 1, 2, 3])])
def mc_182 : List (Nat × Instr × Nat) := [(0, .iconst 0, 1), (1, .istore_n 1, 1), (2, .iconst 0, 1), (3, .istore_n 2, 1), (4, .iload_n 2, 1), (5, .aload_n 0, 1), (6, .getfield 9, 3), (9, .bipush 7, 2), (11, .iaload, 1), (12, .if_icmp .ge 17, 3), (15, .iload_n 1, 1), (16, .aload_n 0, 1), (17, .iload_n 2, 1), (18, .invokevirtual 242, 3), (21, .iadd, 1), (22, .istore_n 1, 1), (23, .iinc 2 1, 3), (26, .goto (-22), 3), (29, .iload_n 1, 1), (30, .ireturn, 1)]
def mm_182 : mv_M := (3, 0, mc_182, lk_RX7, [(4, [0, 1, 2])])
def mc_183 : List (Nat × Instr × Nat) := [(0, .aload_n 0, 1), (1, .iload_n 1, 1), (2, .invokevirtual 245, 3), (5, .ifCond .ne 7, 3), (8, .iconst (-1), 1), (9, .goto 38, 3), (12, .iload_n 2, 1), (13, .i2l, 1), (14, .lconst 0, 1), (15, .ldc2_w 128, 3), (18, .invokestatic 88, 3), (21, .ifCond .eq 12, 3), (24, .aload_n 0, 1), (25, .iload_n 1, 1), (26, .iload_n 2, 1), (27, .invokevirtual 239, 3), (30, .goto 17, 3), (33, .iload_n 2, 1), (34, .iconst 3, 1), (35, .if_icmp .ne 11, 3), (38, .aload_n 0, 1), (39, .iload_n 1, 1), (40, .invokevirtual 242, 3), (43, .goto 4, 3), (46, .iconst (-1), 1), (47, .ireturn, 1)]
def mm_183 : mv_M := (3, 0, mc_183, lk_RX7, [])
def mc_184 : List (Nat × Instr × Nat) := [(0, .iconst 0, 1), (1, .istore_n 2, 1), (2, .iload_n 2, 1), (3, .sipush 130, 3), (6, .if_icmp .ge 21, 3), (9, .aload_n 0, 1), (10, .getfield 62, 3), (13, .iload_n 2, 1), (14, .aload_n 0, 1), (15, .getfield 9, 3), (18, .iload_n 2, 1), (19, .iaload, 1), (20, .iastore, 1), (21, .iinc 2 1, 3), (24, .goto (-22), 3), (27, .iload_n 1, 1), (28, .iconst 1, 1), (29, .iadd, 1), (30, .aload_n 0, 1), (31, .getfield 9, 3), (34, .bipush 7, 2), (36, .iaload, 1), (37, .irem, 1), (38, .istore_n 2, 1), (39, .aload_n 0, 1), (40, .iload_n 2, 1), (41, .iconst 1, 1), (42, .invokevirtual 248, 3), (45, .iconst 0, 1), (46, .istore_n 3, 1), (47, .iload_n 3, 1), (48, .aload_n 0, 1), (49, .invokevirtual 84, 3), (52, .if_icmp .ge 27, 3), (55, .aload_n 0, 1), (56, .getfield 9, 3), (59, .bipush 24, 2), (61, .iload_n 3, 1), (62, .iadd, 1), (63, .aload_n 0, 1), (64, .getfield 9, 3), (67, .bipush 8, 2), (69, .iload_n 3, 1), (70, .iadd, 1), (71, .iaload, 1), (72, .iastore, 1), (73, .iinc 3 1, 3), (76, .goto (-29), 3), (79, .aload_n 0, 1), (80, .getfield 251, 3), (83, .ifCond .lt 35, 3), (86, .aload_n 0, 1), (87, .getfield 9, 3), (90, .bipush 24, 2), (92, .aload_n 0, 1), (93, .getfield 251, 3), (96, .iadd, 1), (97, .dup2, 1), (98, .iaload, 1), (99, .iconst 1, 1), (100, .isub, 1), (101, .iastore, 1), (102, .aload_n 0, 1), (103, .getfield 9, 3), (106, .bipush 24, 2), (108, .aload_n 0, 1), (109, .getfield 254, 3), (112, .iadd, 1), (113, .dup2, 1), (114, .iaload, 1), (115, .iconst 1, 1), (116, .iadd, 1), (117, .iastore, 1), (118, .aload_n 0, 1), (119, .invokevirtual 236, 3), (122, .aload_n 0, 1), (123, .iload_n 1, 1), (124, .invokevirtual 242, 3), (127, .istore_n 3, 1), (128, .iconst 0, 1), (129, .istore 4, 2), (131, .iload 4, 2), (133, .sipush 130, 3), (136, .if_icmp .ge 23, 3), (139, .aload_n 0, 1), (140, .getfield 9, 3), (143, .iload 4, 2), (145, .aload_n 0, 1), (146, .getfield 62, 3), (149, .iload 4, 2), (151, .iaload, 1), (152, .iastore, 1), (153, .iinc 4 1, 3), (156, .goto (-25), 3), (159, .iload_n 3, 1), (160, .ireturn, 1)]
def mm_184 : mv_M := (5, 0, mc_184, lk_RX7, [(2, [0, 1, 2]), (47, [0, 1, 3]), (131, [0, 3, 4])])
def mc_185 : List (Nat × Instr × Nat) := [(0, .iload_n 2, 1), (1, .tableswitch 58 2 7 #[39, 44, 52, 58, 58, 44], 39), (40, .aload_n 0, 1), (41, .invokevirtual 257, 3), (44, .ireturn, 1), (45, .aload_n 0, 1), (46, .iload_n 1, 1), (47, .invokevirtual 242, 3), (50, .iload_n 3, 1), (51, .isub, 1), (52, .ireturn, 1), (53, .aload_n 0, 1), (54, .iload_n 1, 1), (55, .invokevirtual 260, 3), (58, .ireturn, 1), (59, .aload_n 0, 1), (60, .iload_n 1, 1), (61, .invokevirtual 242, 3), (64, .ireturn, 1)]
def mm_185 : mv_M := (4, 0, mc_185, lk_RX7, [])
def mc_186 : List (Nat × Instr × Nat) := [(0, .bipush (-4), 2), (2, .istore_n 3, 1), (3, .bipush (-4), 2), (5, .istore 4, 2), (7, .aload_n 0, 1), (8, .iload_n 1, 1), (9, .iload_n 2, 1), (10, .iconst 0, 1), (11, .invokevirtual 263, 3), (14, .istore 5, 2), (16, .iconst 0, 1), (17, .istore 6, 2), (19, .iload 6, 2), (21, .aload_n 0, 1), (22, .invokevirtual 84, 3), (25, .if_icmp .ge 121, 3), (28, .iconst 0, 1), (29, .istore 7, 2), (31, .iload 7, 2), (33, .aload_n 0, 1), (34, .invokevirtual 84, 3), (37, .if_icmp .ge 103, 3), (40, .aload_n 0, 1), (41, .iload 6, 2), (43, .iload 7, 2), (45, .invokevirtual 192, 3), (48, .ifCond .eq 86, 3), (51, .iload_n 2, 1), (52, .bipush 7, 2), (54, .if_icmp .ne 23, 3), (57, .aload_n 0, 1), (58, .iload 6, 2), (60, .iload 7, 2), (62, .invokevirtual 189, 3), (65, .aload_n 0, 1), (66, .iload_n 1, 1), (67, .iconst 1, 1), (68, .invokevirtual 239, 3), (71, .if_icmp .le 6, 3), (74, .goto 60, 3), (77, .aload_n 0, 1), (78, .iload 6, 2), (80, .iload 7, 2), (82, .invokevirtual 195, 3), (85, .istore 8, 2), (87, .aload_n 0, 1), (88, .iload 6, 2), (90, .iload 7, 2), (92, .invokevirtual 201, 3), (95, .aload_n 0, 1), (96, .iload_n 1, 1), (97, .iload_n 2, 1), (98, .iload 8, 2), (100, .invokevirtual 263, 3), (103, .istore 9, 2), (105, .aload_n 0, 1), (106, .iload 7, 2), (108, .iload 6, 2), (110, .invokevirtual 201, 3), (113, .iload 9, 2), (115, .iload 5, 2), (117, .if_icmp .gt 6, 3), (120, .goto 14, 3), (123, .iload 6, 2), (125, .istore_n 3, 1), (126, .iload 7, 2), (128, .istore 4, 2), (130, .iload 9, 2), (132, .istore 5, 2), (134, .iinc 7 1, 3), (137, .goto (-106), 3), (140, .iinc 6 1, 3), (143, .goto (-124), 3), (146, .aload_n 0, 1), (147, .iload_n 3, 1), (148, .putfield 251, 3), (151, .aload_n 0, 1), (152, .iload 4, 2), (154, .putfield 254, 3), (157, .return_, 1)]
def mm_186 : mv_M := (10, 4, mc_186, lk_RX7, [(19, [0, 1, 2, 3, 4, 5, 6]), (31, [0, 1, 2, 3, 4, 5, 6, 7])])
def mc_187 : List (Nat × Instr × Nat) := [(0, .aload_n 0, 1), (1, .iload_n 1, 1), (2, .iconst 0, 1), (3, .invokevirtual 239, 3), (6, .istore_n 2, 1), (7, .iconst 0, 1), (8, .istore_n 3, 1), (9, .iload_n 3, 1), (10, .aload_n 0, 1), (11, .invokevirtual 84, 3), (14, .if_icmp .ge 24, 3), (17, .aload_n 0, 1), (18, .getfield 65, 3), (21, .iload_n 3, 1), (22, .aload_n 0, 1), (23, .getfield 9, 3), (26, .bipush 8, 2), (28, .iload_n 3, 1), (29, .iadd, 1), (30, .iaload, 1), (31, .iastore, 1), (32, .iinc 3 1, 3), (35, .goto (-26), 3), (38, .iload_n 2, 1), (39, .ifCond .ne 4, 3), (42, .return_, 1), (43, .iload_n 2, 1), (44, .iconst 5, 1), (45, .if_icmp .eq 9, 3), (48, .iload_n 2, 1), (49, .bipush 6, 2), (51, .if_icmp .ne 99, 3), (54, .iconst 0, 1), (55, .istore_n 3, 1), (56, .iload_n 3, 1), (57, .aload_n 0, 1), (58, .invokevirtual 84, 3), (61, .if_icmp .ge 48, 3), (64, .aload_n 0, 1), (65, .getfield 65, 3), (68, .iload_n 3, 1), (69, .aload_n 0, 1), (70, .getfield 9, 3), (73, .bipush 24, 2), (75, .iload_n 3, 1), (76, .iadd, 1), (77, .iaload, 1), (78, .ifCond .ge 15, 3), (81, .aload_n 0, 1), (82, .getfield 9, 3), (85, .bipush 8, 2), (87, .iload_n 3, 1), (88, .iadd, 1), (89, .iaload, 1), (90, .goto 12, 3), (93, .aload_n 0, 1), (94, .getfield 9, 3), (97, .bipush 24, 2), (99, .iload_n 3, 1), (100, .iadd, 1), (101, .iaload, 1), (102, .iastore, 1), (103, .iinc 3 1, 3), (106, .goto (-50), 3), (109, .aload_n 0, 1), (110, .iload_n 1, 1), (111, .iconst 1, 1), (112, .invokevirtual 239, 3), (115, .istore_n 3, 1), (116, .iload_n 2, 1), (117, .bipush 6, 2), (119, .if_icmp .ne 30, 3), (122, .iload_n 3, 1), (123, .aload_n 0, 1), (124, .invokevirtual 84, 3), (127, .if_icmp .ge 22, 3), (130, .aload_n 0, 1), (131, .getfield 65, 3), (134, .iload_n 3, 1), (135, .iaload, 1), (136, .ifCond .le 13, 3), (139, .aload_n 0, 1), (140, .getfield 65, 3), (143, .iload_n 3, 1), (144, .dup2, 1), (145, .iaload, 1), (146, .iconst 1, 1), (147, .isub, 1), (148, .iastore, 1), (149, .return_, 1), (150, .aload_n 0, 1), (151, .iload_n 1, 1), (152, .iload_n 2, 1), (153, .invokevirtual 248, 3), (156, .aload_n 0, 1), (157, .getfield 251, 3), (160, .ifCond .ge 4, 3), (163, .return_, 1), (164, .aload_n 0, 1), (165, .getfield 65, 3), (168, .aload_n 0, 1), (169, .getfield 251, 3), (172, .dup2, 1), (173, .iaload, 1), (174, .iconst 1, 1), (175, .isub, 1), (176, .iastore, 1), (177, .aload_n 0, 1), (178, .getfield 65, 3), (181, .aload_n 0, 1), (182, .getfield 254, 3), (185, .dup2, 1), (186, .iaload, 1), (187, .iconst 1, 1), (188, .iadd, 1), (189, .iastore, 1), (190, .return_, 1)]
def mm_187 : mv_M := (4, 4, mc_187, lk_RX7, [(9, [0, 1, 2, 3]), (56, [0, 1, 2, 3])])
def mc_188 : List (Nat × Instr × Nat) := [(0, .aload_n 0, 1), (1, .iload_n 1, 1), (2, .invokevirtual 245, 3), (5, .ifCond .eq 11, 3), (8, .aload_n 0, 1), (9, .iload_n 2, 1), (10, .invokevirtual 166, 3), (13, .ifCond .ne 5, 3), (16, .iconst (-1), 1), (17, .ireturn, 1), (18, .aload_n 0, 1), (19, .iload_n 1, 1), (20, .invokevirtual 267, 3), (23, .aload_n 0, 1), (24, .getfield 65, 3), (27, .iload_n 2, 1), (28, .iaload, 1), (29, .ireturn, 1)]
def mm_188 : mv_M := (3, 0, mc_188, lk_RX7, [])
def mc_189 : List (Nat × Instr × Nat) := [(0, .aload_n 0, 1), (1, .iload_n 1, 1), (2, .invokevirtual 267, 3), (5, .iconst 0, 1), (6, .istore_n 2, 1), (7, .iload_n 2, 1), (8, .aload_n 0, 1), (9, .invokevirtual 84, 3), (12, .if_icmp .ge 39, 3), (15, .aload_n 0, 1), (16, .getfield 9, 3), (19, .bipush 24, 2), (21, .iload_n 2, 1), (22, .iadd, 1), (23, .aload_n 0, 1), (24, .getfield 65, 3), (27, .iload_n 2, 1), (28, .iaload, 1), (29, .iastore, 1), (30, .aload_n 0, 1), (31, .getfield 68, 3), (34, .iload_n 2, 1), (35, .aload_n 0, 1), (36, .getfield 9, 3), (39, .bipush 8, 2), (41, .iload_n 2, 1), (42, .iadd, 1), (43, .iaload, 1), (44, .iastore, 1), (45, .iinc 2 1, 3), (48, .goto (-41), 3), (51, .aload_n 0, 1), (52, .invokevirtual 236, 3), (55, .aload_n 0, 1), (56, .getfield 9, 3), (59, .iconst 4, 1), (60, .dup2, 1), (61, .iaload, 1), (62, .iconst 1, 1), (63, .iadd, 1), (64, .iastore, 1), (65, .iconst 0, 1), (66, .istore_n 2, 1), (67, .iload_n 2, 1), (68, .aload_n 0, 1), (69, .invokevirtual 84, 3), (72, .if_icmp .ge 29, 3), (75, .aload_n 0, 1), (76, .getfield 9, 3), (79, .bipush 8, 2), (81, .iload_n 2, 1), (82, .iadd, 1), (83, .iaload, 1), (84, .aload_n 0, 1), (85, .getfield 68, 3), (88, .iload_n 2, 1), (89, .iaload, 1), (90, .if_icmp .eq 5, 3), (93, .iconst 1, 1), (94, .ireturn, 1), (95, .iinc 2 1, 3), (98, .goto (-31), 3), (101, .iconst 0, 1), (102, .ireturn, 1)]
def mm_189 : mv_M := (3, 1, mc_189, lk_RX7, [(7, [0, 2]), (67, [0, 2])])
def mc_190 : List (Nat × Instr × Nat) := [(0, .iconst 0, 1), (1, .istore_n 1, 1), (2, .iconst 0, 1), (3, .istore_n 2, 1), (4, .iload_n 2, 1), (5, .aload_n 0, 1), (6, .invokevirtual 84, 3), (9, .if_icmp .ge 31, 3), (12, .iload_n 1, 1), (13, .aload_n 0, 1), (14, .getfield 9, 3), (17, .bipush 8, 2), (19, .iload_n 2, 1), (20, .iadd, 1), (21, .iaload, 1), (22, .aload_n 0, 1), (23, .getfield 71, 3), (26, .iload_n 2, 1), (27, .iaload, 1), (28, .isub, 1), (29, .invokestatic 94, 3), (32, .iadd, 1), (33, .istore_n 1, 1), (34, .iinc 2 1, 3), (37, .goto (-33), 3), (40, .iload_n 1, 1), (41, .ireturn, 1)]
def mm_190 : mv_M := (3, 0, mc_190, lk_RX7, [(4, [0, 1, 2])])
def mc_191 : List (Nat × Instr × Nat) := [(0, .iconst 0, 1), (1, .istore_n 1, 1), (2, .iload_n 1, 1), (3, .bipush 16, 2), (5, .if_icmp .ge 24, 3), (8, .aload_n 0, 1), (9, .getfield 71, 3), (12, .iload_n 1, 1), (13, .aload_n 0, 1), (14, .getfield 9, 3), (17, .bipush 8, 2), (19, .iload_n 1, 1), (20, .iadd, 1), (21, .iaload, 1), (22, .iastore, 1), (23, .iinc 1 1, 3), (26, .goto (-24), 3), (29, .return_, 1)]
def mm_191 : mv_M := (2, 4, mc_191, lk_RX7, [(2, [0, 1])])
def mc_192 : List (Nat × Instr × Nat) := [(0, .aload_n 0, 1), (1, .getfield 9, 3), (4, .bipush 7, 2), (6, .iaload, 1), (7, .ifCond .ne 6, 3), (10, .bipush (-3), 2), (12, .ireturn, 1), (13, .aload_n 0, 1), (14, .invokevirtual 271, 3), (17, .aload_n 0, 1), (18, .aload_n 0, 1), (19, .getfield 9, 3), (22, .iconst 4, 1), (23, .iaload, 1), (24, .aload_n 0, 1), (25, .getfield 9, 3), (28, .bipush 7, 2), (30, .iaload, 1), (31, .irem, 1), (32, .invokevirtual 274, 3), (35, .pop, 1), (36, .aload_n 0, 1), (37, .invokevirtual 277, 3), (40, .ireturn, 1)]
def mm_192 : mv_M := (1, 0, mc_192, lk_RX7, [])
def mc_193 : List (Nat × Instr × Nat) := [(0, .iconst 0, 1), (1, .istore_n 1, 1), (2, .iload_n 1, 1), (3, .sipush 130, 3), (6, .if_icmp .ge 21, 3), (9, .aload_n 0, 1), (10, .getfield 74, 3), (13, .iload_n 1, 1), (14, .aload_n 0, 1), (15, .getfield 9, 3), (18, .iload_n 1, 1), (19, .iaload, 1), (20, .iastore, 1), (21, .iinc 1 1, 3), (24, .goto (-22), 3), (27, .return_, 1)]
def mm_193 : mv_M := (2, 4, mc_193, lk_RX7, [(2, [0, 1])])
def mc_194 : List (Nat × Instr × Nat) := [(0, .iconst 0, 1), (1, .istore_n 1, 1), (2, .iload_n 1, 1), (3, .sipush 130, 3), (6, .if_icmp .ge 21, 3), (9, .aload_n 0, 1), (10, .getfield 9, 3), (13, .iload_n 1, 1), (14, .aload_n 0, 1), (15, .getfield 74, 3), (18, .iload_n 1, 1), (19, .iaload, 1), (20, .iastore, 1), (21, .iinc 1 1, 3), (24, .goto (-22), 3), (27, .return_, 1)]
def mm_194 : mv_M := (2, 4, mc_194, lk_RX7, [(2, [0, 1])])
def mc_195 : List (Nat × Instr × Nat) := [(0, .aload_n 0, 1), (1, .getfield 9, 3), (4, .bipush 7, 2), (6, .iaload, 1), (7, .ifCond .ne 6, 3), (10, .bipush (-3), 2), (12, .ireturn, 1), (13, .aload_n 0, 1), (14, .invokevirtual 280, 3), (17, .bipush (-4), 2), (19, .istore_n 1, 1), (20, .iconst 0, 1), (21, .istore_n 2, 1), (22, .iconst 1, 1), (23, .istore_n 3, 1), (24, .iload_n 3, 1), (25, .bipush 60, 2), (27, .if_icmp .gt 62, 3), (30, .iload_n 1, 1), (31, .ifCond .ge 58, 3), (34, .aload_n 0, 1), (35, .aload_n 0, 1), (36, .getfield 9, 3), (39, .iconst 4, 1), (40, .iaload, 1), (41, .aload_n 0, 1), (42, .getfield 9, 3), (45, .bipush 7, 2), (47, .iaload, 1), (48, .irem, 1), (49, .invokevirtual 274, 3), (52, .ifCond .eq 7, 3), (55, .iconst 0, 1), (56, .goto 6, 3), (59, .iload_n 2, 1), (60, .iconst 1, 1), (61, .iadd, 1), (62, .istore_n 2, 1), (63, .iload_n 2, 1), (64, .aload_n 0, 1), (65, .getfield 9, 3), (68, .bipush 7, 2), (70, .iaload, 1), (71, .if_icmp .ne 9, 3), (74, .iload_n 3, 1), (75, .iload_n 2, 1), (76, .isub, 1), (77, .goto 5, 3), (80, .bipush (-4), 2), (82, .istore_n 1, 1), (83, .iinc 3 1, 3), (86, .goto (-62), 3), (89, .aload_n 0, 1), (90, .invokevirtual 283, 3), (93, .iload_n 1, 1), (94, .ireturn, 1)]
def mm_195 : mv_M := (4, 0, mc_195, lk_RX7, [(24, [0, 1, 2, 3])])
def mc_196 : List (Nat × Instr × Nat) := [(0, .aload_n 0, 1), (1, .getfield 9, 3), (4, .bipush 7, 2), (6, .iaload, 1), (7, .ifCond .ne 6, 3), (10, .bipush (-3), 2), (12, .ireturn, 1), (13, .aload_n 0, 1), (14, .invokevirtual 280, 3), (17, .iconst 0, 1), (18, .istore_n 1, 1), (19, .iload_n 1, 1), (20, .bipush 60, 2), (22, .if_icmp .ge 28, 3), (25, .aload_n 0, 1), (26, .aload_n 0, 1), (27, .getfield 9, 3), (30, .iconst 4, 1), (31, .iaload, 1), (32, .aload_n 0, 1), (33, .getfield 9, 3), (36, .bipush 7, 2), (38, .iaload, 1), (39, .irem, 1), (40, .invokevirtual 274, 3), (43, .pop, 1), (44, .iinc 1 1, 3), (47, .goto (-28), 3), (50, .aload_n 0, 1), (51, .invokevirtual 271, 3), (54, .bipush (-4), 2), (56, .istore_n 1, 1), (57, .iconst 1, 1), (58, .istore_n 2, 1), (59, .iload_n 2, 1), (60, .bipush 30, 2), (62, .if_icmp .gt 46, 3), (65, .iload_n 1, 1), (66, .ifCond .ge 42, 3), (69, .aload_n 0, 1), (70, .aload_n 0, 1), (71, .getfield 9, 3), (74, .iconst 4, 1), (75, .iaload, 1), (76, .aload_n 0, 1), (77, .getfield 9, 3), (80, .bipush 7, 2), (82, .iaload, 1), (83, .irem, 1), (84, .invokevirtual 274, 3), (87, .pop, 1), (88, .aload_n 0, 1), (89, .invokevirtual 277, 3), (92, .ifCond .ne 7, 3), (95, .iload_n 2, 1), (96, .goto 5, 3), (99, .bipush (-4), 2), (101, .istore_n 1, 1), (102, .iinc 2 1, 3), (105, .goto (-46), 3), (108, .aload_n 0, 1), (109, .invokevirtual 283, 3), (112, .iload_n 1, 1), (113, .ireturn, 1)]
def mm_196 : mv_M := (3, 0, mc_196, lk_RX7, [(19, [0, 1]), (59, [0, 1, 2])])
def mc_197 : List (Nat × Instr × Nat) := [(0, .iload_n 1, 1), (1, .i2l, 1), (2, .lconst 1, 1), (3, .ldc2_w 286, 3), (6, .invokestatic 88, 3), (9, .ifCond .eq 13, 3), (12, .iload_n 3, 1), (13, .i2l, 1), (14, .lconst 0, 1), (15, .lconst 1, 1), (16, .invokestatic 88, 3), (19, .ifCond .ne 5, 3), (22, .iconst (-1), 1), (23, .ireturn, 1), (24, .aload_n 0, 1), (25, .getfield 9, 3), (28, .bipush 7, 2), (30, .iaload, 1), (31, .ifCond .ne 6, 3), (34, .bipush (-3), 2), (36, .ireturn, 1), (37, .aload_n 0, 1), (38, .invokevirtual 280, 3), (41, .aload_n 0, 1), (42, .invokevirtual 271, 3), (45, .iload_n 2, 1), (46, .istore 4, 2), (48, .iconst 0, 1), (49, .istore 5, 2), (51, .iconst 0, 1), (52, .istore 6, 2), (54, .iload 6, 2), (56, .iload_n 1, 1), (57, .if_icmp .ge 56, 3), (60, .iload 4, 2), (62, .ldc_w 288, 3), (65, .imul, 1), (66, .sipush 12345, 3), (69, .iadd, 1), (70, .istore 4, 2), (72, .iload 5, 2), (74, .aload_n 0, 1), (75, .iload 4, 2), (77, .ldc_w 289, 3), (80, .iand, 1), (81, .ldc_w 290, 3), (84, .idiv, 1), (85, .aload_n 0, 1), (86, .getfield 9, 3), (89, .bipush 7, 2), (91, .iaload, 1), (92, .irem, 1), (93, .invokevirtual 274, 3), (96, .ifCond .eq 7, 3), (99, .iconst 1, 1), (100, .goto 4, 3), (103, .iconst 0, 1), (104, .iadd, 1), (105, .istore 5, 2), (107, .iinc 6 1, 3), (110, .goto (-56), 3), (113, .aload_n 0, 1), (114, .invokevirtual 277, 3), (117, .istore 6, 2), (119, .aload_n 0, 1), (120, .invokevirtual 283, 3), (123, .iload_n 3, 1), (124, .ifCond .ne 8, 3), (127, .iload 6, 2), (129, .goto 5, 3), (132, .iload 5, 2), (134, .ireturn, 1)]
def mm_197 : mv_M := (7, 0, mc_197, lk_RX7, [(54, [0, 1, 3, 4, 5, 6])])
def mc_198 : List (Nat × Instr × Nat) := [(0, .iload_n 1, 1), (1, .invokestatic 138, 3), (4, .ifCond .eq 28, 3), (7, .iload_n 2, 1), (8, .invokestatic 138, 3), (11, .ifCond .eq 21, 3), (14, .iload_n 3, 1), (15, .i2l, 1), (16, .lconst 1, 1), (17, .aload_n 0, 1), (18, .getfield 9, 3), (21, .iconst 1, 1), (22, .iaload, 1), (23, .iconst 1, 1), (24, .isub, 1), (25, .i2l, 1), (26, .invokestatic 88, 3), (29, .ifCond .ne 5, 3), (32, .iconst (-1), 1), (33, .ireturn, 1), (34, .aload_n 0, 1), (35, .getfield 19, 3), (38, .iload_n 1, 1), (39, .iaload, 1), (40, .ifCond .eq 12, 3), (43, .aload_n 0, 1), (44, .getfield 19, 3), (47, .iload_n 2, 1), (48, .iaload, 1), (49, .ifCond .ne 6, 3), (52, .bipush (-11), 2), (54, .ireturn, 1), (55, .aload_n 0, 1), (56, .iload_n 1, 1), (57, .invokevirtual 180, 3), (60, .istore 5, 2), (62, .aload_n 0, 1), (63, .iload_n 2, 1), (64, .invokevirtual 180, 3), (67, .istore 6, 2), (69, .iload 5, 2), (71, .bipush (-12), 2), (73, .if_icmp .eq 10, 3), (76, .iload 6, 2), (78, .bipush (-12), 2), (80, .if_icmp .ne 6, 3), (83, .bipush (-12), 2), (85, .ireturn, 1), (86, .iload 5, 2), (88, .ifCond .ne 8, 3), (91, .iload 6, 2), (93, .ifCond .eq 6, 3), (96, .bipush (-13), 2), (98, .ireturn, 1), (99, .iconst 0, 1), (100, .istore 7, 2), (102, .iconst 0, 1), (103, .istore 8, 2), (105, .iload 8, 2), (107, .aload_n 0, 1), (108, .getfield 9, 3), (111, .iconst 0, 1), (112, .iaload, 1), (113, .if_icmp .ge 79, 3), (116, .aload_n 0, 1), (117, .iload_n 1, 1), (118, .iload 8, 2), (120, .aload_n 0, 1), (121, .getfield 9, 3), (124, .iconst 1, 1), (125, .iaload, 1), (126, .imul, 1), (127, .iload_n 3, 1), (128, .iadd, 1), (129, .iconst 1, 1), (130, .isub, 1), (131, .invokevirtual 183, 3), (134, .istore 9, 2), (136, .aload_n 0, 1), (137, .iload_n 2, 1), (138, .iload 8, 2), (140, .aload_n 0, 1), (141, .getfield 9, 3), (144, .iconst 1, 1), (145, .iaload, 1), (146, .imul, 1), (147, .iload_n 3, 1), (148, .iadd, 1), (149, .invokevirtual 183, 3), (152, .istore 10, 2), (154, .iload 7, 2), (156, .iload 9, 2), (158, .ifCond .lt 24, 3), (161, .iload 10, 2), (163, .ifCond .lt 19, 3), (166, .iload 9, 2), (168, .iload 10, 2), (170, .isub, 1), (171, .invokestatic 94, 3), (174, .iconst 2, 1), (175, .if_icmp .le 7, 3), (178, .iconst 1, 1), (179, .goto 4, 3), (182, .iconst 0, 1), (183, .iadd, 1), (184, .istore 7, 2), (186, .iinc 8 1, 3), (189, .goto (-84), 3), (192, .iconst 0, 1), (193, .istore 8, 2), (195, .iload 8, 2), (197, .aload_n 0, 1), (198, .invokevirtual 84, 3), (201, .if_icmp .ge 48, 3), (204, .iload 4, 2), (206, .ifCond .eq 43, 3), (209, .aload_n 0, 1), (210, .getfield 9, 3), (213, .bipush 24, 2), (215, .iload 8, 2), (217, .iadd, 1), (218, .aload_n 0, 1), (219, .iload 8, 2), (221, .aload_n 0, 1), (222, .getfield 9, 3), (225, .iconst 1, 1), (226, .iaload, 1), (227, .irem, 1), (228, .iload_n 3, 1), (229, .if_icmp .ge 7, 3), (232, .iload_n 1, 1), (233, .goto 4, 3), (236, .iload_n 2, 1), (237, .iload 8, 2), (239, .invokevirtual 183, 3), (242, .iastore, 1), (243, .iinc 8 1, 3), (246, .goto (-51), 3), (249, .iload 7, 2), (251, .ireturn, 1)]
def mm_198 : mv_M := (11, 0, mc_198, lk_RX7, [(105, [0, 1, 2, 3, 4, 7, 8]), (195, [0, 1, 2, 3, 4, 7, 8])])
def mc_199 : List (Nat × Instr × Nat) := [(0, .aload_n 0, 1), (1, .getfield 9, 3), (4, .bipush 24, 2), (6, .iload_n 1, 1), (7, .iadd, 1), (8, .iaload, 1), (9, .ifCond .ge 15, 3), (12, .aload_n 0, 1), (13, .getfield 9, 3), (16, .bipush 8, 2), (18, .iload_n 1, 1), (19, .iadd, 1), (20, .iaload, 1), (21, .goto 12, 3), (24, .aload_n 0, 1), (25, .getfield 9, 3), (28, .bipush 24, 2), (30, .iload_n 1, 1), (31, .iadd, 1), (32, .iaload, 1), (33, .ireturn, 1)]
def mm_199 : mv_M := (2, 0, mc_199, lk_RX7, [])
def mc_200 : List (Nat × Instr × Nat) := [(0, .aload_n 0, 1), (1, .iload_n 1, 1), (2, .invokevirtual 166, 3), (5, .ifCond .eq 16, 3), (8, .aload_n 0, 1), (9, .iload_n 2, 1), (10, .invokevirtual 166, 3), (13, .ifCond .eq 8, 3), (16, .iload_n 1, 1), (17, .iload_n 2, 1), (18, .if_icmp .ne 7, 3), (21, .ldc_w 291, 3), (24, .ireturn, 1), (25, .aload_n 0, 1), (26, .iload_n 1, 1), (27, .invokevirtual 292, 3), (30, .iconst 1, 1), (31, .iadd, 1), (32, .bipush 9, 2), (34, .if_icmp .gt 12, 3), (37, .aload_n 0, 1), (38, .iload_n 2, 1), (39, .invokevirtual 292, 3), (42, .iconst 1, 1), (43, .if_icmp .ge 7, 3), (46, .ldc_w 295, 3), (49, .ireturn, 1), (50, .aload_n 0, 1), (51, .invokevirtual 215, 3), (54, .istore_n 3, 1), (55, .aload_n 0, 1), (56, .getfield 9, 3), (59, .bipush 24, 2), (61, .iload_n 1, 1), (62, .iadd, 1), (63, .iaload, 1), (64, .istore 4, 2), (66, .aload_n 0, 1), (67, .getfield 9, 3), (70, .bipush 24, 2), (72, .iload_n 2, 1), (73, .iadd, 1), (74, .iaload, 1), (75, .istore 5, 2), (77, .aload_n 0, 1), (78, .getfield 9, 3), (81, .bipush 24, 2), (83, .iload_n 1, 1), (84, .iadd, 1), (85, .aload_n 0, 1), (86, .iload_n 1, 1), (87, .invokevirtual 292, 3), (90, .iconst 1, 1), (91, .iadd, 1), (92, .iastore, 1), (93, .aload_n 0, 1), (94, .getfield 9, 3), (97, .bipush 24, 2), (99, .iload_n 2, 1), (100, .iadd, 1), (101, .aload_n 0, 1), (102, .iload_n 2, 1), (103, .invokevirtual 292, 3), (106, .iconst 1, 1), (107, .isub, 1), (108, .iastore, 1), (109, .aload_n 0, 1), (110, .invokevirtual 215, 3), (113, .istore 6, 2), (115, .aload_n 0, 1), (116, .getfield 9, 3), (119, .bipush 24, 2), (121, .iload_n 1, 1), (122, .iadd, 1), (123, .iload 4, 2), (125, .iastore, 1), (126, .aload_n 0, 1), (127, .getfield 9, 3), (130, .bipush 24, 2), (132, .iload_n 2, 1), (133, .iadd, 1), (134, .iload 5, 2), (136, .iastore, 1), (137, .iload_n 3, 1), (138, .ifCond .lt 8, 3), (141, .iload 6, 2), (143, .ifCond .ge 9, 3), (146, .ldc_w 296, 3), (149, .goto 7, 3), (152, .iload 6, 2), (154, .iload_n 3, 1), (155, .isub, 1), (156, .ireturn, 1)]
def mm_200 : mv_M := (7, 0, mc_200, lk_RX7, [])
def mc_201 : List (Nat × Instr × Nat) := [(0, .aload_n 0, 1), (1, .iload_n 1, 1), (2, .invokevirtual 166, 3), (5, .ifCond .eq 16, 3), (8, .aload_n 0, 1), (9, .iload_n 2, 1), (10, .invokevirtual 166, 3), (13, .ifCond .eq 8, 3), (16, .iload_n 1, 1), (17, .iload_n 2, 1), (18, .if_icmp .ne 7, 3), (21, .ldc_w 291, 3), (24, .ireturn, 1), (25, .aload_n 0, 1), (26, .iload_n 1, 1), (27, .iload_n 2, 1), (28, .invokevirtual 192, 3), (31, .ifCond .ne 7, 3), (34, .ldc_w 295, 3), (37, .ireturn, 1), (38, .aload_n 0, 1), (39, .invokevirtual 257, 3), (42, .istore_n 3, 1), (43, .aload_n 0, 1), (44, .iload_n 1, 1), (45, .iload_n 2, 1), (46, .invokevirtual 201, 3), (49, .aload_n 0, 1), (50, .invokevirtual 257, 3), (53, .istore 4, 2), (55, .aload_n 0, 1), (56, .iload_n 2, 1), (57, .iload_n 1, 1), (58, .invokevirtual 201, 3), (61, .iload_n 3, 1), (62, .iload 4, 2), (64, .isub, 1), (65, .ireturn, 1)]
def mm_201 : mv_M := (5, 0, mc_201, lk_RX7, [])
def mc_202 : List (Nat × Instr × Nat) := [(0, .iload_n 1, 1), (1, .i2l, 1), (2, .lconst 0, 1), (3, .ldc2_w 128, 3), (6, .invokestatic 88, 3), (9, .ifCond .ne 5, 3), (12, .iconst (-1), 1), (13, .ireturn, 1), (14, .aload_n 0, 1), (15, .getfield 9, 3), (18, .bipush 7, 2), (20, .iaload, 1), (21, .istore_n 2, 1), (22, .iload_n 2, 1), (23, .ifCond .ne 6, 3), (26, .bipush (-3), 2), (28, .ireturn, 1), (29, .iconst 0, 1), (30, .istore_n 3, 1), (31, .iload_n 3, 1), (32, .iload_n 2, 1), (33, .if_icmp .ge 90, 3), (36, .aload_n 0, 1), (37, .iload_n 3, 1), (38, .invokevirtual 267, 3), (41, .aload_n 0, 1), (42, .invokevirtual 280, 3), (45, .iconst 0, 1), (46, .istore 4, 2), (48, .iload 4, 2), (50, .aload_n 0, 1), (51, .invokevirtual 84, 3), (54, .if_icmp .ge 26, 3), (57, .aload_n 0, 1), (58, .getfield 9, 3), (61, .bipush 8, 2), (63, .iload 4, 2), (65, .iadd, 1), (66, .aload_n 0, 1), (67, .getfield 65, 3), (70, .iload 4, 2), (72, .iaload, 1), (73, .iastore, 1), (74, .iinc 4 1, 3), (77, .goto (-29), 3), (80, .iconst 0, 1), (81, .istore 4, 2), (83, .iload 4, 2), (85, .iload_n 2, 1), (86, .if_icmp .ge 27, 3), (89, .aload_n 0, 1), (90, .getfield 77, 3), (93, .bipush 6, 2), (95, .iload 4, 2), (97, .imul, 1), (98, .iload_n 3, 1), (99, .iadd, 1), (100, .aload_n 0, 1), (101, .iload 4, 2), (103, .invokevirtual 242, 3), (106, .iastore, 1), (107, .iinc 4 1, 3), (110, .goto (-27), 3), (113, .aload_n 0, 1), (114, .invokevirtual 283, 3), (117, .iinc 3 1, 3), (120, .goto (-89), 3), (123, .iconst 0, 1), (124, .istore_n 3, 1), (125, .iconst 0, 1), (126, .istore 4, 2), (128, .iconst 0, 1), (129, .istore 5, 2), (131, .iconst 0, 1), (132, .istore 6, 2), (134, .iconst 0, 1), (135, .istore 7, 2), (137, .iload 7, 2), (139, .iload_n 2, 1), (140, .if_icmp .ge 155, 3), (143, .iconst 0, 1), (144, .istore 8, 2), (146, .iconst 0, 1), (147, .istore 9, 2), (149, .iconst 0, 1), (150, .istore 10, 2), (152, .iload 10, 2), (154, .iload_n 2, 1), (155, .if_icmp .ge 100, 3), (158, .iconst 0, 1), (159, .istore 11, 2), (161, .iconst 1, 1), (162, .istore 12, 2), (164, .iload 12, 2), (166, .iload_n 2, 1), (167, .if_icmp .ge 47, 3), (170, .aload_n 0, 1), (171, .getfield 77, 3), (174, .bipush 6, 2), (176, .iload 10, 2), (178, .imul, 1), (179, .iload 12, 2), (181, .iadd, 1), (182, .iaload, 1), (183, .aload_n 0, 1), (184, .getfield 77, 3), (187, .bipush 6, 2), (189, .iload 10, 2), (191, .imul, 1), (192, .iload 11, 2), (194, .iadd, 1), (195, .iaload, 1), (196, .if_icmp .le 8, 3), (199, .iload 12, 2), (201, .goto 5, 3), (204, .iload 11, 2), (206, .istore 11, 2), (208, .iinc 12 1, 3), (211, .goto (-47), 3), (214, .iload 9, 2), (216, .iload 11, 2), (218, .iload 7, 2), (220, .if_icmp .ne 7, 3), (223, .iconst 1, 1), (224, .goto 4, 3), (227, .iconst 0, 1), (228, .iadd, 1), (229, .istore 9, 2), (231, .iload 8, 2), (233, .aload_n 0, 1), (234, .getfield 77, 3), (237, .bipush 6, 2), (239, .iload 10, 2), (241, .imul, 1), (242, .iload 7, 2), (244, .iadd, 1), (245, .iaload, 1), (246, .iadd, 1), (247, .istore 8, 2), (249, .iinc 10 1, 3), (252, .goto (-100), 3), (255, .iload 7, 2), (257, .ifCond .eq 10, 3), (260, .iload 8, 2), (262, .iload 4, 2), (264, .if_icmp .le 10, 3), (267, .iload 7, 2), (269, .istore_n 3, 1), (270, .iload 8, 2), (272, .istore 4, 2), (274, .iload 9, 2), (276, .iload 6, 2), (278, .if_icmp .le 11, 3), (281, .iload 7, 2), (283, .istore 5, 2), (285, .iload 9, 2), (287, .istore 6, 2), (289, .iinc 7 1, 3), (292, .goto (-155), 3), (295, .iload_n 1, 1), (296, .ifCond .ne 8, 3), (299, .iload 5, 2), (301, .goto 14, 3), (304, .iload_n 1, 1), (305, .iconst 1, 1), (306, .if_icmp .ne 8, 3), (309, .iload 6, 2), (311, .goto 4, 3), (314, .iload_n 3, 1), (315, .ireturn, 1)]
def mm_202 : mv_M := (13, 0, mc_202, lk_RX7, [(31, [0, 1, 2, 3]), (48, [0, 1, 2, 3, 4]), (83, [0, 1, 2, 3, 4]), (137, [0, 1, 2, 3, 4, 5, 6, 7]), (152, [0, 1, 2, 3, 4, 5, 6, 7, 8, 9, 10]), (164, [0, 1, 2, 3, 4, 5, 6, 7, 8, 9, 10, 11, 12])])
def mc_203 : List (Nat × Instr × Nat) := [(0, .aload_n 0, 1), (1, .getfield 22, 3), (4, .iload_n 1, 1), (5, .iaload, 1), (6, .ifCond .ne 8, 3), (9, .bipush (-128), 2), (11, .goto 22, 3), (14, .aload_n 0, 1), (15, .getfield 22, 3), (18, .iload_n 1, 1), (19, .iaload, 1), (20, .iconst 1, 1), (21, .if_icmp .ne 9, 3), (24, .sipush (-32768), 3), (27, .goto 6, 3), (30, .ldc_w 297, 3), (33, .ireturn, 1)]
def mm_203 : mv_M := (2, 0, mc_203, lk_RX7, [])
def mc_204 : List (Nat × Instr × Nat) := [(0, .aload_n 0, 1), (1, .iload_n 1, 1), (2, .iconst (-1), 1), (3, .invokevirtual 141, 3), (6, .istore_n 2, 1), (7, .iload_n 2, 1), (8, .ifCond .eq 5, 3), (11, .iload_n 2, 1), (12, .ireturn, 1), (13, .aload_n 0, 1), (14, .invokevirtual 84, 3), (17, .istore_n 3, 1), (18, .iconst 0, 1), (19, .istore 4, 2), (21, .iload 4, 2), (23, .iload_n 3, 1), (24, .if_icmp .ge 69, 3), (27, .iload 4, 2), (29, .aload_n 0, 1), (30, .getfield 25, 3), (33, .iload_n 1, 1), (34, .iaload, 1), (35, .if_icmp .ne 10, 3), (38, .aload_n 0, 1), (39, .getfield 25, 3), (42, .iload_n 1, 1), (43, .iaload, 1), (44, .ireturn, 1), (45, .aload_n 0, 1), (46, .getfield 28, 3), (49, .bipush 100, 2), (51, .iload_n 1, 1), (52, .imul, 1), (53, .iload 4, 2), (55, .iadd, 1), (56, .iaload, 1), (57, .istore 5, 2), (59, .iload 5, 2), (61, .aload_n 0, 1), (62, .iload_n 1, 1), (63, .invokevirtual 298, 3), (66, .if_icmp .eq 21, 3), (69, .iload 5, 2), (71, .aload_n 0, 1), (72, .getfield 9, 3), (75, .bipush 8, 2), (77, .iload 4, 2), (79, .iadd, 1), (80, .iaload, 1), (81, .if_icmp .eq 6, 3), (84, .iload 4, 2), (86, .ireturn, 1), (87, .iinc 4 1, 3), (90, .goto (-69), 3), (93, .aload_n 0, 1), (94, .getfield 25, 3), (97, .iload_n 1, 1), (98, .iaload, 1), (99, .iload_n 3, 1), (100, .if_icmp .le 7, 3), (103, .iload_n 3, 1), (104, .goto 5, 3), (107, .bipush (-4), 2), (109, .ireturn, 1)]
def mm_204 : mv_M := (6, 0, mc_204, lk_RX7, [(21, [0, 1, 3, 4])])
def mc_205 : List (Nat × Instr × Nat) := [(0, .iconst 0, 1), (1, .istore_n 1, 1), (2, .iload_n 1, 1), (3, .sipush 130, 3), (6, .if_icmp .ge 21, 3), (9, .aload_n 0, 1), (10, .getfield 13, 3), (13, .iload_n 1, 1), (14, .aload_n 0, 1), (15, .getfield 9, 3), (18, .iload_n 1, 1), (19, .iaload, 1), (20, .iastore, 1), (21, .iinc 1 1, 3), (24, .goto (-22), 3), (27, .aload_n 0, 1), (28, .iconst 1, 1), (29, .putfield 301, 3), (32, .aload_n 0, 1), (33, .getfield 9, 3), (36, .iconst 4, 1), (37, .iaload, 1), (38, .ireturn, 1)]
def mm_205 : mv_M := (2, 0, mc_205, lk_RX7, [(2, [0, 1])])
def mc_206 : List (Nat × Instr × Nat) := [(0, .aload_n 0, 1), (1, .getfield 301, 3), (4, .ifCond .ne 6, 3), (7, .bipush (-3), 2), (9, .ireturn, 1), (10, .iconst 0, 1), (11, .istore_n 1, 1), (12, .iload_n 1, 1), (13, .sipush 130, 3), (16, .if_icmp .ge 21, 3), (19, .aload_n 0, 1), (20, .getfield 9, 3), (23, .iload_n 1, 1), (24, .aload_n 0, 1), (25, .getfield 13, 3), (28, .iload_n 1, 1), (29, .iaload, 1), (30, .iastore, 1), (31, .iinc 1 1, 3), (34, .goto (-22), 3), (37, .aload_n 0, 1), (38, .getfield 9, 3), (41, .iconst 4, 1), (42, .iaload, 1), (43, .ireturn, 1)]
def mm_206 : mv_M := (2, 0, mc_206, lk_RX7, [(12, [0, 1])])
def mc_207 : List (Nat × Instr × Nat) := [(0, .iconst 0, 1), (1, .istore_n 2, 1), (2, .iload_n 1, 1), (3, .tableswitch 126 0 5 #[37, 42, 50, 61, 66, 96], 37), (40, .aload_n 0, 1), (41, .invokevirtual 84, 3), (44, .ireturn, 1), (45, .aload_n 0, 1), (46, .getfield 9, 3), (49, .bipush 7, 2), (51, .iaload, 1), (52, .ireturn, 1), (53, .aload_n 0, 1), (54, .getfield 9, 3), (57, .bipush 6, 2), (59, .iaload, 1), (60, .invokestatic 163, 3), (63, .ireturn, 1), (64, .aload_n 0, 1), (65, .invokevirtual 186, 3), (68, .ireturn, 1), (69, .iconst 0, 1), (70, .istore_n 3, 1), (71, .iload_n 3, 1), (72, .aload_n 0, 1), (73, .invokevirtual 84, 3), (76, .if_icmp .ge 21, 3), (79, .iload_n 2, 1), (80, .aload_n 0, 1), (81, .getfield 9, 3), (84, .bipush 8, 2), (86, .iload_n 3, 1), (87, .iadd, 1), (88, .iaload, 1), (89, .iadd, 1), (90, .istore_n 2, 1), (91, .iinc 3 1, 3), (94, .goto (-23), 3), (97, .iload_n 2, 1), (98, .ireturn, 1), (99, .iconst 0, 1), (100, .istore_n 3, 1), (101, .iload_n 3, 1), (102, .aload_n 0, 1), (103, .getfield 9, 3), (106, .bipush 7, 2), (108, .iaload, 1), (109, .if_icmp .ge 18, 3), (112, .iload_n 2, 1), (113, .aload_n 0, 1), (114, .iload_n 3, 1), (115, .iconst 2, 1), (116, .invokevirtual 239, 3), (119, .iadd, 1), (120, .istore_n 2, 1), (121, .iinc 3 1, 3), (124, .goto (-23), 3), (127, .iload_n 2, 1), (128, .ireturn, 1), (129, .iconst (-1), 1), (130, .ireturn, 1)]
def mm_207 : mv_M := (4, 0, mc_207, lk_RX7, [(71, [0, 2, 3]), (101, [0, 2, 3])])
def mc_208 : List (Nat × Instr × Nat) := [(0, .iload_n 0, 1), (1, .tableswitch 74 1 7 #[43, 47, 53, 57, 62, 64, 68], 43), (44, .iconst 5, 1), (45, .iload_n 1, 1), (46, .iadd, 1), (47, .ireturn, 1), (48, .iconst 3, 1), (49, .iconst 5, 1), (50, .iload_n 1, 1), (51, .iadd, 1), (52, .imul, 1), (53, .ireturn, 1), (54, .iconst 3, 1), (55, .iload_n 1, 1), (56, .iadd, 1), (57, .ireturn, 1), (58, .bipush 25, 2), (60, .iload_n 1, 1), (61, .iadd, 1), (62, .ireturn, 1), (63, .iconst 4, 1), (64, .ireturn, 1), (65, .iconst 4, 1), (66, .iload_n 1, 1), (67, .imul, 1), (68, .ireturn, 1), (69, .iconst 3, 1), (70, .iload_n 1, 1), (71, .iadd, 1), (72, .iconst 2, 1), (73, .idiv, 1), (74, .ireturn, 1), (75, .iconst 5, 1), (76, .ireturn, 1)]
def mm_208 : mv_M := (2, 0, mc_208, lk_RX7, [])
def mc_209 : List (Nat × Instr × Nat) := [(0, .iload_n 1, 1), (1, .invokestatic 138, 3), (4, .ifCond .eq 26, 3), (7, .iload_n 2, 1), (8, .i2l, 1), (9, .lconst 0, 1), (10, .lconst 1, 1), (11, .invokestatic 88, 3), (14, .ifCond .eq 16, 3), (17, .iload_n 2, 1), (18, .iconst 1, 1), (19, .if_icmp .ne 13, 3), (22, .aload_n 0, 1), (23, .iload_n 3, 1), (24, .invokevirtual 245, 3), (27, .ifCond .ne 5, 3), (30, .iconst (-1), 1), (31, .ireturn, 1), (32, .aload_n 0, 1), (33, .getfield 19, 3), (36, .iload_n 1, 1), (37, .iload_n 2, 1), (38, .iastore, 1), (39, .iload_n 2, 1), (40, .ifCond .ne 5, 3), (43, .iconst 0, 1), (44, .ireturn, 1), (45, .aload_n 0, 1), (46, .iload_n 3, 1), (47, .iconst 0, 1), (48, .invokevirtual 239, 3), (51, .istore 4, 2), (53, .aload_n 0, 1), (54, .iload_n 3, 1), (55, .iconst 1, 1), (56, .invokevirtual 239, 3), (59, .istore 5, 2), (61, .aload_n 0, 1), (62, .getfield 31, 3), (65, .iload_n 1, 1), (66, .iload 4, 2), (68, .iload 5, 2), (70, .invokestatic 305, 3), (73, .iastore, 1), (74, .aload_n 0, 1), (75, .getfield 34, 3), (78, .iload_n 1, 1), (79, .iload 4, 2), (81, .iconst 5, 1), (82, .if_icmp .eq 8, 3), (85, .iload 5, 2), (87, .ifCond .ne 8, 3), (90, .bipush (-15), 2), (92, .goto 37, 3), (95, .iload 4, 2), (97, .iconst 4, 1), (98, .if_icmp .ne 10, 3), (101, .bipush 100, 2), (103, .iload_n 3, 1), (104, .iadd, 1), (105, .goto 24, 3), (108, .iload 4, 2), (110, .bipush 6, 2), (112, .if_icmp .ne 16, 3), (115, .sipush 200, 3), (118, .aload_n 0, 1), (119, .getfield 31, 3), (122, .iload_n 1, 1), (123, .iaload, 1), (124, .iadd, 1), (125, .goto 4, 3), (128, .iload_n 3, 1), (129, .iastore, 1), (130, .iconst 0, 1), (131, .ireturn, 1)]
def mm_209 : mv_M := (6, 0, mc_209, lk_RX7, [(32, [0, 1, 2, 3])])
def mc_210 : List (Nat × Instr × Nat) := [(0, .iload_n 1, 1), (1, .invokestatic 138, 3), (4, .ifCond .eq 21, 3), (7, .iload_n 2, 1), (8, .i2l, 1), (9, .lconst 0, 1), (10, .ldc2_w 128, 3), (13, .invokestatic 88, 3), (16, .ifCond .eq 9, 3), (19, .iload_n 3, 1), (20, .bipush 100, 2), (22, .if_icmp .le 5, 3), (25, .iconst (-1), 1), (26, .ireturn, 1), (27, .iload_n 3, 1), (28, .ifCond .ge 6, 3), (31, .bipush (-14), 2), (33, .ireturn, 1), (34, .aload_n 0, 1), (35, .getfield 19, 3), (38, .iload_n 1, 1), (39, .iconst 2, 1), (40, .iastore, 1), (41, .aload_n 0, 1), (42, .getfield 22, 3), (45, .iload_n 1, 1), (46, .iload_n 2, 1), (47, .iastore, 1), (48, .aload_n 0, 1), (49, .getfield 25, 3), (52, .iload_n 1, 1), (53, .iload_n 3, 1), (54, .iastore, 1), (55, .iconst 0, 1), (56, .istore 4, 2), (58, .iload 4, 2), (60, .bipush 100, 2), (62, .if_icmp .ge 22, 3), (65, .aload_n 0, 1), (66, .getfield 28, 3), (69, .bipush 100, 2), (71, .iload_n 1, 1), (72, .imul, 1), (73, .iload 4, 2), (75, .iadd, 1), (76, .iconst 0, 1), (77, .iastore, 1), (78, .iinc 4 1, 3), (81, .goto (-23), 3), (84, .iconst 0, 1), (85, .ireturn, 1)]
def mm_210 : mv_M := (5, 0, mc_210, lk_RX7, [(58, [0, 1, 4])])
def mc_211 : List (Nat × Instr × Nat) := [(0, .aload_n 0, 1), (1, .iload_n 1, 1), (2, .iconst (-1), 1), (3, .invokevirtual 141, 3), (6, .istore 4, 2), (8, .iload 4, 2), (10, .ifCond .eq 6, 3), (13, .iload 4, 2), (15, .ireturn, 1), (16, .iload_n 2, 1), (17, .i2l, 1), (18, .lconst 0, 1), (19, .aload_n 0, 1), (20, .getfield 25, 3), (23, .iload_n 1, 1), (24, .iaload, 1), (25, .iconst 1, 1), (26, .isub, 1), (27, .i2l, 1), (28, .invokestatic 88, 3), (31, .ifCond .ne 6, 3), (34, .bipush (-13), 2), (36, .ireturn, 1), (37, .aload_n 0, 1), (38, .getfield 28, 3), (41, .bipush 100, 2), (43, .iload_n 1, 1), (44, .imul, 1), (45, .iload_n 2, 1), (46, .iadd, 1), (47, .aload_n 0, 1), (48, .getfield 22, 3), (51, .iload_n 1, 1), (52, .iaload, 1), (53, .ifCond .ne 8, 3), (56, .iload_n 3, 1), (57, .i2b, 1), (58, .goto 19, 3), (61, .aload_n 0, 1), (62, .getfield 22, 3), (65, .iload_n 1, 1), (66, .iaload, 1), (67, .iconst 1, 1), (68, .if_icmp .ne 8, 3), (71, .iload_n 3, 1), (72, .i2s, 1), (73, .goto 4, 3), (76, .iload_n 3, 1), (77, .iastore, 1), (78, .iconst 0, 1), (79, .ireturn, 1)]
def mm_211 : mv_M := (5, 0, mc_211, lk_RX7, [])
def mc_212 : List (Nat × Instr × Nat) := [(0, .aload_n 0, 1), (1, .iload_n 1, 1), (2, .invokestatic 138, 3), (5, .ifCond .ne 7, 3), (8, .iconst 1, 1), (9, .goto 36, 3), (12, .aload_n 0, 1), (13, .getfield 19, 3), (16, .iload_n 1, 1), (17, .iaload, 1), (18, .iconst 2, 1), (19, .if_icmp .ne 21, 3), (22, .iload_n 2, 1), (23, .i2l, 1), (24, .lconst 0, 1), (25, .aload_n 0, 1), (26, .getfield 25, 3), (29, .iload_n 1, 1), (30, .iaload, 1), (31, .iconst 1, 1), (32, .isub, 1), (33, .i2l, 1), (34, .invokestatic 88, 3), (37, .ifCond .ne 7, 3), (40, .iconst 2, 1), (41, .goto 4, 3), (44, .iconst 0, 1), (45, .putfield 80, 3), (48, .aload_n 0, 1), (49, .getfield 80, 3), (52, .ifCond .ne 18, 3), (55, .aload_n 0, 1), (56, .getfield 28, 3), (59, .bipush 100, 2), (61, .iload_n 1, 1), (62, .imul, 1), (63, .iload_n 2, 1), (64, .iadd, 1), (65, .iaload, 1), (66, .i2l, 1), (67, .goto 4, 3), (70, .lconst 0, 1), (71, .lreturn, 1)]
def mm_212 : mv_M := (3, 3, mc_212, lk_RX7, [])
def mc_213 : List (Nat × Instr × Nat) := [(0, .iload_n 1, 1), (1, .invokestatic 138, 3), (4, .ifCond .eq 10, 3), (7, .iload_n 3, 1), (8, .invokestatic 138, 3), (11, .ifCond .ne 5, 3), (14, .iconst (-1), 1), (15, .ireturn, 1), (16, .aload_n 0, 1), (17, .getfield 19, 3), (20, .iload_n 1, 1), (21, .iaload, 1), (22, .ifCond .eq 12, 3), (25, .aload_n 0, 1), (26, .getfield 19, 3), (29, .iload_n 3, 1), (30, .iaload, 1), (31, .ifCond .ne 6, 3), (34, .bipush (-11), 2), (36, .ireturn, 1), (37, .aload_n 0, 1), (38, .getfield 19, 3), (41, .iload_n 1, 1), (42, .iaload, 1), (43, .iconst 2, 1), (44, .if_icmp .ne 28, 3), (47, .aload_n 0, 1), (48, .getfield 19, 3), (51, .iload_n 3, 1), (52, .iaload, 1), (53, .iconst 2, 1), (54, .if_icmp .ne 18, 3), (57, .aload_n 0, 1), (58, .getfield 22, 3), (61, .iload_n 1, 1), (62, .iaload, 1), (63, .aload_n 0, 1), (64, .getfield 22, 3), (67, .iload_n 3, 1), (68, .iaload, 1), (69, .if_icmp .eq 6, 3), (72, .bipush (-12), 2), (74, .ireturn, 1), (75, .iload 5, 2), (77, .ifCond .lt 39, 3), (80, .iload_n 2, 1), (81, .ifCond .lt 35, 3), (84, .iload 4, 2), (86, .ifCond .lt 30, 3), (89, .iload 5, 2), (91, .aload_n 0, 1), (92, .getfield 25, 3), (95, .iload_n 1, 1), (96, .iaload, 1), (97, .iload_n 2, 1), (98, .isub, 1), (99, .if_icmp .gt 17, 3), (102, .iload 5, 2), (104, .aload_n 0, 1), (105, .getfield 25, 3), (108, .iload_n 3, 1), (109, .iaload, 1), (110, .iload 4, 2), (112, .isub, 1), (113, .if_icmp .le 6, 3), (116, .bipush (-13), 2), (118, .ireturn, 1), (119, .iconst 0, 1), (120, .istore 6, 2), (122, .iload 6, 2), (124, .iload 5, 2), (126, .if_icmp .ge 58, 3), (129, .iload_n 2, 1), (130, .iload 4, 2), (132, .if_icmp .le 8, 3), (135, .iload 6, 2), (137, .goto 10, 3), (140, .iload 5, 2), (142, .iconst 1, 1), (143, .isub, 1), (144, .iload 6, 2), (146, .isub, 1), (147, .istore 7, 2), (149, .aload_n 0, 1), (150, .getfield 28, 3), (153, .bipush 100, 2), (155, .iload_n 3, 1), (156, .imul, 1), (157, .iload 4, 2), (159, .iadd, 1), (160, .iload 7, 2), (162, .iadd, 1), (163, .aload_n 0, 1), (164, .getfield 28, 3), (167, .bipush 100, 2), (169, .iload_n 1, 1), (170, .imul, 1), (171, .iload_n 2, 1), (172, .iadd, 1), (173, .iload 7, 2), (175, .iadd, 1), (176, .iaload, 1), (177, .iastore, 1), (178, .iinc 6 1, 3), (181, .goto (-59), 3), (184, .iload 5, 2), (186, .ireturn, 1)]
def mm_213 : mv_M := (8, 0, mc_213, lk_RX7, [(122, [0, 1, 2, 3, 4, 5, 6])])
def mc_214 : List (Nat × Instr × Nat) := [(0, .iload_n 1, 1), (1, .invokestatic 138, 3), (4, .ifCond .ne 7, 3), (7, .iconst (-1), 1), (8, .goto 33, 3), (11, .aload_n 0, 1), (12, .getfield 19, 3), (15, .iload_n 1, 1), (16, .iaload, 1), (17, .ifCond .ne 8, 3), (20, .bipush (-11), 2), (22, .goto 19, 3), (25, .aload_n 0, 1), (26, .getfield 19, 3), (29, .iload_n 1, 1), (30, .iaload, 1), (31, .iconst 1, 1), (32, .if_icmp .ne 7, 3), (35, .iconst 0, 1), (36, .goto 5, 3), (39, .bipush (-12), 2), (41, .ireturn, 1)]
def mm_214 : mv_M := (2, 0, mc_214, lk_RX7, [])
def mc_215 : List (Nat × Instr × Nat) := [(0, .aload_n 0, 1), (1, .iload_n 1, 1), (2, .invokevirtual 308, 3), (5, .istore_n 2, 1), (6, .iload_n 2, 1), (7, .ifCond .eq 7, 3), (10, .iload_n 2, 1), (11, .goto 9, 3), (14, .aload_n 0, 1), (15, .getfield 31, 3), (18, .iload_n 1, 1), (19, .iaload, 1), (20, .ireturn, 1)]
def mm_215 : mv_M := (3, 0, mc_215, lk_RX7, [])
def mc_216 : List (Nat × Instr × Nat) := [(0, .aload_n 0, 1), (1, .iload_n 1, 1), (2, .invokevirtual 308, 3), (5, .istore_n 2, 1), (6, .iload_n 2, 1), (7, .ifCond .eq 7, 3), (10, .iload_n 2, 1), (11, .goto 9, 3), (14, .aload_n 0, 1), (15, .getfield 34, 3), (18, .iload_n 1, 1), (19, .iaload, 1), (20, .ireturn, 1)]
def mm_216 : mv_M := (3, 0, mc_216, lk_RX7, [])
def mc_217 : List (Nat × Instr × Nat) := [(0, .iconst 0, 1), (1, .istore_n 2, 1), (2, .aload_n 0, 1), (3, .arraylength, 1), (4, .istore_n 3, 1), (5, .iload_n 2, 1), (6, .iload_n 3, 1), (7, .if_icmp .ge 13, 3), (10, .aload_n 0, 1), (11, .iload_n 2, 1), (12, .iload_n 1, 1), (13, .iastore, 1), (14, .iinc 2 1, 3), (17, .goto (-12), 3), (20, .return_, 1)]
def mm_217 : mv_M := (4, 4, mc_217, lk_RJ7, [(5, [0, 1, 2, 3])])
def mc_218 : List (Nat × Instr × Nat) := [(0, .aload_n 3, 1), (1, .iconst 0, 1), (2, .aload_n 0, 1), (3, .iload_n 1, 1), (4, .iload_n 2, 1), (5, .invokevirtual 7, 3), (8, .lastore, 1), (9, .goto 11, 3), (12, .astore 4, 2), (14, .iconst 1, 1), (15, .ireturn, 1), (16, .astore 4, 2), (18, .iconst 2, 1), (19, .ireturn, 1), (20, .iconst 0, 1), (21, .ireturn, 1)]
def mm_218 : mv_M := (5, 0, mc_218, lk_RL, [])
def mc_219 : List (Nat × Instr × Nat) := [(0, .new 8, 3), (3, .dup, 1), (4, .invokespecial 17, 3), (7, .astore_n 1, 1), (8, .new 18, 3), (11, .dup, 1), (12, .invokespecial 20, 3), (15, .astore_n 2, 1), (16, .iconst 1, 1), (17, .newarray .long, 2), (19, .astore_n 3, 1), (20, .iconst 0, 1), (21, .istore 4, 2), (23, .iload 4, 2), (25, .aload_n 0, 1), (26, .arraylength, 1), (27, .bipush 6, 2), (29, .isub, 1), (30, .if_icmp .gt 1292, 3), (33, .aload_n 0, 1), (34, .iload 4, 2), (36, .iaload, 1), (37, .bipush 63, 2), (39, .iand, 1), (40, .tableswitch 1276 0 33 #[152, 177, 214, 239, 276, 313, 338, 363, 400, 437, 462, 475, 500, 525, 562, 599, 612, 625, 638, 687, 764, 801, 838, 863, 888, 901, 914, 939, 988, 1037, 1086, 1153, 1226, 1251], 152), (192, .aload_n 1, 1), (193, .aload_n 0, 1), (194, .iload 4, 2), (196, .iconst 1, 1), (197, .iadd, 1), (198, .iaload, 1), (199, .invokevirtual 21, 3), (202, .aload_n 2, 1), (203, .aload_n 0, 1), (204, .iload 4, 2), (206, .iconst 1, 1), (207, .iadd, 1), (208, .iaload, 1), (209, .invokevirtual 25, 3), (212, .if_icmp .eq 1104, 3), (215, .iconst 0, 1), (216, .ireturn, 1), (217, .aload_n 1, 1), (218, .aload_n 0, 1), (219, .iload 4, 2), (221, .iconst 1, 1), (222, .iadd, 1), (223, .iaload, 1), (224, .aload_n 0, 1), (225, .iload 4, 2), (227, .iconst 2, 1), (228, .iadd, 1), (229, .iaload, 1), (230, .invokevirtual 26, 3), (233, .aload_n 2, 1), (234, .aload_n 0, 1), (235, .iload 4, 2), (237, .iconst 1, 1), (238, .iadd, 1), (239, .iaload, 1), (240, .aload_n 0, 1), (241, .iload 4, 2), (243, .iconst 2, 1), (244, .iadd, 1), (245, .iaload, 1), (246, .invokevirtual 30, 3), (249, .if_icmp .eq 1067, 3), (252, .iconst 0, 1), (253, .ireturn, 1), (254, .aload_n 1, 1), (255, .aload_n 0, 1), (256, .iload 4, 2), (258, .iconst 1, 1), (259, .iadd, 1), (260, .iaload, 1), (261, .invokevirtual 31, 3), (264, .aload_n 2, 1), (265, .aload_n 0, 1), (266, .iload 4, 2), (268, .iconst 1, 1), (269, .iadd, 1), (270, .iaload, 1), (271, .invokevirtual 34, 3), (274, .if_icmp .eq 1042, 3), (277, .iconst 0, 1), (278, .ireturn, 1), (279, .aload_n 1, 1), (280, .aload_n 0, 1), (281, .iload 4, 2), (283, .iconst 1, 1), (284, .iadd, 1), (285, .iaload, 1), (286, .aload_n 0, 1), (287, .iload 4, 2), (289, .iconst 2, 1), (290, .iadd, 1), (291, .iaload, 1), (292, .invokevirtual 35, 3), (295, .aload_n 2, 1), (296, .aload_n 0, 1), (297, .iload 4, 2), (299, .iconst 1, 1), (300, .iadd, 1), (301, .iaload, 1), (302, .aload_n 0, 1), (303, .iload 4, 2), (305, .iconst 2, 1), (306, .iadd, 1), (307, .iaload, 1), (308, .invokevirtual 38, 3), (311, .if_icmp .eq 1005, 3), (314, .iconst 0, 1), (315, .ireturn, 1), (316, .aload_n 1, 1), (317, .aload_n 0, 1), (318, .iload 4, 2), (320, .iconst 1, 1), (321, .iadd, 1), (322, .iaload, 1), (323, .aload_n 0, 1), (324, .iload 4, 2), (326, .iconst 2, 1), (327, .iadd, 1), (328, .iaload, 1), (329, .invokevirtual 39, 3), (332, .aload_n 2, 1), (333, .aload_n 0, 1), (334, .iload 4, 2), (336, .iconst 1, 1), (337, .iadd, 1), (338, .iaload, 1), (339, .aload_n 0, 1), (340, .iload 4, 2), (342, .iconst 2, 1), (343, .iadd, 1), (344, .iaload, 1), (345, .invokevirtual 42, 3), (348, .if_icmp .eq 968, 3), (351, .iconst 0, 1), (352, .ireturn, 1), (353, .aload_n 1, 1), (354, .aload_n 0, 1), (355, .iload 4, 2), (357, .iconst 1, 1), (358, .iadd, 1), (359, .iaload, 1), (360, .invokevirtual 43, 3), (363, .aload_n 2, 1), (364, .aload_n 0, 1), (365, .iload 4, 2), (367, .iconst 1, 1), (368, .iadd, 1), (369, .iaload, 1), (370, .invokevirtual 46, 3), (373, .if_icmp .eq 943, 3), (376, .iconst 0, 1), (377, .ireturn, 1), (378, .aload_n 1, 1), (379, .aload_n 0, 1), (380, .iload 4, 2), (382, .iconst 1, 1), (383, .iadd, 1), (384, .iaload, 1), (385, .invokevirtual 47, 3), (388, .aload_n 2, 1), (389, .aload_n 0, 1), (390, .iload 4, 2), (392, .iconst 1, 1), (393, .iadd, 1), (394, .iaload, 1), (395, .invokevirtual 50, 3), (398, .if_icmp .eq 918, 3), (401, .iconst 0, 1), (402, .ireturn, 1), (403, .aload_n 1, 1), (404, .aload_n 0, 1), (405, .iload 4, 2), (407, .iconst 1, 1), (408, .iadd, 1), (409, .iaload, 1), (410, .aload_n 0, 1), (411, .iload 4, 2), (413, .iconst 2, 1), (414, .iadd, 1), (415, .iaload, 1), (416, .invokevirtual 51, 3), (419, .aload_n 2, 1), (420, .aload_n 0, 1), (421, .iload 4, 2), (423, .iconst 1, 1), (424, .iadd, 1), (425, .iaload, 1), (426, .aload_n 0, 1), (427, .iload 4, 2), (429, .iconst 2, 1), (430, .iadd, 1), (431, .iaload, 1), (432, .invokevirtual 54, 3), (435, .if_icmp .eq 881, 3), (438, .iconst 0, 1), (439, .ireturn, 1), (440, .aload_n 1, 1), (441, .aload_n 0, 1), (442, .iload 4, 2), (444, .iconst 1, 1), (445, .iadd, 1), (446, .iaload, 1), (447, .aload_n 0, 1), (448, .iload 4, 2), (450, .iconst 2, 1), (451, .iadd, 1), (452, .iaload, 1), (453, .invokevirtual 55, 3), (456, .aload_n 2, 1), (457, .aload_n 0, 1), (458, .iload 4, 2), (460, .iconst 1, 1), (461, .iadd, 1), (462, .iaload, 1), (463, .aload_n 0, 1), (464, .iload 4, 2), (466, .iconst 2, 1), (467, .iadd, 1), (468, .iaload, 1), (469, .invokevirtual 58, 3), (472, .if_icmp .eq 844, 3), (475, .iconst 0, 1), (476, .ireturn, 1), (477, .aload_n 1, 1), (478, .aload_n 0, 1), (479, .iload 4, 2), (481, .iconst 1, 1), (482, .iadd, 1), (483, .iaload, 1), (484, .invokevirtual 59, 3), (487, .aload_n 2, 1), (488, .aload_n 0, 1), (489, .iload 4, 2), (491, .iconst 1, 1), (492, .iadd, 1), (493, .iaload, 1), (494, .invokevirtual 62, 3), (497, .if_icmp .eq 819, 3), (500, .iconst 0, 1), (501, .ireturn, 1), (502, .aload_n 1, 1), (503, .invokevirtual 63, 3), (506, .aload_n 2, 1), (507, .invokevirtual 67, 3), (510, .if_icmp .eq 806, 3), (513, .iconst 0, 1), (514, .ireturn, 1), (515, .aload_n 1, 1), (516, .aload_n 0, 1), (517, .iload 4, 2), (519, .iconst 1, 1), (520, .iadd, 1), (521, .iaload, 1), (522, .invokevirtual 68, 3), (525, .aload_n 2, 1), (526, .aload_n 0, 1), (527, .iload 4, 2), (529, .iconst 1, 1), (530, .iadd, 1), (531, .iaload, 1), (532, .invokevirtual 71, 3), (535, .if_icmp .eq 781, 3), (538, .iconst 0, 1), (539, .ireturn, 1), (540, .aload_n 1, 1), (541, .aload_n 0, 1), (542, .iload 4, 2), (544, .iconst 1, 1), (545, .iadd, 1), (546, .iaload, 1), (547, .invokevirtual 72, 3), (550, .aload_n 2, 1), (551, .aload_n 0, 1), (552, .iload 4, 2), (554, .iconst 1, 1), (555, .iadd, 1), (556, .iaload, 1), (557, .invokevirtual 75, 3), (560, .if_icmp .eq 756, 3), (563, .iconst 0, 1), (564, .ireturn, 1), (565, .aload_n 1, 1), (566, .aload_n 0, 1), (567, .iload 4, 2), (569, .iconst 1, 1), (570, .iadd, 1), (571, .iaload, 1), (572, .aload_n 0, 1), (573, .iload 4, 2), (575, .iconst 2, 1), (576, .iadd, 1), (577, .iaload, 1), (578, .invokevirtual 76, 3), (581, .aload_n 2, 1), (582, .aload_n 0, 1), (583, .iload 4, 2), (585, .iconst 1, 1), (586, .iadd, 1), (587, .iaload, 1), (588, .aload_n 0, 1), (589, .iload 4, 2), (591, .iconst 2, 1), (592, .iadd, 1), (593, .iaload, 1), (594, .invokevirtual 79, 3), (597, .if_icmp .eq 719, 3), (600, .iconst 0, 1), (601, .ireturn, 1), (602, .aload_n 1, 1), (603, .aload_n 0, 1), (604, .iload 4, 2), (606, .iconst 1, 1), (607, .iadd, 1), (608, .iaload, 1), (609, .aload_n 0, 1), (610, .iload 4, 2), (612, .iconst 2, 1), (613, .iadd, 1), (614, .iaload, 1), (615, .invokevirtual 80, 3), (618, .aload_n 2, 1), (619, .aload_n 0, 1), (620, .iload 4, 2), (622, .iconst 1, 1), (623, .iadd, 1), (624, .iaload, 1), (625, .aload_n 0, 1), (626, .iload 4, 2), (628, .iconst 2, 1), (629, .iadd, 1), (630, .iaload, 1), (631, .invokevirtual 83, 3), (634, .if_icmp .eq 682, 3), (637, .iconst 0, 1), (638, .ireturn, 1), (639, .aload_n 1, 1), (640, .invokevirtual 84, 3), (643, .aload_n 2, 1), (644, .invokevirtual 87, 3), (647, .if_icmp .eq 669, 3), (650, .iconst 0, 1), (651, .ireturn, 1), (652, .aload_n 1, 1), (653, .invokevirtual 88, 3), (656, .aload_n 2, 1), (657, .invokevirtual 91, 3), (660, .if_icmp .eq 656, 3), (663, .iconst 0, 1), (664, .ireturn, 1), (665, .aload_n 1, 1), (666, .invokevirtual 92, 3), (669, .aload_n 2, 1), (670, .invokevirtual 95, 3), (673, .if_icmp .eq 643, 3), (676, .iconst 0, 1), (677, .ireturn, 1), (678, .aload_n 1, 1), (679, .aload_n 0, 1), (680, .iload 4, 2), (682, .iconst 1, 1), (683, .iadd, 1), (684, .iaload, 1), (685, .aload_n 0, 1), (686, .iload 4, 2), (688, .iconst 2, 1), (689, .iadd, 1), (690, .iaload, 1), (691, .aload_n 0, 1), (692, .iload 4, 2), (694, .iconst 3, 1), (695, .iadd, 1), (696, .iaload, 1), (697, .invokevirtual 96, 3), (700, .aload_n 2, 1), (701, .aload_n 0, 1), (702, .iload 4, 2), (704, .iconst 1, 1), (705, .iadd, 1), (706, .iaload, 1), (707, .aload_n 0, 1), (708, .iload 4, 2), (710, .iconst 2, 1), (711, .iadd, 1), (712, .iaload, 1), (713, .aload_n 0, 1), (714, .iload 4, 2), (716, .iconst 3, 1), (717, .iadd, 1), (718, .iaload, 1), (719, .invokevirtual 100, 3), (722, .if_icmp .eq 594, 3), (725, .iconst 0, 1), (726, .ireturn, 1), (727, .aload_n 1, 1), (728, .aload_n 0, 1), (729, .iload 4, 2), (731, .iconst 1, 1), (732, .iadd, 1), (733, .iaload, 1), (734, .aload_n 0, 1), (735, .iload 4, 2), (737, .iconst 2, 1), (738, .iadd, 1), (739, .iaload, 1), (740, .aload_n 0, 1), (741, .iload 4, 2), (743, .iconst 3, 1), (744, .iadd, 1), (745, .iaload, 1), (746, .aload_n 0, 1), (747, .iload 4, 2), (749, .iconst 4, 1), (750, .iadd, 1), (751, .iaload, 1), (752, .ifCond .eq 7, 3), (755, .iconst 1, 1), (756, .goto 4, 3), (759, .iconst 0, 1), (760, .invokevirtual 101, 3), (763, .aload_n 2, 1), (764, .aload_n 0, 1), (765, .iload 4, 2), (767, .iconst 1, 1), (768, .iadd, 1), (769, .iaload, 1), (770, .aload_n 0, 1), (771, .iload 4, 2), (773, .iconst 2, 1), (774, .iadd, 1), (775, .iaload, 1), (776, .aload_n 0, 1), (777, .iload 4, 2), (779, .iconst 3, 1), (780, .iadd, 1), (781, .iaload, 1), (782, .aload_n 0, 1), (783, .iload 4, 2), (785, .iconst 4, 1), (786, .iadd, 1), (787, .iaload, 1), (788, .ifCond .eq 7, 3), (791, .iconst 1, 1), (792, .goto 4, 3), (795, .iconst 0, 1), (796, .invokevirtual 105, 3), (799, .if_icmp .eq 517, 3), (802, .iconst 0, 1), (803, .ireturn, 1), (804, .aload_n 1, 1), (805, .aload_n 0, 1), (806, .iload 4, 2), (808, .iconst 1, 1), (809, .iadd, 1), (810, .iaload, 1), (811, .aload_n 0, 1), (812, .iload 4, 2), (814, .iconst 2, 1), (815, .iadd, 1), (816, .iaload, 1), (817, .invokevirtual 106, 3), (820, .aload_n 2, 1), (821, .aload_n 0, 1), (822, .iload 4, 2), (824, .iconst 1, 1), (825, .iadd, 1), (826, .iaload, 1), (827, .aload_n 0, 1), (828, .iload 4, 2), (830, .iconst 2, 1), (831, .iadd, 1), (832, .iaload, 1), (833, .invokevirtual 109, 3), (836, .if_icmp .eq 480, 3), (839, .iconst 0, 1), (840, .ireturn, 1), (841, .aload_n 1, 1), (842, .aload_n 0, 1), (843, .iload 4, 2), (845, .iconst 1, 1), (846, .iadd, 1), (847, .iaload, 1), (848, .aload_n 0, 1), (849, .iload 4, 2), (851, .iconst 2, 1), (852, .iadd, 1), (853, .iaload, 1), (854, .invokevirtual 110, 3), (857, .aload_n 2, 1), (858, .aload_n 0, 1), (859, .iload 4, 2), (861, .iconst 1, 1), (862, .iadd, 1), (863, .iaload, 1), (864, .aload_n 0, 1), (865, .iload 4, 2), (867, .iconst 2, 1), (868, .iadd, 1), (869, .iaload, 1), (870, .invokevirtual 113, 3), (873, .if_icmp .eq 443, 3), (876, .iconst 0, 1), (877, .ireturn, 1), (878, .aload_n 1, 1), (879, .aload_n 0, 1), (880, .iload 4, 2), (882, .iconst 1, 1), (883, .iadd, 1), (884, .iaload, 1), (885, .invokevirtual 114, 3), (888, .aload_n 2, 1), (889, .aload_n 0, 1), (890, .iload 4, 2), (892, .iconst 1, 1), (893, .iadd, 1), (894, .iaload, 1), (895, .invokevirtual 117, 3), (898, .if_icmp .eq 418, 3), (901, .iconst 0, 1), (902, .ireturn, 1), (903, .aload_n 1, 1), (904, .aload_n 0, 1), (905, .iload 4, 2), (907, .iconst 1, 1), (908, .iadd, 1), (909, .iaload, 1), (910, .invokevirtual 118, 3), (913, .aload_n 2, 1), (914, .aload_n 0, 1), (915, .iload 4, 2), (917, .iconst 1, 1), (918, .iadd, 1), (919, .iaload, 1), (920, .invokevirtual 121, 3), (923, .if_icmp .eq 393, 3), (926, .iconst 0, 1), (927, .ireturn, 1), (928, .aload_n 1, 1), (929, .invokevirtual 122, 3), (932, .aload_n 2, 1), (933, .invokevirtual 125, 3), (936, .if_icmp .eq 380, 3), (939, .iconst 0, 1), (940, .ireturn, 1), (941, .aload_n 1, 1), (942, .invokevirtual 126, 3), (945, .aload_n 2, 1), (946, .invokevirtual 129, 3), (949, .if_icmp .eq 367, 3), (952, .iconst 0, 1), (953, .ireturn, 1), (954, .aload_n 1, 1), (955, .aload_n 0, 1), (956, .iload 4, 2), (958, .iconst 1, 1), (959, .iadd, 1), (960, .iaload, 1), (961, .invokevirtual 130, 3), (964, .aload_n 2, 1), (965, .aload_n 0, 1), (966, .iload 4, 2), (968, .iconst 1, 1), (969, .iadd, 1), (970, .iaload, 1), (971, .invokevirtual 133, 3), (974, .if_icmp .eq 342, 3), (977, .iconst 0, 1), (978, .ireturn, 1), (979, .aload_n 1, 1), (980, .aload_n 0, 1), (981, .iload 4, 2), (983, .iconst 1, 1), (984, .iadd, 1), (985, .iaload, 1), (986, .aload_n 0, 1), (987, .iload 4, 2), (989, .iconst 2, 1), (990, .iadd, 1), (991, .iaload, 1), (992, .aload_n 0, 1), (993, .iload 4, 2), (995, .iconst 3, 1), (996, .iadd, 1), (997, .iaload, 1), (998, .invokevirtual 134, 3), (1001, .aload_n 2, 1), (1002, .aload_n 0, 1), (1003, .iload 4, 2), (1005, .iconst 1, 1), (1006, .iadd, 1), (1007, .iaload, 1), (1008, .aload_n 0, 1), (1009, .iload 4, 2), (1011, .iconst 2, 1), (1012, .iadd, 1), (1013, .iaload, 1), (1014, .aload_n 0, 1), (1015, .iload 4, 2), (1017, .iconst 3, 1), (1018, .iadd, 1), (1019, .iaload, 1), (1020, .invokevirtual 137, 3), (1023, .if_icmp .eq 293, 3), (1026, .iconst 0, 1), (1027, .ireturn, 1), (1028, .aload_n 1, 1), (1029, .aload_n 0, 1), (1030, .iload 4, 2), (1032, .iconst 1, 1), (1033, .iadd, 1), (1034, .iaload, 1), (1035, .aload_n 0, 1), (1036, .iload 4, 2), (1038, .iconst 2, 1), (1039, .iadd, 1), (1040, .iaload, 1), (1041, .aload_n 0, 1), (1042, .iload 4, 2), (1044, .iconst 3, 1), (1045, .iadd, 1), (1046, .iaload, 1), (1047, .invokevirtual 138, 3), (1050, .aload_n 2, 1), (1051, .aload_n 0, 1), (1052, .iload 4, 2), (1054, .iconst 1, 1), (1055, .iadd, 1), (1056, .iaload, 1), (1057, .aload_n 0, 1), (1058, .iload 4, 2), (1060, .iconst 2, 1), (1061, .iadd, 1), (1062, .iaload, 1), (1063, .aload_n 0, 1), (1064, .iload 4, 2), (1066, .iconst 3, 1), (1067, .iadd, 1), (1068, .iaload, 1), (1069, .invokevirtual 141, 3), (1072, .if_icmp .eq 244, 3), (1075, .iconst 0, 1), (1076, .ireturn, 1), (1077, .aload_n 1, 1), (1078, .aload_n 0, 1), (1079, .iload 4, 2), (1081, .iconst 1, 1), (1082, .iadd, 1), (1083, .iaload, 1), (1084, .aload_n 0, 1), (1085, .iload 4, 2), (1087, .iconst 2, 1), (1088, .iadd, 1), (1089, .iaload, 1), (1090, .aload_n 0, 1), (1091, .iload 4, 2), (1093, .iconst 3, 1), (1094, .iadd, 1), (1095, .iaload, 1), (1096, .invokevirtual 142, 3), (1099, .aload_n 2, 1), (1100, .aload_n 0, 1), (1101, .iload 4, 2), (1103, .iconst 1, 1), (1104, .iadd, 1), (1105, .iaload, 1), (1106, .aload_n 0, 1), (1107, .iload 4, 2), (1109, .iconst 2, 1), (1110, .iadd, 1), (1111, .iaload, 1), (1112, .aload_n 0, 1), (1113, .iload 4, 2), (1115, .iconst 3, 1), (1116, .iadd, 1), (1117, .iaload, 1), (1118, .invokevirtual 145, 3), (1121, .if_icmp .eq 195, 3), (1124, .iconst 0, 1), (1125, .ireturn, 1), (1126, .aload_n 1, 1), (1127, .aload_n 0, 1), (1128, .iload 4, 2), (1130, .iconst 1, 1), (1131, .iadd, 1), (1132, .iaload, 1), (1133, .aload_n 0, 1), (1134, .iload 4, 2), (1136, .iconst 2, 1), (1137, .iadd, 1), (1138, .iaload, 1), (1139, .aload_n 3, 1), (1140, .invokestatic 146, 3), (1143, .istore 5, 2), (1145, .aload_n 2, 1), (1146, .aload_n 0, 1), (1147, .iload 4, 2), (1149, .iconst 1, 1), (1150, .iadd, 1), (1151, .iaload, 1), (1152, .aload_n 0, 1), (1153, .iload 4, 2), (1155, .iconst 2, 1), (1156, .iadd, 1), (1157, .iaload, 1), (1158, .invokevirtual 151, 3), (1161, .lstore 6, 2), (1163, .aload_n 2, 1), (1164, .invokevirtual 152, 3), (1167, .iload 5, 2), (1169, .if_icmp .eq 5, 3), (1172, .iconst 0, 1), (1173, .ireturn, 1), (1174, .iload 5, 2), (1176, .ifCond .ne 14, 3), (1179, .aload_n 3, 1), (1180, .iconst 0, 1), (1181, .laload, 1), (1182, .lload 6, 2), (1184, .lcmp, 1), (1185, .ifCond .eq 5, 3), (1188, .iconst 0, 1), (1189, .ireturn, 1), (1190, .goto 126, 3), (1193, .aload_n 1, 1), (1194, .aload_n 0, 1), (1195, .iload 4, 2), (1197, .iconst 1, 1), (1198, .iadd, 1), (1199, .iaload, 1), (1200, .aload_n 0, 1), (1201, .iload 4, 2), (1203, .iconst 2, 1), (1204, .iadd, 1), (1205, .iaload, 1), (1206, .aload_n 0, 1), (1207, .iload 4, 2), (1209, .iconst 3, 1), (1210, .iadd, 1), (1211, .iaload, 1), (1212, .aload_n 0, 1), (1213, .iload 4, 2), (1215, .iconst 4, 1), (1216, .iadd, 1), (1217, .iaload, 1), (1218, .aload_n 0, 1), (1219, .iload 4, 2), (1221, .iconst 5, 1), (1222, .iadd, 1), (1223, .iaload, 1), (1224, .invokevirtual 155, 3), (1227, .aload_n 2, 1), (1228, .aload_n 0, 1), (1229, .iload 4, 2), (1231, .iconst 1, 1), (1232, .iadd, 1), (1233, .iaload, 1), (1234, .aload_n 0, 1), (1235, .iload 4, 2), (1237, .iconst 2, 1), (1238, .iadd, 1), (1239, .iaload, 1), (1240, .aload_n 0, 1), (1241, .iload 4, 2), (1243, .iconst 3, 1), (1244, .iadd, 1), (1245, .iaload, 1), (1246, .aload_n 0, 1), (1247, .iload 4, 2), (1249, .iconst 4, 1), (1250, .iadd, 1), (1251, .iaload, 1), (1252, .aload_n 0, 1), (1253, .iload 4, 2), (1255, .iconst 5, 1), (1256, .iadd, 1), (1257, .iaload, 1), (1258, .invokevirtual 159, 3), (1261, .if_icmp .eq 55, 3), (1264, .iconst 0, 1), (1265, .ireturn, 1), (1266, .aload_n 1, 1), (1267, .aload_n 0, 1), (1268, .iload 4, 2), (1270, .iconst 1, 1), (1271, .iadd, 1), (1272, .iaload, 1), (1273, .invokevirtual 160, 3), (1276, .aload_n 2, 1), (1277, .aload_n 0, 1), (1278, .iload 4, 2), (1280, .iconst 1, 1), (1281, .iadd, 1), (1282, .iaload, 1), (1283, .invokevirtual 163, 3), (1286, .if_icmp .eq 30, 3), (1289, .iconst 0, 1), (1290, .ireturn, 1), (1291, .aload_n 1, 1), (1292, .aload_n 0, 1), (1293, .iload 4, 2), (1295, .iconst 1, 1), (1296, .iadd, 1), (1297, .iaload, 1), (1298, .invokevirtual 164, 3), (1301, .aload_n 2, 1), (1302, .aload_n 0, 1), (1303, .iload 4, 2), (1305, .iconst 1, 1), (1306, .iadd, 1), (1307, .iaload, 1), (1308, .invokevirtual 167, 3), (1311, .if_icmp .eq 5, 3), (1314, .iconst 0, 1), (1315, .ireturn, 1), (1316, .iinc 4 6, 3), (1319, .goto (-1296), 3), (1322, .iconst 1, 1), (1323, .ireturn, 1)]
def mm_219 : mv_M := (8, 1, mc_219, lk_RL, [(23, [0, 1, 2, 3, 4]), (192, [0, 1, 2, 3, 4]), (217, [0, 1, 2, 3, 4]), (254, [0, 1, 2, 3, 4]), (279, [0, 1, 2, 3, 4]), (316, [0, 1, 2, 3, 4]), (353, [0, 1, 2, 3, 4]), (378, [0, 1, 2, 3, 4]), (403, [0, 1, 2, 3, 4]), (440, [0, 1, 2, 3, 4]), (477, [0, 1, 2, 3, 4]), (502, [0, 1, 2, 3, 4]), (515, [0, 1, 2, 3, 4]), (540, [0, 1, 2, 3, 4]), (565, [0, 1, 2, 3, 4]), (602, [0, 1, 2, 3, 4]), (639, [0, 1, 2, 3, 4]), (652, [0, 1, 2, 3, 4]), (665, [0, 1, 2, 3, 4]), (678, [0, 1, 2, 3, 4]), (727, [0, 1, 2, 3, 4]), (804, [0, 1, 2, 3, 4]), (841, [0, 1, 2, 3, 4]), (878, [0, 1, 2, 3, 4]), (903, [0, 1, 2, 3, 4]), (928, [0, 1, 2, 3, 4]), (941, [0, 1, 2, 3, 4]), (954, [0, 1, 2, 3, 4]), (979, [0, 1, 2, 3, 4]), (1028, [0, 1, 2, 3, 4]), (1077, [0, 1, 2, 3, 4]), (1126, [0, 1, 2, 3, 4]), (1193, [0, 1, 2, 3, 4]), (1266, [0, 1, 2, 3, 4]), (1291, [0, 1, 2, 3, 4]), (1316, [0, 1, 2, 3, 4])])
def mv_tabl : List (Option mv_M) := [some mm_0, some mm_1, some mm_2, some mm_3, some mm_4, some mm_5, some mm_6, some mm_7, some mm_8, some mm_9, some mm_10, some mm_11, some mm_12, some mm_13, some mm_14, some mm_15, some mm_16, some mm_17, some mm_18, some mm_19, some mm_20, some mm_21, some mm_22, some mm_23, some mm_24, some mm_25, some mm_26, some mm_27, some mm_28, some mm_29, some mm_30, some mm_31, some mm_32, some mm_33, some mm_34, some mm_35, some mm_36, some mm_37, some mm_38, some mm_39, some mm_40, some mm_41, some mm_42, some mm_43, some mm_44, some mm_45, some mm_46, some mm_47, some mm_48, some mm_49, some mm_50, some mm_51, some mm_52, some mm_53, some mm_54, some mm_55, some mm_56, some mm_57, some mm_58, some mm_59, some mm_60, some mm_61, some mm_62, some mm_63, some mm_64, some mm_65, some mm_66, some mm_67, some mm_68, some mm_69, some mm_70, some mm_71, some mm_72, some mm_73, some mm_74, some mm_75, some mm_76, some mm_77, some mm_78, some mm_79, some mm_80, some mm_81, some mm_82, some mm_83, some mm_84, some mm_85, some mm_86, some mm_87, some mm_88, some mm_89, some mm_90, some mm_91, some mm_92, some mm_93, some mm_94, some mm_95, some mm_96, some mm_97, some mm_98, some mm_99, some mm_100, some mm_101, some mm_102, some mm_103, some mm_104, some mm_105, some mm_106, some mm_107, some mm_108, some mm_109, some mm_110, some mm_111, some mm_112, some mm_113, some mm_114, some mm_115, some mm_116, some mm_117, some mm_118, some mm_119, some mm_120, some mm_121, some mm_122, some mm_123, some mm_124, some mm_125, some mm_126, some mm_127, some mm_128, some mm_129, some mm_130, some mm_131, some mm_132, some mm_133, some mm_134, some mm_135, some mm_136, some mm_137, some mm_138, some mm_139, some mm_140, some mm_141, some mm_142, some mm_143, some mm_144, some mm_145, some mm_146, some mm_147, some mm_148, some mm_149, some mm_150, some mm_151, some mm_152, some mm_153, some mm_154, some mm_155, some mm_156, some mm_157, some mm_158, some mm_159, some mm_160, some mm_161, some mm_162, some mm_163, some mm_164, some mm_165, some mm_166, some mm_167, some mm_168, some mm_169, some mm_170, some mm_171, some mm_172, some mm_173, some mm_174, some mm_175, some mm_176, some mm_177, some mm_178, some mm_179, some mm_180, some mm_181, some mm_182, some mm_183, some mm_184, some mm_185, some mm_186, some mm_187, some mm_188, some mm_189, some mm_190, some mm_191, some mm_192, some mm_193, some mm_194, some mm_195, some mm_196, some mm_197, some mm_198, some mm_199, some mm_200, some mm_201, some mm_202, some mm_203, some mm_204, some mm_205, some mm_206, some mm_207, some mm_208, some mm_209, some mm_210, some mm_211, some mm_212, some mm_213, some mm_214, some mm_215, some mm_216, some mm_217, some mm_218, some mm_219]
def mv_tab (k : Nat) : Option mv_M := (mv_tabl[k]?).join
/-- all methods, by their numbers, the depth of calls as fuel -/
def mv_cal : Nat → Nat → List mv_V → mv_S → mv_O
  | 0, _, _, _ => none
  | d + 1, m, as, σ => match mv_tab m with
    | some M => mv_run (mv_cal d) M 4000 0 (mv_args 0 as) [] σ
    | none => none
end
section
/-! SOUNDNESS of the small machine, 1: what it means, locals -/
def lw_good : List Cond := lw_tbl.filter goodWord
theorem mw_in {w : Cond} (i : Nat) (h : lw_tbl[i]? = some w) (g : goodWord w = true) : w ∈ lw_good := List.mem_filter.mpr ⟨List.mem_of_getElem? h, g⟩
theorem mw_inl {l : List Cond} (h : ∀ w ∈ l, w ∈ lw_tbl) (g : l.all goodWord = true) : ∀ w ∈ l, w ∈ lw_good := fun w hw => List.mem_filter.mpr ⟨h w hw, List.all_eq_true.mp g w hw⟩
def mw_ad (b : Nat) (sa : Nat → Nat) (base : Nat) (k : Nat) : Nat := if k = 0 then b else if k < 16 then sa k else base + (k - 16)
def mw_v (ad : Nat → Nat) (v : mv_V) : Value := match v with
  | .inl x => .int x
  | .inr (.inl x) => .long x
  | .inr (.inr o) => va_rf (o.map ad)
def mw_kty (t : Nat) : FieldType := match t with
  | 0 => .int
  | 1 => .boolean
  | 2 => .long
  | 3 => .object "LandByMap$Drawer"
  | 4 => .object "LandByMap$Shelf"
  | _ => .array .int
def mw_fks : List (List Nat) := [[2, 2, 2, 2, 0, 0], [0, 0, 2, 0, 0, 2, 2, 2, 2, 2, 2, 2, 2, 2], [0, 0, 0], [0, 0, 0, 0, 0, 0, 0, 0, 2, 2, 2, 2, 2, 2, 2, 2, 2, 2, 2, 2], [2, 1, 0, 0, 2], [2, 0, 0, 0, 2], [2, 2, 2, 2, 1, 2, 2, 2, 2, 2, 2, 2, 2], [2, 2, 2, 2, 2, 2, 2, 2, 2, 1, 0, 0, 0, 0, 0, 2, 0, 0, 2, 2, 2, 2, 2, 0, 2, 0, 0, 2, 2, 0, 0, 2, 2, 2, 2, 2]]
def mw_fk (c f : Nat) : Nat := (mw_fks.getD c []).getD f 0
def mw_fv (ad : Nat → Nat) (σ : mv_S) (c a : Nat) (f : Nat) : Value := if mw_fk c f = 2 then va_rf ((σ.2.2.1 a f).map ad) else .int (σ.2.1 a f)
def mw_av (ad : Nat → Nat) (σ : mv_S) (t a i : Nat) : Value := if t ≤ 1 then .int (σ.2.1 a i) else if t = 2 then .long (σ.2.2.2 a i) else va_rf ((σ.2.2.1 a i).map ad)
/-- cell k of the memory lies in the heap -/
def mw_at (ad : Nat → Nat) (D : va_G) (ac : Nat → ClassId) (σ : mv_S) (H : Heap) (k : Nat) : Prop := match σ.1[k]? with
  | some (.inl c) => ∃ r : vw_C, vwCl[c]? = some r ∧ t_OB (ad k) (D.1 c) r.2.2 (D.2 c) H (mw_fv ad σ c k)
  | some (.inr (t, n)) => t < 6 → H[ad k]? = some (arrV (ac t) n (mw_av ad σ t k))
  | none => True
def mw_R (ad : Nat → Nat) (D : va_G) (ac : Nat → ClassId) (base L : Nat) (xs : Nat → Int32) (σ : mv_S) (H : Heap) : Prop :=
  (∀ k, 16 ≤ k → mw_at ad D ac σ H k) ∧ 16 ≤ σ.1.length ∧ H.size = base + (σ.1.length - 16) ∧ (σ.1[0]? = some (.inr (0, L)) ∧ ∀ j, j < L → σ.2.1 0 j = xs j) ∧ ∀ k, 0 < k → k < 16 → σ.1[k]? = some (.inr (99, 0))
def mw_tys (ac : Nat → ClassId) : List (ClassId × FieldType) := (List.range 6).map fun t => (ac t, mw_kty t)
def mw_szT (t : mv_T) : Nat := match t with
  | .inl c => (mw_fks.getD c []).length
  | .inr (_, n) => n
def mw_sz (l : List mv_T) : Nat := (l.map mw_szT).sum
def mw_strs : List String := ["DD;", "N D;", "N;", "D;", "DN DN;", ""]
def mw_idx : List Nat := [42, 44, 46, 48, 50, 52]
def mw_exc : List String := ["java/lang/IllegalStateException", "java/lang/UnsupportedOperationException", "java/lang/IllegalArgumentException"]
def mw_decl : List MethodName := [⟨"java/lang/RuntimeException", "<init>", "()V"⟩, ⟨"java/lang/RuntimeException", "<init>", "(Ljava/lang/String;)V"⟩, ⟨"java/lang/Exception", "<init>", "()V"⟩, ⟨"java/lang/Exception", "<init>", "(Ljava/lang/String;)V"⟩, ⟨"java/lang/Throwable", "<init>", "()V"⟩, ⟨"java/lang/Throwable", "<init>", "(Ljava/lang/String;)V"⟩]
def mw_nest : List (Nat × MethodName) := [(37, yX5_init), (44, yX0_init), (51, yX1_init), (71, yX4_init)]
def mw_xst : List (String × Nat × String) := [(RX2, 23, "a blot"), (RX2, 30, "one that looks ahead"), (RX2, 35, "a drawer"), (RX6, 312, "no such shelf"), (RX6, 322, "no row, or no such place in it")]
/-- the class of arrays of int arrays is there -/
def mw_AA (U : State) : Prop := ∃ (cI cA : ClassId) (k : Class), U.vm.findClass "[I" = some cI ∧ U.vm.classes[cA]? = some k ∧ k.kind = .array cI (.array .int) ∧ U.vm.findClass "[[I" = some cA
/-- what the machine's tables and the old heap say, beside the classes -/
def mw_E2 (sa : Nat → Nat) (base : Nat) (U : State) : Prop :=
  (∃ adV : Nat → Nat, vk_S 6 (mw_strs.map fun t => t.length) ((List.range 6).map fun i => (mv_str (i + 1)).map fun x => nI x) (fun i => sa (i + 1)) adV (fun q => base ≤ q) U U.heap) ∧ (∀ i, i < 6 → vk_R RX5 (mw_idx.getD i 0) (mw_strs.getD i "") (sa (i + 1)) U) ∧
  (va_AO "LandByMap$Drawer" U ∧ va_AO "LandByMap$Shelf" U) ∧ (∀ q ∈ mw_nest, va_Nw (.methodLinkNest RX6 q.1 q.2 RX6) U) ∧ (∀ x ∈ mw_exc, va_Nw (.castable x x) U) ∧ (∀ y ∈ mw_decl, va_Nw (.declares y) U) ∧ (∀ x ∈ mw_exc, ∀ y ∈ mw_exc, x ≠ y → va_Nc x y U) ∧
  (vx_Zq Bundle.tN "UNASSIGNED_STACK" Bundle.steD (fun q => base ≤ q) U U.heap ∧ vx_Zq Bundle.tN "SUPPRESSED_SENTINEL" Bundle.listD (fun q => base ≤ q) U U.heap) ∧ (∀ q ∈ mw_xst, ∃ a, vk_R q.1 q.2.1 q.2.2 a U) ∧
  (va_Z "java/lang/String" "COMPACT_STRINGS" "Z" (.int 1) (fun q => base ≤ q) U U.heap ∧ va_Zq "jdk/internal/util/Preconditions" "SIOOBE_FORMATTER" "Ljava/util/function/BiFunction;" (fun q => base ≤ q) U U.heap) ∧ mw_AA U
/-- what holds at a method's start -/
def mw_E (D : va_G) (ac sa : Nat → Nat) (b L : Nat) (xs : Nat → Int32) (base : Nat) (U : State) : Prop := va_K D vwCl (mw_tys ac) U ∧ base ≤ U.heap.size ∧ va_X b L xs U U.heap ∧ b < base ∧ mw_E2 sa base U
/-- what holds all through a method's walk -/
def mw_X (p : Program) (l : Launch) (R : Room) (s : State) (m : MethodId) (args : Array Value) (meth : Method) (c : Code) (own : String) (cc : ByteArray) (nL rt : Nat) (D : va_G) (ac sa : Nat → Nat) (b L : Nat) (xs : Nat → Int32) (base : Nat) : Prop :=
  p.tables.exec = Jvm.exec ∧ c.code = cc ∧ c.maxLocals = nL ∧ s.vm.findClass own = some m.cls ∧ (∀ w ∈ lw_good, w.before args s = true) ∧ va_K D vwCl (mw_tys ac) s ∧ base ≤ s.heap.size ∧ va_X b L xs s s.heap ∧ b < base ∧ (8 ≤ R.frames ∧ 500 ≤ R.locals) ∧ mw_E2 sa base s
/-- from these locals, this stack, this memory the machine comes to Q -/
def mw_G (p : Program) (l : Launch) (e : Env) (R : Room) (s : State) (m : MethodId) (args : Array Value) (below : List Frame) (meth : Method) (c : Code) (nL : Nat) (D : va_G) (ac : Nat → Nat) (ad : Nat → Nat) (base L : Nat) (xs : Nat → Int32) (n0 s0 : Nat) (Q : State → Prop) (pc : Nat) (lv : mv_L) (st : List mv_V) (σ : mv_S) : Prop :=
  ∀ (H : Heap) (locs : List Loc) (ls : Array Slot) (cells slots : Nat), lv_has ls nL (lv.map fun q => (q.1, mw_v ad q.2)) → mw_R ad D ac base L xs σ H → va_S (fun q => base ≤ q) s.heap H locs → cells + n0 = σ.1.length → slots + s0 = mw_sz σ.1 →
    W p l e R s m args below meth c H locs cells slots Q (F0 m pc ls (st.map (mw_v ad)))
theorem mw_cat (ad : Nat → Nat) (v : mv_V) : ((mw_v ad v).category == 2) = mv_lg v := by
  match v with
  | .inl x => rfl
  | .inr (.inl x) => rfl
  | .inr (.inr none) => rfl
  | .inr (.inr (some a)) => rfl
theorem mw_ld {ad : Nat → Nat} {ls : Array Slot} {nL : Nat} : ∀ {lv : mv_L} {i : Nat} {v : mv_V}, lv_has ls nL (lv.map fun q => (q.1, mw_v ad q.2)) → lv.lookup i = some v → ls[i]? = some (.val (mw_v ad v)) := by
  intro lv i v h hv
  refine h.2.2 (i, mw_v ad v) (List.mem_map.mpr ⟨(i, v), ?_, rfl⟩)
  clear h
  induction lv with
  | nil => simp at hv
  | cons q r ih =>
    obtain ⟨j, w⟩ := q
    rw [List.lookup_cons] at hv
    by_cases e : i = j
    · subst e
      simp at hv
      subst hv
      exact List.mem_cons_self
    · have e2 : (i == j) = false := by simpa using e
      rw [e2] at hv
      exact List.mem_cons_of_mem _ (ih hv)
theorem mw_pick {ad : Nat → Nat} {ls : Array Slot} {nL : Nat} {lv : mv_L} {ks : List Nat} (h : lv_has ls nL (lv.map fun q => (q.1, mw_v ad q.2))) : lv_has ls nL ((mv_pick lv ks).map fun q => (q.1, mw_v ad q.2)) := by
  refine ⟨h.1, h.2.1, fun q hq => ?_⟩
  obtain ⟨z, hz, rfl⟩ := List.mem_map.mp hq
  obtain ⟨i, -, hi⟩ := List.mem_filterMap.mp hz
  cases hv : lv.lookup i with
  | none => rw [hv] at hi; cases hi
  | some v =>
    rw [hv] at hi
    cases hi
    exact mw_ld h hv
theorem mw_put1 (ad : Nat → Nat) (lv : mv_L) (i : Nat) (v : mv_V) : (i, mw_v ad v) :: (lv.map fun q => (q.1, mw_v ad q.2)).filter (fun q => !(q.1 == i) && !(q.1 + 1 == i && q.2.category == 2)) = (mv_put1 lv i v).map fun q => (q.1, mw_v ad q.2) := by
  unfold mv_put1
  rw [List.map_cons, List.filter_map]
  congr 2
  refine congrArg (fun f => List.filter f lv) (funext fun q => ?_)
  show (!(q.1 == i) && !(q.1 + 1 == i && (mw_v ad q.2).category == 2)) = _
  rw [mw_cat]
theorem mw_put2 (ad : Nat → Nat) (lv : mv_L) (i : Nat) (v : mv_V) : (i, mw_v ad v) :: (lv.map fun q => (q.1, mw_v ad q.2)).filter (fun q => !(q.1 == i) && (!(q.1 == i + 1) && !(q.1 + 1 == i && q.2.category == 2))) = (mv_put2 lv i v).map fun q => (q.1, mw_v ad q.2) := by
  unfold mv_put2
  rw [List.map_cons, List.filter_map]
  congr 2
  refine congrArg (fun f => List.filter f lv) (funext fun q => ?_)
  show (!(q.1 == i) && (!(q.1 == i + 1) && !(q.1 + 1 == i && (mw_v ad q.2).category == 2))) = _
  rw [mw_cat]
end
section
/-! SOUNDNESS of the small machine, 2: an instruction a lemma (by program: wip/whole/gen/gen_sound.py) -/
theorem mw_jmp {pc : Nat} {off : Int} (h : 0 ≤ (pc : Int) + off) : (pc : Int) + off = ((mv_jmp pc off : Nat) : Int) := by
  unfold mv_jmp
  omega
theorem mw_c1 (ad : Nat → Nat) (x : Option Nat) : (mw_v ad (.inr (.inr x))).category = 1 := by
  cases x <;> rfl
theorem mw_place {ad : Nat → Nat} : ∀ {lv : mv_L} {i : Nat} {v : mv_V}, lv.lookup i = some v → ∃ q : Nat, (lv.map fun q => (q.1, mw_v ad q.2))[q]? = some (i, mw_v ad v)
  | [], i, v, h => by simp at h
  | (j, w) :: r, i, v, h => by
    rw [List.lookup_cons] at h
    by_cases e : i = j
    · subst e
      simp at h
      subst h
      exact ⟨0, rfl⟩
    · have e2 : (i == j) = false := by simpa using e
      rw [e2] at h
      obtain ⟨q, hq⟩ := mw_place (ad := ad) h
      exact ⟨q + 1, hq⟩
section MS
variable {p : Program} {l : Launch} {e : Env} {R : Room} {s : State} {m : MethodId} {args : Array Value} {below : List Frame} {meth : Method} {c : Code} {own : String} {cc : ByteArray} {nL rt : Nat} {D : va_G} {ac sa : Nat → Nat} {b L : Nat} {xs : Nat → Int32} {base n0 s0 : Nat} {Q : State → Prop}
variable {cl : Nat → List mv_V → mv_S → mv_O} {lk : Nat → mv_K} {k : Nat → mv_L → List mv_V → mv_S → mv_O} {pc len : Nat} {lv : mv_L} {st : List mv_V} {σ σF : mv_S} {r0 : Option mv_V}

theorem ms_iconst {n : Int} (X : mw_X p l R s m args meth c own cc nL rt D ac sa b L xs base) (hd : decode cc pc = .ok (.iconst n, 1))  (hst : mv_step cl lk rt k (.iconst n) pc lv st σ = some (r0, σF)) (hk : ∀ pc' lv' st' σ', k pc' lv' st' σ' = some (r0, σF) → σ'.1 <+: σF.1 ∧ mw_G p l e R s m args below meth c nL D ac (mw_ad b sa base) base L xs n0 s0 Q pc' lv' st' σ') : σ.1 <+: σF.1 ∧ mw_G p l e R s m args below meth c nL D ac (mw_ad b sa base) base L xs n0 s0 Q pc lv st σ := by
  have hst : (k (pc + 1) lv (.inl (mv_c n) :: st) σ) = some (r0, σF) := hst
  obtain ⟨h1, h2⟩ := hk _ _ _ _ hst
  exact ⟨h1, fun H locs ls cells slots hl hR hS hc hs => lv_iconst X.1 X.2.1 hd rfl (h2 H locs ls cells slots hl hR hS hc hs)⟩
theorem ms_bipush {n : Int} (X : mw_X p l R s m args meth c own cc nL rt D ac sa b L xs base) (hd : decode cc pc = .ok (.bipush n, 2)) (hv : (Int8.ofInt n).toInt32 = mv_c n) (hst : mv_step cl lk rt k (.bipush n) pc lv st σ = some (r0, σF)) (hk : ∀ pc' lv' st' σ', k pc' lv' st' σ' = some (r0, σF) → σ'.1 <+: σF.1 ∧ mw_G p l e R s m args below meth c nL D ac (mw_ad b sa base) base L xs n0 s0 Q pc' lv' st' σ') : σ.1 <+: σF.1 ∧ mw_G p l e R s m args below meth c nL D ac (mw_ad b sa base) base L xs n0 s0 Q pc lv st σ := by
  have hst : (k (pc + 2) lv (.inl (mv_c n) :: st) σ) = some (r0, σF) := hst
  obtain ⟨h1, h2⟩ := hk _ _ _ _ hst
  exact ⟨h1, fun H locs ls cells slots hl hR hS hc hs => lv_bipush X.1 X.2.1 hd hv (h2 H locs ls cells slots hl hR hS hc hs)⟩
theorem ms_sipush {n : Int} (X : mw_X p l R s m args meth c own cc nL rt D ac sa b L xs base) (hd : decode cc pc = .ok (.sipush n, 3)) (hv : (Int16.ofInt n).toInt32 = mv_c n) (hst : mv_step cl lk rt k (.sipush n) pc lv st σ = some (r0, σF)) (hk : ∀ pc' lv' st' σ', k pc' lv' st' σ' = some (r0, σF) → σ'.1 <+: σF.1 ∧ mw_G p l e R s m args below meth c nL D ac (mw_ad b sa base) base L xs n0 s0 Q pc' lv' st' σ') : σ.1 <+: σF.1 ∧ mw_G p l e R s m args below meth c nL D ac (mw_ad b sa base) base L xs n0 s0 Q pc lv st σ := by
  have hst : (k (pc + 3) lv (.inl (mv_c n) :: st) σ) = some (r0, σF) := hst
  obtain ⟨h1, h2⟩ := hk _ _ _ _ hst
  exact ⟨h1, fun H locs ls cells slots hl hR hS hc hs => lv_sipush X.1 X.2.1 hd hv (h2 H locs ls cells slots hl hR hS hc hs)⟩
theorem ms_lconst {n : Fin 2} (X : mw_X p l R s m args meth c own cc nL rt D ac sa b L xs base) (hd : decode cc pc = .ok (.lconst n, 1))  (hst : mv_step cl lk rt k (.lconst n) pc lv st σ = some (r0, σF)) (hk : ∀ pc' lv' st' σ', k pc' lv' st' σ' = some (r0, σF) → σ'.1 <+: σF.1 ∧ mw_G p l e R s m args below meth c nL D ac (mw_ad b sa base) base L xs n0 s0 Q pc' lv' st' σ') : σ.1 <+: σF.1 ∧ mw_G p l e R s m args below meth c nL D ac (mw_ad b sa base) base L xs n0 s0 Q pc lv st σ := by
  have hst : (k (pc + 1) lv (.inr (.inl (Int64.ofNat n)) :: st) σ) = some (r0, σF) := hst
  obtain ⟨h1, h2⟩ := hk _ _ _ _ hst
  exact ⟨h1, fun H locs ls cells slots hl hR hS hc hs => lv_lconst X.1 X.2.1 hd rfl (h2 H locs ls cells slots hl hR hS hc hs)⟩
theorem ms_aconst_null (X : mw_X p l R s m args meth c own cc nL rt D ac sa b L xs base) (hd : decode cc pc = .ok (.aconst_null, 1))  (hst : mv_step cl lk rt k (.aconst_null) pc lv st σ = some (r0, σF)) (hk : ∀ pc' lv' st' σ', k pc' lv' st' σ' = some (r0, σF) → σ'.1 <+: σF.1 ∧ mw_G p l e R s m args below meth c nL D ac (mw_ad b sa base) base L xs n0 s0 Q pc' lv' st' σ') : σ.1 <+: σF.1 ∧ mw_G p l e R s m args below meth c nL D ac (mw_ad b sa base) base L xs n0 s0 Q pc lv st σ := by
  have hst : (k (pc + 1) lv (.inr (.inr none) :: st) σ) = some (r0, σF) := hst
  obtain ⟨h1, h2⟩ := hk _ _ _ _ hst
  exact ⟨h1, fun H locs ls cells slots hl hR hS hc hs => lv_null X.1 X.2.1 hd (h2 H locs ls cells slots hl hR hS hc hs)⟩
theorem ms_goto {off : Int} (X : mw_X p l R s m args meth c own cc nL rt D ac sa b L xs base) (hd : decode cc pc = .ok (.goto off, 3)) (ht : 0 ≤ (pc : Int) + off) (hst : mv_step cl lk rt k (.goto off) pc lv st σ = some (r0, σF)) (hk : ∀ pc' lv' st' σ', k pc' lv' st' σ' = some (r0, σF) → σ'.1 <+: σF.1 ∧ mw_G p l e R s m args below meth c nL D ac (mw_ad b sa base) base L xs n0 s0 Q pc' lv' st' σ') : σ.1 <+: σF.1 ∧ mw_G p l e R s m args below meth c nL D ac (mw_ad b sa base) base L xs n0 s0 Q pc lv st σ := by
  have hst : (k (mv_jmp pc off) lv st σ) = some (r0, σF) := hst
  obtain ⟨h1, h2⟩ := hk _ _ _ _ hst
  exact ⟨h1, fun H locs ls cells slots hl hR hS hc hs => lv_goto X.1 X.2.1 hd (mw_jmp ht) (h2 H locs ls cells slots hl hR hS hc hs)⟩
theorem ms_iload_n {i : Fin 4} (X : mw_X p l R s m args meth c own cc nL rt D ac sa b L xs base) (hd : decode cc pc = .ok (.iload_n i, 1))  (hst : mv_step cl lk rt k (.iload_n i) pc lv st σ = some (r0, σF)) (hk : ∀ pc' lv' st' σ', k pc' lv' st' σ' = some (r0, σF) → σ'.1 <+: σF.1 ∧ mw_G p l e R s m args below meth c nL D ac (mw_ad b sa base) base L xs n0 s0 Q pc' lv' st' σ') : σ.1 <+: σF.1 ∧ mw_G p l e R s m args below meth c nL D ac (mw_ad b sa base) base L xs n0 s0 Q pc lv st σ := by
  have hst : ((match (generalizing := false) lv.lookup i.val with
    | some (.inl x) => k (pc + 1) lv (.inl x :: st) σ
    | _ => none)) = some (r0, σF) := hst
  split at hst
  · rename_i x hx
    obtain ⟨h1, h2⟩ := hk _ _ _ _ hst
    exact ⟨h1, fun H locs ls cells slots hl hR hS hc hs => lv_iload_n X.1 X.2.1 hd rfl (mw_ld hl hx) (h2 H locs ls cells slots hl hR hS hc hs)⟩
  · cases hst
theorem ms_iload {i : Nat} (X : mw_X p l R s m args meth c own cc nL rt D ac sa b L xs base) (hd : decode cc pc = .ok (.iload i, 2))  (hst : mv_step cl lk rt k (.iload i) pc lv st σ = some (r0, σF)) (hk : ∀ pc' lv' st' σ', k pc' lv' st' σ' = some (r0, σF) → σ'.1 <+: σF.1 ∧ mw_G p l e R s m args below meth c nL D ac (mw_ad b sa base) base L xs n0 s0 Q pc' lv' st' σ') : σ.1 <+: σF.1 ∧ mw_G p l e R s m args below meth c nL D ac (mw_ad b sa base) base L xs n0 s0 Q pc lv st σ := by
  have hst : ((match (generalizing := false) lv.lookup i with
    | some (.inl x) => k (pc + 2) lv (.inl x :: st) σ
    | _ => none)) = some (r0, σF) := hst
  split at hst
  · rename_i x hx
    obtain ⟨h1, h2⟩ := hk _ _ _ _ hst
    exact ⟨h1, fun H locs ls cells slots hl hR hS hc hs => lv_iload X.1 X.2.1 hd (mw_ld hl hx) (h2 H locs ls cells slots hl hR hS hc hs)⟩
  · cases hst
theorem ms_lload_n {i : Fin 4} (X : mw_X p l R s m args meth c own cc nL rt D ac sa b L xs base) (hd : decode cc pc = .ok (.lload_n i, 1))  (hst : mv_step cl lk rt k (.lload_n i) pc lv st σ = some (r0, σF)) (hk : ∀ pc' lv' st' σ', k pc' lv' st' σ' = some (r0, σF) → σ'.1 <+: σF.1 ∧ mw_G p l e R s m args below meth c nL D ac (mw_ad b sa base) base L xs n0 s0 Q pc' lv' st' σ') : σ.1 <+: σF.1 ∧ mw_G p l e R s m args below meth c nL D ac (mw_ad b sa base) base L xs n0 s0 Q pc lv st σ := by
  have hst : ((match (generalizing := false) lv.lookup i.val with
    | some (.inr (.inl x)) => k (pc + 1) lv (.inr (.inl x) :: st) σ
    | _ => none)) = some (r0, σF) := hst
  split at hst
  · rename_i x hx
    obtain ⟨h1, h2⟩ := hk _ _ _ _ hst
    exact ⟨h1, fun H locs ls cells slots hl hR hS hc hs => lv_lload_n X.1 X.2.1 hd rfl (mw_ld hl hx) (h2 H locs ls cells slots hl hR hS hc hs)⟩
  · cases hst
theorem ms_lload {i : Nat} (X : mw_X p l R s m args meth c own cc nL rt D ac sa b L xs base) (hd : decode cc pc = .ok (.lload i, 2))  (hst : mv_step cl lk rt k (.lload i) pc lv st σ = some (r0, σF)) (hk : ∀ pc' lv' st' σ', k pc' lv' st' σ' = some (r0, σF) → σ'.1 <+: σF.1 ∧ mw_G p l e R s m args below meth c nL D ac (mw_ad b sa base) base L xs n0 s0 Q pc' lv' st' σ') : σ.1 <+: σF.1 ∧ mw_G p l e R s m args below meth c nL D ac (mw_ad b sa base) base L xs n0 s0 Q pc lv st σ := by
  have hst : ((match (generalizing := false) lv.lookup i with
    | some (.inr (.inl x)) => k (pc + 2) lv (.inr (.inl x) :: st) σ
    | _ => none)) = some (r0, σF) := hst
  split at hst
  · rename_i x hx
    obtain ⟨h1, h2⟩ := hk _ _ _ _ hst
    exact ⟨h1, fun H locs ls cells slots hl hR hS hc hs => lv_lload X.1 X.2.1 hd (mw_ld hl hx) (h2 H locs ls cells slots hl hR hS hc hs)⟩
  · cases hst
theorem ms_aload_n {i : Fin 4} (X : mw_X p l R s m args meth c own cc nL rt D ac sa b L xs base) (hd : decode cc pc = .ok (.aload_n i, 1))  (hst : mv_step cl lk rt k (.aload_n i) pc lv st σ = some (r0, σF)) (hk : ∀ pc' lv' st' σ', k pc' lv' st' σ' = some (r0, σF) → σ'.1 <+: σF.1 ∧ mw_G p l e R s m args below meth c nL D ac (mw_ad b sa base) base L xs n0 s0 Q pc' lv' st' σ') : σ.1 <+: σF.1 ∧ mw_G p l e R s m args below meth c nL D ac (mw_ad b sa base) base L xs n0 s0 Q pc lv st σ := by
  have hst : ((match (generalizing := false) lv.lookup i.val with
    | some (.inr (.inr x)) => k (pc + 1) lv (.inr (.inr x) :: st) σ
    | _ => none)) = some (r0, σF) := hst
  split at hst
  · rename_i x hx
    obtain ⟨h1, h2⟩ := hk _ _ _ _ hst
    refine ⟨h1, fun H locs ls cells slots hl hR hS hc hs => ?_⟩
    have hg := mw_ld hl hx
    cases x with
    | none => exact lv_aload_nN X.1 X.2.1 hd rfl hg (h2 H locs ls cells slots hl hR hS hc hs)
    | some a => exact lv_aload_n X.1 X.2.1 hd rfl hg (h2 H locs ls cells slots hl hR hS hc hs)
  · cases hst
theorem ms_aload {i : Nat} (X : mw_X p l R s m args meth c own cc nL rt D ac sa b L xs base) (hd : decode cc pc = .ok (.aload i, 2))  (hst : mv_step cl lk rt k (.aload i) pc lv st σ = some (r0, σF)) (hk : ∀ pc' lv' st' σ', k pc' lv' st' σ' = some (r0, σF) → σ'.1 <+: σF.1 ∧ mw_G p l e R s m args below meth c nL D ac (mw_ad b sa base) base L xs n0 s0 Q pc' lv' st' σ') : σ.1 <+: σF.1 ∧ mw_G p l e R s m args below meth c nL D ac (mw_ad b sa base) base L xs n0 s0 Q pc lv st σ := by
  have hst : ((match (generalizing := false) lv.lookup i with
    | some (.inr (.inr x)) => k (pc + 2) lv (.inr (.inr x) :: st) σ
    | _ => none)) = some (r0, σF) := hst
  split at hst
  · rename_i x hx
    obtain ⟨h1, h2⟩ := hk _ _ _ _ hst
    refine ⟨h1, fun H locs ls cells slots hl hR hS hc hs => ?_⟩
    have hg := mw_ld hl hx
    cases x with
    | none => exact lv_aloadN X.1 X.2.1 hd hg (h2 H locs ls cells slots hl hR hS hc hs)
    | some a => exact lv_aload X.1 X.2.1 hd hg (h2 H locs ls cells slots hl hR hS hc hs)
  · cases hst
theorem ms_istore_n {i : Fin 4} (X : mw_X p l R s m args meth c own cc nL rt D ac sa b L xs base) (hd : decode cc pc = .ok (.istore_n i, 1)) (hi : i.val < nL) (hst : mv_step cl lk rt k (.istore_n i) pc lv st σ = some (r0, σF)) (hk : ∀ pc' lv' st' σ', k pc' lv' st' σ' = some (r0, σF) → σ'.1 <+: σF.1 ∧ mw_G p l e R s m args below meth c nL D ac (mw_ad b sa base) base L xs n0 s0 Q pc' lv' st' σ') : σ.1 <+: σF.1 ∧ mw_G p l e R s m args below meth c nL D ac (mw_ad b sa base) base L xs n0 s0 Q pc lv st σ := by
  have hst : ((match (generalizing := false) st with
    | .inl x :: r => k (pc + 1) (mv_put1 lv i.val (.inl x)) r σ
    | _ => none)) = some (r0, σF) := hst
  split at hst
  · rename_i x r hz
    obtain ⟨h1, h2⟩ := hk _ _ _ _ hst
    exact ⟨h1, fun H locs ls cells slots hl hR hS hc hs => lv_istore_n X.1 X.2.1 hd rfl hl hi (mw_put1 (mw_ad b sa base) lv _ (.inl x)) (fun ls hl => h2 H locs ls cells slots hl hR hS hc hs)⟩
  · cases hst
theorem ms_istore {i : Nat} (X : mw_X p l R s m args meth c own cc nL rt D ac sa b L xs base) (hd : decode cc pc = .ok (.istore i, 2)) (hi : i < nL) (hst : mv_step cl lk rt k (.istore i) pc lv st σ = some (r0, σF)) (hk : ∀ pc' lv' st' σ', k pc' lv' st' σ' = some (r0, σF) → σ'.1 <+: σF.1 ∧ mw_G p l e R s m args below meth c nL D ac (mw_ad b sa base) base L xs n0 s0 Q pc' lv' st' σ') : σ.1 <+: σF.1 ∧ mw_G p l e R s m args below meth c nL D ac (mw_ad b sa base) base L xs n0 s0 Q pc lv st σ := by
  have hst : ((match (generalizing := false) st with
    | .inl x :: r => k (pc + 2) (mv_put1 lv i (.inl x)) r σ
    | _ => none)) = some (r0, σF) := hst
  split at hst
  · rename_i x r hz
    obtain ⟨h1, h2⟩ := hk _ _ _ _ hst
    exact ⟨h1, fun H locs ls cells slots hl hR hS hc hs => lv_istore X.1 X.2.1 hd hl hi (mw_put1 (mw_ad b sa base) lv _ (.inl x)) (fun ls hl => h2 H locs ls cells slots hl hR hS hc hs)⟩
  · cases hst
theorem ms_lstore {i : Nat} (X : mw_X p l R s m args meth c own cc nL rt D ac sa b L xs base) (hd : decode cc pc = .ok (.lstore i, 2)) (hi : i + 1 < nL) (hst : mv_step cl lk rt k (.lstore i) pc lv st σ = some (r0, σF)) (hk : ∀ pc' lv' st' σ', k pc' lv' st' σ' = some (r0, σF) → σ'.1 <+: σF.1 ∧ mw_G p l e R s m args below meth c nL D ac (mw_ad b sa base) base L xs n0 s0 Q pc' lv' st' σ') : σ.1 <+: σF.1 ∧ mw_G p l e R s m args below meth c nL D ac (mw_ad b sa base) base L xs n0 s0 Q pc lv st σ := by
  have hst : ((match (generalizing := false) st with
    | .inr (.inl x) :: r => k (pc + 2) (mv_put2 lv i (.inr (.inl x))) r σ
    | _ => none)) = some (r0, σF) := hst
  split at hst
  · rename_i x r hz
    obtain ⟨h1, h2⟩ := hk _ _ _ _ hst
    exact ⟨h1, fun H locs ls cells slots hl hR hS hc hs => lv_lstore X.1 X.2.1 hd hl hi (mw_put2 (mw_ad b sa base) lv _ (.inr (.inl x))) (fun ls hl => h2 H locs ls cells slots hl hR hS hc hs)⟩
  · cases hst
theorem ms_astore_n {i : Fin 4} (X : mw_X p l R s m args meth c own cc nL rt D ac sa b L xs base) (hd : decode cc pc = .ok (.astore_n i, 1)) (hi : i.val < nL) (hst : mv_step cl lk rt k (.astore_n i) pc lv st σ = some (r0, σF)) (hk : ∀ pc' lv' st' σ', k pc' lv' st' σ' = some (r0, σF) → σ'.1 <+: σF.1 ∧ mw_G p l e R s m args below meth c nL D ac (mw_ad b sa base) base L xs n0 s0 Q pc' lv' st' σ') : σ.1 <+: σF.1 ∧ mw_G p l e R s m args below meth c nL D ac (mw_ad b sa base) base L xs n0 s0 Q pc lv st σ := by
  have hst : ((match (generalizing := false) st with
    | .inr (.inr x) :: r => k (pc + 1) (mv_put1 lv i.val (.inr (.inr x))) r σ
    | _ => none)) = some (r0, σF) := hst
  split at hst
  · rename_i x r hz
    obtain ⟨h1, h2⟩ := hk _ _ _ _ hst
    refine ⟨h1, fun H locs ls cells slots hl hR hS hc hs => ?_⟩
    cases x with
    | none => exact lv_astore_nN X.1 X.2.1 hd rfl hl hi (mw_put1 (mw_ad b sa base) lv _ (.inr (.inr none))) (fun ls hl => h2 H locs ls cells slots hl hR hS hc hs)
    | some a => exact lv_astore_n X.1 X.2.1 hd rfl hl hi (mw_put1 (mw_ad b sa base) lv _ (.inr (.inr (some a)))) (fun ls hl => h2 H locs ls cells slots hl hR hS hc hs)
  · cases hst
theorem ms_astore {i : Nat} (X : mw_X p l R s m args meth c own cc nL rt D ac sa b L xs base) (hd : decode cc pc = .ok (.astore i, 2)) (hi : i < nL) (hst : mv_step cl lk rt k (.astore i) pc lv st σ = some (r0, σF)) (hk : ∀ pc' lv' st' σ', k pc' lv' st' σ' = some (r0, σF) → σ'.1 <+: σF.1 ∧ mw_G p l e R s m args below meth c nL D ac (mw_ad b sa base) base L xs n0 s0 Q pc' lv' st' σ') : σ.1 <+: σF.1 ∧ mw_G p l e R s m args below meth c nL D ac (mw_ad b sa base) base L xs n0 s0 Q pc lv st σ := by
  have hst : ((match (generalizing := false) st with
    | .inr (.inr x) :: r => k (pc + 2) (mv_put1 lv i (.inr (.inr x))) r σ
    | _ => none)) = some (r0, σF) := hst
  split at hst
  · rename_i x r hz
    obtain ⟨h1, h2⟩ := hk _ _ _ _ hst
    refine ⟨h1, fun H locs ls cells slots hl hR hS hc hs => ?_⟩
    cases x with
    | none => exact lv_astoreN X.1 X.2.1 hd hl hi (mw_put1 (mw_ad b sa base) lv _ (.inr (.inr none))) (fun ls hl => h2 H locs ls cells slots hl hR hS hc hs)
    | some a => exact lv_astore X.1 X.2.1 hd hl hi (mw_put1 (mw_ad b sa base) lv _ (.inr (.inr (some a)))) (fun ls hl => h2 H locs ls cells slots hl hR hS hc hs)
  · cases hst
theorem ms_iinc {i : Nat} {n : Int} (X : mw_X p l R s m args meth c own cc nL rt D ac sa b L xs base) (hd : decode cc pc = .ok (.iinc i n, 3)) (hi : i < nL) (hst : mv_step cl lk rt k (.iinc i n) pc lv st σ = some (r0, σF)) (hk : ∀ pc' lv' st' σ', k pc' lv' st' σ' = some (r0, σF) → σ'.1 <+: σF.1 ∧ mw_G p l e R s m args below meth c nL D ac (mw_ad b sa base) base L xs n0 s0 Q pc' lv' st' σ') : σ.1 <+: σF.1 ∧ mw_G p l e R s m args below meth c nL D ac (mw_ad b sa base) base L xs n0 s0 Q pc lv st σ := by
  have hst : ((match (generalizing := false) lv.lookup i with
    | some (.inl x) => k (pc + 3) (mv_put1 lv i (.inl (x + mv_c n))) st σ
    | _ => none)) = some (r0, σF) := hst
  split at hst
  · rename_i x hx
    obtain ⟨h1, h2⟩ := hk _ _ _ _ hst
    refine ⟨h1, fun H locs ls cells slots hl hR hS hc hs => ?_⟩
    obtain ⟨q, hq⟩ := mw_place (ad := mw_ad b sa base) hx
    exact lv_iinc X.1 X.2.1 hd hl (k := q) hq rfl hi (mw_put1 (mw_ad b sa base) lv i (.inl (x + mv_c n))) (fun ls hl => h2 H locs ls cells slots hl hR hS hc hs)
  · cases hst
theorem ms_iadd (X : mw_X p l R s m args meth c own cc nL rt D ac sa b L xs base) (hd : decode cc pc = .ok (.iadd, 1))  (hst : mv_step cl lk rt k (.iadd) pc lv st σ = some (r0, σF)) (hk : ∀ pc' lv' st' σ', k pc' lv' st' σ' = some (r0, σF) → σ'.1 <+: σF.1 ∧ mw_G p l e R s m args below meth c nL D ac (mw_ad b sa base) base L xs n0 s0 Q pc' lv' st' σ') : σ.1 <+: σF.1 ∧ mw_G p l e R s m args below meth c nL D ac (mw_ad b sa base) base L xs n0 s0 Q pc lv st σ := by
  have hst : ((match (generalizing := false) st with
    | .inl y :: .inl x :: r => k (pc + 1) lv (.inl (x + y) :: r) σ
    | _ => none)) = some (r0, σF) := hst
  split at hst
  · rename_i y x r hz
    obtain ⟨h1, h2⟩ := hk _ _ _ _ hst
    exact ⟨h1, fun H locs ls cells slots hl hR hS hc hs => lv_iadd X.1 X.2.1 hd (h2 H locs ls cells slots hl hR hS hc hs)⟩
  · cases hst
theorem ms_isub (X : mw_X p l R s m args meth c own cc nL rt D ac sa b L xs base) (hd : decode cc pc = .ok (.isub, 1))  (hst : mv_step cl lk rt k (.isub) pc lv st σ = some (r0, σF)) (hk : ∀ pc' lv' st' σ', k pc' lv' st' σ' = some (r0, σF) → σ'.1 <+: σF.1 ∧ mw_G p l e R s m args below meth c nL D ac (mw_ad b sa base) base L xs n0 s0 Q pc' lv' st' σ') : σ.1 <+: σF.1 ∧ mw_G p l e R s m args below meth c nL D ac (mw_ad b sa base) base L xs n0 s0 Q pc lv st σ := by
  have hst : ((match (generalizing := false) st with
    | .inl y :: .inl x :: r => k (pc + 1) lv (.inl (x - y) :: r) σ
    | _ => none)) = some (r0, σF) := hst
  split at hst
  · rename_i y x r hz
    obtain ⟨h1, h2⟩ := hk _ _ _ _ hst
    exact ⟨h1, fun H locs ls cells slots hl hR hS hc hs => lv_isub X.1 X.2.1 hd (h2 H locs ls cells slots hl hR hS hc hs)⟩
  · cases hst
theorem ms_imul (X : mw_X p l R s m args meth c own cc nL rt D ac sa b L xs base) (hd : decode cc pc = .ok (.imul, 1))  (hst : mv_step cl lk rt k (.imul) pc lv st σ = some (r0, σF)) (hk : ∀ pc' lv' st' σ', k pc' lv' st' σ' = some (r0, σF) → σ'.1 <+: σF.1 ∧ mw_G p l e R s m args below meth c nL D ac (mw_ad b sa base) base L xs n0 s0 Q pc' lv' st' σ') : σ.1 <+: σF.1 ∧ mw_G p l e R s m args below meth c nL D ac (mw_ad b sa base) base L xs n0 s0 Q pc lv st σ := by
  have hst : ((match (generalizing := false) st with
    | .inl y :: .inl x :: r => k (pc + 1) lv (.inl (x * y) :: r) σ
    | _ => none)) = some (r0, σF) := hst
  split at hst
  · rename_i y x r hz
    obtain ⟨h1, h2⟩ := hk _ _ _ _ hst
    exact ⟨h1, fun H locs ls cells slots hl hR hS hc hs => lv_imul X.1 X.2.1 hd (h2 H locs ls cells slots hl hR hS hc hs)⟩
  · cases hst
theorem ms_iand (X : mw_X p l R s m args meth c own cc nL rt D ac sa b L xs base) (hd : decode cc pc = .ok (.iand, 1))  (hst : mv_step cl lk rt k (.iand) pc lv st σ = some (r0, σF)) (hk : ∀ pc' lv' st' σ', k pc' lv' st' σ' = some (r0, σF) → σ'.1 <+: σF.1 ∧ mw_G p l e R s m args below meth c nL D ac (mw_ad b sa base) base L xs n0 s0 Q pc' lv' st' σ') : σ.1 <+: σF.1 ∧ mw_G p l e R s m args below meth c nL D ac (mw_ad b sa base) base L xs n0 s0 Q pc lv st σ := by
  have hst : ((match (generalizing := false) st with
    | .inl y :: .inl x :: r => k (pc + 1) lv (.inl (x &&& y) :: r) σ
    | _ => none)) = some (r0, σF) := hst
  split at hst
  · rename_i y x r hz
    obtain ⟨h1, h2⟩ := hk _ _ _ _ hst
    exact ⟨h1, fun H locs ls cells slots hl hR hS hc hs => lv_iand X.1 X.2.1 hd (h2 H locs ls cells slots hl hR hS hc hs)⟩
  · cases hst
theorem ms_ior (X : mw_X p l R s m args meth c own cc nL rt D ac sa b L xs base) (hd : decode cc pc = .ok (.ior, 1))  (hst : mv_step cl lk rt k (.ior) pc lv st σ = some (r0, σF)) (hk : ∀ pc' lv' st' σ', k pc' lv' st' σ' = some (r0, σF) → σ'.1 <+: σF.1 ∧ mw_G p l e R s m args below meth c nL D ac (mw_ad b sa base) base L xs n0 s0 Q pc' lv' st' σ') : σ.1 <+: σF.1 ∧ mw_G p l e R s m args below meth c nL D ac (mw_ad b sa base) base L xs n0 s0 Q pc lv st σ := by
  have hst : ((match (generalizing := false) st with
    | .inl y :: .inl x :: r => k (pc + 1) lv (.inl (x ||| y) :: r) σ
    | _ => none)) = some (r0, σF) := hst
  split at hst
  · rename_i y x r hz
    obtain ⟨h1, h2⟩ := hk _ _ _ _ hst
    exact ⟨h1, fun H locs ls cells slots hl hR hS hc hs => lv_ior X.1 X.2.1 hd (h2 H locs ls cells slots hl hR hS hc hs)⟩
  · cases hst
theorem ms_ishl (X : mw_X p l R s m args meth c own cc nL rt D ac sa b L xs base) (hd : decode cc pc = .ok (.ishl, 1))  (hst : mv_step cl lk rt k (.ishl) pc lv st σ = some (r0, σF)) (hk : ∀ pc' lv' st' σ', k pc' lv' st' σ' = some (r0, σF) → σ'.1 <+: σF.1 ∧ mw_G p l e R s m args below meth c nL D ac (mw_ad b sa base) base L xs n0 s0 Q pc' lv' st' σ') : σ.1 <+: σF.1 ∧ mw_G p l e R s m args below meth c nL D ac (mw_ad b sa base) base L xs n0 s0 Q pc lv st σ := by
  have hst : ((match (generalizing := false) st with
    | .inl y :: .inl x :: r => k (pc + 1) lv (.inl (x <<< (y &&& 31)) :: r) σ
    | _ => none)) = some (r0, σF) := hst
  split at hst
  · rename_i y x r hz
    obtain ⟨h1, h2⟩ := hk _ _ _ _ hst
    exact ⟨h1, fun H locs ls cells slots hl hR hS hc hs => lv_ishl X.1 X.2.1 hd (h2 H locs ls cells slots hl hR hS hc hs)⟩
  · cases hst
theorem ms_ishr (X : mw_X p l R s m args meth c own cc nL rt D ac sa b L xs base) (hd : decode cc pc = .ok (.ishr, 1))  (hst : mv_step cl lk rt k (.ishr) pc lv st σ = some (r0, σF)) (hk : ∀ pc' lv' st' σ', k pc' lv' st' σ' = some (r0, σF) → σ'.1 <+: σF.1 ∧ mw_G p l e R s m args below meth c nL D ac (mw_ad b sa base) base L xs n0 s0 Q pc' lv' st' σ') : σ.1 <+: σF.1 ∧ mw_G p l e R s m args below meth c nL D ac (mw_ad b sa base) base L xs n0 s0 Q pc lv st σ := by
  have hst : ((match (generalizing := false) st with
    | .inl y :: .inl x :: r => k (pc + 1) lv (.inl (x >>> (y &&& 31)) :: r) σ
    | _ => none)) = some (r0, σF) := hst
  split at hst
  · rename_i y x r hz
    obtain ⟨h1, h2⟩ := hk _ _ _ _ hst
    exact ⟨h1, fun H locs ls cells slots hl hR hS hc hs => lv_ishr X.1 X.2.1 hd (h2 H locs ls cells slots hl hR hS hc hs)⟩
  · cases hst
theorem ms_idiv (X : mw_X p l R s m args meth c own cc nL rt D ac sa b L xs base) (hd : decode cc pc = .ok (.idiv, 1))  (hst : mv_step cl lk rt k (.idiv) pc lv st σ = some (r0, σF)) (hk : ∀ pc' lv' st' σ', k pc' lv' st' σ' = some (r0, σF) → σ'.1 <+: σF.1 ∧ mw_G p l e R s m args below meth c nL D ac (mw_ad b sa base) base L xs n0 s0 Q pc' lv' st' σ') : σ.1 <+: σF.1 ∧ mw_G p l e R s m args below meth c nL D ac (mw_ad b sa base) base L xs n0 s0 Q pc lv st σ := by
  have hst : ((match (generalizing := false) st with
    | .inl y :: .inl x :: r => mo_dv y (k (pc + 1) lv (.inl (x / y) :: r) σ)
    | _ => none)) = some (r0, σF) := hst
  split at hst
  · rename_i y x r hz
    unfold mo_dv at hst
    split at hst
    · cases hst
    · rename_i hy
      obtain ⟨h1, h2⟩ := hk _ _ _ _ hst
      exact ⟨h1, fun H locs ls cells slots hl hR hS hc hs => lv_idiv X.1 X.2.1 hd hy (h2 H locs ls cells slots hl hR hS hc hs)⟩
  · cases hst
theorem ms_irem (X : mw_X p l R s m args meth c own cc nL rt D ac sa b L xs base) (hd : decode cc pc = .ok (.irem, 1))  (hst : mv_step cl lk rt k (.irem) pc lv st σ = some (r0, σF)) (hk : ∀ pc' lv' st' σ', k pc' lv' st' σ' = some (r0, σF) → σ'.1 <+: σF.1 ∧ mw_G p l e R s m args below meth c nL D ac (mw_ad b sa base) base L xs n0 s0 Q pc' lv' st' σ') : σ.1 <+: σF.1 ∧ mw_G p l e R s m args below meth c nL D ac (mw_ad b sa base) base L xs n0 s0 Q pc lv st σ := by
  have hst : ((match (generalizing := false) st with
    | .inl y :: .inl x :: r => mo_dv y (k (pc + 1) lv (.inl (x - x / y * y) :: r) σ)
    | _ => none)) = some (r0, σF) := hst
  split at hst
  · rename_i y x r hz
    unfold mo_dv at hst
    split at hst
    · cases hst
    · rename_i hy
      obtain ⟨h1, h2⟩ := hk _ _ _ _ hst
      exact ⟨h1, fun H locs ls cells slots hl hR hS hc hs => lv_irem X.1 X.2.1 hd hy (h2 H locs ls cells slots hl hR hS hc hs)⟩
  · cases hst
theorem ms_ineg (X : mw_X p l R s m args meth c own cc nL rt D ac sa b L xs base) (hd : decode cc pc = .ok (.ineg, 1))  (hst : mv_step cl lk rt k (.ineg) pc lv st σ = some (r0, σF)) (hk : ∀ pc' lv' st' σ', k pc' lv' st' σ' = some (r0, σF) → σ'.1 <+: σF.1 ∧ mw_G p l e R s m args below meth c nL D ac (mw_ad b sa base) base L xs n0 s0 Q pc' lv' st' σ') : σ.1 <+: σF.1 ∧ mw_G p l e R s m args below meth c nL D ac (mw_ad b sa base) base L xs n0 s0 Q pc lv st σ := by
  have hst : ((match (generalizing := false) st with
    | .inl x :: r => k (pc + 1) lv (.inl (-x) :: r) σ
    | _ => none)) = some (r0, σF) := hst
  split at hst
  · rename_i x r hz
    obtain ⟨h1, h2⟩ := hk _ _ _ _ hst
    exact ⟨h1, fun H locs ls cells slots hl hR hS hc hs => lv_ineg X.1 X.2.1 hd (h2 H locs ls cells slots hl hR hS hc hs)⟩
  · cases hst
theorem ms_i2l (X : mw_X p l R s m args meth c own cc nL rt D ac sa b L xs base) (hd : decode cc pc = .ok (.i2l, 1))  (hst : mv_step cl lk rt k (.i2l) pc lv st σ = some (r0, σF)) (hk : ∀ pc' lv' st' σ', k pc' lv' st' σ' = some (r0, σF) → σ'.1 <+: σF.1 ∧ mw_G p l e R s m args below meth c nL D ac (mw_ad b sa base) base L xs n0 s0 Q pc' lv' st' σ') : σ.1 <+: σF.1 ∧ mw_G p l e R s m args below meth c nL D ac (mw_ad b sa base) base L xs n0 s0 Q pc lv st σ := by
  have hst : ((match (generalizing := false) st with
    | .inl x :: r => k (pc + 1) lv (.inr (.inl x.toInt64) :: r) σ
    | _ => none)) = some (r0, σF) := hst
  split at hst
  · rename_i x r hz
    obtain ⟨h1, h2⟩ := hk _ _ _ _ hst
    exact ⟨h1, fun H locs ls cells slots hl hR hS hc hs => lv_i2l X.1 X.2.1 hd rfl (h2 H locs ls cells slots hl hR hS hc hs)⟩
  · cases hst
theorem ms_i2b (X : mw_X p l R s m args meth c own cc nL rt D ac sa b L xs base) (hd : decode cc pc = .ok (.i2b, 1))  (hst : mv_step cl lk rt k (.i2b) pc lv st σ = some (r0, σF)) (hk : ∀ pc' lv' st' σ', k pc' lv' st' σ' = some (r0, σF) → σ'.1 <+: σF.1 ∧ mw_G p l e R s m args below meth c nL D ac (mw_ad b sa base) base L xs n0 s0 Q pc' lv' st' σ') : σ.1 <+: σF.1 ∧ mw_G p l e R s m args below meth c nL D ac (mw_ad b sa base) base L xs n0 s0 Q pc lv st σ := by
  have hst : ((match (generalizing := false) st with
    | .inl x :: r => k (pc + 1) lv (.inl x.toInt8.toInt32 :: r) σ
    | _ => none)) = some (r0, σF) := hst
  split at hst
  · rename_i x r hz
    obtain ⟨h1, h2⟩ := hk _ _ _ _ hst
    exact ⟨h1, fun H locs ls cells slots hl hR hS hc hs => lv_i2b X.1 X.2.1 hd rfl (h2 H locs ls cells slots hl hR hS hc hs)⟩
  · cases hst
theorem ms_i2s (X : mw_X p l R s m args meth c own cc nL rt D ac sa b L xs base) (hd : decode cc pc = .ok (.i2s, 1))  (hst : mv_step cl lk rt k (.i2s) pc lv st σ = some (r0, σF)) (hk : ∀ pc' lv' st' σ', k pc' lv' st' σ' = some (r0, σF) → σ'.1 <+: σF.1 ∧ mw_G p l e R s m args below meth c nL D ac (mw_ad b sa base) base L xs n0 s0 Q pc' lv' st' σ') : σ.1 <+: σF.1 ∧ mw_G p l e R s m args below meth c nL D ac (mw_ad b sa base) base L xs n0 s0 Q pc lv st σ := by
  have hst : ((match (generalizing := false) st with
    | .inl x :: r => k (pc + 1) lv (.inl x.toInt16.toInt32 :: r) σ
    | _ => none)) = some (r0, σF) := hst
  split at hst
  · rename_i x r hz
    obtain ⟨h1, h2⟩ := hk _ _ _ _ hst
    exact ⟨h1, fun H locs ls cells slots hl hR hS hc hs => lv_i2s X.1 X.2.1 hd rfl (h2 H locs ls cells slots hl hR hS hc hs)⟩
  · cases hst
theorem ms_lcmp (X : mw_X p l R s m args meth c own cc nL rt D ac sa b L xs base) (hd : decode cc pc = .ok (.lcmp, 1))  (hst : mv_step cl lk rt k (.lcmp) pc lv st σ = some (r0, σF)) (hk : ∀ pc' lv' st' σ', k pc' lv' st' σ' = some (r0, σF) → σ'.1 <+: σF.1 ∧ mw_G p l e R s m args below meth c nL D ac (mw_ad b sa base) base L xs n0 s0 Q pc' lv' st' σ') : σ.1 <+: σF.1 ∧ mw_G p l e R s m args below meth c nL D ac (mw_ad b sa base) base L xs n0 s0 Q pc lv st σ := by
  have hst : ((match (generalizing := false) st with
    | .inr (.inl y) :: .inr (.inl x) :: r => k (pc + 1) lv (.inl (lg_cmp x y) :: r) σ
    | _ => none)) = some (r0, σF) := hst
  split at hst
  · rename_i y x r hz
    obtain ⟨h1, h2⟩ := hk _ _ _ _ hst
    exact ⟨h1, fun H locs ls cells slots hl hR hS hc hs => W.lcmp X.1 X.2.1 hd (h2 H locs ls cells slots hl hR hS hc hs)⟩
  · cases hst
theorem ms_dup (X : mw_X p l R s m args meth c own cc nL rt D ac sa b L xs base) (hd : decode cc pc = .ok (.dup, 1))  (hst : mv_step cl lk rt k (.dup) pc lv st σ = some (r0, σF)) (hk : ∀ pc' lv' st' σ', k pc' lv' st' σ' = some (r0, σF) → σ'.1 <+: σF.1 ∧ mw_G p l e R s m args below meth c nL D ac (mw_ad b sa base) base L xs n0 s0 Q pc' lv' st' σ') : σ.1 <+: σF.1 ∧ mw_G p l e R s m args below meth c nL D ac (mw_ad b sa base) base L xs n0 s0 Q pc lv st σ := by
  have hst : ((match (generalizing := false) st with
    | .inl x :: r => k (pc + 1) lv (.inl x :: .inl x :: r) σ
    | .inr (.inr x) :: r => k (pc + 1) lv (.inr (.inr x) :: .inr (.inr x) :: r) σ
    | _ => none)) = some (r0, σF) := hst
  split at hst
  · rename_i x r hz
    obtain ⟨h1, h2⟩ := hk _ _ _ _ hst
    exact ⟨h1, fun H locs ls cells slots hl hR hS hc hs => lv_dup X.1 X.2.1 hd rfl (h2 H locs ls cells slots hl hR hS hc hs)⟩
  · rename_i x r hz
    obtain ⟨h1, h2⟩ := hk _ _ _ _ hst
    exact ⟨h1, fun H locs ls cells slots hl hR hS hc hs => lv_dup X.1 X.2.1 hd (mw_c1 _ x) (h2 H locs ls cells slots hl hR hS hc hs)⟩
  · cases hst
theorem ms_dup2 (X : mw_X p l R s m args meth c own cc nL rt D ac sa b L xs base) (hd : decode cc pc = .ok (.dup2, 1))  (hst : mv_step cl lk rt k (.dup2) pc lv st σ = some (r0, σF)) (hk : ∀ pc' lv' st' σ', k pc' lv' st' σ' = some (r0, σF) → σ'.1 <+: σF.1 ∧ mw_G p l e R s m args below meth c nL D ac (mw_ad b sa base) base L xs n0 s0 Q pc' lv' st' σ') : σ.1 <+: σF.1 ∧ mw_G p l e R s m args below meth c nL D ac (mw_ad b sa base) base L xs n0 s0 Q pc lv st σ := by
  have hst : ((match (generalizing := false) st with
    | .inl x :: .inr (.inr y) :: r => k (pc + 1) lv (.inl x :: .inr (.inr y) :: .inl x :: .inr (.inr y) :: r) σ
    | _ => none)) = some (r0, σF) := hst
  split at hst
  · rename_i x y r hz
    obtain ⟨h1, h2⟩ := hk _ _ _ _ hst
    exact ⟨h1, fun H locs ls cells slots hl hR hS hc hs => lv_dup2_11 X.1 X.2.1 hd rfl (mw_c1 _ y) (h2 H locs ls cells slots hl hR hS hc hs)⟩
  · cases hst
theorem ms_pop (X : mw_X p l R s m args meth c own cc nL rt D ac sa b L xs base) (hd : decode cc pc = .ok (.pop, 1))  (hst : mv_step cl lk rt k (.pop) pc lv st σ = some (r0, σF)) (hk : ∀ pc' lv' st' σ', k pc' lv' st' σ' = some (r0, σF) → σ'.1 <+: σF.1 ∧ mw_G p l e R s m args below meth c nL D ac (mw_ad b sa base) base L xs n0 s0 Q pc' lv' st' σ') : σ.1 <+: σF.1 ∧ mw_G p l e R s m args below meth c nL D ac (mw_ad b sa base) base L xs n0 s0 Q pc lv st σ := by
  have hst : ((match (generalizing := false) st with
    | .inl _ :: r => k (pc + 1) lv r σ
    | .inr (.inr _) :: r => k (pc + 1) lv r σ
    | _ => none)) = some (r0, σF) := hst
  split at hst
  · rename_i x r hz
    obtain ⟨h1, h2⟩ := hk _ _ _ _ hst
    exact ⟨h1, fun H locs ls cells slots hl hR hS hc hs => lv_pop X.1 X.2.1 hd rfl (h2 H locs ls cells slots hl hR hS hc hs)⟩
  · rename_i x r hz
    obtain ⟨h1, h2⟩ := hk _ _ _ _ hst
    exact ⟨h1, fun H locs ls cells slots hl hR hS hc hs => lv_pop X.1 X.2.1 hd (mw_c1 _ x) (h2 H locs ls cells slots hl hR hS hc hs)⟩
  · cases hst
theorem ms_if_eq {off : Int} (X : mw_X p l R s m args meth c own cc nL rt D ac sa b L xs base) (hd : decode cc pc = .ok (.ifCond .eq off, 3)) (ht : 0 ≤ (pc : Int) + off) (hst : mv_step cl lk rt k (.ifCond .eq off) pc lv st σ = some (r0, σF)) (hk : ∀ pc' lv' st' σ', k pc' lv' st' σ' = some (r0, σF) → σ'.1 <+: σF.1 ∧ mw_G p l e R s m args below meth c nL D ac (mw_ad b sa base) base L xs n0 s0 Q pc' lv' st' σ') : σ.1 <+: σF.1 ∧ mw_G p l e R s m args below meth c nL D ac (mw_ad b sa base) base L xs n0 s0 Q pc lv st σ := by
  have hst : ((match (generalizing := false) st with
    | .inl x :: r => if x = 0 then k (mv_jmp pc off) lv r σ else k (pc + 3) lv r σ
    | _ => none)) = some (r0, σF) := hst
  split at hst
  · rename_i x r hz
    split at hst
    · rename_i hq
      obtain ⟨h1, h2⟩ := hk _ _ _ _ hst
      exact ⟨h1, fun H locs ls cells slots hl hR hS hc hs => lv_if_eq X.1 X.2.1 hd (mw_jmp ht) (fun _ => h2 H locs ls cells slots hl hR hS hc hs) (fun z => absurd hq z)⟩
    · rename_i hq
      obtain ⟨h1, h2⟩ := hk _ _ _ _ hst
      exact ⟨h1, fun H locs ls cells slots hl hR hS hc hs => lv_if_eq X.1 X.2.1 hd (mw_jmp ht) (fun z => absurd z hq) (fun _ => h2 H locs ls cells slots hl hR hS hc hs)⟩
  · cases hst
theorem ms_if_ne {off : Int} (X : mw_X p l R s m args meth c own cc nL rt D ac sa b L xs base) (hd : decode cc pc = .ok (.ifCond .ne off, 3)) (ht : 0 ≤ (pc : Int) + off) (hst : mv_step cl lk rt k (.ifCond .ne off) pc lv st σ = some (r0, σF)) (hk : ∀ pc' lv' st' σ', k pc' lv' st' σ' = some (r0, σF) → σ'.1 <+: σF.1 ∧ mw_G p l e R s m args below meth c nL D ac (mw_ad b sa base) base L xs n0 s0 Q pc' lv' st' σ') : σ.1 <+: σF.1 ∧ mw_G p l e R s m args below meth c nL D ac (mw_ad b sa base) base L xs n0 s0 Q pc lv st σ := by
  have hst : ((match (generalizing := false) st with
    | .inl x :: r => if x = 0 then k (pc + 3) lv r σ else k (mv_jmp pc off) lv r σ
    | _ => none)) = some (r0, σF) := hst
  split at hst
  · rename_i x r hz
    split at hst
    · rename_i hq
      obtain ⟨h1, h2⟩ := hk _ _ _ _ hst
      exact ⟨h1, fun H locs ls cells slots hl hR hS hc hs => lv_if_ne X.1 X.2.1 hd (mw_jmp ht) (fun z => absurd hq z) (fun _ => h2 H locs ls cells slots hl hR hS hc hs)⟩
    · rename_i hq
      obtain ⟨h1, h2⟩ := hk _ _ _ _ hst
      exact ⟨h1, fun H locs ls cells slots hl hR hS hc hs => lv_if_ne X.1 X.2.1 hd (mw_jmp ht) (fun _ => h2 H locs ls cells slots hl hR hS hc hs) (fun z => absurd z hq)⟩
  · cases hst
theorem ms_if_lt {off : Int} (X : mw_X p l R s m args meth c own cc nL rt D ac sa b L xs base) (hd : decode cc pc = .ok (.ifCond .lt off, 3)) (ht : 0 ≤ (pc : Int) + off) (hst : mv_step cl lk rt k (.ifCond .lt off) pc lv st σ = some (r0, σF)) (hk : ∀ pc' lv' st' σ', k pc' lv' st' σ' = some (r0, σF) → σ'.1 <+: σF.1 ∧ mw_G p l e R s m args below meth c nL D ac (mw_ad b sa base) base L xs n0 s0 Q pc' lv' st' σ') : σ.1 <+: σF.1 ∧ mw_G p l e R s m args below meth c nL D ac (mw_ad b sa base) base L xs n0 s0 Q pc lv st σ := by
  have hst : ((match (generalizing := false) st with
    | .inl x :: r => if x < 0 then k (mv_jmp pc off) lv r σ else k (pc + 3) lv r σ
    | _ => none)) = some (r0, σF) := hst
  split at hst
  · rename_i x r hz
    split at hst
    · rename_i hq
      obtain ⟨h1, h2⟩ := hk _ _ _ _ hst
      exact ⟨h1, fun H locs ls cells slots hl hR hS hc hs => lv_if_lt X.1 X.2.1 hd (mw_jmp ht) (fun _ => h2 H locs ls cells slots hl hR hS hc hs) (fun z => absurd hq z)⟩
    · rename_i hq
      obtain ⟨h1, h2⟩ := hk _ _ _ _ hst
      exact ⟨h1, fun H locs ls cells slots hl hR hS hc hs => lv_if_lt X.1 X.2.1 hd (mw_jmp ht) (fun z => absurd z hq) (fun _ => h2 H locs ls cells slots hl hR hS hc hs)⟩
  · cases hst
theorem ms_if_ge {off : Int} (X : mw_X p l R s m args meth c own cc nL rt D ac sa b L xs base) (hd : decode cc pc = .ok (.ifCond .ge off, 3)) (ht : 0 ≤ (pc : Int) + off) (hst : mv_step cl lk rt k (.ifCond .ge off) pc lv st σ = some (r0, σF)) (hk : ∀ pc' lv' st' σ', k pc' lv' st' σ' = some (r0, σF) → σ'.1 <+: σF.1 ∧ mw_G p l e R s m args below meth c nL D ac (mw_ad b sa base) base L xs n0 s0 Q pc' lv' st' σ') : σ.1 <+: σF.1 ∧ mw_G p l e R s m args below meth c nL D ac (mw_ad b sa base) base L xs n0 s0 Q pc lv st σ := by
  have hst : ((match (generalizing := false) st with
    | .inl x :: r => if 0 ≤ x then k (mv_jmp pc off) lv r σ else k (pc + 3) lv r σ
    | _ => none)) = some (r0, σF) := hst
  split at hst
  · rename_i x r hz
    split at hst
    · rename_i hq
      obtain ⟨h1, h2⟩ := hk _ _ _ _ hst
      exact ⟨h1, fun H locs ls cells slots hl hR hS hc hs => lv_if_ge X.1 X.2.1 hd (mw_jmp ht) (fun _ => h2 H locs ls cells slots hl hR hS hc hs) (fun z => absurd hq z)⟩
    · rename_i hq
      obtain ⟨h1, h2⟩ := hk _ _ _ _ hst
      exact ⟨h1, fun H locs ls cells slots hl hR hS hc hs => lv_if_ge X.1 X.2.1 hd (mw_jmp ht) (fun z => absurd z hq) (fun _ => h2 H locs ls cells slots hl hR hS hc hs)⟩
  · cases hst
theorem ms_if_gt {off : Int} (X : mw_X p l R s m args meth c own cc nL rt D ac sa b L xs base) (hd : decode cc pc = .ok (.ifCond .gt off, 3)) (ht : 0 ≤ (pc : Int) + off) (hst : mv_step cl lk rt k (.ifCond .gt off) pc lv st σ = some (r0, σF)) (hk : ∀ pc' lv' st' σ', k pc' lv' st' σ' = some (r0, σF) → σ'.1 <+: σF.1 ∧ mw_G p l e R s m args below meth c nL D ac (mw_ad b sa base) base L xs n0 s0 Q pc' lv' st' σ') : σ.1 <+: σF.1 ∧ mw_G p l e R s m args below meth c nL D ac (mw_ad b sa base) base L xs n0 s0 Q pc lv st σ := by
  have hst : ((match (generalizing := false) st with
    | .inl x :: r => if 0 < x then k (mv_jmp pc off) lv r σ else k (pc + 3) lv r σ
    | _ => none)) = some (r0, σF) := hst
  split at hst
  · rename_i x r hz
    split at hst
    · rename_i hq
      obtain ⟨h1, h2⟩ := hk _ _ _ _ hst
      exact ⟨h1, fun H locs ls cells slots hl hR hS hc hs => lv_if_gt X.1 X.2.1 hd (mw_jmp ht) (fun _ => h2 H locs ls cells slots hl hR hS hc hs) (fun z => absurd hq z)⟩
    · rename_i hq
      obtain ⟨h1, h2⟩ := hk _ _ _ _ hst
      exact ⟨h1, fun H locs ls cells slots hl hR hS hc hs => lv_if_gt X.1 X.2.1 hd (mw_jmp ht) (fun z => absurd z hq) (fun _ => h2 H locs ls cells slots hl hR hS hc hs)⟩
  · cases hst
theorem ms_if_le {off : Int} (X : mw_X p l R s m args meth c own cc nL rt D ac sa b L xs base) (hd : decode cc pc = .ok (.ifCond .le off, 3)) (ht : 0 ≤ (pc : Int) + off) (hst : mv_step cl lk rt k (.ifCond .le off) pc lv st σ = some (r0, σF)) (hk : ∀ pc' lv' st' σ', k pc' lv' st' σ' = some (r0, σF) → σ'.1 <+: σF.1 ∧ mw_G p l e R s m args below meth c nL D ac (mw_ad b sa base) base L xs n0 s0 Q pc' lv' st' σ') : σ.1 <+: σF.1 ∧ mw_G p l e R s m args below meth c nL D ac (mw_ad b sa base) base L xs n0 s0 Q pc lv st σ := by
  have hst : ((match (generalizing := false) st with
    | .inl x :: r => if x ≤ 0 then k (mv_jmp pc off) lv r σ else k (pc + 3) lv r σ
    | _ => none)) = some (r0, σF) := hst
  split at hst
  · rename_i x r hz
    split at hst
    · rename_i hq
      obtain ⟨h1, h2⟩ := hk _ _ _ _ hst
      exact ⟨h1, fun H locs ls cells slots hl hR hS hc hs => lv_if_le X.1 X.2.1 hd (mw_jmp ht) (fun _ => h2 H locs ls cells slots hl hR hS hc hs) (fun z => absurd hq z)⟩
    · rename_i hq
      obtain ⟨h1, h2⟩ := hk _ _ _ _ hst
      exact ⟨h1, fun H locs ls cells slots hl hR hS hc hs => lv_if_le X.1 X.2.1 hd (mw_jmp ht) (fun z => absurd z hq) (fun _ => h2 H locs ls cells slots hl hR hS hc hs)⟩
  · cases hst
theorem ms_icmp_eq {off : Int} (X : mw_X p l R s m args meth c own cc nL rt D ac sa b L xs base) (hd : decode cc pc = .ok (.if_icmp .eq off, 3)) (ht : 0 ≤ (pc : Int) + off) (hst : mv_step cl lk rt k (.if_icmp .eq off) pc lv st σ = some (r0, σF)) (hk : ∀ pc' lv' st' σ', k pc' lv' st' σ' = some (r0, σF) → σ'.1 <+: σF.1 ∧ mw_G p l e R s m args below meth c nL D ac (mw_ad b sa base) base L xs n0 s0 Q pc' lv' st' σ') : σ.1 <+: σF.1 ∧ mw_G p l e R s m args below meth c nL D ac (mw_ad b sa base) base L xs n0 s0 Q pc lv st σ := by
  have hst : ((match (generalizing := false) st with
    | .inl y :: .inl x :: r => if x = y then k (mv_jmp pc off) lv r σ else k (pc + 3) lv r σ
    | _ => none)) = some (r0, σF) := hst
  split at hst
  · rename_i y x r hz
    split at hst
    · rename_i hq
      obtain ⟨h1, h2⟩ := hk _ _ _ _ hst
      exact ⟨h1, fun H locs ls cells slots hl hR hS hc hs => lv_icmp_eq X.1 X.2.1 hd (mw_jmp ht) (fun _ => h2 H locs ls cells slots hl hR hS hc hs) (fun z => absurd hq z)⟩
    · rename_i hq
      obtain ⟨h1, h2⟩ := hk _ _ _ _ hst
      exact ⟨h1, fun H locs ls cells slots hl hR hS hc hs => lv_icmp_eq X.1 X.2.1 hd (mw_jmp ht) (fun z => absurd z hq) (fun _ => h2 H locs ls cells slots hl hR hS hc hs)⟩
  · cases hst
theorem ms_icmp_ne {off : Int} (X : mw_X p l R s m args meth c own cc nL rt D ac sa b L xs base) (hd : decode cc pc = .ok (.if_icmp .ne off, 3)) (ht : 0 ≤ (pc : Int) + off) (hst : mv_step cl lk rt k (.if_icmp .ne off) pc lv st σ = some (r0, σF)) (hk : ∀ pc' lv' st' σ', k pc' lv' st' σ' = some (r0, σF) → σ'.1 <+: σF.1 ∧ mw_G p l e R s m args below meth c nL D ac (mw_ad b sa base) base L xs n0 s0 Q pc' lv' st' σ') : σ.1 <+: σF.1 ∧ mw_G p l e R s m args below meth c nL D ac (mw_ad b sa base) base L xs n0 s0 Q pc lv st σ := by
  have hst : ((match (generalizing := false) st with
    | .inl y :: .inl x :: r => if x = y then k (pc + 3) lv r σ else k (mv_jmp pc off) lv r σ
    | _ => none)) = some (r0, σF) := hst
  split at hst
  · rename_i y x r hz
    split at hst
    · rename_i hq
      obtain ⟨h1, h2⟩ := hk _ _ _ _ hst
      exact ⟨h1, fun H locs ls cells slots hl hR hS hc hs => lv_icmp_ne X.1 X.2.1 hd (mw_jmp ht) (fun z => absurd hq z) (fun _ => h2 H locs ls cells slots hl hR hS hc hs)⟩
    · rename_i hq
      obtain ⟨h1, h2⟩ := hk _ _ _ _ hst
      exact ⟨h1, fun H locs ls cells slots hl hR hS hc hs => lv_icmp_ne X.1 X.2.1 hd (mw_jmp ht) (fun _ => h2 H locs ls cells slots hl hR hS hc hs) (fun z => absurd z hq)⟩
  · cases hst
theorem ms_icmp_lt {off : Int} (X : mw_X p l R s m args meth c own cc nL rt D ac sa b L xs base) (hd : decode cc pc = .ok (.if_icmp .lt off, 3)) (ht : 0 ≤ (pc : Int) + off) (hst : mv_step cl lk rt k (.if_icmp .lt off) pc lv st σ = some (r0, σF)) (hk : ∀ pc' lv' st' σ', k pc' lv' st' σ' = some (r0, σF) → σ'.1 <+: σF.1 ∧ mw_G p l e R s m args below meth c nL D ac (mw_ad b sa base) base L xs n0 s0 Q pc' lv' st' σ') : σ.1 <+: σF.1 ∧ mw_G p l e R s m args below meth c nL D ac (mw_ad b sa base) base L xs n0 s0 Q pc lv st σ := by
  have hst : ((match (generalizing := false) st with
    | .inl y :: .inl x :: r => if x < y then k (mv_jmp pc off) lv r σ else k (pc + 3) lv r σ
    | _ => none)) = some (r0, σF) := hst
  split at hst
  · rename_i y x r hz
    split at hst
    · rename_i hq
      obtain ⟨h1, h2⟩ := hk _ _ _ _ hst
      exact ⟨h1, fun H locs ls cells slots hl hR hS hc hs => lv_icmp_lt X.1 X.2.1 hd (mw_jmp ht) (fun _ => h2 H locs ls cells slots hl hR hS hc hs) (fun z => absurd hq z)⟩
    · rename_i hq
      obtain ⟨h1, h2⟩ := hk _ _ _ _ hst
      exact ⟨h1, fun H locs ls cells slots hl hR hS hc hs => lv_icmp_lt X.1 X.2.1 hd (mw_jmp ht) (fun z => absurd z hq) (fun _ => h2 H locs ls cells slots hl hR hS hc hs)⟩
  · cases hst
theorem ms_icmp_ge {off : Int} (X : mw_X p l R s m args meth c own cc nL rt D ac sa b L xs base) (hd : decode cc pc = .ok (.if_icmp .ge off, 3)) (ht : 0 ≤ (pc : Int) + off) (hst : mv_step cl lk rt k (.if_icmp .ge off) pc lv st σ = some (r0, σF)) (hk : ∀ pc' lv' st' σ', k pc' lv' st' σ' = some (r0, σF) → σ'.1 <+: σF.1 ∧ mw_G p l e R s m args below meth c nL D ac (mw_ad b sa base) base L xs n0 s0 Q pc' lv' st' σ') : σ.1 <+: σF.1 ∧ mw_G p l e R s m args below meth c nL D ac (mw_ad b sa base) base L xs n0 s0 Q pc lv st σ := by
  have hst : ((match (generalizing := false) st with
    | .inl y :: .inl x :: r => if y ≤ x then k (mv_jmp pc off) lv r σ else k (pc + 3) lv r σ
    | _ => none)) = some (r0, σF) := hst
  split at hst
  · rename_i y x r hz
    split at hst
    · rename_i hq
      obtain ⟨h1, h2⟩ := hk _ _ _ _ hst
      exact ⟨h1, fun H locs ls cells slots hl hR hS hc hs => lv_icmp_ge X.1 X.2.1 hd (mw_jmp ht) (fun _ => h2 H locs ls cells slots hl hR hS hc hs) (fun z => absurd hq z)⟩
    · rename_i hq
      obtain ⟨h1, h2⟩ := hk _ _ _ _ hst
      exact ⟨h1, fun H locs ls cells slots hl hR hS hc hs => lv_icmp_ge X.1 X.2.1 hd (mw_jmp ht) (fun z => absurd z hq) (fun _ => h2 H locs ls cells slots hl hR hS hc hs)⟩
  · cases hst
theorem ms_icmp_gt {off : Int} (X : mw_X p l R s m args meth c own cc nL rt D ac sa b L xs base) (hd : decode cc pc = .ok (.if_icmp .gt off, 3)) (ht : 0 ≤ (pc : Int) + off) (hst : mv_step cl lk rt k (.if_icmp .gt off) pc lv st σ = some (r0, σF)) (hk : ∀ pc' lv' st' σ', k pc' lv' st' σ' = some (r0, σF) → σ'.1 <+: σF.1 ∧ mw_G p l e R s m args below meth c nL D ac (mw_ad b sa base) base L xs n0 s0 Q pc' lv' st' σ') : σ.1 <+: σF.1 ∧ mw_G p l e R s m args below meth c nL D ac (mw_ad b sa base) base L xs n0 s0 Q pc lv st σ := by
  have hst : ((match (generalizing := false) st with
    | .inl y :: .inl x :: r => if y < x then k (mv_jmp pc off) lv r σ else k (pc + 3) lv r σ
    | _ => none)) = some (r0, σF) := hst
  split at hst
  · rename_i y x r hz
    split at hst
    · rename_i hq
      obtain ⟨h1, h2⟩ := hk _ _ _ _ hst
      exact ⟨h1, fun H locs ls cells slots hl hR hS hc hs => lv_icmp_gt X.1 X.2.1 hd (mw_jmp ht) (fun _ => h2 H locs ls cells slots hl hR hS hc hs) (fun z => absurd hq z)⟩
    · rename_i hq
      obtain ⟨h1, h2⟩ := hk _ _ _ _ hst
      exact ⟨h1, fun H locs ls cells slots hl hR hS hc hs => lv_icmp_gt X.1 X.2.1 hd (mw_jmp ht) (fun z => absurd z hq) (fun _ => h2 H locs ls cells slots hl hR hS hc hs)⟩
  · cases hst
theorem ms_icmp_le {off : Int} (X : mw_X p l R s m args meth c own cc nL rt D ac sa b L xs base) (hd : decode cc pc = .ok (.if_icmp .le off, 3)) (ht : 0 ≤ (pc : Int) + off) (hst : mv_step cl lk rt k (.if_icmp .le off) pc lv st σ = some (r0, σF)) (hk : ∀ pc' lv' st' σ', k pc' lv' st' σ' = some (r0, σF) → σ'.1 <+: σF.1 ∧ mw_G p l e R s m args below meth c nL D ac (mw_ad b sa base) base L xs n0 s0 Q pc' lv' st' σ') : σ.1 <+: σF.1 ∧ mw_G p l e R s m args below meth c nL D ac (mw_ad b sa base) base L xs n0 s0 Q pc lv st σ := by
  have hst : ((match (generalizing := false) st with
    | .inl y :: .inl x :: r => if x ≤ y then k (mv_jmp pc off) lv r σ else k (pc + 3) lv r σ
    | _ => none)) = some (r0, σF) := hst
  split at hst
  · rename_i y x r hz
    split at hst
    · rename_i hq
      obtain ⟨h1, h2⟩ := hk _ _ _ _ hst
      exact ⟨h1, fun H locs ls cells slots hl hR hS hc hs => lv_icmp_le X.1 X.2.1 hd (mw_jmp ht) (fun _ => h2 H locs ls cells slots hl hR hS hc hs) (fun z => absurd hq z)⟩
    · rename_i hq
      obtain ⟨h1, h2⟩ := hk _ _ _ _ hst
      exact ⟨h1, fun H locs ls cells slots hl hR hS hc hs => lv_icmp_le X.1 X.2.1 hd (mw_jmp ht) (fun z => absurd z hq) (fun _ => h2 H locs ls cells slots hl hR hS hc hs)⟩
  · cases hst
theorem ms_ifnull {off : Int} (X : mw_X p l R s m args meth c own cc nL rt D ac sa b L xs base) (hd : decode cc pc = .ok (.ifnull off, 3)) (ht : 0 ≤ (pc : Int) + off) (hst : mv_step cl lk rt k (.ifnull off) pc lv st σ = some (r0, σF)) (hk : ∀ pc' lv' st' σ', k pc' lv' st' σ' = some (r0, σF) → σ'.1 <+: σF.1 ∧ mw_G p l e R s m args below meth c nL D ac (mw_ad b sa base) base L xs n0 s0 Q pc' lv' st' σ') : σ.1 <+: σF.1 ∧ mw_G p l e R s m args below meth c nL D ac (mw_ad b sa base) base L xs n0 s0 Q pc lv st σ := by
  have hst : ((match (generalizing := false) st with
    | .inr (.inr o) :: r => mo_nl o (k (mv_jmp pc off) lv r σ) (k (pc + 3) lv r σ)
    | _ => none)) = some (r0, σF) := hst
  split at hst
  · rename_i o r hz
    cases o with
    | none =>
      obtain ⟨h1, h2⟩ := hk _ _ _ _ hst
      exact ⟨h1, fun H locs ls cells slots hl hR hS hc hs => lv_ifnullN X.1 X.2.1 hd (mw_jmp ht) (h2 H locs ls cells slots hl hR hS hc hs)⟩
    | some a =>
      obtain ⟨h1, h2⟩ := hk _ _ _ _ hst
      exact ⟨h1, fun H locs ls cells slots hl hR hS hc hs => lv_ifnull X.1 X.2.1 hd (h2 H locs ls cells slots hl hR hS hc hs)⟩
  · cases hst
theorem ms_ifnonnull {off : Int} (X : mw_X p l R s m args meth c own cc nL rt D ac sa b L xs base) (hd : decode cc pc = .ok (.ifnonnull off, 3)) (ht : 0 ≤ (pc : Int) + off) (hst : mv_step cl lk rt k (.ifnonnull off) pc lv st σ = some (r0, σF)) (hk : ∀ pc' lv' st' σ', k pc' lv' st' σ' = some (r0, σF) → σ'.1 <+: σF.1 ∧ mw_G p l e R s m args below meth c nL D ac (mw_ad b sa base) base L xs n0 s0 Q pc' lv' st' σ') : σ.1 <+: σF.1 ∧ mw_G p l e R s m args below meth c nL D ac (mw_ad b sa base) base L xs n0 s0 Q pc lv st σ := by
  have hst : ((match (generalizing := false) st with
    | .inr (.inr o) :: r => mo_nl o (k (pc + 3) lv r σ) (k (mv_jmp pc off) lv r σ)
    | _ => none)) = some (r0, σF) := hst
  split at hst
  · rename_i o r hz
    cases o with
    | none =>
      obtain ⟨h1, h2⟩ := hk _ _ _ _ hst
      exact ⟨h1, fun H locs ls cells slots hl hR hS hc hs => lv_ifnonnullN X.1 X.2.1 hd (h2 H locs ls cells slots hl hR hS hc hs)⟩
    | some a =>
      obtain ⟨h1, h2⟩ := hk _ _ _ _ hst
      exact ⟨h1, fun H locs ls cells slots hl hR hS hc hs => lv_ifnonnull X.1 X.2.1 hd (mw_jmp ht) (h2 H locs ls cells slots hl hR hS hc hs)⟩
  · cases hst
end MS
end
section
/-! SOUNDNESS of the small machine, 3: the memory -/
def mw_fty (c k : Nat) : FieldType := match c with
  | 0 => tyX0 k
  | 1 => tyX1 k
  | 2 => tyX2 k
  | 3 => tyX3 k
  | 4 => tyX4 k
  | 5 => tyX5 k
  | 6 => tyX6 k
  | _ => tyX7 k
/-- does a field of this kind have this type -/
def mw_okT (k : Nat) (ty : FieldType) : Bool := match k, ty with
  | 0, .int => true
  | 1, .boolean => true
  | 2, .object _ => true
  | 2, .array _ => true
  | _, _ => false
def mw_cls (c : Nat) (r : vw_C) : Prop := (∀ w ∈ u_ws r.1 r.2.1 r.2.2, w ∈ lw_good) ∧ (∀ k, k < r.2.2 → parseFieldDescriptor (r.2.1 k).2.2.1 = some (mw_fty c k)) ∧ (∀ a, a < r.2.2 → ∀ b, b < r.2.2 → a ≠ b → (r.2.1 a).2.1 ≠ (r.2.1 b).2.1) ∧ (∀ k, k < r.2.2 → mw_okT (mw_fk c k) (mw_fty c k) = true) ∧ (mw_fks.getD c []).length = r.2.2
theorem mw_cls0 : mw_cls 0 (RX0, TX0, 6) := ⟨mw_inl (by decide +kernel) (by decide +kernel), tyX0_ok, nmX0, by decide +kernel, by decide +kernel⟩
theorem mw_cls1 : mw_cls 1 (RX1, TX1, 14) := ⟨mw_inl (by decide +kernel) (by decide +kernel), tyX1_ok, nmX1, by decide +kernel, by decide +kernel⟩
theorem mw_cls2 : mw_cls 2 (RX2, TX2, 3) := ⟨mw_inl (by decide +kernel) (by decide +kernel), tyX2_ok, nmX2, by decide +kernel, by decide +kernel⟩
theorem mw_cls3 : mw_cls 3 (RX3, TX3, 20) := ⟨mw_inl (by decide +kernel) (by decide +kernel), tyX3_ok, nmX3, by decide +kernel, by decide +kernel⟩
theorem mw_cls4 : mw_cls 4 (RX4, TX4, 5) := ⟨mw_inl (by decide +kernel) (by decide +kernel), tyX4_ok, nmX4, by decide +kernel, by decide +kernel⟩
theorem mw_cls5 : mw_cls 5 (RX5, TX5, 5) := ⟨mw_inl (by decide +kernel) (by decide +kernel), tyX5_ok, nmX5, by decide +kernel, by decide +kernel⟩
theorem mw_cls6 : mw_cls 6 (RX6, TX6, 13) := ⟨mw_inl (by decide +kernel) (by decide +kernel), tyX6_ok, nmX6, by decide +kernel, by decide +kernel⟩
theorem mw_cls7 : mw_cls 7 (RX7, TX7, 36) := ⟨mw_inl (by decide +kernel) (by decide +kernel), tyX7_ok, nmX7, by decide +kernel, by decide +kernel⟩
theorem mw_clsA {c : Nat} {r : vw_C} (h : vwCl[c]? = some r) : mw_cls c r := by
  match c, h with
  | 0, h => cases h; exact mw_cls0
  | 1, h => cases h; exact mw_cls1
  | 2, h => cases h; exact mw_cls2
  | 3, h => cases h; exact mw_cls3
  | 4, h => cases h; exact mw_cls4
  | 5, h => cases h; exact mw_cls5
  | 6, h => cases h; exact mw_cls6
  | 7, h => cases h; exact mw_cls7
  | c + 8, h => simp [vwCl] at h
theorem mw_ad_ge {b : Nat} {sa : Nat → Nat} {base k : Nat} (h : 16 ≤ k) : mw_ad b sa base k = base + (k - 16) := by
  unfold mw_ad
  rw [if_neg (by omega), if_neg (by omega)]
theorem mw_ad_ne {b : Nat} {sa : Nat → Nat} {base k a : Nat} (h : 16 ≤ k) (h2 : 16 ≤ a) (hn : k ≠ a) : mw_ad b sa base k ≠ mw_ad b sa base a := by
  rw [mw_ad_ge h, mw_ad_ge h2]
  omega
section MH
variable {ad sa : Nat → Nat} {D : va_G} {ac : Nat → ClassId} {base b L : Nat} {xs : Nat → Int32} {σ σ' : mv_S} {H H' : Heap} {a k c t n : Nat}
theorem mw_at_keep (h : mw_at ad D ac σ H k) (hT : σ'.1[k]? = σ.1[k]?) (h1 : σ'.2.1 k = σ.2.1 k) (h2 : σ'.2.2.1 k = σ.2.2.1 k) (h3 : σ'.2.2.2 k = σ.2.2.2 k) (hH : H'[ad k]? = H[ad k]?) : mw_at ad D ac σ' H' k := by
  have ef : ∀ c : Nat, mw_fv ad σ' c k = mw_fv ad σ c k := fun c => by
    funext f
    simp [mw_fv, h1, h2]
  have ea : ∀ t : Nat, mw_av ad σ' t k = mw_av ad σ t k := fun t => by
    funext f
    simp [mw_av, h1, h2, h3]
  unfold mw_at at h ⊢
  rw [hT]
  match hq : σ.1[k]?, h with
  | none, h => trivial
  | some (.inl c), h =>
    obtain ⟨r, g1, g2⟩ := h
    refine ⟨r, g1, ?_⟩
    rw [ef]
    exact g2.kept hH
  | some (.inr (t, n)), h =>
    intro ht
    show H'[ad k]? = _
    rw [hH, ea]
    exact h ht
theorem mw_at_obj (h : mw_at ad D ac σ H k) (hq : σ.1[k]? = some (.inl c)) : ∃ r : vw_C, vwCl[c]? = some r ∧ t_OB (ad k) (D.1 c) r.2.2 (D.2 c) H (mw_fv ad σ c k) := by
  unfold mw_at at h
  rw [hq] at h
  exact h
theorem mw_at_arr (h : mw_at ad D ac σ H k) (hq : σ.1[k]? = some (.inr (t, n))) (ht : t < 6) : H[ad k]? = some (arrV (ac t) n (mw_av ad σ t k)) := by
  unfold mw_at at h
  rw [hq] at h
  exact h ht
theorem mw_16 (h : mw_R ad D ac base L xs σ H) (hq : σ.1[k]? = some (.inl c)) : 16 ≤ k := by
  obtain ⟨-, -, -, ⟨h0, -⟩, h1⟩ := h
  rcases Nat.lt_or_ge k 16 with g | g
  · rcases Nat.eq_zero_or_pos k with z | z
    · subst z
      rw [h0] at hq
      cases hq
    · rw [h1 k z g] at hq
      cases hq
  · exact g
theorem mw_16a (h : mw_R ad D ac base L xs σ H) (hq : σ.1[k]? = some (.inr (t, n))) (ht : t < 6) : k = 0 ∧ t = 0 ∧ n = L ∨ 16 ≤ k := by
  obtain ⟨-, -, -, ⟨h0, -⟩, h1⟩ := h
  rcases Nat.lt_or_ge k 16 with g | g
  · rcases Nat.eq_zero_or_pos k with z | z
    · subst z
      rw [h0] at hq
      cases hq
      exact Or.inl ⟨rfl, rfl, rfl⟩
    · rw [h1 k z g] at hq
      cases hq
      omega
  · exact Or.inr g
/-- a cell is written, the others stay -/
theorem mw_R_set (h : mw_R (mw_ad b sa base) D ac base L xs σ H) (ha : 16 ≤ a) (hT : σ'.1 = σ.1) (h1 : ∀ q, q ≠ a → σ'.2.1 q = σ.2.1 q) (h2 : ∀ q, q ≠ a → σ'.2.2.1 q = σ.2.2.1 q) (h3 : ∀ q, q ≠ a → σ'.2.2.2 q = σ.2.2.2 q) (hz : H'.size = H.size) (ho : ∀ q : Nat, q ≠ mw_ad b sa base a → H'[q]? = H[q]?) (hn : mw_at (mw_ad b sa base) D ac σ' H' a) : mw_R (mw_ad b sa base) D ac base L xs σ' H' := by
  obtain ⟨g1, g2, g3, g4, g5⟩ := h
  refine ⟨fun k hk => ?_, by rw [hT]; exact g2, by rw [hT, hz]; exact g3, ⟨by rw [hT]; exact g4.1, fun j hj => ?_⟩, fun k h5 h6 => by rw [hT]; exact g5 k h5 h6⟩
  · by_cases e : k = a
    · subst e
      exact hn
    · exact mw_at_keep (g1 k hk) (by rw [hT]) (h1 k e) (h2 k e) (h3 k e) (ho _ (mw_ad_ne hk ha e))
  · rw [h1 0 (by omega)]
    exact g4.2 j hj
theorem mv_up_ne {α : Type} {f : Nat → Nat → α} {x : Nat} {v : α} (hn : k ≠ a) : mv_up f a x v k = f k := by
  funext y
  simp [mv_up, hn]
theorem mv_uf_ne {α : Type} {f : Nat → Nat → α} {g : Nat → α} (hn : k ≠ a) : mv_uf f a g k = f k := by
  funext y
  simp [mv_uf, hn]
theorem mv_uf_self {α : Type} {f : Nat → Nat → α} {g : Nat → α} : mv_uf f a g a = g := by
  funext y
  simp [mv_uf]
end MH
section MF
variable {p : Program} {l : Launch} {e : Env} {R : Room} {s : State} {m : MethodId} {args : Array Value} {below : List Frame} {meth : Method} {c : Code} {own : String} {cc : ByteArray} {nL rt : Nat} {D : va_G} {ac sa : Nat → Nat} {b L : Nat} {xs : Nat → Int32} {base : Nat} {Q : State → Prop}
variable {H : Heap} {locs : List Loc} {ls : Array Slot} {cells slots pc : Nat} {σ : mv_S} {rest : List Value} {a : Nat}
theorem mw_fits {ci f : Nat} {v : Value} {ty : FieldType} (h : mw_okT (mw_fk ci f) ty = true) (hv : (mw_fk ci f = 0 ∧ ∃ x, v = .int x) ∨ (mw_fk ci f = 1 ∧ (v = .int 0 ∨ v = .int 1)) ∨ (mw_fk ci f = 2 ∧ ∃ o, v = va_rf o)) : narrow ty v = v ∧ fits ty v = true := by
  generalize mw_fk ci f = q at h hv
  rcases hv with ⟨rfl, x, rfl⟩ | ⟨rfl, rfl | rfl⟩ | ⟨rfl, o, rfl⟩
  · cases ty <;> simp [mw_okT] at h
    exact ⟨rfl, rfl⟩
  · cases ty <;> simp [mw_okT] at h
    exact ⟨by decide, by decide⟩
  · cases ty <;> simp [mw_okT] at h
    exact ⟨by decide, by decide⟩
  · cases ty <;> simp [mw_okT] at h <;> cases o <;> exact ⟨rfl, rfl⟩
theorem mw_gf (X : mw_X p l R s m args meth c own cc nL rt D ac sa b L xs base) {ci f index : Nat} {r : vw_C} (hr : vwCl[ci]? = some r) (hf : f < r.2.2) (hlink : Cond.fieldLink own index r.1 (r.2.1 f).2.1 (r.2.1 f).2.2.1 ∈ lw_good) (hsame : (r.2.1 f).1 = r.1) (hd : decode cc pc = .ok (.getfield index, 3))
    (hR : mw_R (mw_ad b sa base) D ac base L xs σ H) (hty : σ.1[a]? = some (.inl ci))
    (kk : W p l e R s m args below meth c H locs cells slots Q (F0 m (pc + 3) ls (mw_fv (mw_ad b sa base) σ ci a f :: rest))) : W p l e R s m args below meth c H locs cells slots Q (F0 m pc ls (.ref (mw_ad b sa base a) :: rest)) := by
  obtain ⟨hx, hb, -, hown, hts, hK, -⟩ := X
  obtain ⟨r', hr', cell, q1, q2, q3, q4⟩ := mw_at_obj (hR.1 a (mw_16 hR hty)) hty
  cases hr.symm.trans hr'
  have hin := (mw_clsA hr).1
  obtain ⟨hS, hfc, kC, hkC, hkind⟩ := hK.1 ci _ hr
  obtain ⟨cf, kf, fi, fd, hi, hsl⟩ := hS f hf
  refine W.getf hx hb hown (hts _ hlink) (by rw [← hsame]; exact hi) (u_facts hfc hkC (u_lays hts hin hf) hi).1 q1 (by rw [q3]; exact fun h => by cases h) (v := mw_fv (mw_ad b sa base) σ ci a f) ?_ rfl rfl hd kk
  rw [hsl]
  exact q4 f hf
theorem mw_pf (X : mw_X p l R s m args meth c own cc nL rt D ac sa b L xs base) {ci f index : Nat} {r : vw_C} {v : Value} (hr : vwCl[ci]? = some r) (hf : f < r.2.2) (hlink : Cond.fieldLink own index r.1 (r.2.1 f).2.1 (r.2.1 f).2.2.1 ∈ lw_good) (hsame : (r.2.1 f).1 = r.1) (hfin : (r.2.1 f).2.2.2 = false ∨ (meth.name = "<init>" ∧ r.1 = own))
    (hd : decode cc pc = .ok (.putfield index, 3)) (hv : (mw_fk ci f = 0 ∧ ∃ x, v = .int x) ∨ (mw_fk ci f = 1 ∧ (v = .int 0 ∨ v = .int 1)) ∨ (mw_fk ci f = 2 ∧ ∃ o, v = va_rf o))
    (hR : mw_R (mw_ad b sa base) D ac base L xs σ H) (hS : va_S (fun q => base ≤ q) s.heap H locs) (hty : σ.1[a]? = some (.inl ci)) {σ' : mv_S} (hT : σ'.1 = σ.1) (h1 : ∀ q, q ≠ a → σ'.2.1 q = σ.2.1 q) (h2 : ∀ q, q ≠ a → σ'.2.2.1 q = σ.2.2.1 q) (h3 : σ'.2.2.2 = σ.2.2.2) (hs : ∀ j, updV (mw_fv (mw_ad b sa base) σ ci a) f v j = mw_fv (mw_ad b sa base) σ' ci a j)
    (kk : ∀ (H1 : Heap) (locs1 : List Loc), mw_R (mw_ad b sa base) D ac base L xs σ' H1 → va_S (fun q => base ≤ q) s.heap H1 locs1 → W p l e R s m args below meth c H1 locs1 cells slots Q (F0 m (pc + 3) ls rest)) : W p l e R s m args below meth c H locs cells slots Q (F0 m pc ls (v :: .ref (mw_ad b sa base a) :: rest)) := by
  obtain ⟨hx, hb, -, hown, hts, hK, -⟩ := X
  have h16 := mw_16 hR hty
  obtain ⟨r', hr', cell, q1, q2, q3, q4⟩ := mw_at_obj (hR.1 a h16) hty
  cases hr.symm.trans hr'
  obtain ⟨hin, hpt, hnm, hokT, -⟩ := mw_clsA hr
  have hap := va_apart (own := own) hts hin (mw_fty ci) hpt hnm hK hr
  obtain ⟨hSl, hfc, kC, hkC, hkind⟩ := hK.1 ci _ hr
  obtain ⟨cf, kf, fi, fd, hi, hsl⟩ := hSl f hf
  have hlay := hts _ (hin _ (u_in_lay hf))
  obtain ⟨hn, hfit⟩ := mw_fits (hokT f hf) hv
  have hst := (u_facts hfc hkC (u_lays hts hin hf) hi).1
  have hi' : s.fieldFound? r.1 (r.2.1 f).2.1 (r.2.1 f).2.2.1 = some (cf, kf, fi, fd) := by rw [← hsame]; exact hi
  have fin : ∀ H' : Heap, H'[mw_ad b sa base a]? = some (cell.setSlot fd.slot v) → H'.size = H.size → (∀ q, q ≠ mw_ad b sa base a → H'[q]? = H[q]?) → W p l e R s m args below meth c H' (locs ++ [⟨mw_ad b sa base a, fd.slot⟩]) cells slots Q (F0 m (pc + 3) ls rest) := by
    intro H' e1 e2 e3
    rw [hsl] at e1
    refine kk H' _ (mw_R_set hR h16 hT h1 h2 (fun q _ => by rw [h3]) e2 e3 ?_) (hS.put e2 e3 (by rw [mw_ad_ge h16]; exact Nat.le_add_right _ _))
    unfold mw_at
    rw [hT, hty]
    exact ⟨_, hr, t_OB.to (V := updV (mw_fv (mw_ad b sa base) σ ci a) f v) ⟨_, e1, q2, q3, t_set q4 hap hf v⟩ (fun j _ => hs j)⟩
  unfold u_lay at hlay
  rcases hfin with hfin | ⟨hini, hdecl⟩
  · rw [if_neg (by rw [hfin]; decide)] at hlay
    have h6 := u_store hfc hkC hkind hlay hi (hpt f hf) hn hfit
    exact W.putK hx hb (f := fd) ⟨hown, hts _ hlink, ⟨_, _, _, hi'⟩, hst⟩ (by rw [q2]; exact h6) q1 q3 (by rw [hsl]; exact k2_hasslot (q4 f hf)) rfl rfl hd fin
  · by_cases hfin : (r.2.1 f).2.2.2 = true
    · rw [if_pos hfin] at hlay
      have hcf : m.cls = cf := by
        obtain ⟨_, _, c', _, _, _, -, -, hf', -, -, -, hown2, -⟩ := Cond.laysFinal_spec hlay
        have e1 : c' = cf := by have := hi.symm.trans hf'; simp at this; exact this.1.symm
        rw [hsame, hdecl] at hown2
        rw [← e1]; exact Option.some.inj (hown.symm.trans hown2)
      have h6 := u_fits hfc hkC hkind (Or.inr hlay) hi (hpt f hf) hn hfit
      exact W.putFinK hx hb hown (hts _ hlink) hi' hst hcf hini (by rw [q2]; exact h6) q1 q3 (by rw [hsl]; exact k2_hasslot (q4 f hf)) rfl rfl hd fin
    · rw [if_neg hfin] at hlay
      have h6 := u_store hfc hkC hkind hlay hi (hpt f hf) hn hfit
      exact W.putK hx hb (f := fd) ⟨hown, hts _ hlink, ⟨_, _, _, hi'⟩, hst⟩ (by rw [q2]; exact h6) q1 q3 (by rw [hsl]; exact k2_hasslot (q4 f hf)) rfl rfl hd fin
end MF
end
section
/-! SOUNDNESS of the small machine, 4: arrays -/
theorem mo_ty_inv {σ : mv_S} {a t : Nat} {k : Nat → mv_O} {q : Option mv_V × mv_S} (h : mo_ty σ a t k = some q) : ∃ n, σ.1[a]? = some (.inr (t, n)) ∧ k n = some q := by
  unfold mo_ty at h
  split at h
  · rename_i t' n hq
    split at h
    · rename_i e
      subst e
      exact ⟨n, hq, h⟩
    · cases h
  · cases h
theorem mo_tr_inv {σ : mv_S} {a : Nat} {k : Nat → Nat → mv_O} {q : Option mv_V × mv_S} (h : mo_tr σ a k = some q) : ∃ t n, σ.1[a]? = some (.inr (t, n)) ∧ 3 ≤ t ∧ t ≤ 5 ∧ k t n = some q := by
  unfold mo_tr at h
  split at h
  · rename_i t n hq
    split at h
    · rename_i e
      exact ⟨t, n, hq, e.1, e.2, h⟩
    · cases h
  · cases h
theorem mo_ix_inv {i : Int32} {n : Nat} {k : Nat → mv_O} {q : Option mv_V × mv_S} (h : mo_ix i n k = some q) : ¬ (i < 0 ∨ n ≤ i.toNatClampNeg) ∧ k i.toNatClampNeg = some q := by
  unfold mo_ix at h
  split at h
  · cases h
  · rename_i e
    exact ⟨e, h⟩
theorem mo_own_inv {a : Nat} {k : mv_O} {q : Option mv_V × mv_S} (h : mo_own a k = some q) : 16 ≤ a ∧ k = some q := by
  unfold mo_own at h
  split at h
  · rename_i e
    exact ⟨e, h⟩
  · cases h
theorem mo_z_inv {x : Int32} {k : mv_O} {q : Option mv_V × mv_S} (h : mo_z x k = some q) : (x = 0 ∨ x = 1) ∧ k = some q := by
  unfold mo_z at h
  split at h
  · rename_i e
    exact ⟨e, h⟩
  · cases h
theorem mo_rf_inv {o : Option Nat} {k : Nat → mv_O} {q : Option mv_V × mv_S} (h : mo_rf o k = some q) : ∃ a, o = some a ∧ k a = some q := by
  cases o with
  | none => cases h
  | some a => exact ⟨a, rfl, h⟩
theorem mo_gI_inv {σ : mv_S} {a c f : Nat} {k : Int32 → mv_O} {q : Option mv_V × mv_S} (h : mo_gI σ a c f k = some q) : σ.1[a]? = some (.inl c) ∧ k (σ.2.1 a f) = some q := by
  unfold mo_gI at h
  split at h
  · rename_i e
    exact ⟨e, h⟩
  · cases h
theorem mo_gR_inv {σ : mv_S} {a c f : Nat} {k : Option Nat → mv_O} {q : Option mv_V × mv_S} (h : mo_gR σ a c f k = some q) : σ.1[a]? = some (.inl c) ∧ k (σ.2.2.1 a f) = some q := by
  unfold mo_gR at h
  split at h
  · rename_i e
    exact ⟨e, h⟩
  · cases h
theorem mo_pI_inv {σ : mv_S} {a c f : Nat} {x : Int32} {k : mv_S → mv_O} {q : Option mv_V × mv_S} (h : mo_pI σ a c f x k = some q) : σ.1[a]? = some (.inl c) ∧ k (ms_i σ (mv_up σ.2.1 a f x)) = some q := by
  unfold mo_pI at h
  split at h
  · rename_i e
    exact ⟨e, h⟩
  · cases h
theorem mo_pR_inv {σ : mv_S} {a c f : Nat} {x : Option Nat} {k : mv_S → mv_O} {q : Option mv_V × mv_S} (h : mo_pR σ a c f x k = some q) : σ.1[a]? = some (.inl c) ∧ k (ms_r σ (mv_up σ.2.2.1 a f x)) = some q := by
  unfold mo_pR at h
  split at h
  · rename_i e
    exact ⟨e, h⟩
  · cases h
theorem mw_tysG {ac : Nat → ClassId} {t : Nat} (h : t < 6) : (mw_tys ac)[t]? = some (ac t, mw_kty t) := by simp [mw_tys, h]
theorem mw_av3 {ad : Nat → Nat} {σ : mv_S} {t a y : Nat} (h : 3 ≤ t) : mw_av ad σ t a y = va_rf ((σ.2.2.1 a y).map ad) := by
  unfold mw_av
  rw [if_neg (by omega), if_neg (by omega)]
section MA
variable {p : Program} {l : Launch} {e : Env} {R : Room} {s : State} {m : MethodId} {args : Array Value} {below : List Frame} {meth : Method} {c : Code} {own : String} {cc : ByteArray} {nL rt : Nat} {D : va_G} {ac sa : Nat → Nat} {b L : Nat} {xs : Nat → Int32} {base : Nat} {Q : State → Prop}
variable {H : Heap} {locs : List Loc} {ls : Array Slot} {cells slots pc : Nat} {σ : mv_S} {rest : List Value} {a t n : Nat} {i : Int32}
theorem mw_isA (X : mw_X p l R s m args meth c own cc nL rt D ac sa b L xs base) (ht : t < 6) (n : Nat) (z : Nat → Value) : s.isArrayOf (arrV (ac t) n z) (mw_kty t) := by
  obtain ⟨-, -, -, -, -, hK, -⟩ := X
  exact (hK.2 t (ac t, mw_kty t) (by simp [mw_tys, ht])).1 n z
/-- the array that a numbered cell stands for -/
theorem mw_cell (X : mw_X p l R s m args meth c own cc nL rt D ac sa b L xs base) (hR : mw_R (mw_ad b sa base) D ac base L xs σ H) (hS : va_S (fun q => base ≤ q) s.heap H locs) (hq : σ.1[a]? = some (.inr (t, n))) (ht : t < 6) :
    ∃ cell : Cell, H[mw_ad b sa base a]? = some cell ∧ s.isArrayOf cell (mw_kty t) ∧ cell.vm ≠ .unknown ∧ cell.slots.size = n ∧ ∀ j, j < n → cell.slots[j]? = some (mw_av (mw_ad b sa base) σ t a j) := by
  rcases mw_16a hR hq ht with ⟨rfl, rfl, rfl⟩ | h16
  · obtain ⟨-, -, -, -, -, -, hbs, ⟨scr, g1, g2, g3, g4, g5⟩, hbb, -⟩ := X
    refine ⟨scr, ?_, g2, g3, g4, fun j hj => ?_⟩
    · show H[b]? = some scr
      rw [hS.2.1 b (Nat.lt_of_lt_of_le hbb hbs) (Nat.not_le.mpr hbb)]
      exact g1
    · rw [g5 j hj, ← hR.2.2.2.1.2 j hj]
      rfl
  · exact ⟨_, mw_at_arr (hR.1 a h16) hq ht, mw_isA X ht _ _, fun h => (by cases h), arrV_size _ _ _, fun j hj => arrV_read _ _ hj⟩
theorem mw_iald (X : mw_X p l R s m args meth c own cc nL rt D ac sa b L xs base) (hR : mw_R (mw_ad b sa base) D ac base L xs σ H) (hS : va_S (fun q => base ≤ q) s.heap H locs) (hq : σ.1[a]? = some (.inr (0, n))) (hin : ¬ (i < 0 ∨ n ≤ i.toNatClampNeg)) (hd : decode cc pc = .ok (.iaload, 1))
    (kk : W p l e R s m args below meth c H locs cells slots Q (F0 m (pc + 1) ls (.int (σ.2.1 a i.toNatClampNeg) :: rest))) : W p l e R s m args below meth c H locs cells slots Q (F0 m pc ls (.int i :: .ref (mw_ad b sa base a) :: rest)) := by
  obtain ⟨cell, g1, g2, g3, g4, g5⟩ := mw_cell X hR hS hq (by omega)
  exact W.iald X.1 X.2.1 g1 g2 g3 (by rw [g4]; exact hin) (g5 _ (by omega)) rfl rfl hd kk
theorem mw_zald (X : mw_X p l R s m args meth c own cc nL rt D ac sa b L xs base) (hR : mw_R (mw_ad b sa base) D ac base L xs σ H) (hS : va_S (fun q => base ≤ q) s.heap H locs) (hq : σ.1[a]? = some (.inr (1, n))) (hin : ¬ (i < 0 ∨ n ≤ i.toNatClampNeg)) (hd : decode cc pc = .ok (.baload, 1))
    (kk : W p l e R s m args below meth c H locs cells slots Q (F0 m (pc + 1) ls (.int (σ.2.1 a i.toNatClampNeg) :: rest))) : W p l e R s m args below meth c H locs cells slots Q (F0 m pc ls (.int i :: .ref (mw_ad b sa base a) :: rest)) := by
  obtain ⟨cell, g1, g2, g3, g4, g5⟩ := mw_cell X hR hS hq (by omega)
  exact W.zald X.1 X.2.1 g1 g2 g3 (by rw [g4]; exact hin) (g5 _ (by omega)) rfl rfl hd kk
theorem mw_lald (X : mw_X p l R s m args meth c own cc nL rt D ac sa b L xs base) (hR : mw_R (mw_ad b sa base) D ac base L xs σ H) (hS : va_S (fun q => base ≤ q) s.heap H locs) (hq : σ.1[a]? = some (.inr (2, n))) (hin : ¬ (i < 0 ∨ n ≤ i.toNatClampNeg)) (hd : decode cc pc = .ok (.laload, 1))
    (kk : W p l e R s m args below meth c H locs cells slots Q (F0 m (pc + 1) ls (.long (σ.2.2.2 a i.toNatClampNeg) :: rest))) : W p l e R s m args below meth c H locs cells slots Q (F0 m pc ls (.int i :: .ref (mw_ad b sa base a) :: rest)) := by
  obtain ⟨cell, g1, g2, g3, g4, g5⟩ := mw_cell X hR hS hq (by omega)
  exact W.lald X.1 X.2.1 g1 g2 g3 (by rw [g4]; exact hin) (g5 _ (by omega)) rfl rfl hd kk
theorem mw_kref {t : Nat} (h : 3 ≤ t) : (mw_kty t).isReference = true := by
  match t, h with
  | 3, _ => rfl
  | 4, _ => rfl
  | t + 5, _ => rfl
theorem mw_aald (X : mw_X p l R s m args meth c own cc nL rt D ac sa b L xs base) (hR : mw_R (mw_ad b sa base) D ac base L xs σ H) (hS : va_S (fun q => base ≤ q) s.heap H locs) (hq : σ.1[a]? = some (.inr (t, n))) (h3 : 3 ≤ t) (h5 : t ≤ 5) (hin : ¬ (i < 0 ∨ n ≤ i.toNatClampNeg)) (hd : decode cc pc = .ok (.aaload, 1))
    (kk : W p l e R s m args below meth c H locs cells slots Q (F0 m (pc + 1) ls (va_rf ((σ.2.2.1 a i.toNatClampNeg).map (mw_ad b sa base)) :: rest))) : W p l e R s m args below meth c H locs cells slots Q (F0 m pc ls (.int i :: .ref (mw_ad b sa base a) :: rest)) := by
  obtain ⟨cell, g1, g2, g3, g4, g5⟩ := mw_cell X hR hS hq (by omega)
  have hv := g5 i.toNatClampNeg (by omega)
  unfold mw_av at hv
  rw [if_neg (by omega), if_neg (by omega)] at hv
  exact W.aald X.1 X.2.1 g1 g2 (mw_kref h3) g3 (by rw [g4]; exact hin) hv rfl rfl hd kk
theorem mw_alen (X : mw_X p l R s m args meth c own cc nL rt D ac sa b L xs base) (hR : mw_R (mw_ad b sa base) D ac base L xs σ H) (hS : va_S (fun q => base ≤ q) s.heap H locs) (hq : σ.1[a]? = some (.inr (t, n))) (h6 : t < 6) (hd : decode cc pc = .ok (.arraylength, 1))
    (kk : W p l e R s m args below meth c H locs cells slots Q (F0 m (pc + 1) ls (.int (nI n) :: rest))) : W p l e R s m args below meth c H locs cells slots Q (F0 m pc ls (.ref (mw_ad b sa base a) :: rest)) := by
  obtain ⟨cell, g1, g2, g3, g4, g5⟩ := mw_cell X hR hS hq h6
  exact W.alen X.1 X.2.1 g1 g2 (n := nI n) (by rw [g4]; rfl) rfl rfl hd kk
/-- a place of an array is written -/
theorem mw_st (hR : mw_R (mw_ad b sa base) D ac base L xs σ H) (hS : va_S (fun q => base ≤ q) s.heap H locs) (hq : σ.1[a]? = some (.inr (t, n))) (ht : t < 6) (h16 : 16 ≤ a) {j : Nat} {v : Value} {H' : Heap} {σ' : mv_S} (hT : σ'.1 = σ.1) (h1 : ∀ q, q ≠ a → σ'.2.1 q = σ.2.1 q) (h2 : ∀ q, q ≠ a → σ'.2.2.1 q = σ.2.2.1 q) (h3 : ∀ q, q ≠ a → σ'.2.2.2 q = σ.2.2.2 q) (hv : ∀ y, updV (mw_av (mw_ad b sa base) σ t a) j v y = mw_av (mw_ad b sa base) σ' t a y)
    (e1 : H'[mw_ad b sa base a]? = some ((arrV (ac t) n (mw_av (mw_ad b sa base) σ t a)).setSlot j v)) (e2 : H'.size = H.size) (e3 : ∀ q, q ≠ mw_ad b sa base a → H'[q]? = H[q]?) :
    mw_R (mw_ad b sa base) D ac base L xs σ' H' ∧ va_S (fun q => base ≤ q) s.heap H' (locs ++ [⟨mw_ad b sa base a, j⟩]) := by
  refine ⟨mw_R_set hR h16 hT h1 h2 h3 e2 e3 ?_, hS.put e2 e3 (by rw [mw_ad_ge h16]; exact Nat.le_add_right _ _)⟩
  unfold mw_at
  rw [hT, hq]
  intro _
  show H'[mw_ad b sa base a]? = _
  rw [e1, arrV_store]
  exact congrArg (fun f => some (arrV (ac t) n f)) (funext hv)
theorem mw_iast (X : mw_X p l R s m args meth c own cc nL rt D ac sa b L xs base) (hR : mw_R (mw_ad b sa base) D ac base L xs σ H) (hS : va_S (fun q => base ≤ q) s.heap H locs) (hq : σ.1[a]? = some (.inr (0, n))) (h16 : 16 ≤ a) {x : Int32} (hin : ¬ (i < 0 ∨ n ≤ i.toNatClampNeg)) (hd : decode cc pc = .ok (.iastore, 1))
    (kk : ∀ (H1 : Heap) (locs1 : List Loc), mw_R (mw_ad b sa base) D ac base L xs (ms_i σ (mv_up σ.2.1 a i.toNatClampNeg x)) H1 → va_S (fun q => base ≤ q) s.heap H1 locs1 → W p l e R s m args below meth c H1 locs1 cells slots Q (F0 m (pc + 1) ls rest)) : W p l e R s m args below meth c H locs cells slots Q (F0 m pc ls (.int x :: .int i :: .ref (mw_ad b sa base a) :: rest)) := by
  refine W.iast X.1 X.2.1 (mw_at_arr (hR.1 a h16) hq (by omega)) (mw_isA X (by omega) _ _) (fun h => by cases h) (by rw [arrV_size]; exact hin) rfl rfl hd fun H' e1 e2 e3 => ?_
  obtain ⟨g1, g2⟩ := mw_st (σ' := ms_i σ (mv_up σ.2.1 a i.toNatClampNeg x)) hR hS hq (by omega) h16 rfl (fun q hq => mv_up_ne hq) (fun _ _ => rfl) (fun _ _ => rfl) (fun y => by
    simp only [updV, mw_av, mv_up]
    by_cases e : y = i.toNatClampNeg <;> simp [e]) e1 e2 e3
  exact kk H' _ g1 g2
theorem mw_zast (X : mw_X p l R s m args meth c own cc nL rt D ac sa b L xs base) (hR : mw_R (mw_ad b sa base) D ac base L xs σ H) (hS : va_S (fun q => base ≤ q) s.heap H locs) (hq : σ.1[a]? = some (.inr (1, n))) (h16 : 16 ≤ a) {x : Int32} (hx : x = 0 ∨ x = 1) (hin : ¬ (i < 0 ∨ n ≤ i.toNatClampNeg)) (hd : decode cc pc = .ok (.bastore, 1))
    (kk : ∀ (H1 : Heap) (locs1 : List Loc), mw_R (mw_ad b sa base) D ac base L xs (ms_i σ (mv_up σ.2.1 a i.toNatClampNeg x)) H1 → va_S (fun q => base ≤ q) s.heap H1 locs1 → W p l e R s m args below meth c H1 locs1 cells slots Q (F0 m (pc + 1) ls rest)) : W p l e R s m args below meth c H locs cells slots Q (F0 m pc ls (.int x :: .int i :: .ref (mw_ad b sa base a) :: rest)) := by
  refine W.zast X.1 X.2.1 (mw_at_arr (hR.1 a h16) hq (by omega)) (mw_isA X (t := 1) (by omega) _ _) (fun h => by cases h) (by rw [arrV_size]; exact hin) rfl rfl hd fun H' e1 e2 e3 => ?_
  have hn : narrow .boolean (.int x) = .int x := by rcases hx with rfl | rfl <;> decide
  rw [hn] at e1
  obtain ⟨g1, g2⟩ := mw_st (σ' := ms_i σ (mv_up σ.2.1 a i.toNatClampNeg x)) hR hS hq (by omega) h16 rfl (fun q hq => mv_up_ne hq) (fun _ _ => rfl) (fun _ _ => rfl) (fun y => by
    simp only [updV, mw_av, mv_up]
    by_cases e : y = i.toNatClampNeg <;> simp [e]) e1 e2 e3
  exact kk H' _ g1 g2
theorem mw_last (X : mw_X p l R s m args meth c own cc nL rt D ac sa b L xs base) (hR : mw_R (mw_ad b sa base) D ac base L xs σ H) (hS : va_S (fun q => base ≤ q) s.heap H locs) (hq : σ.1[a]? = some (.inr (2, n))) (h16 : 16 ≤ a) {x : Int64} (hin : ¬ (i < 0 ∨ n ≤ i.toNatClampNeg)) (hd : decode cc pc = .ok (.lastore, 1))
    (kk : ∀ (H1 : Heap) (locs1 : List Loc), mw_R (mw_ad b sa base) D ac base L xs (ms_l σ (mv_up σ.2.2.2 a i.toNatClampNeg x)) H1 → va_S (fun q => base ≤ q) s.heap H1 locs1 → W p l e R s m args below meth c H1 locs1 cells slots Q (F0 m (pc + 1) ls rest)) : W p l e R s m args below meth c H locs cells slots Q (F0 m pc ls (.long x :: .int i :: .ref (mw_ad b sa base a) :: rest)) := by
  refine W.last X.1 X.2.1 (mw_at_arr (hR.1 a h16) hq (by omega)) (mw_isA X (t := 2) (by omega) _ _) (fun h => by cases h) (by rw [arrV_size]; exact hin) rfl rfl hd fun H' e1 e2 e3 => ?_
  obtain ⟨g1, g2⟩ := mw_st (σ' := ms_l σ (mv_up σ.2.2.2 a i.toNatClampNeg x)) hR hS hq (by omega) h16 rfl (fun _ _ => rfl) (fun _ _ => rfl) (fun q hq => mv_up_ne hq) (fun y => by
    simp only [updV, mw_av, mv_up]
    by_cases e : y = i.toNatClampNeg <;> simp [e]) e1 e2 e3
  exact kk H' _ g1 g2
theorem mw_kty_obj (h3 : 3 ≤ t) (h5 : t ≤ 5) (hn : t ≠ 5) : ∃ (C : String) (r : vw_C), mw_kty t = .object C ∧ vwCl[mv_el t]? = some r ∧ r.1 = C := by
  have h : t = 3 ∨ t = 4 := by omega
  rcases h with rfl | rfl
  · exact ⟨_, _, rfl, rfl, rfl⟩
  · exact ⟨_, _, rfl, rfl, rfl⟩
theorem mw_aastN (X : mw_X p l R s m args meth c own cc nL rt D ac sa b L xs base) (hR : mw_R (mw_ad b sa base) D ac base L xs σ H) (hS : va_S (fun q => base ≤ q) s.heap H locs) (hq : σ.1[a]? = some (.inr (t, n))) (h3 : 3 ≤ t) (h5 : t ≤ 5) (hn5 : t ≠ 5) (h16 : 16 ≤ a) (hin : ¬ (i < 0 ∨ n ≤ i.toNatClampNeg)) (hd : decode cc pc = .ok (.aastore, 1))
    (kk : ∀ (H1 : Heap) (locs1 : List Loc), mw_R (mw_ad b sa base) D ac base L xs (ms_r σ (mv_up σ.2.2.1 a i.toNatClampNeg none)) H1 → va_S (fun q => base ≤ q) s.heap H1 locs1 → W p l e R s m args below meth c H1 locs1 cells slots Q (F0 m (pc + 1) ls rest)) : W p l e R s m args below meth c H locs cells slots Q (F0 m pc ls (.null :: .int i :: .ref (mw_ad b sa base a) :: rest)) := by
  obtain ⟨C, r, hC, hr, -⟩ := mw_kty_obj h3 h5 hn5
  have hA := mw_isA X (t := t) (by omega) n (mw_av (mw_ad b sa base) σ t a)
  rw [hC] at hA
  refine va_WaastN X.1 X.2.1 (mw_at_arr (hR.1 a h16) hq (by omega)) hA (fun h => by cases h) (by rw [arrV_size]; exact hin) rfl rfl hd fun H' e1 e2 e3 => ?_
  obtain ⟨g1, g2⟩ := mw_st (σ' := ms_r σ (mv_up σ.2.2.1 a i.toNatClampNeg none)) hR hS hq (by omega) h16 rfl (fun _ _ => rfl) (fun q hq => mv_up_ne hq) (fun _ _ => rfl) (fun y => by
    rw [mw_av3 h3]
    unfold updV
    by_cases e : y = i.toNatClampNeg
    · simp [e, mv_up, va_rf]
    · rw [if_neg e, mw_av3 h3]
      simp [mv_up, e]) e1 e2 e3
  exact kk H' _ g1 g2
theorem mw_aast (X : mw_X p l R s m args meth c own cc nL rt D ac sa b L xs base) (hR : mw_R (mw_ad b sa base) D ac base L xs σ H) (hS : va_S (fun q => base ≤ q) s.heap H locs) (hq : σ.1[a]? = some (.inr (t, n))) (h3 : 3 ≤ t) (h5 : t ≤ 5) (hn5 : t ≠ 5) (h16 : 16 ≤ a) {o : Nat} (ho : σ.1[o]? = some (.inl (mv_el t))) (hin : ¬ (i < 0 ∨ n ≤ i.toNatClampNeg)) (hd : decode cc pc = .ok (.aastore, 1))
    (kk : ∀ (H1 : Heap) (locs1 : List Loc), mw_R (mw_ad b sa base) D ac base L xs (ms_r σ (mv_up σ.2.2.1 a i.toNatClampNeg (some o))) H1 → va_S (fun q => base ≤ q) s.heap H1 locs1 → W p l e R s m args below meth c H1 locs1 cells slots Q (F0 m (pc + 1) ls rest)) : W p l e R s m args below meth c H locs cells slots Q (F0 m pc ls (.ref (mw_ad b sa base o) :: .int i :: .ref (mw_ad b sa base a) :: rest)) := by
  obtain ⟨C, r, hC, hr, hrC⟩ := mw_kty_obj h3 h5 hn5
  obtain ⟨-, -, -, -, -, hK, -⟩ := id X
  obtain ⟨r', hr', cellV, g1, g2, g3, -⟩ := mw_at_obj (hR.1 o (mw_16 hR ho)) ho
  have hcls := (hK.1 _ r hr).2
  obtain ⟨-, hRA⟩ := hK.2 t (ac t, mw_kty t) (mw_tysG (by omega))
  rw [hC] at hRA
  obtain ⟨kA, comp, k1, k2, k3, -⟩ := hRA
  rw [← hrC] at k2 k3
  have hcomp : comp = D.1 (mv_el t) := Option.some.inj (k3.symm.trans hcls.1)
  subst hcomp
  obtain ⟨kC, hkC, -⟩ := hcls.2
  refine W.aast X.1 X.2.1 (mw_at_arr (hR.1 a h16) hq (by omega)) (fun q h => by cases h) (fun h => by cases h) k1 k2 rfl hkC ⟨fun h => hin (Or.inl h), by rw [arrV_size]; omega⟩ g1 (fun q h => by rw [g3] at h; cases h) (by rw [g2]; exact hkC) (by rw [g2]; exact va_assign hcls) rfl rfl hd fun H' e1 e2 e3 => ?_
  obtain ⟨g1, g2⟩ := mw_st (σ' := ms_r σ (mv_up σ.2.2.1 a i.toNatClampNeg (some o))) hR hS hq (by omega) h16 rfl (fun _ _ => rfl) (fun q hq => mv_up_ne hq) (fun _ _ => rfl) (fun y => by
    rw [mw_av3 h3]
    unfold updV
    by_cases e : y = i.toNatClampNeg
    · simp [e, mv_up, va_rf]
    · rw [if_neg e, mw_av3 h3]
      simp [mv_up, e]) e1 e2 e3
  exact kk H' _ g1 g2
end MA
end
section
/-! SOUNDNESS of the small machine, 5: what is made anew -/
theorem mw_sz_app (a b : List mv_T) : mw_sz (a ++ b) = mw_sz a + mw_sz b := by
  simp [mw_sz, List.map_append, List.sum_append]
theorem mw_sz_le {a b : List mv_T} (h : a <+: b) : mw_sz a ≤ mw_sz b ∧ a.length ≤ b.length := by
  obtain ⟨t, rfl⟩ := h
  rw [mw_sz_app, List.length_append]
  omega
section MN
variable {sa : Nat → Nat} {D : va_G} {ac : Nat → ClassId} {base b L : Nat} {xs : Nat → Int32} {σ σ' : mv_S} {H H' : Heap} {x : mv_T}
theorem mw_ad_len (h : mw_R (mw_ad b sa base) D ac base L xs σ H) : mw_ad b sa base σ.1.length = H.size := by
  rw [mw_ad_ge h.2.1, h.2.2.1]
/-- a cell more -/
theorem mw_R_push (h : mw_R (mw_ad b sa base) D ac base L xs σ H) (hT : σ'.1 = σ.1 ++ [x]) (h1 : ∀ q, q ≠ σ.1.length → σ'.2.1 q = σ.2.1 q) (h2 : ∀ q, q ≠ σ.1.length → σ'.2.2.1 q = σ.2.2.1 q) (h3 : ∀ q, q ≠ σ.1.length → σ'.2.2.2 q = σ.2.2.2 q) (hz : H'.size = H.size + 1) (ho : ∀ q : Nat, q < H.size → H'[q]? = H[q]?) (hn : mw_at (mw_ad b sa base) D ac σ' H' σ.1.length) : mw_R (mw_ad b sa base) D ac base L xs σ' H' := by
  obtain ⟨g1, g2, g3, g4, g5⟩ := h
  have hl : σ'.1.length = σ.1.length + 1 := by rw [hT, List.length_append]; rfl
  have hT' : ∀ k, k < σ.1.length → σ'.1[k]? = σ.1[k]? := fun k hk => by rw [hT, List.getElem?_append_left hk]
  refine ⟨fun k hk => ?_, by omega, by omega, ⟨by rw [hT' 0 (by omega)]; exact g4.1, fun j hj => ?_⟩, fun k h5 h6 => by rw [hT' k (by omega)]; exact g5 k h5 h6⟩
  · rcases Nat.lt_trichotomy k σ.1.length with e | e | e
    · exact mw_at_keep (g1 k hk) (hT' k e) (h1 k (by omega)) (h2 k (by omega)) (h3 k (by omega)) (ho _ (by rw [mw_ad_ge hk, g3]; omega))
    · subst e
      exact hn
    · unfold mw_at
      rw [List.getElem?_eq_none (by omega)]
      trivial
  · rw [h1 0 (by omega)]
    exact g4.2 j hj
end MN
section MO
variable {p : Program} {l : Launch} {e : Env} {R : Room} {s : State} {m : MethodId} {args : Array Value} {below : List Frame} {meth : Method} {c : Code} {own : String} {cc : ByteArray} {nL rt : Nat} {D : va_G} {ac sa : Nat → Nat} {b L : Nat} {xs : Nat → Int32} {base : Nat} {Q : State → Prop}
variable {H : Heap} {locs : List Loc} {ls : Array Slot} {cells slots pc : Nat} {σ : mv_S} {rest : List Value} {a t n : Nat} {i : Int32}
theorem mw_S_push {H' : Heap} (hS : va_S (fun q => base ≤ q) s.heap H locs) (hz : H'.size = H.size + 1) (ho : ∀ q : Nat, q < H.size → H'[q]? = H[q]?) : va_S (fun q => base ≤ q) s.heap H' locs :=
  ⟨Nat.le_trans hS.1 (by omega), fun x h1 h2 => (ho x (Nat.lt_of_lt_of_le h1 hS.1)).trans (hS.2.1 x h1 h2), hS.2.2⟩
theorem mw_acI (X : mw_X p l R s m args meth c own cc nL rt D ac sa b L xs base) {t : Nat} (ht : t < 3) {cA : ClassId} (h : s.vm.findClass ("[" ++ (mw_kty t).toString) = some cA) : cA = ac t := by
  obtain ⟨-, -, -, -, -, hK, -⟩ := X
  obtain ⟨-, hA⟩ := hK.2 t (ac t, mw_kty t) (mw_tysG (by omega))
  match t, ht with
  | 0, _ => exact Option.some.inj (h.symm.trans hA)
  | 1, _ => exact Option.some.inj (h.symm.trans hA)
  | 2, _ => exact Option.some.inj (h.symm.trans hA)
theorem mw_av0 {ad : Nat → Nat} {σ : mv_S} {t n : Nat} (ht : t < 3) : mw_av ad (mv_na σ t n) t σ.1.length = fun _ => defaultValue (mw_kty t) := by
  funext y
  match t, ht with
  | 0, _ => simp [mw_av, mv_na, mv_uf, mw_kty]; rfl
  | 1, _ => simp [mw_av, mv_na, mv_uf, mw_kty]; rfl
  | 2, _ => simp [mw_av, mv_na, mv_uf, mw_kty]; rfl
theorem mw_avR {ad : Nat → Nat} {σ : mv_S} {t n : Nat} (ht : 3 ≤ t) : mw_av ad (mv_na σ t n) t σ.1.length = fun _ => Value.null := by
  funext y
  simp only [mw_av, mv_na, mv_uf]
  rw [if_neg (by omega), if_neg (by omega)]
  simp [va_rf]
theorem mw_R_na {H' : Heap} (hR : mw_R (mw_ad b sa base) D ac base L xs σ H) (e1 : H'[H.size]? = some (arrV (ac t) n (mw_av (mw_ad b sa base) (mv_na σ t n) t σ.1.length))) (hz : H'.size = H.size + 1) (ho : ∀ q : Nat, q < H.size → H'[q]? = H[q]?) : mw_R (mw_ad b sa base) D ac base L xs (mv_na σ t n) H' := by
  refine mw_R_push hR (x := .inr (t, n)) rfl (fun q hq => mv_uf_ne hq) (fun q hq => mv_uf_ne hq) (fun q hq => mv_uf_ne hq) hz ho ?_
  unfold mw_at
  rw [show (mv_na σ t n).1[σ.1.length]? = some (.inr (t, n)) by simp [mv_na]]
  intro _
  show H'[mw_ad b sa base σ.1.length]? = _
  rw [mw_ad_len hR]
  exact e1
theorem mw_newa (X : mw_X p l R s m args meth c own cc nL rt D ac sa b L xs base) {at' : ArrayType} (ht : t < 3) (hty : newarray.typeOf at' = mw_kty t) (harr : Cond.arrayClass (mw_kty t) ∈ lw_good) (hR : mw_R (mw_ad b sa base) D ac base L xs σ H) (hS : va_S (fun q => base ≤ q) s.heap H locs) (hin : ¬ (i < 0 ∨ 1000 ≤ i.toNatClampNeg)) (hd : decode cc pc = .ok (.newarray at', 2)) (hcells : cells + 1 ≤ R.cells) (hslots : slots + i.toNatClampNeg ≤ R.slots)
    (kk : ∀ (H1 : Heap) (locs1 : List Loc), mw_R (mw_ad b sa base) D ac base L xs (mv_na σ t i.toNatClampNeg) H1 → va_S (fun q => base ≤ q) s.heap H1 locs1 → W p l e R s m args below meth c H1 locs1 (cells + 1) (slots + i.toNatClampNeg) Q (F0 m (pc + 2) ls (.ref (mw_ad b sa base σ.1.length) :: rest))) : W p l e R s m args below meth c H locs cells slots Q (F0 m pc ls (.int i :: rest)) := by
  refine va_newaK X.1 X.2.1 (atype := at') (by rw [hty]; exact X.2.2.2.2.1 _ harr) rfl hd rfl (fun h => hin (Or.inl h)) rfl ?_ hcells hslots rfl fun H1 cA e1 z1 o1 hAr hNm => ?_
  · have h1 : i.toNatClampNeg ≤ 1000 := by omega
    have h2 : componentBytes (newarray.typeOf at') ≤ 8 := by cases at' <;> decide
    exact Nat.le_trans (Nat.mul_le_mul h1 h2) (by decide)
  · rw [hty] at e1 hNm
    have hc := mw_acI X ht hNm
    subst hc
    have k2 := kk H1 locs (mw_R_na hR (by rw [mw_av0 ht]; exact e1) z1 o1) (mw_S_push hS z1 o1)
    rw [mw_ad_len hR] at k2
    exact k2
/-- new of an array of objects -/
theorem mw_anew (X : mw_X p l R s m args meth c own cc nL rt D ac sa b L xs base) {C : String} {index : Nat} (h3 : 3 ≤ t) (h4 : t ≤ 4) (hC : mw_kty t = .object C) (hlink : Cond.classLink own index C ∈ lw_good) (hover : va_AO C s) (hR : mw_R (mw_ad b sa base) D ac base L xs σ H) (hS : va_S (fun q => base ≤ q) s.heap H locs) (hin : ¬ (i < 0 ∨ 1000 ≤ i.toNatClampNeg)) (hd : decode cc pc = .ok (.anewarray index, 3)) (hcells : cells + 1 ≤ R.cells) (hslots : slots + i.toNatClampNeg ≤ R.slots)
    (kk : ∀ (H1 : Heap) (locs1 : List Loc), mw_R (mw_ad b sa base) D ac base L xs (mv_na σ t i.toNatClampNeg) H1 → va_S (fun q => base ≤ q) s.heap H1 locs1 → W p l e R s m args below meth c H1 locs1 (cells + 1) (slots + i.toNatClampNeg) Q (F0 m (pc + 3) ls (.ref (mw_ad b sa base σ.1.length) :: rest))) : W p l e R s m args below meth c H locs cells slots Q (F0 m pc ls (.int i :: rest)) := by
  refine W.anew X.1 X.2.1 X.2.2.2.1 (X.2.2.2.2.1 _ hlink) (va_AO.use hover) rfl hd rfl (fun h => hin (Or.inl h)) (by omega) hcells hslots fun cA kA comp f1 f2 f3 f4 => ?_
  have hc : cA = ac t := by
    obtain ⟨-, -, -, -, -, hK, -⟩ := X
    obtain ⟨-, hA⟩ := hK.2 t (ac t, mw_kty t) (mw_tysG (by omega))
    rw [hC] at hA
    obtain ⟨_, _, -, -, -, q⟩ := hA
    exact Option.some.inj (f1.symm.trans q)
  subst hc
  generalize hH1 : H.push ({ cls := ac t, slots := Array.replicate i.toNatClampNeg .null, vm := .none } : Cell) = H1
  have z1 : H1.size = H.size + 1 := by rw [← hH1, Array.size_push]
  have e1 : H1[H.size]? = some (arrV (ac t) i.toNatClampNeg (fun _ => .null)) := by rw [← hH1, Array.getElem?_push_size, ← arrV_new]
  have o1 : ∀ q : Nat, q < H.size → H1[q]? = H[q]? := fun q hq => by rw [← hH1, Array.getElem?_push, if_neg (Nat.ne_of_lt hq)]
  have k2 := kk H1 locs (mw_R_na hR (by rw [mw_avR h3]; exact e1) z1 o1) (mw_S_push hS z1 o1)
  rw [mw_ad_len hR] at k2
  exact k2
theorem mw_fv0 {ad : Nat → Nat} {σ : mv_S} {ci k : Nat} {ty : FieldType} (h : mw_okT (mw_fk ci k) ty = true) : defaultValue ty = mw_fv ad (mv_no σ ci) ci σ.1.length k := by
  unfold mw_fv mv_no mv_uf
  generalize mw_fk ci k = q at h
  simp only [if_pos]
  match q, ty, h with
  | 0, .int, _ => rfl
  | 1, .boolean, _ => rfl
  | 2, .object _, _ => rfl
  | 2, .array _, _ => rfl
theorem mw_new (X : mw_X p l R s m args meth c own cc nL rt D ac sa b L xs base) {ci index : Nat} {r : vw_C} (hr : vwCl[ci]? = some r) (h1 : Cond.classLink own index r.1 ∈ lw_good) (h2 : Cond.instantiable r.1 r.2.2 ∈ lw_good) (h3 : Cond.initialized r.1 ∈ lw_good) (hR : mw_R (mw_ad b sa base) D ac base L xs σ H) (hS : va_S (fun q => base ≤ q) s.heap H locs) (hd : decode cc pc = .ok (.new index, 3)) (hcells : cells + 1 ≤ R.cells) (hslots : slots + r.2.2 ≤ R.slots)
    (kk : ∀ (H1 : Heap) (locs1 : List Loc), mw_R (mw_ad b sa base) D ac base L xs (mv_no σ ci) H1 → va_S (fun q => base ≤ q) s.heap H1 locs1 → W p l e R s m args below meth c H1 locs1 (cells + 1) (slots + r.2.2) Q (F0 m (pc + 3) ls (.ref (mw_ad b sa base σ.1.length) :: rest))) : W p l e R s m args below meth c H locs cells slots Q (F0 m pc ls rest) := by
  obtain ⟨hx, hb, -, hown, hts, hK, -⟩ := X
  obtain ⟨hin, hpt, -, hokT, -⟩ := mw_clsA hr
  have hKn := hK.1 ci _ hr
  refine W.newcK hx hb hown (hts _ h1) (hts _ h2) (hts _ h3) rfl hd hcells hslots hKn.2.1 rfl fun H1 kC hkC e1 z1 o1 => ?_
  have k2 := kk H1 locs (mw_R_push hR (x := .inl ci) rfl (fun q hq => mv_uf_ne hq) (fun q hq => mv_uf_ne hq) (fun q hq => rfl) z1 o1 ?_) (mw_S_push hS z1 o1)
  · rw [mw_ad_len hR] at k2
    exact k2
  · unfold mw_at
    rw [show (mv_no σ ci).1[σ.1.length]? = some (.inl ci) by simp [mv_no]]
    refine ⟨r, hr, ?_⟩
    rw [mw_ad_len hR]
    exact (u_born (mw_fty ci) hts hin hKn hkC e1 hpt).to fun k hk => mw_fv0 (hokT k hk)
theorem mw_acopy (X : mw_X p l R s m args meth c own cc nL rt D ac sa b L xs base) {index : Nat} (h1 : Cond.methodLink own index arraycopyName ∈ lw_good) (h2 : Cond.native arraycopyName ∈ lw_good) (h3 : Cond.static arraycopyName ∈ lw_good) (h4 : Cond.initialized "java/lang/System" ∈ lw_good) (hsz : ls.size = nL) (hR : mw_R (mw_ad b sa base) D ac base L xs σ H) (hS : va_S (fun q => base ≤ q) s.heap H locs)
    {a0 a1 n0 n1 : Nat} {sp dp n : Int32} (ha0 : 16 ≤ a0) (ha1 : 16 ≤ a1) (q0 : σ.1[a0]? = some (.inr (0, n0))) (q1 : σ.1[a1]? = some (.inr (0, n1))) (g1 : ¬ sp < 0) (g2 : ¬ dp < 0) (g3 : ¬ n < 0) (g4 : sp.toNatClampNeg + n.toNatClampNeg ≤ n0) (g5 : dp.toNatClampNeg + n.toNatClampNeg ≤ n1) (hw : (rest.map fun v => v.category).sum ≤ 8) (hd : decode cc pc = .ok (.invokestatic index, 3))
    (kk : ∀ (H1 : Heap) (locs1 : List Loc), mw_R (mw_ad b sa base) D ac base L xs (ms_i σ (mv_uf σ.2.1 a1 (va_cpy (σ.2.1 a0) (σ.2.1 a1) sp.toNatClampNeg dp.toNatClampNeg n.toNatClampNeg))) H1 → va_S (fun q => base ≤ q) s.heap H1 locs1 → W p l e R s m args below meth c H1 locs1 cells slots Q (F0 m (pc + 3) ls rest)) : W p l e R s m args below meth c H locs cells slots Q (F0 m pc ls (.int n :: .int dp :: .ref (mw_ad b sa base a1) :: .int sp :: .ref (mw_ad b sa base a0) :: rest)) := by
  obtain ⟨hx, hb, hml, hown, hts, hK, -, -, -, ⟨hf, hlo⟩, -⟩ := id X
  have c0 := mw_at_arr (hR.1 a0 ha0) q0 (by omega)
  have c1 := mw_at_arr (hR.1 a1 ha1) q1 (by omega)
  have e0 : mw_av (mw_ad b sa base) σ 0 a0 = fun j => .int (σ.2.1 a0 j) := by funext j; simp [mw_av]
  have e1 : mw_av (mw_ad b sa base) σ 0 a1 = fun j => .int (σ.2.1 a1 j) := by funext j; simp [mw_av]
  rw [e0] at c0
  rw [e1] at c1
  have nn : ∀ z : Int32, ¬ z < 0 → z.toInt = (z.toNatClampNeg : Int) := by
    intro z hz
    have hz0 : (0 : Int) ≤ z.toInt := by
      have := Int32.not_lt.mp hz
      simpa using Int32.le_iff_toInt_le.mp this
    show z.toInt = ((z.toInt.toNat : Nat) : Int)
    omega
  obtain ⟨hs6, k0, hk0, cm0, hkk0⟩ := mw_isA X (t := 0) (by omega) n0 (fun j => .int (σ.2.1 a0 j))
  obtain ⟨hs7, k1, hk1, cm1, hkk1⟩ := mw_isA X (t := 0) (by omega) n1 (fun j => .int (σ.2.1 a1 j))
  have hsl : ∀ j, j < n0 → (arrV (ac 0) n0 (fun j => .int (σ.2.1 a0 j))).slots[j]? = some (.int (σ.2.1 a0 j)) := fun j hj => arrV_read _ _ hj
  intro T hT Xs
  obtain ⟨vm', X', step⟩ := Xs.arraycopy hx hown (hts _ h1) (hts _ h2) (hts _ h3) (hts _ h4) (src := mw_ad b sa base a0) (dst := mw_ad b sa base a1) (cs := arrV (ac 0) n0 (fun j => .int (σ.2.1 a0 j))) (cd := arrV (ac 0) n1 (fun j => .int (σ.2.1 a1 j))) (srcPos := sp) (destPos := dp) (n := n) (by rw [hT]; exact c0) (by rw [hT]; exact c1)
    hs6 (fun _ h => by cases h) (fun h => by cases h) (fun h => by cases h) hk0 hk1 hkk0 hkk1 (by simp [refKind, mw_kty]) g1 g2 g3
    (by rw [nn sp g1, nn n g3, arrV_size]; omega)
    (by rw [nn dp g2, nn n g3, arrV_size]; omega)
    (fun vm₁ _ i hi => by
      have e : (arrV (ac 0) n0 (fun j => .int (σ.2.1 a0 j))).slots.getD (sp.toNatClampNeg + i) .null = .int (σ.2.1 a0 (sp.toNatClampNeg + i)) := by
        rw [Array.getD_eq_getD_getElem?, hsl _ (by omega)]
        rfl
      refine ⟨?_, ?_⟩
      · rw [e]
        rfl
      · rw [e]
        exact trivial)
    (g := F0 m pc ls (.int n :: .int dp :: .ref (mw_ad b sa base a1) :: .int sp :: .ref (mw_ad b sa base a0) :: rest)) rfl (by rw [hml]; exact hsz) (rest := rest) rfl (by rw [hb]; exact hd) (Nat.le_trans (by decide) hf) (by
      have hnw : nativeFrameWords "java/lang/System" "arraycopy" 5 ≤ 40 := by decide +kernel
      show 2 * 0 + _ + _ ≤ _
      omega)
  have ec : copied (arrV (ac 0) n0 (fun j => .int (σ.2.1 a0 j))) (arrV (ac 0) n1 (fun j => .int (σ.2.1 a1 j))) sp dp n = arrV (ac 0) n1 (fun j => .int (va_cpy (σ.2.1 a0) (σ.2.1 a1) sp.toNatClampNeg dp.toNatClampNeg n.toNatClampNeg j)) := va_copiedX (fun z => .int z) _ (ac 0) (σ.2.1 a0) (σ.2.1 a1) hsl g4
  rw [ec] at X' step
  generalize hcd : arrV (ac 0) n1 (fun j => .int (va_cpy (σ.2.1 a0) (σ.2.1 a1) sp.toNatClampNeg dp.toNatClampNeg n.toNatClampNeg j)) = cd at X' step
  have hl : mw_ad b sa base a1 < H.size := (Array.getElem?_eq_some_iff.mp c1).1
  have hheap : ((T.setVm vm').setCell (mw_ad b sa base a1) cd).heap = H.setIfInBounds (mw_ad b sa base a1) cd := by rw [← hT]; rfl
  have oq : ∀ q : Nat, q ≠ mw_ad b sa base a1 → (H.setIfInBounds (mw_ad b sa base a1) cd)[q]? = H[q]? := fun q hq => by simp [Array.getElem?_setIfInBounds, Ne.symm hq]
  have z1 : (H.setIfInBounds (mw_ad b sa base a1) cd).size = H.size := by simp
  obtain ⟨t, s1, s2⟩ := kk _ _ (mw_R_set hR ha1 rfl (fun q hq => mv_uf_ne hq) (fun _ _ => rfl) (fun _ _ => rfl) z1 oq (by
      unfold mw_at
      rw [show (ms_i σ (mv_uf σ.2.1 a1 (va_cpy (σ.2.1 a0) (σ.2.1 a1) sp.toNatClampNeg dp.toNatClampNeg n.toNatClampNeg))).1[a1]? = σ.1[a1]? from rfl, q1]
      intro _
      rw [show (H.setIfInBounds (mw_ad b sa base a1) cd)[mw_ad b sa base a1]? = some cd by simp [Array.getElem?_setIfInBounds, hl], ← hcd]
      refine congrArg (fun f => some (arrV (ac 0) n1 f)) (funext fun j => ?_)
      simp only [mw_av, mv_uf_self]
      rfl)) ⟨by rw [z1]; exact hS.1, fun q g1 g2 => by
      rw [oq q (fun e => g2 (by rw [e, mw_ad_ge ha1]; exact Nat.le_add_right _ _))]
      exact hS.2.1 q g1 g2, fun q hq => by
      rcases List.mem_append.mp hq with h | h
      · exact hS.2.2 q h
      · obtain ⟨z, -, hz⟩ := List.mem_map.mp h
        rw [← hz, mw_ad_ge ha1]
        exact Nat.le_add_right _ _⟩ _ hheap X'
  exact ⟨t, step t s1, s2⟩
end MO
end
section
/-! SOUNDNESS of the small machine, 6: contracts, calls -/
theorem mw_AOA_moved {u U : State} (hvm : u.vm.Alike U.vm) (h : mw_AA u) : mw_AA U := by
  obtain ⟨cI, cA, k, h1, h2, h3, h4⟩ := h
  obtain ⟨k', hk', he⟩ := hvm.2.2 _ _ h2
  exact ⟨cI, cA, k', by rw [hvm.findClass]; exact h1, hk', by rw [he]; exact h3, by rw [hvm.findClass]; exact h4⟩
theorem mw_AA_of {A : Array Value} {U : State} (h : (Cond.arrayOver (.array .int)).before A U = true) : mw_AA U := by
  have e : (FieldType.array .int).toString = "[I" := by decide +kernel
  have e2 : ("[" ++ (FieldType.array .int).toString) = "[[I" := by decide +kernel
  unfold Cond.before at h
  simp only [Cond.holds, Cond.value, beq_iff_eq] at h
  rw [e] at h
  cases h1 : U.vm.findClass "[I" with
  | none => rw [h1] at h; simp at h
  | some cI =>
    rw [h1] at h
    simp only [Option.bind_some, Option.bind_eq_some_iff, Option.map_eq_some_iff] at h
    obtain ⟨cA, hi, k, hk, hb⟩ := h
    obtain ⟨hlt, hp, -⟩ := Array.findIdx?_eq_some_iff_getElem.mp hi
    have hkk : U.vm.classes[cA] = k := (Array.getElem?_eq_some_iff.mp hk).2
    rw [hkk] at hp
    cases hkind : k.kind with
    | array comp ty =>
      rw [hkind] at hb hp
      simp only [Bool.and_eq_true, decide_eq_true_eq, beq_iff_eq] at hb hp
      exact ⟨cI, cA, k, h1, hk, by rw [hkind, hp, hb.1], hb.2⟩
    | _ => rw [hkind] at hb; simp at hb
theorem mw_E2_warm {sa : Nat → Nat} {base : Nat} {s U : State} {H : Heap} {locs : List Loc} (hW : s.WarmedH U.vm) (hH : U.heap = H) (hS : va_S (fun q => base ≤ q) s.heap H locs) (h : mw_E2 sa base s) : mw_E2 sa base U := by
  obtain ⟨⟨adV, h1⟩, h2, ⟨h3, h4⟩, h5, h6, h7, h8, ⟨h9, h10⟩, h11, ⟨h12, h13⟩, h14⟩ := h
  have hk : ∀ a : Nat, a < s.heap.size → ¬ (base ≤ a) → U.heap[a]? = s.heap[a]? := fun a g1 g2 => by rw [hH]; exact hS.2.1 a g1 g2
  refine ⟨⟨adV, vk_S.moved hW.alike (h1.kept hk)⟩, fun i hi => (h2 i hi).warm hW, ⟨h3.moved hW.alike, h4.moved hW.alike⟩, fun q hq => (h5 q hq).warmM hW, fun x hx => (h6 x hx).warmC hW, fun y hy => (h7 y hy).warmD hW, fun x hx y hy hn => (h8 x hx y hy hn).moved hW.alike, ⟨vx_Zq.moved hW.alike (h9.kept hk), vx_Zq.moved hW.alike (h10.kept hk)⟩, fun q hq => ?_, ⟨va_Z.moved hW.alike (h12.kept hk), va_Zq.moved hW.alike (h13.kept hk)⟩, mw_AOA_moved hW.alike h14⟩
  obtain ⟨a, ha⟩ := h11 q hq
  exact ⟨a, ha.warm hW⟩
theorem mw_E2_call {sa : Nat → Nat} {base : Nat} {U : State} {g : JFrame} {mk : MethodId} {a : Array Value} (h : mw_E2 sa base U) : mw_E2 sa base (U.calling g mk a) := by
  obtain ⟨⟨adV, h1⟩, h2, ⟨h3, h4⟩, h5, h6, h7, h8, ⟨h9, h10⟩, h11, ⟨h12, h13⟩, h14⟩ := h
  refine ⟨⟨adV, vk_S.moved (U := U.calling g mk a) (Vm.Alike.refl U.vm) h1⟩, fun i hi => vk_R.same (U := U.calling g mk a) rfl (h2 i hi), ⟨h3.moved (U := U.calling g mk a) (Vm.Alike.refl U.vm), h4.moved (U := U.calling g mk a) (Vm.Alike.refl U.vm)⟩, fun q hq => va_Nw.same (U := U.calling g mk a) rfl rfl (h5 q hq), fun x hx => va_Nw.same (U := U.calling g mk a) rfl rfl (h6 x hx), fun y hy => va_Nw.same (U := U.calling g mk a) rfl rfl (h7 y hy), fun x hx y hy hn => (h8 x hx y hy hn).moved (U := U.calling g mk a) (Vm.Alike.refl U.vm), ⟨vx_Zq.moved (U := U.calling g mk a) (Vm.Alike.refl U.vm) h9, vx_Zq.moved (U := U.calling g mk a) (Vm.Alike.refl U.vm) h10⟩, fun q hq => ?_, ⟨va_Z.moved (U := U.calling g mk a) (Vm.Alike.refl U.vm) h12, va_Zq.moved (U := U.calling g mk a) (Vm.Alike.refl U.vm) h13⟩, mw_AOA_moved (U := U.calling g mk a) (Vm.Alike.refl U.vm) h14⟩
  obtain ⟨x, hx⟩ := h11 q hq
  exact ⟨x, vk_R.same (U := U.calling g mk a) rfl hx⟩
section ME
variable {D : va_G} {ac sa : Nat → Nat} {b L : Nat} {xs : Nat → Int32} {base : Nat}
theorem mw_E_warm {s U : State} {H : Heap} {locs : List Loc} (hW : s.WarmedH U.vm) (hH : U.heap = H) (hS : va_S (fun q => base ≤ q) s.heap H locs) (h : mw_E D ac sa b L xs base s) : mw_E D ac sa b L xs base U := by
  obtain ⟨h1, h2, h3, h4, h5⟩ := h
  refine ⟨h1.moved hW.alike, by rw [hH]; exact Nat.le_trans h2 hS.1, (h3.kept ?_).moved hW.alike, h4, mw_E2_warm hW hH hS h5⟩
  rw [hH]
  exact hS.2.1 b (Nat.lt_of_lt_of_le h4 h2) (Nat.not_le.mpr h4)
theorem mw_E_call {U : State} {g : JFrame} {mk : MethodId} {a : Array Value} (h : mw_E D ac sa b L xs base U) : mw_E D ac sa b L xs base (U.calling g mk a) := by
  obtain ⟨h1, h2, h3, h4, h5⟩ := h
  exact ⟨h1.moved (U := U.calling g mk a) (Vm.Alike.refl U.vm), h2, h3.moved (U := U.calling g mk a) (Vm.Alike.refl U.vm), h4, mw_E2_call h5⟩
theorem mw_X_E {p : Program} {l : Launch} {R : Room} {s : State} {m : MethodId} {args : Array Value} {meth : Method} {c : Code} {own : String} {cc : ByteArray} {nL rt : Nat} (X : mw_X p l R s m args meth c own cc nL rt D ac sa b L xs base) : mw_E D ac sa b L xs base s := by
  obtain ⟨-, -, -, -, -, h1, h2, h3, h4, -, h5⟩ := X
  exact ⟨h1, h2, h3, h4, h5⟩
/-- a method's start: its arguments, the memory -/
def mw_Pc (D : va_G) (ac sa : Nat → Nat) (b L : Nat) (xs : Nat → Int32) (base : Nat) (as : List mv_V) (σ : mv_S) : Array Value → State → Prop := va_Pc (as.map (mw_v (mw_ad b sa base))) (fun U => mw_R (mw_ad b sa base) D ac base L xs σ U.heap ∧ mw_E D ac sa b L xs base U)
/-- its end: its answer, the memory then -/
def mw_Qc (D : va_G) (ac sa : Nat → Nat) (b L : Nat) (xs : Nat → Int32) (base : Nat) (r : Option mv_V) (σ : mv_S) : Array Value → State → Outcome → State → Prop := fun _ st o t => o = .returned (r.map (mw_v (mw_ad b sa base))) ∧ mw_R (mw_ad b sa base) D ac base L xs σ t.heap ∧ va_F (fun q => base ≤ q) st t
theorem mw_blind {as : List mv_V} {σ : mv_S} : FrameBlind (mw_Pc D ac sa b L xs base as σ) := fun _ _ _ _ h => ⟨h.1, h.2.1, mw_E_call h.2.2⟩
abbrev mw_I : Type := MethodName × ByteArray × Nat × Option FieldType × Nat × Nat
/-- the room of a method at depth d that makes these cells -/
def mw_rm (d : Nat) (σ σ' : mv_S) : Room := { frames := d + 8, cells := σ'.1.length - σ.1.length, slots := mw_sz σ'.1 - mw_sz σ.1, locals := 64 * d + 500 }
/-- what a call at depth d means -/
def mw_Ok (l : Launch) (D : va_G) (ac sa : Nat → Nat) (b L : Nat) (xs : Nat → Int32) (base : Nat) (I : mw_I) (d : Nat) (as : List mv_V) (σ : mv_S) (r : Option mv_V) (σ' : mv_S) : Prop :=
  Met l I.1 (Cond.code I.1 I.2.1 I.2.2.1 I.2.2.2.1 :: lw_good) (mw_rm d σ σ') (mw_Pc D ac sa b L xs base as σ) (mw_Qc D ac sa b L xs base r σ') (σ'.1.length - σ.1.length) (mw_sz σ'.1 - mw_sz σ.1) (fun q => base ≤ q)
/-- what the tables say of a method: kind 1 virtual, 2 static, 3 a constructor -/
def mw_okM (I : mw_I) : Prop := Cond.code I.1 I.2.1 I.2.2.1 I.2.2.2.1 ∈ lw_good ∧ Cond.initialized I.1.cls ∈ lw_good ∧ (I.1.cls ≠ "java/lang/invoke/MethodHandle" ∧ I.1.cls ≠ "java/lang/invoke/VarHandle") ∧ (parseMethodDescriptor I.1.desc).map (fun d => d.parameters.length) = some I.2.2.2.2.2 ∧ I.2.2.1 ≤ 20 ∧
  ((I.2.2.2.2.1 = 1 ∧ Cond.instanceMethod I.1 ∈ lw_good ∧ Cond.selects I.1.cls I.1 I.1 ∈ lw_good) ∨ (I.2.2.2.2.1 = 2 ∧ Cond.static I.1 ∈ lw_good) ∨ (I.2.2.2.2.1 = 3 ∧ Cond.instanceMethod I.1 ∈ lw_good ∧ I.1.name = "<init>" ∧ I.2.2.2.1 = none))
end ME
theorem mw_goodIn : ∀ w ∈ lw_good, w ∈ lw_good ∧ ((w.onTables && w.keeps) = true ∨ ∃ ty, w = .arrayClass ty) := fun w hw => ⟨hw, good_of_word (List.mem_filter.mp hw).2⟩
theorem mw_goodC {w : Cond} (h : w ∈ lw_good) : GoodIn lw_good (w :: lw_good) := fun x hx => by
  rcases List.mem_cons.mp hx with rfl | hx
  · exact mw_goodIn _ h
  · exact mw_goodIn _ hx
section MC
variable {p : Program} {l : Launch} {e : Env} {R : Room} {s : State} {m : MethodId} {args : Array Value} {below : List Frame} {meth : Method} {c : Code} {own : String} {cc : ByteArray} {nL rt : Nat} {D : va_G} {ac sa : Nat → Nat} {b L : Nat} {xs : Nat → Int32} {base : Nat} {Q : State → Prop}
variable {H : Heap} {locs : List Loc} {ls : Array Slot} {cells slots pc d index : Nat} {σ σ' : mv_S} {rest st0 : List Value} {a : Nat} {r : Option mv_V} {as : List mv_V} {I : mw_I}
/-- behind a call -/
theorem mw_goC {aa : Array Value} {mc ms : Nat} (hr : va_Run p l e R s m args below meth c H locs cells slots mc ms (F0 m pc ls st0) rest (mw_Qc D ac sa b L xs base r σ' aa) (fun q => base ≤ q)) (hS : va_S (fun q => base ≤ q) s.heap H locs)
    (kk : ∀ (H1 : Heap) (locs1 : List Loc), mw_R (mw_ad b sa base) D ac base L xs σ' H1 → va_S (fun q => base ≤ q) s.heap H1 locs1 → W p l e R s m args below meth c H1 locs1 (cells + mc) (slots + ms) Q (F0 m (pc + 3) ls ((r.map (mw_v (mw_ad b sa base))).toList ++ rest))) : W p l e R s m args below meth c H locs cells slots Q (F0 m pc ls st0) := by
  intro T hT X
  obtain ⟨v, st₀, t, T', L0, h0, X', hL, e1, e2, ⟨hv, hR', hz, hk⟩, st⟩ := hr T hT X
  cases hv
  rw [h0] at hz hk
  rw [← e1] at hR'
  obtain ⟨t2, a1, b1⟩ := kk T'.heap (locs ++ L0) hR' ⟨Nat.le_trans hS.1 (by rw [e1]; exact hz), fun q h1 h2 => by rw [e1, hk q (Nat.lt_of_lt_of_le h1 hS.1) h2]; exact hS.2.1 q h1 h2, fun q hq => by
      rcases List.mem_append.mp hq with h | h
      · exact hS.2.2 q h
      · exact hL q h⟩ T' rfl X'
  exact ⟨t2, st t2 a1, b1⟩
theorem mw_pre (X : mw_X p l R s m args meth c own cc nL rt D ac sa b L xs base) (hR : mw_R (mw_ad b sa base) D ac base L xs σ H) (hS : va_S (fun q => base ≤ q) s.heap H locs) : ∀ U : State, U.heap = H → s.WarmedH U.vm → mw_Pc D ac sa b L xs base as σ (as.map (mw_v (mw_ad b sa base))).toArray U :=
  fun U hU hW => ⟨rfl, by rw [hU]; exact hR, mw_E_warm hW hU hS (mw_X_E X)⟩
theorem mw_fix (X : mw_X p l R s m args meth c own cc nL rt D ac sa b L xs base) : CallFix p m c cc nL s args lw_good own := ⟨X.1, X.2.1, X.2.2.1, X.2.2.2.1, X.2.2.2.2.1⟩
theorem mw_roomC (h : I.2.2.1 ≤ 20) (hd : d + 9 ≤ R.frames ∧ 64 * d + 564 ≤ R.locals) : (mw_rm d σ σ').frames + 1 ≤ R.frames ∧ 8 + (I.2.2.1 + 11) + (mw_rm d σ σ').locals ≤ R.locals := by
  unfold mw_rm
  constructor
  · exact hd.1
  · show 8 + (I.2.2.1 + 11) + (64 * d + 500) ≤ R.locals
    omega
theorem mw_invV (X : mw_X p l R s m args meth c own cc nL rt D ac sa b L xs base) (hM : mw_Ok l D ac sa b L xs base I d (.inr (.inr (some a)) :: as) σ r σ') (hI : mw_okM I) (hk : I.2.2.2.2.1 = 1) (hlink : Cond.methodLink own index I.1 ∈ lw_good) (hn : as.length = I.2.2.2.2.2) {ci : Nat} {rc : vw_C} (hty : σ.1[a]? = some (.inl ci)) (hrc : vwCl[ci]? = some rc) (hcl : rc.1 = I.1.cls)
    (hsz : ls.size = nL) (hR : mw_R (mw_ad b sa base) D ac base L xs σ H) (hS : va_S (fun q => base ≤ q) s.heap H locs) (hw : (rest.map fun v => v.category).sum ≤ 8) (hd : d + 9 ≤ R.frames ∧ 64 * d + 564 ≤ R.locals) (hf : cells + (σ'.1.length - σ.1.length) ≤ R.cells ∧ slots + (mw_sz σ'.1 - mw_sz σ.1) ≤ R.slots) (hdg : decode cc pc = .ok (.invokevirtual index, 3))
    (kk : ∀ (H1 : Heap) (locs1 : List Loc), mw_R (mw_ad b sa base) D ac base L xs σ' H1 → va_S (fun q => base ≤ q) s.heap H1 locs1 → W p l e R s m args below meth c H1 locs1 (cells + (σ'.1.length - σ.1.length)) (slots + (mw_sz σ'.1 - mw_sz σ.1)) Q (F0 m (pc + 3) ls ((r.map (mw_v (mw_ad b sa base))).toList ++ rest))) :
    W p l e R s m args below meth c H locs cells slots Q (F0 m pc ls ((as.map (mw_v (mw_ad b sa base))).reverse ++ .ref (mw_ad b sa base a) :: rest)) := by
  obtain ⟨h1, h2, h3, h4, h5, h6⟩ := hI
  rcases h6 with ⟨-, h7, h8⟩ | ⟨h9, -⟩ | ⟨h9, -⟩
  · obtain ⟨rc', hrc', cell, q1, q2, q3, -⟩ := mw_at_obj (hR.1 a (mw_16 hR hty)) hty
    cases hrc.symm.trans hrc'
    have hK := X.2.2.2.2.2.1
    refine mw_goC (va_runV (As := as.map (mw_v (mw_ad b sa base))) (rest := rest) (C := I.1.cls) (mw_fix X) hM (cwV I.2.2.2.2.2 X.2.2.2.2.1 ?_ rfl rfl rfl ⟨rfl, h3.1, h3.2, h4⟩ (mw_roomC h5 hd)) ⟨mw_blind, ⟨cell, q1, by rw [q3]; rfl, ?_⟩, mw_pre (as := .inr (.inr (some a)) :: as) X hR hS⟩ rfl ?_ hsz rfl (lv_room hw) hdg hf) hS kk
    · intro w hw
      unfold wsV at hw
      rcases List.mem_append.mp hw with hw | hw
      · simp only [List.mem_cons, List.not_mem_nil, or_false] at hw
        rcases hw with rfl | rfl | rfl | rfl
        · exact mw_goodIn _ hlink
        · exact mw_goodIn _ h7
        · exact mw_goodIn _ h8
        · exact mw_goodIn _ h2
      · exact mw_goodC h1 w hw
    · rw [← hcl, q2]
      exact (hK.1 ci _ hrc).2.1
    · rw [List.length_map]
      exact hn
  · rw [h9] at hk; cases hk
  · rw [h9] at hk; cases hk
theorem mw_invS (X : mw_X p l R s m args meth c own cc nL rt D ac sa b L xs base) (hM : mw_Ok l D ac sa b L xs base I d as σ r σ') (hI : mw_okM I) (hk : I.2.2.2.2.1 = 2) (hlink : Cond.methodLink own index I.1 ∈ lw_good) (hn : as.length = I.2.2.2.2.2)
    (hsz : ls.size = nL) (hR : mw_R (mw_ad b sa base) D ac base L xs σ H) (hS : va_S (fun q => base ≤ q) s.heap H locs) (hw : (rest.map fun v => v.category).sum ≤ 8) (hd : d + 9 ≤ R.frames ∧ 64 * d + 564 ≤ R.locals) (hf : cells + (σ'.1.length - σ.1.length) ≤ R.cells ∧ slots + (mw_sz σ'.1 - mw_sz σ.1) ≤ R.slots) (hdg : decode cc pc = .ok (.invokestatic index, 3))
    (kk : ∀ (H1 : Heap) (locs1 : List Loc), mw_R (mw_ad b sa base) D ac base L xs σ' H1 → va_S (fun q => base ≤ q) s.heap H1 locs1 → W p l e R s m args below meth c H1 locs1 (cells + (σ'.1.length - σ.1.length)) (slots + (mw_sz σ'.1 - mw_sz σ.1)) Q (F0 m (pc + 3) ls ((r.map (mw_v (mw_ad b sa base))).toList ++ rest))) :
    W p l e R s m args below meth c H locs cells slots Q (F0 m pc ls ((as.map (mw_v (mw_ad b sa base))).reverse ++ rest)) := by
  obtain ⟨h1, h2, h3, h4, h5, h6⟩ := hI
  rcases h6 with ⟨h9, -⟩ | ⟨-, h7⟩ | ⟨h9, -⟩
  · rw [h9] at hk; cases hk
  · refine mw_goC (va_runS (As := as.map (mw_v (mw_ad b sa base))) (rest := rest) (mw_fix X) hM (va_cwS I.2.2.2.2.2 X.2.2.2.2.1 ?_ rfl rfl rfl ⟨h3.1, h3.2, h4⟩ (mw_roomC h5 hd)) ⟨mw_blind, mw_pre X hR hS⟩ rfl ?_ hsz rfl (lv_room hw) hdg hf) hS kk
    · intro w hw
      unfold va_wsS at hw
      rcases List.mem_append.mp hw with hw | hw
      · simp only [List.mem_cons, List.not_mem_nil, or_false] at hw
        rcases hw with rfl | rfl | rfl
        · exact mw_goodIn _ hlink
        · exact mw_goodIn _ h7
        · exact mw_goodIn _ h2
      · exact mw_goodC h1 w hw
    · rw [List.length_map]
      exact hn
  · rw [h9] at hk; cases hk
theorem mw_invI (X : mw_X p l R s m args meth c own cc nL rt D ac sa b L xs base) (hM : mw_Ok l D ac sa b L xs base I d (.inr (.inr (some a)) :: as) σ r σ') (hI : mw_okM I) (hk : I.2.2.2.2.1 = 3) (hlink : Cond.methodLink own index I.1 ∈ lw_good) (hn : as.length = I.2.2.2.2.2)
    (hsz : ls.size = nL) (hR : mw_R (mw_ad b sa base) D ac base L xs σ H) (hS : va_S (fun q => base ≤ q) s.heap H locs) (hw : (rest.map fun v => v.category).sum ≤ 8) (hd : d + 9 ≤ R.frames ∧ 64 * d + 564 ≤ R.locals) (hf : cells + (σ'.1.length - σ.1.length) ≤ R.cells ∧ slots + (mw_sz σ'.1 - mw_sz σ.1) ≤ R.slots) (hdg : decode cc pc = .ok (.invokespecial index, 3))
    (kk : ∀ (H1 : Heap) (locs1 : List Loc), mw_R (mw_ad b sa base) D ac base L xs σ' H1 → va_S (fun q => base ≤ q) s.heap H1 locs1 → W p l e R s m args below meth c H1 locs1 (cells + (σ'.1.length - σ.1.length)) (slots + (mw_sz σ'.1 - mw_sz σ.1)) Q (F0 m (pc + 3) ls ((r.map (mw_v (mw_ad b sa base))).toList ++ rest))) :
    W p l e R s m args below meth c H locs cells slots Q (F0 m pc ls ((as.map (mw_v (mw_ad b sa base))).reverse ++ .ref (mw_ad b sa base a) :: rest)) := by
  obtain ⟨h1, h2, h3, h4, h5, h6⟩ := hI
  rcases h6 with ⟨h9, -⟩ | ⟨h9, -⟩ | ⟨-, h7, h8, h9⟩
  · rw [h9] at hk; cases hk
  · rw [h9] at hk; cases hk
  · obtain ⟨y, bytes, maxL, ret, kd, np⟩ := I
    dsimp only at hM h1 h2 h3 h4 h5 h7 h8 h9 hlink hn
    subst h9
    have hts := X.2.2.2.2.1
    refine mw_goC (va_runI (As := as.map (mw_v (mw_ad b sa base))) (rest := rest) (mw_fix X) hM (cwI np hts (mw_goodC h1) rfl rfl rfl (hts _ h2) (hts _ hlink) (hts _ h7) h8 ⟨h3.1, h3.2, h4⟩ (mw_roomC (I := (y, bytes, maxL, none, kd, np)) h5 hd)) ⟨mw_blind, mw_pre (as := .inr (.inr (some a)) :: as) X hR hS⟩ rfl ?_ hsz rfl (lv_room hw) hdg hf) hS kk
    rw [List.length_map]
    exact hn
theorem mw_invN (X : mw_X p l R s m args meth c own cc nL rt D ac sa b L xs base) (hM : mw_Ok l D ac sa b L xs base I d (.inr (.inr (some a)) :: as) σ r σ') (hI : mw_okM I) (hk : I.2.2.2.2.1 = 3) (hown : own = RX6) (hlink : (index, I.1) ∈ mw_nest) (hn : as.length = I.2.2.2.2.2)
    (hsz : ls.size = nL) (hR : mw_R (mw_ad b sa base) D ac base L xs σ H) (hS : va_S (fun q => base ≤ q) s.heap H locs) (hw : (rest.map fun v => v.category).sum ≤ 8) (hd : d + 9 ≤ R.frames ∧ 64 * d + 564 ≤ R.locals) (hf : cells + (σ'.1.length - σ.1.length) ≤ R.cells ∧ slots + (mw_sz σ'.1 - mw_sz σ.1) ≤ R.slots) (hdg : decode cc pc = .ok (.invokespecial index, 3))
    (kk : ∀ (H1 : Heap) (locs1 : List Loc), mw_R (mw_ad b sa base) D ac base L xs σ' H1 → va_S (fun q => base ≤ q) s.heap H1 locs1 → W p l e R s m args below meth c H1 locs1 (cells + (σ'.1.length - σ.1.length)) (slots + (mw_sz σ'.1 - mw_sz σ.1)) Q (F0 m (pc + 3) ls ((r.map (mw_v (mw_ad b sa base))).toList ++ rest))) :
    W p l e R s m args below meth c H locs cells slots Q (F0 m pc ls ((as.map (mw_v (mw_ad b sa base))).reverse ++ .ref (mw_ad b sa base a) :: rest)) := by
  obtain ⟨h1, h2, h3, h4, h5, h6⟩ := hI
  rcases h6 with ⟨h9, -⟩ | ⟨h9, -⟩ | ⟨-, h7, h8, h9⟩
  · rw [h9] at hk; cases hk
  · rw [h9] at hk; cases hk
  · obtain ⟨y, bytes, maxL, ret, kd, np⟩ := I
    dsimp only at hM h1 h2 h3 h4 h5 h7 h8 h9 hlink hn
    subst h9
    have hts := X.2.2.2.2.1
    obtain ⟨-, -, -, -, -, -, -, -, -, -, -, -, -, hnest, -⟩ := id X
    have hl := hnest _ hlink
    rw [← hown] at hl
    refine mw_goC (va_runIN (host := own) (As := as.map (mw_v (mw_ad b sa base))) (rest := rest) (mw_fix X) hM ⟨va_cnB np hts (mw_goodC h1) rfl rfl rfl hl (hts _ h2) ⟨h3.1, h3.2, h4⟩ (mw_roomC (I := (y, bytes, maxL, none, kd, np)) h5 hd), h8, hts _ h7⟩ ⟨mw_blind, mw_pre (as := .inr (.inr (some a)) :: as) X hR hS⟩ rfl ?_ hsz rfl (lv_room hw) hdg hf) hS kk
    rw [List.length_map]
    exact hn
end MC
end
section
/-! SOUNDNESS of the small machine, 7: instructions that touch the memory (by program: wip/whole/gen/gen_sound7.py) -/
theorem mw_sz_na (σ : mv_S) (t n : Nat) : mw_sz (mv_na σ t n).1 = mw_sz σ.1 + n := by
  show mw_sz (σ.1 ++ [.inr (t, n)]) = _
  rw [mw_sz_app]
  simp [mw_sz, mw_szT]
theorem mw_len_na (σ : mv_S) (t n : Nat) : (mv_na σ t n).1.length = σ.1.length + 1 := by
  show (σ.1 ++ [(.inr (t, n) : mv_T)]).length = _
  simp
def mw_infol : List mw_I := [(yX0_init, cX0_init, 1, none, 3, 0),
  (yX0_sketch, cX0_sketch, 5, none, 1, 3),
  (yX0_drawHaul, cX0_drawHaul, 2, none, 1, 1),
  (yX0_drawTold, cX0_drawTold, 3, none, 2, 2),
  (yX0_smudge, cX0_smudge, 3, none, 2, 3),
  (yX0_tabulate, cX0_tabulate, 3, none, 2, 3),
  (yX0_tabulateAll, cX0_tabulateAll, 3, none, 1, 1),
  (yX0_addWishes, cX0_addWishes, 7, none, 2, 3),
  (yX0_pickHaul, cX0_pickHaul, 10, none, 1, 4),
  (yX0_weighCells, cX0_weighCells, 6, some (.int), 1, 2),
  (yX0_pickAhead, cX0_pickAhead, 10, none, 1, 2),
  (yX0_worthThatComes, cX0_worthThatComes, 6, some (.int), 1, 1),
  (yX0_worthByTable, cX0_worthByTable, 4, some (.int), 1, 1),
  (yX1_init, cX1_init, 1, none, 3, 0),
  (yX1_follow, cX1_follow, 3, none, 1, 1),
  (yX1_digWholly, cX1_digWholly, 3, none, 1, 1),
  (yX1_digByPairs, cX1_digByPairs, 6, none, 1, 2),
  (yX1_digPair, cX1_digPair, 7, some (.boolean), 1, 4),
  (yX1_weighExcess, cX1_weighExcess, 4, none, 1, 2),
  (yX1_leastHours, cX1_leastHours, 6, some (.int), 1, 2),
  (yX1_sortOut, cX1_sortOut, 5, some (.boolean), 1, 1),
  (yX1_spreadAll, cX1_spreadAll, 4, none, 1, 1),
  (yX1_spreadForth, cX1_spreadForth, 6, some (.boolean), 1, 1),
  (yX1_spreadBack, cX1_spreadBack, 6, some (.boolean), 1, 1),
  (yX1_nearestLow, cX1_nearestLow, 3, some (.int), 1, 0),
  (yX1_send, cX1_send, 7, some (.int), 1, 1),
  (yX2_init, cX2_init, 4, none, 3, 3),
  (yX2_cost, cX2_cost, 4, some (.int), 1, 0),
  (yX2_fail, cX2_fail, 1, none, 1, 0),
  (yX3_init, cX3_init, 1, none, 3, 0),
  (yX3_renew, cX3_renew, 6, none, 1, 2),
  (yX3_layOut, cX3_layOut, 8, none, 1, 3),
  (yX3_takeFrom, cX3_takeFrom, 3, none, 1, 1),
  (yX3_isCell, cX3_isCell, 2, some (.boolean), 1, 1),
  (yX3_drawerAt, cX3_drawerAt, 2, some (.object "LandByMap$Drawer"), 1, 1),
  (yX3_addDrawer, cX3_addDrawer, 3, some (.boolean), 1, 2),
  (yX3_addWish, cX3_addWish, 6, some (.boolean), 1, 4),
  (yX3_told, cX3_told, 2, some (.int), 1, 1),
  (yX3_wanted, cX3_wanted, 2, some (.int), 1, 1),
  (yX3_firstUnlike, cX3_firstUnlike, 2, some (.int), 1, 0),
  (yX3_offTheMap, cX3_offTheMap, 3, some (.int), 1, 0),
  (yX3_offFrom, cX3_offFrom, 4, some (.int), 1, 1),
  (yX3_saidCells, cX3_saidCells, 3, some (.int), 1, 0),
  (yX3_houseCount, cX3_houseCount, 3, some (.int), 1, 0),
  (yX3_allHeights, cX3_allHeights, 3, some (.int), 1, 0),
  (yX3_allWishes, cX3_allWishes, 3, some (.int), 1, 0),
  (yX3_followWater, cX3_followWater, 6, some (.int), 1, 0),
  (yX3_standsAt, cX3_standsAt, 2, some (.int), 1, 1),
  (yX3_isOnWay, cX3_isOnWay, 4, some (.boolean), 1, 1),
  (yX3_isLost, cX3_isLost, 1, some (.boolean), 1, 0),
  (yX3_isRim, cX3_isRim, 3, some (.boolean), 1, 1),
  (yX3_near, cX3_near, 3, some (.int), 1, 2),
  (yX3_canGive, cX3_canGive, 2, some (.boolean), 1, 1),
  (yX3_canTake, cX3_canTake, 2, some (.boolean), 1, 1),
  (yX3_canHaul, cX3_canHaul, 3, some (.boolean), 1, 2),
  (yX3_haulHours, cX3_haulHours, 4, some (.int), 1, 2),
  (yX3_shift, cX3_shift, 3, none, 1, 2),
  (yX3_wishWorth, cX3_wishWorth, 4, some (.int), 1, 2),
  (yX3_worthTo, cX3_worthTo, 6, some (.int), 1, 2),
  (yX3_worthToAll, cX3_worthToAll, 4, some (.int), 1, 1),
  (yX4_init, cX4_init, 1, none, 3, 0),
  (yX4_holdNothing, cX4_holdNothing, 1, none, 1, 0),
  (yX4_holdDrawer, cX4_holdDrawer, 2, none, 1, 1),
  (yX4_holdRow, cX4_holdRow, 3, none, 1, 2),
  (yX4_isEmpty, cX4_isEmpty, 1, some (.boolean), 1, 0),
  (yX4_holdsRowOf, cX4_holdsRowOf, 2, some (.boolean), 1, 1),
  (yX4_refusalAsRow, cX4_refusalAsRow, 1, some (.int), 1, 0),
  (yX4_refusalAsBytes, cX4_refusalAsBytes, 1, some (.int), 1, 0),
  (yX4_hasPlace, cX4_hasPlace, 2, some (.boolean), 1, 1),
  (yX4_hasPlaces, cX4_hasPlaces, 3, some (.boolean), 1, 2),
  (yX4_at, cX4_at, 2, some (.int), 1, 1),
  (yX4_write, cX4_write, 3, none, 1, 2),
  (yX4_leastNumber, cX4_leastNumber, 1, some (.int), 1, 0),
  (yX4_isMapOf, cX4_isMapOf, 4, some (.boolean), 1, 1),
  (yX4_heightAt, cX4_heightAt, 3, some (.int), 1, 1),
  (yX5_init, cX5_init, 1, none, 3, 0),
  (yX5_open, cX5_open, 3, none, 1, 2),
  (yX5_faultOfForm, cX5_faultOfForm, 2, some (.int), 1, 0),
  (yX5_writeTo, cX5_writeTo, 4, some (.int), 1, 1),
  (yX5_formOf, cX5_formOf, 1, some (.object "java/lang/String"), 2, 1),
  (yX5_readStatement, cX5_readStatement, 5, some (.boolean), 1, 0),
  (yX5_readSign, cX5_readSign, 2, some (.boolean), 1, 1),
  (yX5_readNumber, cX5_readNumber, 4, some (.boolean), 1, 1),
  (yX5_isDigit, cX5_isDigit, 1, some (.boolean), 1, 0),
  (yX5_act, cX5_act, 3, some (.boolean), 1, 2),
  (yX5_startAnew, cX5_startAnew, 3, some (.boolean), 2, 3),
  (yX5_isSide, cX5_isSide, 1, some (.boolean), 2, 1),
  (yX5_raise, cX5_raise, 3, some (.boolean), 2, 3),
  (yX5_build, cX5_build, 2, some (.boolean), 2, 2),
  (yX5_spring, cX5_spring, 2, some (.boolean), 2, 2),
  (yX5_rule, cX5_rule, 2, some (.boolean), 2, 2),
  (yX6_init, cX6_init, 2, none, 3, 0),
  (yX6_land, cX6_land, 6, some (.int), 1, 1),
  (yX6_cell, cX6_cell, 3, some (.int), 1, 2),
  (yX6_state, cX6_state, 2, some (.int), 1, 1),
  (yX6_set, cX6_set, 4, some (.int), 1, 2),
  (yX6_says, cX6_says, 4, some (.int), 1, 2),
  (yX6_map, cX6_map, 5, some (.int), 1, 1),
  (yX6_water, cX6_water, 3, some (.int), 1, 1),
  (yX6_hours, cX6_hours, 4, some (.int), 1, 2),
  (yX6_haul, cX6_haul, 5, some (.int), 1, 2),
  (yX6_like, cX6_like, 2, some (.int), 1, 1),
  (yX6_least, cX6_least, 1, some (.int), 1, 0),
  (yX6_works, cX6_works, 9, some (.int), 1, 1),
  (yX6_dig, cX6_dig, 2, some (.int), 1, 1),
  (yX6_drawer, cX6_drawer, 4, some (.int), 1, 2),
  (yX6_draws, cX6_draws, 3, some (.int), 1, 2),
  (yX6_year, cX6_year, 2, some (.int), 1, 0),
  (yX6_still, cX6_still, 5, some (.int), 1, 0),
  (yX6_rings, cX6_rings, 3, some (.int), 1, 0),
  (yX6_seeded, cX6_seeded, 9, some (.int), 1, 3),
  (yX6_seam, cX6_seam, 10, some (.int), 1, 4),
  (yX6_blot, cX6_blot, 7, some (.int), 1, 2),
  (yX6_harm, cX6_harm, 6, some (.int), 1, 2),
  (yX6_chosen, cX6_chosen, 5, some (.int), 1, 1),
  (yX6_judge, cX6_judge, 7, some (.int), 1, 1),
  (yX6_image, cX6_image, 1, some (.int), 1, 0),
  (yX6_restore, cX6_restore, 1, some (.int), 1, 0),
  (yX6_count, cX6_count, 2, some (.int), 1, 1),
  (yX6_keep, cX6_keep, 6, some (.int), 1, 3),
  (yX6_row, cX6_row, 5, some (.int), 1, 3),
  (yX6_put, cX6_put, 6, some (.int), 1, 3),
  (yX6_element, cX6_element, 4, some (.long), 1, 2),
  (yX6_copy, cX6_copy, 8, some (.int), 1, 5),
  (yX6_price, cX6_price, 3, some (.int), 1, 1),
  (yX6_toss, cX6_toss, 5, some (.int), 1, 1),
  (yX6_shelfAt, cX6_shelfAt, 2, some (.object "LandByMap$Shelf"), 1, 1),
  (yX6_refusalOfHaul, cX6_refusalOfHaul, 3, some (.int), 1, 2),
  (yX6_passYear, cX6_passYear, 3, some (.int), 1, 2),
  (yX6_isSteep, cX6_isSteep, 2, some (.boolean), 2, 2),
  (yX6_castVotes, cX6_castVotes, 7, none, 1, 1),
  (yX6_bestForAll, cX6_bestForAll, 6, some (.int), 1, 1),
  (yX7_init, cX7_init, 2, none, 3, 0),
  (yX7_thrown, cX7_thrown, 1, some (.int), 1, 0),
  (yX7_isIn, cX7_isIn, 6, some (.boolean), 2, 3),
  (yX7_cells, cX7_cells, 1, some (.int), 1, 0),
  (yX7_isCell, cX7_isCell, 2, some (.boolean), 1, 1),
  (yX7_isDrawer, cX7_isDrawer, 2, some (.boolean), 1, 1),
  (yX7_isShelf, cX7_isShelf, 1, some (.boolean), 2, 1),
  (yX7_amount, cX7_amount, 1, some (.int), 2, 1),
  (yX7_get, cX7_get, 3, some (.int), 1, 2),
  (yX7_bits, cX7_bits, 3, some (.int), 2, 1),
  (yX7_isHouse, cX7_isHouse, 2, some (.boolean), 1, 1),
  (yX7_near, cX7_near, 3, some (.int), 1, 2),
  (yX7_here, cX7_here, 1, some (.int), 1, 0),
  (yX7_isDigit, cX7_isDigit, 1, some (.boolean), 1, 0),
  (yX7_takes, cX7_takes, 2, some (.boolean), 1, 1),
  (yX7_readsNumber, cX7_readsNumber, 4, some (.boolean), 1, 1),
  (yX7_readsStatement, cX7_readsStatement, 3, some (.boolean), 1, 0),
  (yX7_comesAnew, cX7_comesAnew, 4, some (.boolean), 1, 2),
  (yX7_comes, cX7_comes, 7, some (.boolean), 1, 1),
  (yX7_wrongRow, cX7_wrongRow, 3, some (.int), 1, 2),
  (yX7_land, cX7_land, 7, some (.int), 1, 1),
  (yX7_flows, cX7_flows, 6, none, 1, 0),
  (yX7_isLost, cX7_isLost, 3, some (.boolean), 1, 0),
  (yX7_water, cX7_water, 3, some (.int), 1, 1),
  (yX7_cell, cX7_cell, 3, some (.int), 1, 2),
  (yX7_state, cX7_state, 2, some (.int), 1, 1),
  (yX7_set, cX7_set, 4, some (.int), 1, 2),
  (yX7_says, cX7_says, 4, some (.int), 1, 2),
  (yX7_wrongMap, cX7_wrongMap, 4, some (.int), 1, 1),
  (yX7_saidOf, cX7_saidOf, 4, some (.int), 1, 2),
  (yX7_said, cX7_said, 3, some (.int), 1, 0),
  (yX7_map, cX7_map, 4, some (.int), 1, 1),
  (yX7_mayHaul, cX7_mayHaul, 3, some (.boolean), 1, 2),
  (yX7_hoursOf, cX7_hoursOf, 4, some (.int), 1, 2),
  (yX7_moves, cX7_moves, 3, none, 1, 2),
  (yX7_hours, cX7_hours, 3, some (.int), 1, 2),
  (yX7_haul, cX7_haul, 4, some (.int), 1, 2),
  (yX7_offFrom, cX7_offFrom, 4, some (.int), 1, 1),
  (yX7_like, cX7_like, 3, some (.int), 1, 1),
  (yX7_findsWay, cX7_findsWay, 6, some (.int), 1, 0),
  (yX7_leastOf, cX7_leastOf, 7, some (.int), 1, 0),
  (yX7_least, cX7_least, 1, some (.int), 1, 0),
  (yX7_works, cX7_works, 9, some (.int), 1, 1),
  (yX7_keeps, cX7_keeps, 2, none, 1, 0),
  (yX7_putsBack, cX7_putsBack, 2, none, 1, 0),
  (yX7_isOver, cX7_isOver, 2, some (.boolean), 1, 1),
  (yX7_isUnder, cX7_isUnder, 2, some (.boolean), 1, 1),
  (yX7_digs, cX7_digs, 6, none, 1, 0),
  (yX7_dig, cX7_dig, 3, some (.int), 1, 1),
  (yX7_worthTo, cX7_worthTo, 5, some (.int), 1, 1),
  (yX7_worthToAll, cX7_worthToAll, 3, some (.int), 1, 0),
  (yX7_drawer, cX7_drawer, 3, some (.int), 1, 2),
  (yX7_aheadOf, cX7_aheadOf, 5, some (.int), 1, 1),
  (yX7_goodOf, cX7_goodOf, 4, some (.int), 1, 3),
  (yX7_findsDrawn, cX7_findsDrawn, 10, none, 1, 2),
  (yX7_findsMap, cX7_findsMap, 4, none, 1, 1),
  (yX7_draws, cX7_draws, 3, some (.int), 1, 2),
  (yX7_goesYear, cX7_goesYear, 3, some (.boolean), 1, 1),
  (yX7_offFirst, cX7_offFirst, 3, some (.int), 1, 0),
  (yX7_keepsHeights, cX7_keepsHeights, 2, none, 1, 0),
  (yX7_year, cX7_year, 1, some (.int), 1, 0),
  (yX7_begins, cX7_begins, 2, none, 1, 0),
  (yX7_ends, cX7_ends, 2, none, 1, 0),
  (yX7_still, cX7_still, 4, some (.int), 1, 0),
  (yX7_rings, cX7_rings, 3, some (.int), 1, 0),
  (yX7_seeded, cX7_seeded, 7, some (.int), 1, 3),
  (yX7_seam, cX7_seam, 11, some (.int), 1, 4),
  (yX7_drawnAt, cX7_drawnAt, 2, some (.int), 1, 1),
  (yX7_blot, cX7_blot, 7, some (.int), 1, 2),
  (yX7_harm, cX7_harm, 5, some (.int), 1, 2),
  (yX7_chosen, cX7_chosen, 13, some (.int), 1, 1),
  (yX7_leastNumber, cX7_leastNumber, 2, some (.int), 1, 1),
  (yX7_judge, cX7_judge, 6, some (.int), 1, 1),
  (yX7_image, cX7_image, 2, some (.int), 1, 0),
  (yX7_restore, cX7_restore, 2, some (.int), 1, 0),
  (yX7_count, cX7_count, 4, some (.int), 1, 1),
  (yX7_priceOf, cX7_priceOf, 2, some (.int), 2, 2),
  (yX7_keep, cX7_keep, 6, some (.int), 1, 3),
  (yX7_row, cX7_row, 5, some (.int), 1, 3),
  (yX7_put, cX7_put, 5, some (.int), 1, 3),
  (yX7_element, cX7_element, 3, some (.long), 1, 2),
  (yX7_copy, cX7_copy, 8, some (.int), 1, 5),
  (yX7_wrongKept, cX7_wrongKept, 2, some (.int), 1, 1),
  (yX7_price, cX7_price, 3, some (.int), 1, 1),
  (yX7_toss, cX7_toss, 3, some (.int), 1, 1),
  (yJ7_fill_53178, cJ7_fill_53178, 4, none, 2, 2),
  (yL_element, cL_element, 5, some (.int), 2, 4)]
/-- the methods' own numbers: name, code, locals, answer, kind (1 virtual, 2 static, 3 constructor), parameters -/
def mw_info (M : Nat) : Option mw_I := mw_infol[M]?
/-- what a link of class own at i says -/
def mw_okL (own : String) (i : Nat) (q : mv_K) : Prop := match q with
  | (0, ci, f, kd, _) => ∃ r : vw_C, vwCl[ci]? = some r ∧ f < r.2.2 ∧ kd = mw_fk ci f ∧ Cond.fieldLink own i r.1 (r.2.1 f).2.1 (r.2.1 f).2.2.1 ∈ lw_good ∧ (r.2.1 f).1 = r.1
  | (1, M, n, _, z) => ∃ I, mw_info M = some I ∧ M ≠ 28 ∧ M ≠ 122 ∧ M ≠ 125 ∧ M ≠ 218 ∧ mw_okM I ∧ I.2.2.2.2.1 = 1 ∧ Cond.methodLink own i I.1 ∈ lw_good ∧ n = I.2.2.2.2.2 ∧ ∃ rc : vw_C, vwCl[z.toNat]? = some rc ∧ rc.1 = I.1.cls
  | (2, M, n, _, _) => ∃ I, mw_info M = some I ∧ M ≠ 28 ∧ M ≠ 122 ∧ M ≠ 125 ∧ M ≠ 218 ∧ mw_okM I ∧ I.2.2.2.2.1 = 2 ∧ Cond.methodLink own i I.1 ∈ lw_good ∧ n = I.2.2.2.2.2
  | (3, M, n, _, _) => ∃ I, mw_info M = some I ∧ M ≠ 28 ∧ M ≠ 122 ∧ M ≠ 125 ∧ M ≠ 218 ∧ mw_okM I ∧ I.2.2.2.2.1 = 3 ∧ Cond.methodLink own i I.1 ∈ lw_good ∧ n = I.2.2.2.2.2
  | (4, M, n, _, _) => ∃ I, mw_info M = some I ∧ M ≠ 28 ∧ M ≠ 122 ∧ M ≠ 125 ∧ M ≠ 218 ∧ mw_okM I ∧ I.2.2.2.2.1 = 3 ∧ own = RX6 ∧ (i, I.1) ∈ mw_nest ∧ n = I.2.2.2.2.2
  | (5, _, _, _, _) => Cond.methodLink own i Lib.Math.abs.name ∈ lw_good
  | (6, _, _, _, _) => Cond.methodLink own i Lib.Math.max.name ∈ lw_good
  | (7, _, _, _, _) => Cond.methodLink own i Lib.Math.min.name ∈ lw_good
  | (8, _, _, _, _) => Cond.methodLink own i arraycopyName ∈ lw_good
  | (9, _, _, _, _) => Cond.methodLink own i Lib.objectInit ∈ lw_good
  | (10, _, _, _, _) => Cond.methodLink own i ⟨"java/lang/String", "isEmpty", "()Z"⟩ ∈ lw_good
  | (11, _, _, _, _) => Cond.methodLink own i ⟨"java/lang/String", "length", "()I"⟩ ∈ lw_good
  | (12, _, _, _, _) => Cond.methodLink own i ⟨"java/lang/String", "charAt", "(I)C"⟩ ∈ lw_good
  | (20, _, _, _, n) => Cond.constant own i (mv_c n) ∈ lw_good
  | (21, _, _, _, n) => Cond.constantLong own i (mv_cl n) ∈ lw_good
  | (22, a, _, _, _) => own = RX5 ∧ 1 ≤ a ∧ a ≤ 6 ∧ mw_idx.getD (a - 1) 0 = i
  | (31, _, _, _, _) => Cond.classLink own i "[[I" ∈ lw_good
  | (32, c, _, _, _) => ∃ r : vw_C, vwCl[c]? = some r ∧ Cond.classLink own i r.1 ∈ lw_good ∧ Cond.instantiable r.1 r.2.2 ∈ lw_good ∧ Cond.initialized r.1 ∈ lw_good
  | _ => True

section MS
variable {p : Program} {l : Launch} {e : Env} {R : Room} {s : State} {m : MethodId} {args : Array Value} {below : List Frame} {meth : Method} {c : Code} {own : String} {cc : ByteArray} {nL rt : Nat} {D : va_G} {ac sa : Nat → Nat} {b L : Nat} {xs : Nat → Int32} {base n0 s0 : Nat} {Q : State → Prop}
variable {cl : Nat → List mv_V → mv_S → mv_O} {lk : Nat → mv_K} {k : Nat → mv_L → List mv_V → mv_S → mv_O} {pc len : Nat} {lv : mv_L} {st : List mv_V} {σ σF : mv_S} {r0 : Option mv_V}

theorem ms_getfield {i : Nat} (X : mw_X p l R s m args meth c own cc nL rt D ac sa b L xs base) (hd : decode cc pc = .ok (.getfield i, 3)) (hL : mw_okL own i (lk i)) (hst : mv_step cl lk rt k (.getfield i) pc lv st σ = some (r0, σF)) (hk : ∀ pc' lv' st' σ', k pc' lv' st' σ' = some (r0, σF) → σ'.1 <+: σF.1 ∧ mw_G p l e R s m args below meth c nL D ac (mw_ad b sa base) base L xs n0 s0 Q pc' lv' st' σ') : σ.1 <+: σF.1 ∧ mw_G p l e R s m args below meth c nL D ac (mw_ad b sa base) base L xs n0 s0 Q pc lv st σ := by
  have hst : ((match (generalizing := false) st with
    | .inr (.inr o) :: r => (match (generalizing := false) lk i with
      | (0, c, f, 0, _) => mo_rf o fun a => mo_gI σ a c f fun x => k (pc + 3) lv (.inl x :: r) σ
      | (0, c, f, 1, _) => mo_rf o fun a => mo_gI σ a c f fun x => k (pc + 3) lv (.inl x :: r) σ
      | (0, c, f, 2, _) => mo_rf o fun a => mo_gR σ a c f fun x => k (pc + 3) lv (.inr (.inr x) :: r) σ
      | _ => none)
    | _ => none)) = some (r0, σF) := hst
  split at hst
  · rename_i o r hz
    split at hst
    · rename_i c0 f0 n1 hlk
      rw [hlk] at hL
      obtain ⟨rc, hrc, hf, hkd, hlink, hsame⟩ := hL
      obtain ⟨a, ho9, hs9⟩ := mo_rf_inv hst
      clear hst
      subst ho9
      have hst := hs9
      clear hs9
      obtain ⟨hty, hst⟩ := mo_gI_inv hst
      obtain ⟨h1, h2⟩ := hk _ _ _ _ hst
      refine ⟨h1, fun H locs ls cells slots hl hR hS hc hs => mw_gf X hrc hf hlink hsame hd hR hty ?_⟩
      rw [show mw_fv (mw_ad b sa base) σ c0 a f0 = .int (σ.2.1 a f0) by unfold mw_fv; rw [← hkd]; rfl]
      exact h2 H locs ls cells slots hl hR hS hc hs
    · rename_i c0 f0 n1 hlk
      rw [hlk] at hL
      obtain ⟨rc, hrc, hf, hkd, hlink, hsame⟩ := hL
      obtain ⟨a, ho9, hs9⟩ := mo_rf_inv hst
      clear hst
      subst ho9
      have hst := hs9
      clear hs9
      obtain ⟨hty, hst⟩ := mo_gI_inv hst
      obtain ⟨h1, h2⟩ := hk _ _ _ _ hst
      refine ⟨h1, fun H locs ls cells slots hl hR hS hc hs => mw_gf X hrc hf hlink hsame hd hR hty ?_⟩
      rw [show mw_fv (mw_ad b sa base) σ c0 a f0 = .int (σ.2.1 a f0) by unfold mw_fv; rw [← hkd]; rfl]
      exact h2 H locs ls cells slots hl hR hS hc hs
    · rename_i c0 f0 n1 hlk
      rw [hlk] at hL
      obtain ⟨rc, hrc, hf, hkd, hlink, hsame⟩ := hL
      obtain ⟨a, ho9, hs9⟩ := mo_rf_inv hst
      clear hst
      subst ho9
      have hst := hs9
      clear hs9
      obtain ⟨hty, hst⟩ := mo_gR_inv hst
      obtain ⟨h1, h2⟩ := hk _ _ _ _ hst
      refine ⟨h1, fun H locs ls cells slots hl hR hS hc hs => mw_gf X hrc hf hlink hsame hd hR hty ?_⟩
      rw [show mw_fv (mw_ad b sa base) σ c0 a f0 = va_rf ((σ.2.2.1 a f0).map (mw_ad b sa base)) by unfold mw_fv; rw [← hkd]; rfl]
      exact h2 H locs ls cells slots hl hR hS hc hs
    · cases hst
  · cases hst
theorem ms_putfield {i : Nat} (X : mw_X p l R s m args meth c own cc nL rt D ac sa b L xs base) (hd : decode cc pc = .ok (.putfield i, 3)) (hL : mw_okL own i (lk i)) (hfin : match lk i with | (0, ci, f, _, _) => ∀ r : vw_C, vwCl[ci]? = some r → ((r.2.1 f).2.2.2 = false ∨ (meth.name = "<init>" ∧ r.1 = own)) | _ => True) (hst : mv_step cl lk rt k (.putfield i) pc lv st σ = some (r0, σF)) (hk : ∀ pc' lv' st' σ', k pc' lv' st' σ' = some (r0, σF) → σ'.1 <+: σF.1 ∧ mw_G p l e R s m args below meth c nL D ac (mw_ad b sa base) base L xs n0 s0 Q pc' lv' st' σ') : σ.1 <+: σF.1 ∧ mw_G p l e R s m args below meth c nL D ac (mw_ad b sa base) base L xs n0 s0 Q pc lv st σ := by
  have hst : ((match (generalizing := false) lk i with
    | (0, c, f, 0, _) => (match (generalizing := false) st with
      | .inl x :: .inr (.inr o) :: r => mo_rf o fun a => mo_pI σ a c f x fun σ' => k (pc + 3) lv r σ'
      | _ => none)
    | (0, c, f, 1, _) => (match (generalizing := false) st with
      | .inl x :: .inr (.inr o) :: r => mo_rf o fun a => mo_z x (mo_pI σ a c f x fun σ' => k (pc + 3) lv r σ')
      | _ => none)
    | (0, c, f, 2, _) => (match (generalizing := false) st with
      | .inr (.inr x) :: .inr (.inr o) :: r => mo_rf o fun a => mo_pR σ a c f x fun σ' => k (pc + 3) lv r σ'
      | _ => none)
    | _ => none)) = some (r0, σF) := hst
  split at hst
  · rename_i c0 f0 n1 hlk
    split at hst
    · rename_i x o r hz
      rw [hlk] at hL hfin
      obtain ⟨rc, hrc, hf, hkd, hlink, hsame⟩ := hL
      obtain ⟨a, ho9, hs9⟩ := mo_rf_inv hst
      clear hst
      subst ho9
      have hst := hs9
      clear hs9
      obtain ⟨hty, hst⟩ := mo_pI_inv hst
      obtain ⟨h1, h2⟩ := hk _ _ _ _ hst
      refine ⟨h1, fun H locs ls cells slots hl hR hS hc hs => ?_⟩
      refine mw_pf (σ' := ms_i σ (mv_up σ.2.1 a f0 x)) X hrc hf hlink hsame (hfin rc hrc) hd (Or.inl ⟨hkd.symm, x, rfl⟩) hR hS hty rfl (fun q hq => mv_up_ne hq) (fun _ _ => rfl) rfl (fun j => ?_) (fun H1 locs1 hR1 hS1 => h2 H1 locs1 ls cells slots hl hR1 hS1 hc hs)
      by_cases e : j = f0
      · subst e
        simp [updV, mw_fv, mv_up, ← hkd, mw_v]
      · simp [updV, mw_fv, mv_up, e]
    · cases hst
  · rename_i c0 f0 n1 hlk
    split at hst
    · rename_i x o r hz
      rw [hlk] at hL hfin
      obtain ⟨rc, hrc, hf, hkd, hlink, hsame⟩ := hL
      obtain ⟨a, ho9, hs9⟩ := mo_rf_inv hst
      clear hst
      subst ho9
      have hst := hs9
      clear hs9
      obtain ⟨hx01, hst⟩ := mo_z_inv hst
      obtain ⟨hty, hst⟩ := mo_pI_inv hst
      obtain ⟨h1, h2⟩ := hk _ _ _ _ hst
      refine ⟨h1, fun H locs ls cells slots hl hR hS hc hs => ?_⟩
      refine mw_pf (σ' := ms_i σ (mv_up σ.2.1 a f0 x)) X hrc hf hlink hsame (hfin rc hrc) hd (Or.inr (Or.inl ⟨hkd.symm, by rcases hx01 with rfl | rfl; exact Or.inl rfl; exact Or.inr rfl⟩)) hR hS hty rfl (fun q hq => mv_up_ne hq) (fun _ _ => rfl) rfl (fun j => ?_) (fun H1 locs1 hR1 hS1 => h2 H1 locs1 ls cells slots hl hR1 hS1 hc hs)
      by_cases e : j = f0
      · subst e
        simp [updV, mw_fv, mv_up, ← hkd, mw_v]
      · simp [updV, mw_fv, mv_up, e]
    · cases hst
  · rename_i c0 f0 n1 hlk
    split at hst
    · rename_i x o r hz
      rw [hlk] at hL hfin
      obtain ⟨rc, hrc, hf, hkd, hlink, hsame⟩ := hL
      obtain ⟨a, ho9, hs9⟩ := mo_rf_inv hst
      clear hst
      subst ho9
      have hst := hs9
      clear hs9
      obtain ⟨hty, hst⟩ := mo_pR_inv hst
      obtain ⟨h1, h2⟩ := hk _ _ _ _ hst
      refine ⟨h1, fun H locs ls cells slots hl hR hS hc hs => ?_⟩
      refine mw_pf (σ' := ms_r σ (mv_up σ.2.2.1 a f0 x)) X hrc hf hlink hsame (hfin rc hrc) hd (Or.inr (Or.inr ⟨hkd.symm, x.map (mw_ad b sa base), rfl⟩)) hR hS hty rfl (fun _ _ => rfl) (fun q hq => mv_up_ne hq) rfl (fun j => ?_) (fun H1 locs1 hR1 hS1 => h2 H1 locs1 ls cells slots hl hR1 hS1 hc hs)
      by_cases e : j = f0
      · subst e
        simp [updV, mw_fv, mv_up, ← hkd, mw_v]
      · simp [updV, mw_fv, mv_up, e]
    · cases hst
  · cases hst
theorem ms_iaload (X : mw_X p l R s m args meth c own cc nL rt D ac sa b L xs base) (hd : decode cc pc = .ok (.iaload, 1))  (hst : mv_step cl lk rt k (.iaload) pc lv st σ = some (r0, σF)) (hk : ∀ pc' lv' st' σ', k pc' lv' st' σ' = some (r0, σF) → σ'.1 <+: σF.1 ∧ mw_G p l e R s m args below meth c nL D ac (mw_ad b sa base) base L xs n0 s0 Q pc' lv' st' σ') : σ.1 <+: σF.1 ∧ mw_G p l e R s m args below meth c nL D ac (mw_ad b sa base) base L xs n0 s0 Q pc lv st σ := by
  have hst : ((match (generalizing := false) st with
    | .inl i :: .inr (.inr o) :: r => mo_rf o fun a => mo_aI σ a i fun x => k (pc + 1) lv (.inl x :: r) σ
    | _ => none)) = some (r0, σF) := hst
  split at hst
  · rename_i i o r hz
    obtain ⟨a, ho9, hs9⟩ := mo_rf_inv hst
    clear hst
    subst ho9
    have hst := hs9
    clear hs9
    unfold mo_aI at hst
    obtain ⟨n, hq, hst⟩ := mo_ty_inv hst
    obtain ⟨hin, hst⟩ := mo_ix_inv hst
    obtain ⟨h1, h2⟩ := hk _ _ _ _ hst
    exact ⟨h1, fun H locs ls cells slots hl hR hS hc hs => mw_iald X hR hS hq hin hd (h2 H locs ls cells slots hl hR hS hc hs)⟩
  · cases hst
theorem ms_baload (X : mw_X p l R s m args meth c own cc nL rt D ac sa b L xs base) (hd : decode cc pc = .ok (.baload, 1))  (hst : mv_step cl lk rt k (.baload) pc lv st σ = some (r0, σF)) (hk : ∀ pc' lv' st' σ', k pc' lv' st' σ' = some (r0, σF) → σ'.1 <+: σF.1 ∧ mw_G p l e R s m args below meth c nL D ac (mw_ad b sa base) base L xs n0 s0 Q pc' lv' st' σ') : σ.1 <+: σF.1 ∧ mw_G p l e R s m args below meth c nL D ac (mw_ad b sa base) base L xs n0 s0 Q pc lv st σ := by
  have hst : ((match (generalizing := false) st with
    | .inl i :: .inr (.inr o) :: r => mo_rf o fun a => mo_aZ σ a i fun x => k (pc + 1) lv (.inl x :: r) σ
    | _ => none)) = some (r0, σF) := hst
  split at hst
  · rename_i i o r hz
    obtain ⟨a, ho9, hs9⟩ := mo_rf_inv hst
    clear hst
    subst ho9
    have hst := hs9
    clear hs9
    unfold mo_aZ at hst
    obtain ⟨n, hq, hst⟩ := mo_ty_inv hst
    obtain ⟨hin, hst⟩ := mo_ix_inv hst
    obtain ⟨h1, h2⟩ := hk _ _ _ _ hst
    exact ⟨h1, fun H locs ls cells slots hl hR hS hc hs => mw_zald X hR hS hq hin hd (h2 H locs ls cells slots hl hR hS hc hs)⟩
  · cases hst
theorem ms_laload (X : mw_X p l R s m args meth c own cc nL rt D ac sa b L xs base) (hd : decode cc pc = .ok (.laload, 1))  (hst : mv_step cl lk rt k (.laload) pc lv st σ = some (r0, σF)) (hk : ∀ pc' lv' st' σ', k pc' lv' st' σ' = some (r0, σF) → σ'.1 <+: σF.1 ∧ mw_G p l e R s m args below meth c nL D ac (mw_ad b sa base) base L xs n0 s0 Q pc' lv' st' σ') : σ.1 <+: σF.1 ∧ mw_G p l e R s m args below meth c nL D ac (mw_ad b sa base) base L xs n0 s0 Q pc lv st σ := by
  have hst : ((match (generalizing := false) st with
    | .inl i :: .inr (.inr o) :: r => mo_rf o fun a => mo_aL σ a i fun x => k (pc + 1) lv (.inr (.inl x) :: r) σ
    | _ => none)) = some (r0, σF) := hst
  split at hst
  · rename_i i o r hz
    obtain ⟨a, ho9, hs9⟩ := mo_rf_inv hst
    clear hst
    subst ho9
    have hst := hs9
    clear hs9
    unfold mo_aL at hst
    obtain ⟨n, hq, hst⟩ := mo_ty_inv hst
    obtain ⟨hin, hst⟩ := mo_ix_inv hst
    obtain ⟨h1, h2⟩ := hk _ _ _ _ hst
    exact ⟨h1, fun H locs ls cells slots hl hR hS hc hs => mw_lald X hR hS hq hin hd (h2 H locs ls cells slots hl hR hS hc hs)⟩
  · cases hst
theorem ms_aaload (X : mw_X p l R s m args meth c own cc nL rt D ac sa b L xs base) (hd : decode cc pc = .ok (.aaload, 1))  (hst : mv_step cl lk rt k (.aaload) pc lv st σ = some (r0, σF)) (hk : ∀ pc' lv' st' σ', k pc' lv' st' σ' = some (r0, σF) → σ'.1 <+: σF.1 ∧ mw_G p l e R s m args below meth c nL D ac (mw_ad b sa base) base L xs n0 s0 Q pc' lv' st' σ') : σ.1 <+: σF.1 ∧ mw_G p l e R s m args below meth c nL D ac (mw_ad b sa base) base L xs n0 s0 Q pc lv st σ := by
  have hst : ((match (generalizing := false) st with
    | .inl i :: .inr (.inr o) :: r => mo_rf o fun a => mo_aR σ a i fun x => k (pc + 1) lv (.inr (.inr x) :: r) σ
    | _ => none)) = some (r0, σF) := hst
  split at hst
  · rename_i i o r hz
    obtain ⟨a, ho9, hs9⟩ := mo_rf_inv hst
    clear hst
    subst ho9
    have hst := hs9
    clear hs9
    unfold mo_aR at hst
    obtain ⟨t, n, hq, h3, h5, hst⟩ := mo_tr_inv hst
    obtain ⟨hin, hst⟩ := mo_ix_inv hst
    obtain ⟨h1, h2⟩ := hk _ _ _ _ hst
    exact ⟨h1, fun H locs ls cells slots hl hR hS hc hs => mw_aald X hR hS hq h3 h5 hin hd (h2 H locs ls cells slots hl hR hS hc hs)⟩
  · cases hst
theorem ms_iastore (X : mw_X p l R s m args meth c own cc nL rt D ac sa b L xs base) (hd : decode cc pc = .ok (.iastore, 1))  (hst : mv_step cl lk rt k (.iastore) pc lv st σ = some (r0, σF)) (hk : ∀ pc' lv' st' σ', k pc' lv' st' σ' = some (r0, σF) → σ'.1 <+: σF.1 ∧ mw_G p l e R s m args below meth c nL D ac (mw_ad b sa base) base L xs n0 s0 Q pc' lv' st' σ') : σ.1 <+: σF.1 ∧ mw_G p l e R s m args below meth c nL D ac (mw_ad b sa base) base L xs n0 s0 Q pc lv st σ := by
  have hst : ((match (generalizing := false) st with
    | .inl x :: .inl i :: .inr (.inr o) :: r => mo_rf o fun a => mo_sI σ a i x fun σ' => k (pc + 1) lv r σ'
    | _ => none)) = some (r0, σF) := hst
  split at hst
  · rename_i x i o r hz
    obtain ⟨a, ho9, hs9⟩ := mo_rf_inv hst
    clear hst
    subst ho9
    have hst := hs9
    clear hs9
    unfold mo_sI at hst
    obtain ⟨h16, hst⟩ := mo_own_inv hst
    obtain ⟨n, hq, hst⟩ := mo_ty_inv hst
    obtain ⟨hin, hst⟩ := mo_ix_inv hst
    obtain ⟨h1, h2⟩ := hk _ _ _ _ hst
    exact ⟨h1, fun H locs ls cells slots hl hR hS hc hs => mw_iast X hR hS hq h16 hin hd (fun H1 locs1 hR1 hS1 => h2 H1 locs1 ls cells slots hl hR1 hS1 hc hs)⟩
  · cases hst
theorem ms_bastore (X : mw_X p l R s m args meth c own cc nL rt D ac sa b L xs base) (hd : decode cc pc = .ok (.bastore, 1))  (hst : mv_step cl lk rt k (.bastore) pc lv st σ = some (r0, σF)) (hk : ∀ pc' lv' st' σ', k pc' lv' st' σ' = some (r0, σF) → σ'.1 <+: σF.1 ∧ mw_G p l e R s m args below meth c nL D ac (mw_ad b sa base) base L xs n0 s0 Q pc' lv' st' σ') : σ.1 <+: σF.1 ∧ mw_G p l e R s m args below meth c nL D ac (mw_ad b sa base) base L xs n0 s0 Q pc lv st σ := by
  have hst : ((match (generalizing := false) st with
    | .inl x :: .inl i :: .inr (.inr o) :: r => mo_rf o fun a => mo_sZ σ a i x fun σ' => k (pc + 1) lv r σ'
    | _ => none)) = some (r0, σF) := hst
  split at hst
  · rename_i x i o r hz
    obtain ⟨a, ho9, hs9⟩ := mo_rf_inv hst
    clear hst
    subst ho9
    have hst := hs9
    clear hs9
    unfold mo_sZ at hst
    obtain ⟨h16, hst⟩ := mo_own_inv hst
    obtain ⟨n, hq, hst⟩ := mo_ty_inv hst
    obtain ⟨hin, hst⟩ := mo_ix_inv hst
    obtain ⟨h01, hst⟩ := mo_z_inv hst
    obtain ⟨h1, h2⟩ := hk _ _ _ _ hst
    exact ⟨h1, fun H locs ls cells slots hl hR hS hc hs => mw_zast X hR hS hq h16 h01 hin hd (fun H1 locs1 hR1 hS1 => h2 H1 locs1 ls cells slots hl hR1 hS1 hc hs)⟩
  · cases hst
theorem ms_lastore (X : mw_X p l R s m args meth c own cc nL rt D ac sa b L xs base) (hd : decode cc pc = .ok (.lastore, 1))  (hst : mv_step cl lk rt k (.lastore) pc lv st σ = some (r0, σF)) (hk : ∀ pc' lv' st' σ', k pc' lv' st' σ' = some (r0, σF) → σ'.1 <+: σF.1 ∧ mw_G p l e R s m args below meth c nL D ac (mw_ad b sa base) base L xs n0 s0 Q pc' lv' st' σ') : σ.1 <+: σF.1 ∧ mw_G p l e R s m args below meth c nL D ac (mw_ad b sa base) base L xs n0 s0 Q pc lv st σ := by
  have hst : ((match (generalizing := false) st with
    | .inr (.inl x) :: .inl i :: .inr (.inr o) :: r => mo_rf o fun a => mo_sL σ a i x fun σ' => k (pc + 1) lv r σ'
    | _ => none)) = some (r0, σF) := hst
  split at hst
  · rename_i x i o r hz
    obtain ⟨a, ho9, hs9⟩ := mo_rf_inv hst
    clear hst
    subst ho9
    have hst := hs9
    clear hs9
    unfold mo_sL at hst
    obtain ⟨h16, hst⟩ := mo_own_inv hst
    obtain ⟨n, hq, hst⟩ := mo_ty_inv hst
    obtain ⟨hin, hst⟩ := mo_ix_inv hst
    obtain ⟨h1, h2⟩ := hk _ _ _ _ hst
    exact ⟨h1, fun H locs ls cells slots hl hR hS hc hs => mw_last X hR hS hq h16 hin hd (fun H1 locs1 hR1 hS1 => h2 H1 locs1 ls cells slots hl hR1 hS1 hc hs)⟩
  · cases hst
theorem ms_aastore (X : mw_X p l R s m args meth c own cc nL rt D ac sa b L xs base) (hd : decode cc pc = .ok (.aastore, 1))  (hst : mv_step cl lk rt k (.aastore) pc lv st σ = some (r0, σF)) (hk : ∀ pc' lv' st' σ', k pc' lv' st' σ' = some (r0, σF) → σ'.1 <+: σF.1 ∧ mw_G p l e R s m args below meth c nL D ac (mw_ad b sa base) base L xs n0 s0 Q pc' lv' st' σ') : σ.1 <+: σF.1 ∧ mw_G p l e R s m args below meth c nL D ac (mw_ad b sa base) base L xs n0 s0 Q pc lv st σ := by
  have hst : ((match (generalizing := false) st with
    | .inr (.inr x) :: .inl i :: .inr (.inr o) :: r => mo_rf o fun a => mo_sR σ a i x fun σ' => k (pc + 1) lv r σ'
    | _ => none)) = some (r0, σF) := hst
  split at hst
  · rename_i x i o r hz
    obtain ⟨a, ho9, hs9⟩ := mo_rf_inv hst
    clear hst
    subst ho9
    have hst := hs9
    clear hs9
    unfold mo_sR at hst
    obtain ⟨h16, hst⟩ := mo_own_inv hst
    obtain ⟨t, n, hq, h3, h5, hst⟩ := mo_tr_inv hst
    split at hst
    · cases hst
    · rename_i hn5
      obtain ⟨hin, hst⟩ := mo_ix_inv hst
      cases x with
      | none =>
        obtain ⟨h1, h2⟩ := hk _ _ _ _ hst
        exact ⟨h1, fun H locs ls cells slots hl hR hS hc hs => mw_aastN X hR hS hq h3 h5 hn5 h16 hin hd (fun H1 locs1 hR1 hS1 => h2 H1 locs1 ls cells slots hl hR1 hS1 hc hs)⟩
      | some y =>
        dsimp only at hst
        split at hst
        · rename_i ho
          obtain ⟨h1, h2⟩ := hk _ _ _ _ hst
          exact ⟨h1, fun H locs ls cells slots hl hR hS hc hs => mw_aast X hR hS hq h3 h5 hn5 h16 ho hin hd (fun H1 locs1 hR1 hS1 => h2 H1 locs1 ls cells slots hl hR1 hS1 hc hs)⟩
        · cases hst
  · cases hst
theorem ms_arraylength (X : mw_X p l R s m args meth c own cc nL rt D ac sa b L xs base) (hd : decode cc pc = .ok (.arraylength, 1))  (hst : mv_step cl lk rt k (.arraylength) pc lv st σ = some (r0, σF)) (hk : ∀ pc' lv' st' σ', k pc' lv' st' σ' = some (r0, σF) → σ'.1 <+: σF.1 ∧ mw_G p l e R s m args below meth c nL D ac (mw_ad b sa base) base L xs n0 s0 Q pc' lv' st' σ') : σ.1 <+: σF.1 ∧ mw_G p l e R s m args below meth c nL D ac (mw_ad b sa base) base L xs n0 s0 Q pc lv st σ := by
  have hst : ((match (generalizing := false) st with
    | .inr (.inr o) :: r => mo_rf o fun a => mo_al σ a fun x => k (pc + 1) lv (.inl x :: r) σ
    | _ => none)) = some (r0, σF) := hst
  split at hst
  · rename_i o r hz
    obtain ⟨a, ho9, hs9⟩ := mo_rf_inv hst
    clear hst
    subst ho9
    have hst := hs9
    clear hs9
    unfold mo_al at hst
    split at hst
    · rename_i t n hq
      split at hst
      · rename_i h6
        obtain ⟨h1, h2⟩ := hk _ _ _ _ hst
        exact ⟨h1, fun H locs ls cells slots hl hR hS hc hs => mw_alen X hR hS hq h6 hd (h2 H locs ls cells slots hl hR hS hc hs)⟩
      · cases hst
    · cases hst
  · cases hst
theorem ms_newI (X : mw_X p l R s m args meth c own cc nL rt D ac sa b L xs base) (hd : decode cc pc = .ok (.newarray .int, 2)) (hB : σF.1.length ≤ R.cells + n0 ∧ mw_sz σF.1 ≤ R.slots + s0) (hA : Cond.arrayClass (mw_kty 0) ∈ lw_good) (hst : mv_step cl lk rt k (.newarray .int) pc lv st σ = some (r0, σF)) (hk : ∀ pc' lv' st' σ', k pc' lv' st' σ' = some (r0, σF) → σ'.1 <+: σF.1 ∧ mw_G p l e R s m args below meth c nL D ac (mw_ad b sa base) base L xs n0 s0 Q pc' lv' st' σ') : σ.1 <+: σF.1 ∧ mw_G p l e R s m args below meth c nL D ac (mw_ad b sa base) base L xs n0 s0 Q pc lv st σ := by
  have hst : ((match (generalizing := false) st with
    | .inl n :: r => mo_na σ 0 n fun o σ' => k (pc + 2) lv (.inr (.inr o) :: r) σ'
    | _ => none)) = some (r0, σF) := hst
  split at hst
  · rename_i n r hz
    unfold mo_na at hst
    obtain ⟨hin, hst⟩ := mo_ix_inv hst
    obtain ⟨h1, h2⟩ := hk _ _ _ _ hst
    have h3 := mw_sz_le h1
    rw [mw_sz_na, mw_len_na] at h3
    refine ⟨List.IsPrefix.trans (List.prefix_append _ _) h1, fun H locs ls cells slots hl hR hS hc hs => ?_⟩
    refine mw_newa X (t := 0) (by decide) rfl hA hR hS hin hd (by omega) (by omega) (fun H1 locs1 hR1 hS1 => h2 H1 locs1 ls _ _ hl hR1 hS1 ?_ ?_)
    · rw [mw_len_na]; omega
    · rw [mw_sz_na]; omega
  · cases hst
theorem ms_newZ (X : mw_X p l R s m args meth c own cc nL rt D ac sa b L xs base) (hd : decode cc pc = .ok (.newarray .boolean, 2)) (hB : σF.1.length ≤ R.cells + n0 ∧ mw_sz σF.1 ≤ R.slots + s0) (hA : Cond.arrayClass (mw_kty 1) ∈ lw_good) (hst : mv_step cl lk rt k (.newarray .boolean) pc lv st σ = some (r0, σF)) (hk : ∀ pc' lv' st' σ', k pc' lv' st' σ' = some (r0, σF) → σ'.1 <+: σF.1 ∧ mw_G p l e R s m args below meth c nL D ac (mw_ad b sa base) base L xs n0 s0 Q pc' lv' st' σ') : σ.1 <+: σF.1 ∧ mw_G p l e R s m args below meth c nL D ac (mw_ad b sa base) base L xs n0 s0 Q pc lv st σ := by
  have hst : ((match (generalizing := false) st with
    | .inl n :: r => mo_na σ 1 n fun o σ' => k (pc + 2) lv (.inr (.inr o) :: r) σ'
    | _ => none)) = some (r0, σF) := hst
  split at hst
  · rename_i n r hz
    unfold mo_na at hst
    obtain ⟨hin, hst⟩ := mo_ix_inv hst
    obtain ⟨h1, h2⟩ := hk _ _ _ _ hst
    have h3 := mw_sz_le h1
    rw [mw_sz_na, mw_len_na] at h3
    refine ⟨List.IsPrefix.trans (List.prefix_append _ _) h1, fun H locs ls cells slots hl hR hS hc hs => ?_⟩
    refine mw_newa X (t := 1) (by decide) rfl hA hR hS hin hd (by omega) (by omega) (fun H1 locs1 hR1 hS1 => h2 H1 locs1 ls _ _ hl hR1 hS1 ?_ ?_)
    · rw [mw_len_na]; omega
    · rw [mw_sz_na]; omega
  · cases hst
theorem ms_newL (X : mw_X p l R s m args meth c own cc nL rt D ac sa b L xs base) (hd : decode cc pc = .ok (.newarray .long, 2)) (hB : σF.1.length ≤ R.cells + n0 ∧ mw_sz σF.1 ≤ R.slots + s0) (hA : Cond.arrayClass (mw_kty 2) ∈ lw_good) (hst : mv_step cl lk rt k (.newarray .long) pc lv st σ = some (r0, σF)) (hk : ∀ pc' lv' st' σ', k pc' lv' st' σ' = some (r0, σF) → σ'.1 <+: σF.1 ∧ mw_G p l e R s m args below meth c nL D ac (mw_ad b sa base) base L xs n0 s0 Q pc' lv' st' σ') : σ.1 <+: σF.1 ∧ mw_G p l e R s m args below meth c nL D ac (mw_ad b sa base) base L xs n0 s0 Q pc lv st σ := by
  have hst : ((match (generalizing := false) st with
    | .inl n :: r => mo_na σ 2 n fun o σ' => k (pc + 2) lv (.inr (.inr o) :: r) σ'
    | _ => none)) = some (r0, σF) := hst
  split at hst
  · rename_i n r hz
    unfold mo_na at hst
    obtain ⟨hin, hst⟩ := mo_ix_inv hst
    obtain ⟨h1, h2⟩ := hk _ _ _ _ hst
    have h3 := mw_sz_le h1
    rw [mw_sz_na, mw_len_na] at h3
    refine ⟨List.IsPrefix.trans (List.prefix_append _ _) h1, fun H locs ls cells slots hl hR hS hc hs => ?_⟩
    refine mw_newa X (t := 2) (by decide) rfl hA hR hS hin hd (by omega) (by omega) (fun H1 locs1 hR1 hS1 => h2 H1 locs1 ls _ _ hl hR1 hS1 ?_ ?_)
    · rw [mw_len_na]; omega
    · rw [mw_sz_na]; omega
  · cases hst
theorem ms_anewarray {i : Nat} (X : mw_X p l R s m args meth c own cc nL rt D ac sa b L xs base) (hd : decode cc pc = .ok (.anewarray i, 3)) (hB : σF.1.length ≤ R.cells + n0 ∧ mw_sz σF.1 ≤ R.slots + s0) (hL : mw_okL own i (lk i)) (hcs : ∀ (rc : vw_C) {c0 x y : Nat} (z : Int), lk i = (32, c0, x, y, z) → vwCl[c0]? = some rc → (c0 = 2 ∧ rc.1 = "LandByMap$Drawer") ∨ (c0 = 4 ∧ rc.1 = "LandByMap$Shelf")) (hst : mv_step cl lk rt k (.anewarray i) pc lv st σ = some (r0, σF)) (hk : ∀ pc' lv' st' σ', k pc' lv' st' σ' = some (r0, σF) → σ'.1 <+: σF.1 ∧ mw_G p l e R s m args below meth c nL D ac (mw_ad b sa base) base L xs n0 s0 Q pc' lv' st' σ') : σ.1 <+: σF.1 ∧ mw_G p l e R s m args below meth c nL D ac (mw_ad b sa base) base L xs n0 s0 Q pc lv st σ := by
  have hst : ((match (generalizing := false) lk i with
    | (32, c, _, _, _) => (match (generalizing := false) st with
      | .inl n :: r => mo_na σ (if c = 2 then 3 else 4) n fun o σ' => k (pc + 3) lv (.inr (.inr o) :: r) σ'
      | _ => none)
    | _ => none)) = some (r0, σF) := hst
  split at hst
  · rename_i c0 _ _ _ hlk
    rw [hlk] at hL
    obtain ⟨rc, hrc, hl1, hl2, hl3⟩ := hL
    split at hst
    · rename_i n r hz
      unfold mo_na at hst
      obtain ⟨hin, hst⟩ := mo_ix_inv hst
      obtain ⟨h1, h2⟩ := hk _ _ _ _ hst
      have h3 := mw_sz_le h1
      rw [mw_sz_na, mw_len_na] at h3
      refine ⟨List.IsPrefix.trans (List.prefix_append _ _) h1, fun H locs ls cells slots hl hR hS hc hs => ?_⟩
      have hOv := X.2.2.2.2.2.2.2.2.2.2.2.2.1
      have hcc : (c0 = 2 ∧ rc.1 = "LandByMap$Drawer") ∨ (c0 = 4 ∧ rc.1 = "LandByMap$Shelf") := hcs rc _ hlk hrc
      rcases hcc with ⟨rfl, hC⟩ | ⟨rfl, hC⟩
      · rw [hC] at hl1
        refine mw_anew X (t := 3) (by decide) (by decide) rfl hl1 hOv.1 hR hS hin hd (by omega) (by omega) (fun H1 locs1 hR1 hS1 => h2 H1 locs1 ls _ _ hl hR1 hS1 ?_ ?_)
        · rw [mw_len_na]; omega
        · rw [mw_sz_na]; omega
      · rw [hC] at hl1
        refine mw_anew X (t := 4) (by decide) (by decide) rfl hl1 hOv.2 hR hS hin hd (by omega) (by omega) (fun H1 locs1 hR1 hS1 => h2 H1 locs1 ls _ _ hl hR1 hS1 ?_ ?_)
        · rw [mw_len_na]; omega
        · rw [mw_sz_na]; omega
    · cases hst
  · cases hst
end MS
end
section
/-! SOUNDNESS of the small machine, 8: calls, constants, switches (by program: wip/whole/gen/gen_sound8.py) -/
def mw_ex (x : Nat) : String := match x with
  | 1 => "java/lang/IllegalStateException"
  | 2 => "java/lang/UnsupportedOperationException"
  | _ => "java/lang/IllegalArgumentException"
/-- a method with a table of its own -/
def mw_hh (M : Nat) : List (Nat × Nat × Nat × Nat) := if M = 125 then [(34, 38, 41, 320), (34, 38, 48, 344), (34, 38, 58, 310)] else [(0, 9, 12, 13), (0, 9, 16, 15)]
section MD
variable (l : Launch) (D : va_G) (ac sa : Nat → Nat) (b L : Nat) (xs : Nat → Int32) (base : Nat)
def mw_OkW (I : mw_I) (hh : List (Nat × Nat × Nat × Nat)) (d : Nat) (as : List mv_V) (σ : mv_S) (r : Option mv_V) (σ' : mv_S) : Prop :=
  Met l I.1 (Cond.codeWith I.1 I.2.1 I.2.2.1 I.2.2.2.1 hh :: lw_good) (mw_rm d σ σ') (mw_Pc D ac sa b L xs base as σ) (mw_Qc D ac sa b L xs base r σ') (σ'.1.length - σ.1.length) (mw_sz σ'.1 - mw_sz σ.1) (fun q => base ≤ q)
/-- what a thrown end means -/
def mw_XC (r : Option mv_V) (σ' : mv_S) : String → State → State → Prop := fun E st t => ∃ x, 1 ≤ x ∧ x ≤ 3 ∧ r = some (.inl (nI x)) ∧ E = mw_ex x ∧ mw_R (mw_ad b sa base) D ac base L xs σ' t.heap ∧ va_F (fun q => base ≤ q) st t
def mw_QT (r : Option mv_V) (σ' : mv_S) : Array Value → State → Outcome → State → Prop := fun a st o t => (∀ x, r ≠ some (.inl x)) ∧ mw_Qc D ac sa b L xs base r σ' a st o t
def mw_OkT (I : mw_I) (d : Nat) (as : List mv_V) (σ : mv_S) (r : Option mv_V) (σ' : mv_S) : Prop :=
  vx_Met l I.1 (Cond.code I.1 I.2.1 I.2.2.1 I.2.2.2.1 :: lw_good) (mw_rm d σ σ') (mw_Pc D ac sa b L xs base as σ) (mw_QT D ac sa b L xs base r σ') (mw_XC D ac sa b L xs base r σ') (σ'.1.length - σ.1.length) (mw_sz σ'.1 - mw_sz σ.1) (fun q => base ≤ q)
/-- what every call at depth d means -/
def mw_CC (d : Nat) (cl : Nat → List mv_V → mv_S → mv_O) : Prop := ∀ (M : Nat) (as : List mv_V) (σ : mv_S) (r : Option mv_V) (σ' : mv_S), cl M as σ = some (r, σ') → σ.1 <+: σ'.1 ∧ ∀ I, mw_info M = some I →
  (M ≠ 28 → M ≠ 122 → M ≠ 125 → M ≠ 218 → mw_Ok l D ac sa b L xs base I d as σ r σ') ∧ ((M = 125 ∨ M = 218) → mw_OkW l D ac sa b L xs base I (mw_hh M) d as σ r σ') ∧ ((M = 28 ∨ M = 122) → mw_OkT l D ac sa b L xs base I d as σ r σ')
end MD
theorem mv_back_inv {c : Nat} {o : mv_O} {k : List mv_V → mv_S → mv_O} {q : Option mv_V × mv_S} (h : mv_back c o k = some q) : ∃ r σ', o = some (r, σ') ∧ k r.toList σ' = some q := by
  unfold mv_back at h
  split at h
  · unfold mo_rV at h
    split at h
    · exact ⟨_, _, rfl, h⟩
    · cases h
  · unfold mo_rI at h
    split at h
    · exact ⟨_, _, rfl, h⟩
    · cases h
  · unfold mo_rR at h
    split at h
    · exact ⟨_, _, rfl, h⟩
    · cases h
  · unfold mo_rL at h
    split at h
    · exact ⟨_, _, rfl, h⟩
    · cases h
theorem mo_rV_inv {o : mv_O} {k : mv_S → mv_O} {q : Option mv_V × mv_S} (h : mo_rV o k = some q) : ∃ σ', o = some (none, σ') ∧ k σ' = some q := by
  unfold mo_rV at h
  split at h
  · exact ⟨_, rfl, h⟩
  · cases h
theorem mo_is_inv {σ : mv_S} {a c : Nat} {k : mv_O} {q : Option mv_V × mv_S} (h : mo_is σ a c k = some q) : σ.1[a]? = some (.inl c) ∧ k = some q := by
  unfold mo_is at h
  split at h
  · rename_i e
    exact ⟨e, h⟩
  · cases h
theorem mw_wd (ad : Nat → Nat) (r : List mv_V) : ((r.map (mw_v ad)).map fun v => v.category).sum = mv_wd r := by
  unfold mv_wd
  rw [List.map_map]
  congr 1
  refine List.map_congr_left fun v _ => ?_
  match v with
  | .inl x => rfl
  | .inr (.inl x) => rfl
  | .inr (.inr none) => rfl
  | .inr (.inr (some a)) => rfl
theorem mw_stk {ad : Nat → Nat} {st r : List mv_V} {n a : Nat} (hz : st.drop n = .inr (.inr (some a)) :: r) : st.map (mw_v ad) = ((st.take n).reverse.map (mw_v ad)).reverse ++ .ref (ad a) :: r.map (mw_v ad) ∧ (st.take n).reverse.length = n := by
  have hl : n < st.length := by
    rcases Nat.lt_or_ge n st.length with h | h
    · exact h
    · rw [List.drop_eq_nil_of_le h] at hz
      cases hz
  constructor
  · have h := List.take_append_drop n st
    rw [hz] at h
    conv => lhs; rw [← h]
    rw [List.map_append, List.map_reverse, List.reverse_reverse]
    rfl
  · rw [List.length_reverse, List.length_take]
    omega
theorem mw_stkS {ad : Nat → Nat} {st : List mv_V} {n : Nat} : st.map (mw_v ad) = ((st.take n).reverse.map (mw_v ad)).reverse ++ (st.drop n).map (mw_v ad) := by
  rw [List.map_reverse, List.reverse_reverse, ← List.map_append, List.take_append_drop]
theorem mw_pushed {ad : Nat → Nat} {r : Option mv_V} {rest : List mv_V} : (r.map (mw_v ad)).toList ++ rest.map (mw_v ad) = (r.toList ++ rest).map (mw_v ad) := by
  cases r <;> rfl

theorem mw_mathW : Cond.static Lib.Math.abs.name ∈ lw_good ∧ Cond.static Lib.Math.max.name ∈ lw_good ∧ Cond.static Lib.Math.min.name ∈ lw_good ∧ Cond.initialized "java/lang/Math" ∈ lw_good ∧ Cond.code Lib.Math.abs.name Lib.Math.abs.code 1 (some .int) ∈ lw_good ∧ Cond.code Lib.Math.max.name Lib.Math.max.code 2 (some .int) ∈ lw_good ∧ Cond.code Lib.Math.min.name Lib.Math.min.code 2 (some .int) ∈ lw_good := ⟨mw_in 123 (by decide +kernel) (by decide +kernel), mw_in 762 (by decide +kernel) (by decide +kernel), mw_in 414 (by decide +kernel) (by decide +kernel), mw_in 77 (by decide +kernel) (by decide +kernel), mw_in 124 (by decide +kernel) (by decide +kernel), mw_in 763 (by decide +kernel) (by decide +kernel), mw_in 415 (by decide +kernel) (by decide +kernel)⟩
theorem mw_sysW : Cond.native arraycopyName ∈ lw_good ∧ Cond.static arraycopyName ∈ lw_good ∧ Cond.initialized "java/lang/System" ∈ lw_good ∧ Cond.instanceMethod Lib.objectInit ∈ lw_good ∧ Cond.code Lib.objectInit ⟨#[0xb1]⟩ 1 none ∈ lw_good := ⟨mw_in 503 (by decide +kernel) (by decide +kernel), mw_in 502 (by decide +kernel) (by decide +kernel), mw_in 87 (by decide +kernel) (by decide +kernel), mw_in 101 (by decide +kernel) (by decide +kernel), mw_in 102 (by decide +kernel) (by decide +kernel)⟩

section MCALL
variable {p : Program} {l : Launch} {e : Env} {R : Room} {s : State} {m : MethodId} {args : Array Value} {below : List Frame} {meth : Method} {c : Code} {own : String} {cc : ByteArray} {nL rt : Nat} {D : va_G} {ac sa : Nat → Nat} {b L : Nat} {xs : Nat → Int32} {base n0 s0 : Nat} {Q : State → Prop}
variable {cl : Nat → List mv_V → mv_S → mv_O} {lk : Nat → mv_K} {k : Nat → mv_L → List mv_V → mv_S → mv_O} {pc len : Nat} {lv : mv_L} {st : List mv_V} {σ σF : mv_S} {r0 : Option mv_V} {d i : Nat}

theorem mq_c1 (X : mw_X p l R s m args meth c own cc nL rt D ac sa b L xs base) (hC : mw_CC l D ac sa b L xs base d cl) (hRd : d + 9 ≤ R.frames ∧ 64 * d + 564 ≤ R.locals) (hB : σF.1.length ≤ R.cells + n0 ∧ mw_sz σF.1 ≤ R.slots + s0) (hd : decode cc pc = .ok (.invokevirtual i, 3)) {M n c0 : Nat} {z : Int} (hL : mw_okL own i (1, M, n, c0, z)) (hst : mv_call cl (1, M, n, c0, z) st σ (fun st' σ' => k (pc + 3) lv st' σ') = some (r0, σF)) (hk : ∀ pc' lv' st' σ', k pc' lv' st' σ' = some (r0, σF) → σ'.1 <+: σF.1 ∧ mw_G p l e R s m args below meth c nL D ac (mw_ad b sa base) base L xs n0 s0 Q pc' lv' st' σ') : σ.1 <+: σF.1 ∧ mw_G p l e R s m args below meth c nL D ac (mw_ad b sa base) base L xs n0 s0 Q pc lv st σ := by
  have hst : (match (generalizing := false) st.drop n with
    | .inr (.inr o) :: r => mo_rf o fun a => mo_is σ a z.toNat (if mv_wd r ≤ 8 then mv_back c0 (cl M (.inr (.inr (some a)) :: (st.take n).reverse) σ) (fun v σ' => k (pc + 3) lv (v ++ r) σ') else none)
    | _ => none) = some (r0, σF) := hst
  split at hst
  · rename_i o r hz
    obtain ⟨a, ho9, hs9⟩ := mo_rf_inv hst
    clear hst
    subst ho9
    obtain ⟨est, hlen⟩ := mw_stk (ad := mw_ad b sa base) hz
    obtain ⟨hty, hs9⟩ := mo_is_inv hs9
    split at hs9
    · rename_i hwd
      obtain ⟨rv, σ1, hcl, hs9⟩ := mv_back_inv hs9
      obtain ⟨I, hI, n1, n2, n3, n4, hokM, hkd, hlink, hn, rc, hrc, hrn⟩ := hL
      obtain ⟨hp, hok⟩ := hC M _ _ _ _ hcl
      obtain ⟨h1, h2⟩ := hk _ _ _ _ hs9
      have h3 := mw_sz_le h1
      have h4 := mw_sz_le hp
      refine ⟨hp.trans h1, fun H locs ls cells slots hl hR hS hc hs => ?_⟩
      rw [est]
      refine mw_invV X ((hok I hI).1 n1 n2 n3 n4) hokM hkd hlink (hlen.trans hn) hty hrc hrn hl.1 hR hS (by rw [mw_wd]; exact hwd) hRd ⟨by omega, by omega⟩ hd (fun H1 locs1 hR1 hS1 => ?_)
      rw [mw_pushed]
      exact h2 H1 locs1 ls _ _ hl hR1 hS1 (by omega) (by omega)
    · cases hs9
  · cases hst
theorem mq_c2 (X : mw_X p l R s m args meth c own cc nL rt D ac sa b L xs base) (hC : mw_CC l D ac sa b L xs base d cl) (hRd : d + 9 ≤ R.frames ∧ 64 * d + 564 ≤ R.locals) (hB : σF.1.length ≤ R.cells + n0 ∧ mw_sz σF.1 ≤ R.slots + s0) (hd : decode cc pc = .ok (.invokestatic i, 3)) {M n c0 : Nat} {z : Int} (hL : mw_okL own i (2, M, n, c0, z)) (hst : mv_call cl (2, M, n, c0, z) st σ (fun st' σ' => k (pc + 3) lv st' σ') = some (r0, σF)) (hk : ∀ pc' lv' st' σ', k pc' lv' st' σ' = some (r0, σF) → σ'.1 <+: σF.1 ∧ mw_G p l e R s m args below meth c nL D ac (mw_ad b sa base) base L xs n0 s0 Q pc' lv' st' σ') : σ.1 <+: σF.1 ∧ mw_G p l e R s m args below meth c nL D ac (mw_ad b sa base) base L xs n0 s0 Q pc lv st σ := by
  have hst : (if n ≤ st.length ∧ mv_wd (st.drop n) ≤ 8 then mv_back c0 (cl M (st.take n).reverse σ) (fun v σ' => k (pc + 3) lv (v ++ st.drop n) σ') else none) = some (r0, σF) := hst
  split at hst
  · rename_i hwd
    obtain ⟨hlen, hwd⟩ := hwd
    obtain ⟨rv, σ1, hcl, hs9⟩ := mv_back_inv hst
    obtain ⟨I, hI, n1, n2, n3, n4, hokM, hkd, hlink, hn⟩ := hL
    obtain ⟨hp, hok⟩ := hC M _ _ _ _ hcl
    obtain ⟨h1, h2⟩ := hk _ _ _ _ hs9
    have h3 := mw_sz_le h1
    have h4 := mw_sz_le hp
    refine ⟨hp.trans h1, fun H locs ls cells slots hl hR hS hc hs => ?_⟩
    rw [mw_stkS (n := n)]
    refine mw_invS X ((hok I hI).1 n1 n2 n3 n4) hokM hkd hlink (by rw [List.length_reverse, List.length_take, ← hn]; exact Nat.min_eq_left hlen) hl.1 hR hS (by rw [mw_wd]; exact hwd) hRd ⟨by omega, by omega⟩ hd (fun H1 locs1 hR1 hS1 => ?_)
    rw [mw_pushed]
    exact h2 H1 locs1 ls _ _ hl hR1 hS1 (by omega) (by omega)
  · cases hst
theorem mq_c3 (X : mw_X p l R s m args meth c own cc nL rt D ac sa b L xs base) (hC : mw_CC l D ac sa b L xs base d cl) (hRd : d + 9 ≤ R.frames ∧ 64 * d + 564 ≤ R.locals) (hB : σF.1.length ≤ R.cells + n0 ∧ mw_sz σF.1 ≤ R.slots + s0) (hd : decode cc pc = .ok (.invokespecial i, 3)) {M n c0 : Nat} {z : Int} (hL : mw_okL own i (3, M, n, c0, z)) (hst : mv_call cl (3, M, n, c0, z) st σ (fun st' σ' => k (pc + 3) lv st' σ') = some (r0, σF)) (hk : ∀ pc' lv' st' σ', k pc' lv' st' σ' = some (r0, σF) → σ'.1 <+: σF.1 ∧ mw_G p l e R s m args below meth c nL D ac (mw_ad b sa base) base L xs n0 s0 Q pc' lv' st' σ') : σ.1 <+: σF.1 ∧ mw_G p l e R s m args below meth c nL D ac (mw_ad b sa base) base L xs n0 s0 Q pc lv st σ := by
  have hst : (match (generalizing := false) st.drop n with
    | .inr (.inr o) :: r => mo_rf o fun a => if mv_wd r ≤ 8 then mo_rV (cl M (.inr (.inr (some a)) :: (st.take n).reverse) σ) (fun σ' => k (pc + 3) lv r σ') else none
    | _ => none) = some (r0, σF) := hst
  split at hst
  · rename_i o r hz
    obtain ⟨a, ho9, hs9⟩ := mo_rf_inv hst
    clear hst
    subst ho9
    obtain ⟨est, hlen⟩ := mw_stk (ad := mw_ad b sa base) hz
    split at hs9
    · rename_i hwd
      obtain ⟨σ1, hcl, hs9⟩ := mo_rV_inv hs9
      obtain ⟨I, hI, n1, n2, n3, n4, hokM, hkd, hlink, hn⟩ := hL
      obtain ⟨hp, hok⟩ := hC M _ _ _ _ hcl
      obtain ⟨h1, h2⟩ := hk _ _ _ _ hs9
      have h3 := mw_sz_le h1
      have h4 := mw_sz_le hp
      refine ⟨hp.trans h1, fun H locs ls cells slots hl hR hS hc hs => ?_⟩
      rw [est]
      refine mw_invI X ((hok I hI).1 n1 n2 n3 n4) hokM hkd hlink (hlen.trans hn) hl.1 hR hS (by rw [mw_wd]; exact hwd) hRd ⟨by omega, by omega⟩ hd (fun H1 locs1 hR1 hS1 => ?_)
      exact h2 H1 locs1 ls _ _ hl hR1 hS1 (by omega) (by omega)
    · cases hs9
  · cases hst
theorem mq_c4 (X : mw_X p l R s m args meth c own cc nL rt D ac sa b L xs base) (hC : mw_CC l D ac sa b L xs base d cl) (hRd : d + 9 ≤ R.frames ∧ 64 * d + 564 ≤ R.locals) (hB : σF.1.length ≤ R.cells + n0 ∧ mw_sz σF.1 ≤ R.slots + s0) (hd : decode cc pc = .ok (.invokespecial i, 3)) {M n c0 : Nat} {z : Int} (hL : mw_okL own i (4, M, n, c0, z)) (hst : mv_call cl (4, M, n, c0, z) st σ (fun st' σ' => k (pc + 3) lv st' σ') = some (r0, σF)) (hk : ∀ pc' lv' st' σ', k pc' lv' st' σ' = some (r0, σF) → σ'.1 <+: σF.1 ∧ mw_G p l e R s m args below meth c nL D ac (mw_ad b sa base) base L xs n0 s0 Q pc' lv' st' σ') : σ.1 <+: σF.1 ∧ mw_G p l e R s m args below meth c nL D ac (mw_ad b sa base) base L xs n0 s0 Q pc lv st σ := by
  have hst : (match (generalizing := false) st.drop n with
    | .inr (.inr o) :: r => mo_rf o fun a => if mv_wd r ≤ 8 then mo_rV (cl M (.inr (.inr (some a)) :: (st.take n).reverse) σ) (fun σ' => k (pc + 3) lv r σ') else none
    | _ => none) = some (r0, σF) := hst
  split at hst
  · rename_i o r hz
    obtain ⟨a, ho9, hs9⟩ := mo_rf_inv hst
    clear hst
    subst ho9
    obtain ⟨est, hlen⟩ := mw_stk (ad := mw_ad b sa base) hz
    split at hs9
    · rename_i hwd
      obtain ⟨σ1, hcl, hs9⟩ := mo_rV_inv hs9
      obtain ⟨I, hI, n1, n2, n3, n4, hokM, hkd, hown, hlink, hn⟩ := hL
      obtain ⟨hp, hok⟩ := hC M _ _ _ _ hcl
      obtain ⟨h1, h2⟩ := hk _ _ _ _ hs9
      have h3 := mw_sz_le h1
      have h4 := mw_sz_le hp
      refine ⟨hp.trans h1, fun H locs ls cells slots hl hR hS hc hs => ?_⟩
      rw [est]
      refine mw_invN X ((hok I hI).1 n1 n2 n3 n4) hokM hkd hown hlink (hlen.trans hn) hl.1 hR hS (by rw [mw_wd]; exact hwd) hRd ⟨by omega, by omega⟩ hd (fun H1 locs1 hR1 hS1 => ?_)
      exact h2 H1 locs1 ls _ _ hl hR1 hS1 (by omega) (by omega)
    · cases hs9
  · cases hst
theorem mq_c5 (X : mw_X p l R s m args meth c own cc nL rt D ac sa b L xs base) (hC : mw_CC l D ac sa b L xs base d cl) (hRd : d + 9 ≤ R.frames ∧ 64 * d + 564 ≤ R.locals) (hB : σF.1.length ≤ R.cells + n0 ∧ mw_sz σF.1 ≤ R.slots + s0) (hd : decode cc pc = .ok (.invokestatic i, 3)) {M n c0 : Nat} {z : Int} (hL : mw_okL own i (5, M, n, c0, z)) (hst : mv_call cl (5, M, n, c0, z) st σ (fun st' σ' => k (pc + 3) lv st' σ') = some (r0, σF)) (hk : ∀ pc' lv' st' σ', k pc' lv' st' σ' = some (r0, σF) → σ'.1 <+: σF.1 ∧ mw_G p l e R s m args below meth c nL D ac (mw_ad b sa base) base L xs n0 s0 Q pc' lv' st' σ') : σ.1 <+: σF.1 ∧ mw_G p l e R s m args below meth c nL D ac (mw_ad b sa base) base L xs n0 s0 Q pc lv st σ := by
  have hst : (match (generalizing := false) st with
    | .inl x :: r => if mv_wd r ≤ 8 then k (pc + 3) lv (.inl (mv_abs x) :: r) σ else none
    | _ => none) = some (r0, σF) := hst
  have hts := X.2.2.2.2.1
  have hRm := X.2.2.2.2.2.2.2.2.2.1
  obtain ⟨w1, w2, w3, w4, w5, w6, w7⟩ := mw_mathW
  split at hst
  · rename_i x r hz
    split at hst
    · rename_i hwd
      obtain ⟨h1, h2⟩ := hk _ _ _ _ hst
      have h3 := mw_sz_le h1
      refine ⟨h1, fun H locs ls cells slots hl hR hS hc hs => ?_⟩
      exact va_mabs X.1 X.2.1 (X.2.2.1.trans hl.1.symm) X.2.2.2.1 (hts _ hL) (hts _ w1) (hts _ w4) (hts _ w5) (Nat.le_trans (by decide) hRm.1) (by rw [mw_wd]; omega) (by omega) (by omega) hd (h2 H locs ls cells slots hl hR hS hc hs)
    · cases hst
  · cases hst
theorem mq_c6 (X : mw_X p l R s m args meth c own cc nL rt D ac sa b L xs base) (hC : mw_CC l D ac sa b L xs base d cl) (hRd : d + 9 ≤ R.frames ∧ 64 * d + 564 ≤ R.locals) (hB : σF.1.length ≤ R.cells + n0 ∧ mw_sz σF.1 ≤ R.slots + s0) (hd : decode cc pc = .ok (.invokestatic i, 3)) {M n c0 : Nat} {z : Int} (hL : mw_okL own i (6, M, n, c0, z)) (hst : mv_call cl (6, M, n, c0, z) st σ (fun st' σ' => k (pc + 3) lv st' σ') = some (r0, σF)) (hk : ∀ pc' lv' st' σ', k pc' lv' st' σ' = some (r0, σF) → σ'.1 <+: σF.1 ∧ mw_G p l e R s m args below meth c nL D ac (mw_ad b sa base) base L xs n0 s0 Q pc' lv' st' σ') : σ.1 <+: σF.1 ∧ mw_G p l e R s m args below meth c nL D ac (mw_ad b sa base) base L xs n0 s0 Q pc lv st σ := by
  have hst : (match (generalizing := false) st with
    | .inl y :: .inl x :: r => if mv_wd r ≤ 8 then k (pc + 3) lv (.inl (mv_max x y) :: r) σ else none
    | _ => none) = some (r0, σF) := hst
  have hts := X.2.2.2.2.1
  have hRm := X.2.2.2.2.2.2.2.2.2.1
  obtain ⟨w1, w2, w3, w4, w5, w6, w7⟩ := mw_mathW
  split at hst
  · rename_i y x r hz
    split at hst
    · rename_i hwd
      obtain ⟨h1, h2⟩ := hk _ _ _ _ hst
      have h3 := mw_sz_le h1
      refine ⟨h1, fun H locs ls cells slots hl hR hS hc hs => ?_⟩
      exact va_mmax X.1 X.2.1 (X.2.2.1.trans hl.1.symm) X.2.2.2.1 (hts _ hL) (hts _ w2) (hts _ w4) (hts _ w6) (Nat.le_trans (by decide) hRm.1) (by rw [mw_wd]; omega) (by omega) (by omega) hd (h2 H locs ls cells slots hl hR hS hc hs)
    · cases hst
  · cases hst
theorem mq_c7 (X : mw_X p l R s m args meth c own cc nL rt D ac sa b L xs base) (hC : mw_CC l D ac sa b L xs base d cl) (hRd : d + 9 ≤ R.frames ∧ 64 * d + 564 ≤ R.locals) (hB : σF.1.length ≤ R.cells + n0 ∧ mw_sz σF.1 ≤ R.slots + s0) (hd : decode cc pc = .ok (.invokestatic i, 3)) {M n c0 : Nat} {z : Int} (hL : mw_okL own i (7, M, n, c0, z)) (hst : mv_call cl (7, M, n, c0, z) st σ (fun st' σ' => k (pc + 3) lv st' σ') = some (r0, σF)) (hk : ∀ pc' lv' st' σ', k pc' lv' st' σ' = some (r0, σF) → σ'.1 <+: σF.1 ∧ mw_G p l e R s m args below meth c nL D ac (mw_ad b sa base) base L xs n0 s0 Q pc' lv' st' σ') : σ.1 <+: σF.1 ∧ mw_G p l e R s m args below meth c nL D ac (mw_ad b sa base) base L xs n0 s0 Q pc lv st σ := by
  have hst : (match (generalizing := false) st with
    | .inl y :: .inl x :: r => if mv_wd r ≤ 8 then k (pc + 3) lv (.inl (mv_min x y) :: r) σ else none
    | _ => none) = some (r0, σF) := hst
  have hts := X.2.2.2.2.1
  have hRm := X.2.2.2.2.2.2.2.2.2.1
  obtain ⟨w1, w2, w3, w4, w5, w6, w7⟩ := mw_mathW
  split at hst
  · rename_i y x r hz
    split at hst
    · rename_i hwd
      obtain ⟨h1, h2⟩ := hk _ _ _ _ hst
      have h3 := mw_sz_le h1
      refine ⟨h1, fun H locs ls cells slots hl hR hS hc hs => ?_⟩
      exact va_mmin X.1 X.2.1 (X.2.2.1.trans hl.1.symm) X.2.2.2.1 (hts _ hL) (hts _ w3) (hts _ w4) (hts _ w7) (Nat.le_trans (by decide) hRm.1) (by rw [mw_wd]; omega) (by omega) (by omega) hd (h2 H locs ls cells slots hl hR hS hc hs)
    · cases hst
  · cases hst
theorem mq_c8 (X : mw_X p l R s m args meth c own cc nL rt D ac sa b L xs base) (hC : mw_CC l D ac sa b L xs base d cl) (hRd : d + 9 ≤ R.frames ∧ 64 * d + 564 ≤ R.locals) (hB : σF.1.length ≤ R.cells + n0 ∧ mw_sz σF.1 ≤ R.slots + s0) (hd : decode cc pc = .ok (.invokestatic i, 3)) {M n c0 : Nat} {z : Int} (hL : mw_okL own i (8, M, n, c0, z)) (hst : mv_call cl (8, M, n, c0, z) st σ (fun st' σ' => k (pc + 3) lv st' σ') = some (r0, σF)) (hk : ∀ pc' lv' st' σ', k pc' lv' st' σ' = some (r0, σF) → σ'.1 <+: σF.1 ∧ mw_G p l e R s m args below meth c nL D ac (mw_ad b sa base) base L xs n0 s0 Q pc' lv' st' σ') : σ.1 <+: σF.1 ∧ mw_G p l e R s m args below meth c nL D ac (mw_ad b sa base) base L xs n0 s0 Q pc lv st σ := by
  have hst : (match (generalizing := false) st with
    | .inl n :: .inl dp :: .inr (.inr ob) :: .inl sp :: .inr (.inr oa) :: r => mo_rf oa fun a => mo_rf ob fun b => if mv_wd r ≤ 8 then mo_cp σ a sp b dp n fun σ' => k (pc + 3) lv r σ' else none
    | _ => none) = some (r0, σF) := hst
  obtain ⟨w1, w2, w3, w4, w5⟩ := mw_sysW
  split at hst
  · rename_i n dp ob sp oa r hz
    obtain ⟨a0, ho9, hs9⟩ := mo_rf_inv hst
    clear hst
    subst ho9
    obtain ⟨a1, ho8, hst⟩ := mo_rf_inv hs9
    clear hs9
    subst ho8
    split at hst
    · rename_i hwd
      unfold mo_cp at hst
      obtain ⟨q1, hst⟩ := mo_own_inv hst
      obtain ⟨q2, hst⟩ := mo_own_inv hst
      obtain ⟨n0, q3, hst⟩ := mo_ty_inv hst
      obtain ⟨n1, q4, hst⟩ := mo_ty_inv hst
      split at hst
      · cases hst
      · rename_i g1
        split at hst
        · cases hst
        · rename_i g2
          obtain ⟨h1, h2⟩ := hk _ _ _ _ hst
          refine ⟨h1, fun H locs ls cells slots hl hR hS hc hs => ?_⟩
          exact mw_acopy X hL w1 w2 w3 hl.1 hR hS q1 q2 q3 q4 (fun h => g1 (Or.inl h)) (fun h => g1 (Or.inr (Or.inl h))) (fun h => g1 (Or.inr (Or.inr h))) (by omega) (by omega) (by rw [mw_wd]; exact hwd) hd (fun H1 locs1 hR1 hS1 => h2 H1 locs1 ls cells slots hl hR1 hS1 hc hs)
    · cases hst
  · cases hst
theorem mq_c9 (X : mw_X p l R s m args meth c own cc nL rt D ac sa b L xs base) (hC : mw_CC l D ac sa b L xs base d cl) (hRd : d + 9 ≤ R.frames ∧ 64 * d + 564 ≤ R.locals) (hB : σF.1.length ≤ R.cells + n0 ∧ mw_sz σF.1 ≤ R.slots + s0) (hd : decode cc pc = .ok (.invokespecial i, 3)) {M n c0 : Nat} {z : Int} (hL : mw_okL own i (9, M, n, c0, z)) (hst : mv_call cl (9, M, n, c0, z) st σ (fun st' σ' => k (pc + 3) lv st' σ') = some (r0, σF)) (hk : ∀ pc' lv' st' σ', k pc' lv' st' σ' = some (r0, σF) → σ'.1 <+: σF.1 ∧ mw_G p l e R s m args below meth c nL D ac (mw_ad b sa base) base L xs n0 s0 Q pc' lv' st' σ') : σ.1 <+: σF.1 ∧ mw_G p l e R s m args below meth c nL D ac (mw_ad b sa base) base L xs n0 s0 Q pc lv st σ := by
  have hst : (match (generalizing := false) st with
    | .inr (.inr o) :: r => mo_rf o fun _ => if mv_wd r ≤ 8 then k (pc + 3) lv r σ else none
    | _ => none) = some (r0, σF) := hst
  have hts := X.2.2.2.2.1
  have hRm := X.2.2.2.2.2.2.2.2.2.1
  obtain ⟨w1, w2, w3, w4, w5⟩ := mw_sysW
  split at hst
  · rename_i o r hz
    obtain ⟨a, ho9, hst⟩ := mo_rf_inv hst
    subst ho9
    split at hst
    · rename_i hwd
      obtain ⟨h1, h2⟩ := hk _ _ _ _ hst
      refine ⟨h1, fun H locs ls cells slots hl hR hS hc hs => ?_⟩
      exact W.objInit X.1 X.2.1 X.2.2.2.1 (hts _ hL) (hts _ w4) (hts _ w5) rfl (hl.1.trans X.2.2.1.symm) rfl hd (Nat.le_trans (by decide) hRm.1) (by
        have h9 := mw_wd (mw_ad b sa base) r
        show 2 * 0 + _ + 12 ≤ _
        omega) (h2 H locs ls cells slots hl hR hS hc hs)
    · cases hst
  · cases hst
end MCALL
end
section
/-! SOUNDNESS of the small machine, 9: constants, switches, ends, calls that catch -/
theorem mw_fksz {c : Nat} {r : vw_C} (h : vwCl[c]? = some r) : (mw_fks.getD c []).length = r.2.2 := by
  match c with
  | 0 => cases h; rfl
  | 1 => cases h; rfl
  | 2 => cases h; rfl
  | 3 => cases h; rfl
  | 4 => cases h; rfl
  | 5 => cases h; rfl
  | 6 => cases h; rfl
  | 7 => cases h; rfl
  | n + 8 => cases h
theorem mw_sz_no {σ : mv_S} {c : Nat} {r : vw_C} (h : vwCl[c]? = some r) : mw_sz (mv_no σ c).1 = mw_sz σ.1 + r.2.2 := by
  show mw_sz (σ.1 ++ [.inl c]) = _
  rw [mw_sz_app, ← mw_fksz h]
  simp [mw_sz, mw_szT]
theorem mw_len_no (σ : mv_S) (c : Nat) : (mv_no σ c).1.length = σ.1.length + 1 := by
  show (σ.1 ++ [(.inl c : mv_T)]).length = _
  simp
/-- how a method of this kind of answer ends -/
def mw_isRet (cc : ByteArray) (rt : Nat) (r0 : Option mv_V) (pc : Nat) (st : List mv_V) : Prop :=
  (decode cc pc = .ok (.ireturn, 1) ∧ ∃ x, st = [.inl x] ∧ r0 = some (.inl x) ∧ (rt = 0 ∨ (rt = 1 ∧ (x = 0 ∨ x = 1)))) ∨
  (decode cc pc = .ok (.areturn, 1) ∧ ∃ x, st = [.inr (.inr x)] ∧ r0 = some (.inr (.inr x)) ∧ rt = 2) ∨
  (decode cc pc = .ok (.lreturn, 1) ∧ ∃ x, st = [.inr (.inl x)] ∧ r0 = some (.inr (.inl x)) ∧ rt = 3) ∨
  (decode cc pc = .ok (.return_, 1) ∧ st = [] ∧ r0 = none ∧ rt = 4)
section MRet
variable (p : Program) (l : Launch) (e : Env) (R : Room) (s : State) (m : MethodId) (args : Array Value) (below : List Frame) (meth : Method) (c : Code) (own : String) (cc : ByteArray) (nL rt : Nat) (D : va_G) (ac ad : Nat → Nat) (base L : Nat) (xs : Nat → Int32) (n0 s0 : Nat) (Q : State → Prop) (lk : Nat → mv_K) (r0 : Option mv_V) (σF : mv_S) (ths : List Nat) (ct : Option Nat)
def mw_Ret : Prop := ∀ (H : Heap) (locs : List Loc) (ls : Array Slot) (cells slots pc : Nat) (st : List mv_V), ls.size = nL → mw_R ad D ac base L xs σF H → va_S (fun q => base ≤ q) s.heap H locs → cells + n0 = σF.1.length → slots + s0 = mw_sz σF.1 → mw_isRet cc rt r0 pc st →
  W p l e R s m args below meth c H locs cells slots Q (F0 m pc ls (st.map (mw_v ad)))
/-- how it ends where it throws -/
def mw_Thr : Prop := ∀ (H : Heap) (locs : List Loc) (ls : Array Slot) (cells slots pc i x n y : Nat) (z : Int) (st : List mv_V) (σ : mv_S), ls.size = nL → pc ∈ ths → lk i = (33, x, n, y, z) → decode cc pc = .ok (.new i, 3) → r0 = some (.inl (nI x)) → σF = mv_opq σ n → mw_R ad D ac base L xs σ H → va_S (fun q => base ≤ q) s.heap H locs → cells + n0 = σ.1.length → slots + s0 = mw_sz σ.1 →
  W p l e R s m args below meth c H locs cells slots Q (F0 m pc ls (st.map (mw_v ad)))
/-- what is caught at a call -/
def mw_Cat : Prop := ∀ (H : Heap) (locs : List Loc) (ls : Array Slot) (cells slots pc i M n y x h : Nat) (z : Int) (lv : mv_L) (rest : List Value) (q : Nat) (ce : Cell), lv_has ls nL (lv.map fun q => (q.1, mw_v ad q.2)) → some pc = ct → lk i = (42, M, n, y, z) → decode cc pc = .ok (.invokevirtual i, 3) → (mv_hl M).lookup x = some h → 1 ≤ x → x ≤ 3 →
  H[q]? = some ce → ce.vm = .none → s.vm.findClass (mw_ex x) = some ce.cls → (∀ ls' : Array Slot, lv_has ls' nL ((mv_drop4 lv).map fun q => (q.1, mw_v ad q.2)) → W p l e R s m args below meth c H locs cells slots Q (F0 m h ls' [])) →
  vx_W p l e R s m args below meth c H locs cells slots Q (F0 m pc ls rest) q
end MRet
/-- a method with a table of its own -/
def mw_okMW (I : mw_I) (hh : List (Nat × Nat × Nat × Nat)) : Prop := Cond.codeWith I.1 I.2.1 I.2.2.1 I.2.2.2.1 hh ∈ lw_good ∧ Cond.initialized I.1.cls ∈ lw_good ∧ (I.1.cls ≠ "java/lang/invoke/MethodHandle" ∧ I.1.cls ≠ "java/lang/invoke/VarHandle") ∧ (parseMethodDescriptor I.1.desc).map (fun d => d.parameters.length) = some I.2.2.2.2.2 ∧ I.2.2.1 ≤ 20
/-- what a link of kind 40, 41, 42 says -/
def mw_okX (own : String) (i : Nat) (q : mv_K) : Prop := match q with
  | (40, M, n, _, z) => M = 125 ∧ ∃ I, mw_info M = some I ∧ mw_okMW I (mw_hh M) ∧ Cond.instanceMethod I.1 ∈ lw_good ∧ Cond.selects I.1.cls I.1 I.1 ∈ lw_good ∧ Cond.methodLink own i I.1 ∈ lw_good ∧ n = I.2.2.2.2.2 ∧ ∃ rc : vw_C, vwCl[z.toNat]? = some rc ∧ rc.1 = I.1.cls
  | (41, M, n, _, _) => M = 218 ∧ ∃ I, mw_info M = some I ∧ mw_okMW I (mw_hh M) ∧ Cond.static I.1 ∈ lw_good ∧ Cond.methodLink own i I.1 ∈ lw_good ∧ n = I.2.2.2.2.2
  | (42, M, n, _, z) => (M = 28 ∨ M = 122) ∧ ∃ I, mw_info M = some I ∧ mw_okM I ∧ I.2.2.2.2.1 = 1 ∧ Cond.methodLink own i I.1 ∈ lw_good ∧ n = I.2.2.2.2.2 ∧ ∃ rc : vw_C, vwCl[z.toNat]? = some rc ∧ rc.1 = I.1.cls
  | _ => True
theorem mv_swL {k : Nat → mv_O} {pc : Nat} {d : Int} {x : Int32} : ∀ {ps : List (Int × Int)}, (∀ q ∈ ps, (mv_c q.1).toInt = q.1) → mv_sw k pc d x ps = k (mv_jmp pc (Op.lookupswitch.offset ps d x.toInt))
  | [], _ => rfl
  | (m, o) :: r, h => by
    have hm : (mv_c m).toInt = m := h (m, o) List.mem_cons_self
    show (if x = mv_c m then k (mv_jmp pc o) else mv_sw k pc d x r) = _
    by_cases e : x = mv_c m
    · rw [if_pos e, Op.lookupswitch.offset_cons, if_pos (by rw [e, hm])]
    · rw [if_neg e, lv_osw e hm]
      exact mv_swL (fun q hq => h q (List.mem_cons_of_mem _ hq))
theorem mv_swO {d x : Int} {P : Int → Prop} : ∀ {ps : List (Int × Int)}, (∀ q ∈ ps, P q.2) → P d → P (Op.lookupswitch.offset ps d x)
  | [], _, h => h
  | (m, o) :: r, h, hd => by
    rw [Op.lookupswitch.offset_cons]
    split
    · exact h (m, o) List.mem_cons_self
    · exact mv_swO (fun q hq => h q (List.mem_cons_of_mem _ hq)) hd
theorem mv_swT {k : Nat → mv_O} {pc : Nat} {d : Int} {x : Int32} : ∀ {l : List Int} {lo : Int}, (∀ j : Nat, j < l.length → (mv_c (lo + j)).toInt = lo + j) → (x.toInt < lo ∨ lo + l.length ≤ x.toInt) → mv_sw k pc d x (mv_pairs lo l) = k (mv_jmp pc d)
  | [], lo, _, _ => rfl
  | o :: r, lo, h, hx => by
    have h0 : (mv_c lo).toInt = lo := by
      have := h 0 (by simp)
      simpa using this
    show (if x = mv_c lo then k (mv_jmp pc o) else mv_sw k pc d x (mv_pairs (lo + 1) r)) = _
    rw [if_neg]
    · refine mv_swT (fun j hj => ?_) ?_
      · have := h (j + 1) (by simp; omega)
        rw [show lo + ((j + 1 : Nat) : Int) = lo + 1 + (j : Int) by omega] at this
        exact this
      · simp only [List.length_cons] at hx
        omega
    · intro e
      rw [e, h0] at hx
      simp only [List.length_cons] at hx
      omega
theorem mv_swI {k : Nat → mv_O} {pc : Nat} {d : Int} {x : Int32} {o : Int} : ∀ {l : List Int} {lo : Int}, (∀ j : Nat, j < l.length → (mv_c (lo + j)).toInt = lo + j) → lo ≤ x.toInt → l[(x.toInt - lo).toNat]? = some o → mv_sw k pc d x (mv_pairs lo l) = k (mv_jmp pc o)
  | [], lo, _, _, h => by cases h
  | o1 :: r, lo, h, hx, ho => by
    have h0 : (mv_c lo).toInt = lo := by
      have := h 0 (by simp)
      simpa using this
    show (if x = mv_c lo then k (mv_jmp pc o1) else mv_sw k pc d x (mv_pairs (lo + 1) r)) = _
    by_cases e : x = mv_c lo
    · rw [if_pos e]
      rw [e, h0, show (lo - lo).toNat = 0 by omega] at ho
      cases ho
      rfl
    · rw [if_neg e]
      have hne : x.toInt ≠ lo := fun q => e (Int32.toInt_inj.mp (by rw [h0]; exact q))
      refine mv_swI (fun j hj => ?_) (by omega) ?_
      · have := h (j + 1) (by simp; omega)
        rw [show lo + ((j + 1 : Nat) : Int) = lo + 1 + (j : Int) by omega] at this
        exact this
      · rw [show (x.toInt - lo).toNat = (x.toInt - (lo + 1)).toNat + 1 by omega] at ho
        exact ho
theorem mv_hs_inv {x M : Nat} {t : Nat → mv_O} {q : Option mv_V × mv_S} (hM : M = 28 ∨ M = 122) (h1 : 1 ≤ x) (h3 : x ≤ 3) (h : mv_hs (nI x) t (mv_hl M) = some q) : ∃ hh, (mv_hl M).lookup x = some hh ∧ t hh = some q := by
  rcases hM with rfl | rfl
  · rcases (show x = 1 ∨ x = 2 ∨ x = 3 by omega) with rfl | rfl | rfl
    · exact ⟨43, rfl, h⟩
    · exact ⟨50, rfl, h⟩
    · exact ⟨60, rfl, h⟩
  · rcases (show x = 1 ∨ x = 2 ∨ x = 3 by omega) with rfl | rfl | rfl
    · exact ⟨18, rfl, h⟩
    · cases h
    · exact ⟨14, rfl, h⟩
section MS
variable {p : Program} {l : Launch} {e : Env} {R : Room} {s : State} {m : MethodId} {args : Array Value} {below : List Frame} {meth : Method} {c : Code} {own : String} {cc : ByteArray} {nL rt : Nat} {D : va_G} {ac sa : Nat → Nat} {b L : Nat} {xs : Nat → Int32} {base n0 s0 : Nat} {Q : State → Prop}
variable {cl : Nat → List mv_V → mv_S → mv_O} {lk : Nat → mv_K} {k : Nat → mv_L → List mv_V → mv_S → mv_O} {pc len : Nat} {lv : mv_L} {st : List mv_V} {σ σF : mv_S} {r0 : Option mv_V} {d : Nat}

theorem ms_new {i : Nat} (X : mw_X p l R s m args meth c own cc nL rt D ac sa b L xs base) (hB : σF.1.length ≤ R.cells + n0 ∧ mw_sz σF.1 ≤ R.slots + s0) (hd : decode cc pc = .ok (.new i, 3)) (hL : mw_okL own i (lk i)) {ths : List Nat} (hp : (lk i).1 = 33 → pc ∈ ths) (hT : mw_Thr p l e R s m args below meth c cc nL D ac (mw_ad b sa base) base L xs n0 s0 Q lk r0 σF ths) (hst : mv_step cl lk rt k (.new i) pc lv st σ = some (r0, σF)) (hk : ∀ pc' lv' st' σ', k pc' lv' st' σ' = some (r0, σF) → σ'.1 <+: σF.1 ∧ mw_G p l e R s m args below meth c nL D ac (mw_ad b sa base) base L xs n0 s0 Q pc' lv' st' σ') : σ.1 <+: σF.1 ∧ mw_G p l e R s m args below meth c nL D ac (mw_ad b sa base) base L xs n0 s0 Q pc lv st σ := by
  have hst : (match (generalizing := false) lk i with
    | (32, c, _, _, _) => mo_no σ c fun o σ' => k (pc + 3) lv (.inr (.inr o) :: st) σ'
    | (33, x, n, _, _) => some (some (.inl (nI x)), mv_opq σ n)
    | _ => none) = some (r0, σF) := hst
  split at hst
  · rename_i c0 _ _ _ hlk
    rw [hlk] at hL
    obtain ⟨rc, hrc, hl1, hl2, hl3⟩ := hL
    obtain ⟨h1, h2⟩ := hk _ _ _ _ hst
    have h3 := mw_sz_le h1
    rw [mw_sz_no hrc, mw_len_no] at h3
    refine ⟨List.IsPrefix.trans (List.prefix_append _ _) h1, fun H locs ls cells slots hl hR hS hc hs => ?_⟩
    refine mw_new X hrc hl1 hl2 hl3 hR hS hd (by omega) (by omega) (fun H1 locs1 hR1 hS1 => h2 H1 locs1 ls _ _ hl hR1 hS1 ?_ ?_)
    · rw [mw_len_no]; omega
    · rw [mw_sz_no hrc]; omega
  · rename_i x n y z hlk
    have e1 := congrArg (fun q => q.map Prod.fst) hst
    have e2 := congrArg (fun q => q.map Prod.snd) hst
    have e3 : σF = mv_opq σ n := (Option.some.inj e2).symm
    have e4 : r0 = some (.inl (nI x)) := (Option.some.inj e1).symm
    refine ⟨?_, fun H locs ls cells slots hl hR hS hc hs => hT H locs ls cells slots pc i x n y z st σ hl.1 (hp (by rw [hlk])) hlk hd e4 e3 hR hS hc hs⟩
    rw [e3]
    exact List.prefix_append _ _
  · cases hst
theorem ms_ldc {i : Nat} (X : mw_X p l R s m args meth c own cc nL rt D ac sa b L xs base) (hd : decode cc pc = .ok (.ldc i, 2)) (hL : mw_okL own i (lk i)) (hst : mv_step cl lk rt k (.ldc i) pc lv st σ = some (r0, σF)) (hk : ∀ pc' lv' st' σ', k pc' lv' st' σ' = some (r0, σF) → σ'.1 <+: σF.1 ∧ mw_G p l e R s m args below meth c nL D ac (mw_ad b sa base) base L xs n0 s0 Q pc' lv' st' σ') : σ.1 <+: σF.1 ∧ mw_G p l e R s m args below meth c nL D ac (mw_ad b sa base) base L xs n0 s0 Q pc lv st σ := by
  have hst : (match (generalizing := false) lk i with
    | (20, _, _, _, n) => k (pc + 2) lv (.inl (mv_c n) :: st) σ
    | (22, a, _, _, _) => k (pc + 2) lv (.inr (.inr (some a)) :: st) σ
    | _ => none) = some (r0, σF) := hst
  split at hst
  · rename_i hlk
    rw [hlk] at hL
    obtain ⟨h1, h2⟩ := hk _ _ _ _ hst
    exact ⟨h1, fun H locs ls cells slots hl hR hS hc hs => lv_ldc X.1 X.2.1 X.2.2.2.1 (X.2.2.2.2.1 _ hL) hd (h2 H locs ls cells slots hl hR hS hc hs)⟩
  · rename_i a _ _ _ hlk
    rw [hlk] at hL
    obtain ⟨ho, ha1, ha6, hix⟩ := hL
    obtain ⟨h1, h2⟩ := hk _ _ _ _ hst
    refine ⟨h1, fun H locs ls cells slots hl hR hS hc hs => ?_⟩
    have hv := X.2.2.2.2.2.2.2.2.2.2.2.1 (a - 1) (by omega)
    rw [hix, ← ho, show a - 1 + 1 = a by omega] at hv
    have h9 := h2 H locs ls cells slots hl hR hS hc hs
    have e9 : mw_ad b sa base a = sa a := by
      unfold mw_ad
      rw [if_neg (by omega), if_pos (by omega)]
    refine va_ldcS X.1 X.2.1 X.2.2.2.1 hv hd ?_
    rw [← e9]
    exact h9
  · cases hst
theorem ms_ldc_w {i : Nat} (X : mw_X p l R s m args meth c own cc nL rt D ac sa b L xs base) (hd : decode cc pc = .ok (.ldc_w i, 3)) (hL : mw_okL own i (lk i)) (hst : mv_step cl lk rt k (.ldc_w i) pc lv st σ = some (r0, σF)) (hk : ∀ pc' lv' st' σ', k pc' lv' st' σ' = some (r0, σF) → σ'.1 <+: σF.1 ∧ mw_G p l e R s m args below meth c nL D ac (mw_ad b sa base) base L xs n0 s0 Q pc' lv' st' σ') : σ.1 <+: σF.1 ∧ mw_G p l e R s m args below meth c nL D ac (mw_ad b sa base) base L xs n0 s0 Q pc lv st σ := by
  have hst : (match (generalizing := false) lk i with
    | (20, _, _, _, n) => k (pc + 3) lv (.inl (mv_c n) :: st) σ
    | _ => none) = some (r0, σF) := hst
  split at hst
  · rename_i hlk
    rw [hlk] at hL
    obtain ⟨h1, h2⟩ := hk _ _ _ _ hst
    exact ⟨h1, fun H locs ls cells slots hl hR hS hc hs => lv_ldcw X.1 X.2.1 X.2.2.2.1 (X.2.2.2.2.1 _ hL) hd (h2 H locs ls cells slots hl hR hS hc hs)⟩
  · cases hst
theorem ms_ldc2_w {i : Nat} (X : mw_X p l R s m args meth c own cc nL rt D ac sa b L xs base) (hd : decode cc pc = .ok (.ldc2_w i, 3)) (hL : mw_okL own i (lk i)) (hst : mv_step cl lk rt k (.ldc2_w i) pc lv st σ = some (r0, σF)) (hk : ∀ pc' lv' st' σ', k pc' lv' st' σ' = some (r0, σF) → σ'.1 <+: σF.1 ∧ mw_G p l e R s m args below meth c nL D ac (mw_ad b sa base) base L xs n0 s0 Q pc' lv' st' σ') : σ.1 <+: σF.1 ∧ mw_G p l e R s m args below meth c nL D ac (mw_ad b sa base) base L xs n0 s0 Q pc lv st σ := by
  have hst : (match (generalizing := false) lk i with
    | (21, _, _, _, n) => k (pc + 3) lv (.inr (.inl (mv_cl n)) :: st) σ
    | _ => none) = some (r0, σF) := hst
  split at hst
  · rename_i hlk
    rw [hlk] at hL
    obtain ⟨h1, h2⟩ := hk _ _ _ _ hst
    exact ⟨h1, fun H locs ls cells slots hl hR hS hc hs => lv_ldc2 X.1 X.2.1 X.2.2.2.1 (X.2.2.2.2.1 _ hL) hd (h2 H locs ls cells slots hl hR hS hc hs)⟩
  · cases hst
theorem ms_tableswitch {df lo hi : Int} {offs : Array Int} {ln : Nat} (X : mw_X p l R s m args meth c own cc nL rt D ac sa b L xs base) (hd : decode cc pc = .ok (.tableswitch df lo hi offs, ln)) (hhi : hi + 1 = lo + offs.size) (hv : ∀ j : Nat, j < offs.toList.length → (mv_c (lo + j)).toInt = lo + j) (h0 : 0 ≤ (pc : Int) + df) (ho : ∀ o ∈ offs.toList, 0 ≤ (pc : Int) + o) (hst : mv_step cl lk rt k (.tableswitch df lo hi offs) pc lv st σ = some (r0, σF)) (hk : ∀ pc' lv' st' σ', k pc' lv' st' σ' = some (r0, σF) → σ'.1 <+: σF.1 ∧ mw_G p l e R s m args below meth c nL D ac (mw_ad b sa base) base L xs n0 s0 Q pc' lv' st' σ') : σ.1 <+: σF.1 ∧ mw_G p l e R s m args below meth c nL D ac (mw_ad b sa base) base L xs n0 s0 Q pc lv st σ := by
  have hst : (match (generalizing := false) st with
    | .inl x :: r => mv_sw (fun t => k t lv r σ) pc df x (mv_pairs lo offs.toList)
    | _ => none) = some (r0, σF) := hst
  split at hst
  · rename_i x r hz
    by_cases hx : x.toInt < lo ∨ hi < x.toInt
    · rw [mv_swT hv (by rw [Array.length_toList]; omega)] at hst
      obtain ⟨h1, h2⟩ := hk _ _ _ _ hst
      exact ⟨h1, fun H locs ls cells slots hl hR hS hc hs => lv_tableOut X.1 X.2.1 hd hx (mw_jmp h0) (h2 H locs ls cells slots hl hR hS hc hs)⟩
    · have hlt : (x.toInt - lo).toNat < offs.toList.length := by rw [Array.length_toList]; omega
      have hg : offs.toList[(x.toInt - lo).toNat]? = some offs.toList[(x.toInt - lo).toNat] := List.getElem?_eq_getElem hlt
      rw [mv_swI hv (by omega) hg] at hst
      obtain ⟨h1, h2⟩ := hk _ _ _ _ hst
      exact ⟨h1, fun H locs ls cells slots hl hR hS hc hs => lv_tableIn X.1 X.2.1 hd (by omega) (by omega) (by rw [← Array.getElem?_toList]; exact hg) (mw_jmp (ho _ (List.getElem_mem hlt))) (h2 H locs ls cells slots hl hR hS hc hs)⟩
  · cases hst
theorem ms_lookupswitch {df : Int} {ps : Array (Int × Int)} {ln : Nat} (X : mw_X p l R s m args meth c own cc nL rt D ac sa b L xs base) (hd : decode cc pc = .ok (.lookupswitch df ps, ln)) (hp : (ps.toList.zip (ps.toList.drop 1)).all (fun (a, next) => a.1 < next.1) = true) (hv : ∀ q ∈ ps.toList, (mv_c q.1).toInt = q.1) (h0 : 0 ≤ (pc : Int) + df) (ho : ∀ q ∈ ps.toList, 0 ≤ (pc : Int) + q.2) (hst : mv_step cl lk rt k (.lookupswitch df ps) pc lv st σ = some (r0, σF)) (hk : ∀ pc' lv' st' σ', k pc' lv' st' σ' = some (r0, σF) → σ'.1 <+: σF.1 ∧ mw_G p l e R s m args below meth c nL D ac (mw_ad b sa base) base L xs n0 s0 Q pc' lv' st' σ') : σ.1 <+: σF.1 ∧ mw_G p l e R s m args below meth c nL D ac (mw_ad b sa base) base L xs n0 s0 Q pc lv st σ := by
  have hst : (match (generalizing := false) st with
    | .inl x :: r => mv_sw (fun t => k t lv r σ) pc df x ps.toList
    | _ => none) = some (r0, σF) := hst
  split at hst
  · rename_i x r hz
    rw [mv_swL hv] at hst
    obtain ⟨h1, h2⟩ := hk _ _ _ _ hst
    exact ⟨h1, fun H locs ls cells slots hl hR hS hc hs => lv_lookup X.1 X.2.1 hd hp rfl (mw_jmp (mv_swO (P := fun o => 0 ≤ (pc : Int) + o) ho h0)) (h2 H locs ls cells slots hl hR hS hc hs)⟩
  · cases hst
theorem ms_ireturn (hd : decode cc pc = .ok (.ireturn, 1)) (hRt : mw_Ret p l e R s m args below meth c cc nL rt D ac (mw_ad b sa base) base L xs n0 s0 Q r0 σF) (hst : mv_step cl lk rt k .ireturn pc lv st σ = some (r0, σF)) : σ.1 <+: σF.1 ∧ mw_G p l e R s m args below meth c nL D ac (mw_ad b sa base) base L xs n0 s0 Q pc lv st σ := by
  have hst : (match (generalizing := false) st with
    | [.inl x] => if rt = 0 then some (some (.inl x), σ) else if rt = 1 then mo_z x (some (some (.inl x), σ)) else none
    | _ => none) = some (r0, σF) := hst
  split at hst
  · rename_i x hz
    split at hst
    · rename_i h0
      cases hst
      exact ⟨List.prefix_refl _, fun H locs ls cells slots hl hR hS hc hs => hRt H locs ls cells slots pc _ hl.1 hR hS hc hs (Or.inl ⟨hd, x, rfl, rfl, Or.inl h0⟩)⟩
    · split at hst
      · rename_i h0
        obtain ⟨hx, hst⟩ := mo_z_inv hst
        cases hst
        exact ⟨List.prefix_refl _, fun H locs ls cells slots hl hR hS hc hs => hRt H locs ls cells slots pc _ hl.1 hR hS hc hs (Or.inl ⟨hd, x, rfl, rfl, Or.inr ⟨h0, hx⟩⟩)⟩
      · cases hst
  · cases hst
theorem ms_areturn (hd : decode cc pc = .ok (.areturn, 1)) (hRt : mw_Ret p l e R s m args below meth c cc nL rt D ac (mw_ad b sa base) base L xs n0 s0 Q r0 σF) (hst : mv_step cl lk rt k .areturn pc lv st σ = some (r0, σF)) : σ.1 <+: σF.1 ∧ mw_G p l e R s m args below meth c nL D ac (mw_ad b sa base) base L xs n0 s0 Q pc lv st σ := by
  have hst : (match (generalizing := false) st with
    | [.inr (.inr x)] => if rt = 2 then some (some (.inr (.inr x)), σ) else none
    | _ => none) = some (r0, σF) := hst
  split at hst
  · rename_i x hz
    split at hst
    · rename_i h0
      cases hst
      exact ⟨List.prefix_refl _, fun H locs ls cells slots hl hR hS hc hs => hRt H locs ls cells slots pc _ hl.1 hR hS hc hs (Or.inr (Or.inl ⟨hd, x, rfl, rfl, h0⟩))⟩
    · cases hst
  · cases hst
theorem ms_lreturn (hd : decode cc pc = .ok (.lreturn, 1)) (hRt : mw_Ret p l e R s m args below meth c cc nL rt D ac (mw_ad b sa base) base L xs n0 s0 Q r0 σF) (hst : mv_step cl lk rt k .lreturn pc lv st σ = some (r0, σF)) : σ.1 <+: σF.1 ∧ mw_G p l e R s m args below meth c nL D ac (mw_ad b sa base) base L xs n0 s0 Q pc lv st σ := by
  have hst : (match (generalizing := false) st with
    | [.inr (.inl x)] => if rt = 3 then some (some (.inr (.inl x)), σ) else none
    | _ => none) = some (r0, σF) := hst
  split at hst
  · rename_i x hz
    split at hst
    · rename_i h0
      cases hst
      exact ⟨List.prefix_refl _, fun H locs ls cells slots hl hR hS hc hs => hRt H locs ls cells slots pc _ hl.1 hR hS hc hs (Or.inr (Or.inr (Or.inl ⟨hd, x, rfl, rfl, h0⟩)))⟩
    · cases hst
  · cases hst
theorem ms_return (hd : decode cc pc = .ok (.return_, 1)) (hRt : mw_Ret p l e R s m args below meth c cc nL rt D ac (mw_ad b sa base) base L xs n0 s0 Q r0 σF) (hst : mv_step cl lk rt k .return_ pc lv st σ = some (r0, σF)) : σ.1 <+: σF.1 ∧ mw_G p l e R s m args below meth c nL D ac (mw_ad b sa base) base L xs n0 s0 Q pc lv st σ := by
  have hst : (match (generalizing := false) st with
    | [] => if rt = 4 then some (none, σ) else none
    | _ => none) = some (r0, σF) := hst
  split at hst
  · split at hst
    · rename_i h0
      cases hst
      exact ⟨List.prefix_refl _, fun H locs ls cells slots hl hR hS hc hs => hRt H locs ls cells slots pc _ hl.1 hR hS hc hs (Or.inr (Or.inr (Or.inr ⟨hd, rfl, rfl, h0⟩)))⟩
    · cases hst
  · cases hst
end MS
end
section
/-! SOUNDNESS of the small machine, 10: calls of methods with tables, calls that catch -/
theorem mo_t0_inv {o : mv_O} {k : mv_S → mv_O} {t : Int32 → mv_S → mv_O} {q : Option mv_V × mv_S} (h : mo_t0 o k t = some q) : (∃ σ, o = some (none, σ) ∧ k σ = some q) ∨ (∃ x σ, o = some (some (.inl x), σ) ∧ t x σ = some q) := by
  unfold mo_t0 at h
  split at h
  · exact Or.inl ⟨_, rfl, h⟩
  · exact Or.inr ⟨_, _, rfl, h⟩
  · cases h
theorem mo_t3_inv {o : mv_O} {k : Int64 → mv_S → mv_O} {t : Int32 → mv_S → mv_O} {q : Option mv_V × mv_S} (h : mo_t3 o k t = some q) : (∃ y σ, o = some (some (.inr (.inl y)), σ) ∧ k y σ = some q) ∨ (∃ x σ, o = some (some (.inl x), σ) ∧ t x σ = some q) := by
  unfold mo_t3 at h
  split at h
  · exact Or.inl ⟨_, _, rfl, h⟩
  · exact Or.inr ⟨_, _, rfl, h⟩
  · cases h
section MT
variable {p : Program} {l : Launch} {e : Env} {R : Room} {s : State} {m : MethodId} {args : Array Value} {below : List Frame} {meth : Method} {c : Code} {own : String} {cc : ByteArray} {nL rt : Nat} {D : va_G} {ac sa : Nat → Nat} {b L : Nat} {xs : Nat → Int32} {base n0 s0 : Nat} {Q : State → Prop}
variable {cl : Nat → List mv_V → mv_S → mv_O} {lk : Nat → mv_K} {k : Nat → mv_L → List mv_V → mv_S → mv_O} {pc len : Nat} {lv : mv_L} {st : List mv_V} {σ σF : mv_S} {r0 : Option mv_V} {d i : Nat}
theorem mw_recv (X : mw_X p l R s m args meth c own cc nL rt D ac sa b L xs base) {H : Heap} {a ci : Nat} {rc : vw_C} {C : String} (hty : σ.1[a]? = some (.inl ci)) (hrc : vwCl[ci]? = some rc) (hcl : rc.1 = C) (hR : mw_R (mw_ad b sa base) D ac base L xs σ H) :
    ∃ cell : Cell, H[mw_ad b sa base a]? = some cell ∧ cell.vm.isStatics = false ∧ s.vm.findClass C = some cell.cls := by
  obtain ⟨rc', hrc', cell, q1, q2, q3, -⟩ := mw_at_obj (hR.1 a (mw_16 hR hty)) hty
  cases hrc.symm.trans hrc'
  have hK := X.2.2.2.2.2.1
  refine ⟨cell, q1, by rw [q3]; rfl, ?_⟩
  rw [← hcl, q2]
  exact (hK.1 ci _ hrc).2.1
theorem mq_c40 (X : mw_X p l R s m args meth c own cc nL rt D ac sa b L xs base) (hC : mw_CC l D ac sa b L xs base d cl) (hRd : d + 9 ≤ R.frames ∧ 64 * d + 564 ≤ R.locals) (hB : σF.1.length ≤ R.cells + n0 ∧ mw_sz σF.1 ≤ R.slots + s0) (hd : decode cc pc = .ok (.invokevirtual i, 3)) {M n c0 : Nat} {z : Int} (hL : mw_okX own i (40, M, n, c0, z)) (hst : mv_call cl (40, M, n, c0, z) st σ (fun st' σ' => k (pc + 3) lv st' σ') = some (r0, σF)) (hk : ∀ pc' lv' st' σ', k pc' lv' st' σ' = some (r0, σF) → σ'.1 <+: σF.1 ∧ mw_G p l e R s m args below meth c nL D ac (mw_ad b sa base) base L xs n0 s0 Q pc' lv' st' σ') : σ.1 <+: σF.1 ∧ mw_G p l e R s m args below meth c nL D ac (mw_ad b sa base) base L xs n0 s0 Q pc lv st σ := by
  have hst : (match (generalizing := false) st.drop n with
    | .inr (.inr o) :: r => mo_rf o fun a => mo_is σ a z.toNat (if mv_wd r ≤ 8 then mv_back c0 (cl M (.inr (.inr (some a)) :: (st.take n).reverse) σ) (fun v σ' => k (pc + 3) lv (v ++ r) σ') else none)
    | _ => none) = some (r0, σF) := hst
  split at hst
  · rename_i o r hz
    obtain ⟨a, ho9, hs9⟩ := mo_rf_inv hst
    clear hst
    subst ho9
    obtain ⟨est, hlen⟩ := mw_stk (ad := mw_ad b sa base) hz
    obtain ⟨hty, hs9⟩ := mo_is_inv hs9
    split at hs9
    · rename_i hwd
      obtain ⟨rv, σ1, hcl, hs9⟩ := mv_back_inv hs9
      obtain ⟨hM5, I, hI, ⟨w1, w2, w3, w4, w5⟩, w6, w7, w8, hn, rc, hrc, hrn⟩ := hL
      obtain ⟨hp, hok⟩ := hC M _ _ _ _ hcl
      have hM := (hok I hI).2.1 (Or.inl hM5)
      obtain ⟨h1, h2⟩ := hk _ _ _ _ hs9
      have h3 := mw_sz_le h1
      have h4 := mw_sz_le hp
      refine ⟨hp.trans h1, fun H locs ls cells slots hl hR hS hc hs => ?_⟩
      rw [est]
      refine mw_goC (vx_runVW (As := ((st.take n).reverse.map (mw_v (mw_ad b sa base)))) (rest := r.map (mw_v (mw_ad b sa base))) (C := I.1.cls) (mw_fix X) hM (vx_cwVW I.2.2.2.2.2 X.2.2.2.2.1 ?_ rfl rfl rfl ⟨rfl, w3.1, w3.2, w4⟩ (mw_roomC w5 hRd)) ⟨mw_blind, mw_recv X hty hrc hrn hR, mw_pre (as := .inr (.inr (some a)) :: (st.take n).reverse) X hR hS⟩ rfl ?_ hl.1 rfl (lv_room (by rw [mw_wd]; exact hwd)) hd ⟨by omega, by omega⟩) hS (fun H1 locs1 hR1 hS1 => ?_)
      · intro w hw
        unfold wsV at hw
        rcases List.mem_append.mp hw with hw | hw
        · simp only [List.mem_cons, List.not_mem_nil, or_false] at hw
          rcases hw with rfl | rfl | rfl | rfl
          · exact mw_goodIn _ w8
          · exact mw_goodIn _ w6
          · exact mw_goodIn _ w7
          · exact mw_goodIn _ w2
        · exact mw_goodC w1 w hw
      · rw [List.length_map]
        exact hlen.trans hn
      · rw [mw_pushed]
        exact h2 H1 locs1 ls _ _ hl hR1 hS1 (by omega) (by omega)
    · cases hs9
  · cases hst
theorem mq_c41 (X : mw_X p l R s m args meth c own cc nL rt D ac sa b L xs base) (hC : mw_CC l D ac sa b L xs base d cl) (hRd : d + 9 ≤ R.frames ∧ 64 * d + 564 ≤ R.locals) (hB : σF.1.length ≤ R.cells + n0 ∧ mw_sz σF.1 ≤ R.slots + s0) (hd : decode cc pc = .ok (.invokestatic i, 3)) {M n c0 : Nat} {z : Int} (hL : mw_okX own i (41, M, n, c0, z)) (hst : mv_call cl (41, M, n, c0, z) st σ (fun st' σ' => k (pc + 3) lv st' σ') = some (r0, σF)) (hk : ∀ pc' lv' st' σ', k pc' lv' st' σ' = some (r0, σF) → σ'.1 <+: σF.1 ∧ mw_G p l e R s m args below meth c nL D ac (mw_ad b sa base) base L xs n0 s0 Q pc' lv' st' σ') : σ.1 <+: σF.1 ∧ mw_G p l e R s m args below meth c nL D ac (mw_ad b sa base) base L xs n0 s0 Q pc lv st σ := by
  have hst : (if n ≤ st.length ∧ mv_wd (st.drop n) ≤ 8 then mv_back c0 (cl M (st.take n).reverse σ) (fun v σ' => k (pc + 3) lv (v ++ st.drop n) σ') else none) = some (r0, σF) := hst
  split at hst
  · rename_i hwd
    obtain ⟨hlen, hwd⟩ := hwd
    obtain ⟨rv, σ1, hcl, hs9⟩ := mv_back_inv hst
    obtain ⟨hM5, I, hI, ⟨w1, w2, w3, w4, w5⟩, w6, w8, hn⟩ := hL
    obtain ⟨hp, hok⟩ := hC M _ _ _ _ hcl
    have hM := (hok I hI).2.1 (Or.inr hM5)
    obtain ⟨h1, h2⟩ := hk _ _ _ _ hs9
    have h3 := mw_sz_le h1
    have h4 := mw_sz_le hp
    refine ⟨hp.trans h1, fun H locs ls cells slots hl hR hS hc hs => ?_⟩
    rw [mw_stkS (n := n)]
    refine mw_goC (vx_runSW (As := ((st.take n).reverse.map (mw_v (mw_ad b sa base)))) (rest := (st.drop n).map (mw_v (mw_ad b sa base))) (mw_fix X) hM (vx_cwSW I.2.2.2.2.2 X.2.2.2.2.1 ?_ rfl rfl rfl ⟨w3.1, w3.2, w4⟩ (mw_roomC w5 hRd)) ⟨mw_blind, mw_pre X hR hS⟩ rfl ?_ hl.1 rfl (lv_room (by rw [mw_wd]; exact hwd)) hd ⟨by omega, by omega⟩) hS (fun H1 locs1 hR1 hS1 => ?_)
    · intro w hw
      unfold va_wsS at hw
      rcases List.mem_append.mp hw with hw | hw
      · simp only [List.mem_cons, List.not_mem_nil, or_false] at hw
        rcases hw with rfl | rfl | rfl
        · exact mw_goodIn _ w8
        · exact mw_goodIn _ w6
        · exact mw_goodIn _ w2
      · exact mw_goodC w1 w hw
    · rw [List.length_map, List.length_reverse, List.length_take, ← hn]
      exact Nat.min_eq_left hlen
    · rw [mw_pushed]
      exact h2 H1 locs1 ls _ _ hl hR1 hS1 (by omega) (by omega)
  · cases hst
/-- behind a call that may throw -/
theorem mw_goT {M x0 : Nat} {aa : Array Value} {mc ms : Nat} {H : Heap} {locs : List Loc} {ls : Array Slot} {cells slots : Nat} {rest st1 : List Value} {rv : Option mv_V} {σ1 : mv_S}
    (hr : vx_Run p l e R s m args below meth c H locs cells slots mc ms (F0 m pc ls st1) rest (mw_QT D ac sa b L xs base rv σ1 aa) (mw_XC D ac sa b L xs base rv σ1) (fun q => base ≤ q)) (hS : va_S (fun q => base ≤ q) s.heap H locs)
    (kk : (∀ x, rv ≠ some (.inl x)) → ∀ (H1 : Heap) (locs1 : List Loc), mw_R (mw_ad b sa base) D ac base L xs σ1 H1 → va_S (fun q => base ≤ q) s.heap H1 locs1 → W p l e R s m args below meth c H1 locs1 (cells + mc) (slots + ms) Q (F0 m (pc + 3) ls ((rv.map (mw_v (mw_ad b sa base))).toList ++ rest)))
    (kt : ∀ (x : Nat) (H1 : Heap) (locs1 : List Loc) (q : Nat) (ce : Cell), 1 ≤ x → x ≤ 3 → rv = some (.inl (nI x)) → mw_R (mw_ad b sa base) D ac base L xs σ1 H1 → va_S (fun q => base ≤ q) s.heap H1 locs1 → H1[q]? = some ce → ce.vm = .none → s.vm.findClass (mw_ex x) = some ce.cls → vx_W p l e R s m args below meth c H1 locs1 (cells + mc) (slots + ms) Q (F0 m pc ls rest) q) :
    W p l e R s m args below meth c H locs cells slots Q (F0 m pc ls st1) := by
  intro T hT X
  rcases hr T hT X with ⟨v, st₀, t, T', L0, h0, X', hL, e1, e2, ⟨hnx, hv, hR', hz, hk⟩, st⟩ | ⟨q, st₀, t, T', L0, E, ce, h0, X', hL, e1, e2, ⟨x, hx1, hx3, hrx, hE, hR', hz, hk⟩, hce, hcv, hcl, st⟩
  · cases hv
    rw [h0] at hz hk
    rw [← e1] at hR'
    obtain ⟨t2, a1, b1⟩ := kk hnx T'.heap (locs ++ L0) hR' ⟨Nat.le_trans hS.1 (by rw [e1]; exact hz), fun q h1 h2 => by rw [e1, hk q (Nat.lt_of_lt_of_le h1 hS.1) h2]; exact hS.2.1 q h1 h2, fun q hq => by
        rcases List.mem_append.mp hq with h | h
        · exact hS.2.2 q h
        · exact hL q h⟩ T' rfl X'
    exact ⟨t2, st t2 a1, b1⟩
  · subst hE
    rw [h0] at hz hk
    rw [← e1] at hR' hce
    obtain ⟨t2, a1, b1⟩ := kt x T'.heap (locs ++ L0) q ce hx1 hx3 hrx hR' ⟨Nat.le_trans hS.1 (by rw [e1]; exact hz), fun q h1 h2 => by rw [e1, hk q (Nat.lt_of_lt_of_le h1 hS.1) h2]; exact hS.2.1 q h1 h2, fun q hq => by
        rcases List.mem_append.mp hq with h | h
        · exact hS.2.2 q h
        · exact hL q h⟩ hce hcv hcl T' rfl X'
    exact ⟨t2, st.trans a1, b1⟩
theorem ms_try (X : mw_X p l R s m args meth c own cc nL rt D ac sa b L xs base) (hC : mw_CC l D ac sa b L xs base d cl) (hRd : d + 9 ≤ R.frames ∧ 64 * d + 564 ≤ R.locals) (hB : σF.1.length ≤ R.cells + n0 ∧ mw_sz σF.1 ≤ R.slots + s0) (hd : decode cc pc = .ok (.invokevirtual i, 3)) {M n c0 : Nat} {z : Int} (hlk : lk i = (42, M, n, c0, z)) (hL : mw_okX own i (42, M, n, c0, z)) {ct : Option Nat} (hct : some pc = ct) (hCat : mw_Cat p l e R s m args below meth c cc nL (mw_ad b sa base) Q lk ct)
    (hst : mv_try cl M n c0 z st σ (fun st' σ' => k (pc + 3) lv st' σ') (fun h σ' => k h (mv_drop4 lv) [] σ') = some (r0, σF)) (hk : ∀ pc' lv' st' σ', k pc' lv' st' σ' = some (r0, σF) → σ'.1 <+: σF.1 ∧ mw_G p l e R s m args below meth c nL D ac (mw_ad b sa base) base L xs n0 s0 Q pc' lv' st' σ') : σ.1 <+: σF.1 ∧ mw_G p l e R s m args below meth c nL D ac (mw_ad b sa base) base L xs n0 s0 Q pc lv st σ := by
  unfold mv_try at hst
  split at hst
  · rename_i o r hz
    obtain ⟨a, ho9, hs9⟩ := mo_rf_inv hst
    clear hst
    subst ho9
    obtain ⟨est, hlen⟩ := mw_stk (ad := mw_ad b sa base) hz
    obtain ⟨hty, hs9⟩ := mo_is_inv hs9
    split at hs9
    · rename_i hwd
      have key : ∃ rv σ1, cl M (.inr (.inr (some a)) :: (st.take n).reverse) σ = some (rv, σ1) ∧ (((∀ x, rv ≠ some (.inl x)) ∧ k (pc + 3) lv (rv.toList ++ r) σ1 = some (r0, σF)) ∨ (∃ x, rv = some (.inl x) ∧ mv_hs x (fun h => k h (mv_drop4 lv) [] σ1) (mv_hl M) = some (r0, σF))) := by
        split at hs9
        · rcases mo_t0_inv hs9 with ⟨σ1, h1, h2⟩ | ⟨x, σ1, h1, h2⟩
          · exact ⟨_, _, h1, Or.inl ⟨(fun x h => by cases h), h2⟩⟩
          · exact ⟨_, _, h1, Or.inr ⟨x, rfl, h2⟩⟩
        · rcases mo_t3_inv hs9 with ⟨y, σ1, h1, h2⟩ | ⟨x, σ1, h1, h2⟩
          · exact ⟨_, _, h1, Or.inl ⟨(fun x h => by cases h), h2⟩⟩
          · exact ⟨_, _, h1, Or.inr ⟨x, rfl, h2⟩⟩
      obtain ⟨rv, σ1, hcl, hcase⟩ := key
      obtain ⟨hM5, I, hI, ⟨g1, g2, g3, g4, g5, g6⟩, hkd, w8, hn, rc, hrc, hrn⟩ := hL
      obtain ⟨hp, hok⟩ := hC M _ _ _ _ hcl
      have hM := (hok I hI).2.2 hM5
      have hpre : σ1.1 <+: σF.1 := by
        rcases hcase with ⟨-, h⟩ | ⟨x, -, h⟩
        · exact (hk _ _ _ _ h).1
        · have hall : ∀ (t : List (Nat × Nat)), mv_hs x (fun h => k h (mv_drop4 lv) [] σ1) t = some (r0, σF) → ∃ h, k h (mv_drop4 lv) [] σ1 = some (r0, σF) := by
            intro t
            induction t with
            | nil => intro h; cases h
            | cons q r ih =>
              intro h
              obtain ⟨q1, q2⟩ := q
              have h : (if x = nI q1 then k q2 (mv_drop4 lv) [] σ1 else mv_hs x (fun h => k h (mv_drop4 lv) [] σ1) r) = some (r0, σF) := h
              split at h
              · exact ⟨_, h⟩
              · exact ih h
          obtain ⟨h9, h8⟩ := hall _ h
          exact (hk _ _ _ _ h8).1
      have h3 := mw_sz_le hpre
      have h4 := mw_sz_le hp
      refine ⟨hp.trans hpre, fun H locs ls cells slots hl hR hS hc hs => ?_⟩
      rw [est]
      rcases g6 with ⟨-, g7, g8⟩ | ⟨g9, -⟩ | ⟨g9, -⟩
      · refine mw_goT (M := M) (x0 := 0) (vx_runV (As := ((st.take n).reverse.map (mw_v (mw_ad b sa base)))) (rest := r.map (mw_v (mw_ad b sa base))) (C := I.1.cls) (mw_fix X) hM (cwV I.2.2.2.2.2 X.2.2.2.2.1 ?_ rfl rfl rfl ⟨rfl, g3.1, g3.2, g4⟩ (mw_roomC g5 hRd)) ⟨mw_blind, mw_recv X hty hrc hrn hR, mw_pre (as := .inr (.inr (some a)) :: (st.take n).reverse) X hR hS⟩ rfl ?_ hl.1 rfl (lv_room (by rw [mw_wd]; exact hwd)) hd ⟨by omega, by omega⟩) hS (fun hnx H1 locs1 hR1 hS1 => ?_) (fun x H1 locs1 q ce hx1 hx3 hrx hR1 hS1 hce hcv hcl1 => ?_)
        · intro w hw
          unfold wsV at hw
          rcases List.mem_append.mp hw with hw | hw
          · simp only [List.mem_cons, List.not_mem_nil, or_false] at hw
            rcases hw with rfl | rfl | rfl | rfl
            · exact mw_goodIn _ w8
            · exact mw_goodIn _ g7
            · exact mw_goodIn _ g8
            · exact mw_goodIn _ g2
          · exact mw_goodC g1 w hw
        · rw [List.length_map]
          exact hlen.trans hn
        · rcases hcase with ⟨-, h⟩ | ⟨x, h, -⟩
          · rw [mw_pushed]
            exact (hk _ _ _ _ h).2 H1 locs1 ls _ _ hl hR1 hS1 (by omega) (by omega)
          · exact absurd h (hnx x)
        · rcases hcase with ⟨h, -⟩ | ⟨x9, h, h8⟩
          · exact absurd hrx (h _)
          · rw [hrx] at h
            cases h
            obtain ⟨hh, hlook, h7⟩ := mv_hs_inv hM5 hx1 hx3 h8
            exact hCat H1 locs1 ls _ _ pc i M n c0 x hh z lv _ q ce hl hct hlk hd hlook hx1 hx3 hce hcv hcl1 (fun ls' hl' => (hk _ _ _ _ h7).2 H1 locs1 ls' _ _ hl' hR1 hS1 (by omega) (by omega))
      · rw [g9] at hkd; cases hkd
      · rw [g9] at hkd; cases hkd
    · cases hs9
  · cases hst
end MT
end
section
/-! SOUNDNESS of the small machine, 11: arrays of int arrays -/
def mz_g (h0 i : Nat) : Nat → Value := fun j => if j < i then .ref (h0 + 1 + j) else .null
theorem mz_gs (cA : ClassId) (N h0 i : Nat) : (arrV cA N (mz_g h0 i)).setSlot i (.ref (h0 + 1 + i)) = arrV cA N (mz_g h0 (i + 1)) := by
  rw [arrV_store]
  congr 1
  funext j
  unfold updV mz_g
  by_cases h : j = i
  · subst h
    simp
  · by_cases h2 : j < i
    · simp [h, h2, show j < i + 1 by omega]
    · simp [h, h2, show ¬ j < i + 1 by omega]
/-- the state behind the outer array and i rows -/
def mz_F (T : State) (cA cI : ClassId) (N M : Nat) : Nat → State
  | 0 => T.pushCell (arrV cA N (mz_g T.heap.size 0))
  | i + 1 => ((mz_F T cA cI N M i).pushCell (arrV cI M fun _ => .int 0)).setCell T.heap.size (arrV cA N (mz_g T.heap.size (i + 1)))
theorem mz_facts (T : State) (cA cI : ClassId) (N M : Nat) : ∀ i, (mz_F T cA cI N M i).heap.size = T.heap.size + 1 + i ∧ (mz_F T cA cI N M i).heap[T.heap.size]? = some (arrV cA N (mz_g T.heap.size i)) ∧ (mz_F T cA cI N M i).vm = T.vm ∧ (mz_F T cA cI N M i).slotsUsed = T.slotsUsed + N + i * M ∧
    (∀ a : Nat, a < T.heap.size → (mz_F T cA cI N M i).heap[a]? = T.heap[a]?) ∧ ∀ j : Nat, j < i → (mz_F T cA cI N M i).heap[T.heap.size + 1 + j]? = some (arrV cI M fun _ => .int 0)
  | 0 => ⟨by simp [mz_F], by simp [mz_F], rfl, by simp [mz_F, arrV_size], fun a ha => State.heap_pushCell_of_lt _ _ ha, fun j hj => absurd hj (Nat.not_lt_zero _)⟩
  | i + 1 => by
    obtain ⟨f1, f2, f3, f4, f5, f6⟩ := mz_facts T cA cI N M i
    have hlt : T.heap.size < (mz_F T cA cI N M i).heap.size := by omega
    have hb : ((mz_F T cA cI N M i).pushCell (arrV cI M fun _ => .int 0)).heap[T.heap.size]? = some (arrV cA N (mz_g T.heap.size i)) := by
      rw [State.heap_pushCell_of_lt (h := hlt)]
      exact f2
    refine ⟨?_, State.heap_setCell_self hb, by simp [mz_F, f3], ?_, fun a ha => ?_, fun j hj => ?_⟩
    · simp [mz_F, State.setCell, f1]
      omega
    · simp [mz_F, f4, arrV_size, Nat.succ_mul]
      omega
    · show (((mz_F T cA cI N M i).pushCell (arrV cI M fun _ => .int 0)).setCell T.heap.size _).heap[a]? = _
      rw [State.heap_setCell_other (Nat.ne_of_gt ha), State.heap_pushCell_of_lt (h := Nat.lt_trans ha hlt)]
      exact f5 a ha
    · show (((mz_F T cA cI N M i).pushCell (arrV cI M fun _ => .int 0)).setCell T.heap.size _).heap[T.heap.size + 1 + j]? = _
      rw [State.heap_setCell_other (show T.heap.size ≠ T.heap.size + 1 + j by omega)]
      by_cases e : j = i
      · subst e
        rw [← f1]
        exact State.heap_pushCell_size _ _
      · have h9 : T.heap.size + 1 + j < (mz_F T cA cI N M i).heap.size := by rw [f1]; omega
        rw [State.heap_pushCell_of_lt (h := h9)]
        exact f6 j (by omega)
theorem mz_top (T : State) (f : JFrame) (cA cI : ClassId) (N M : Nat) : ∀ i, mz_F (T.setTop f) cA cI N M i = (mz_F T cA cI N M i).setTop f
  | 0 => rfl
  | i + 1 => by simp only [mz_F, mz_top T f cA cI N M i, State.heap_setTop, State.pushCell_setTop, State.setCell_setTop]
section MZ
variable {p : Program} {l : Launch} {e : Env} {R : Room} {s : State} {m : MethodId} {args : Array Value} {below : List Frame} {meth : Method} {c : Code} {locs : List Loc} {cells slots : Nat}
theorem mz_stand {T : State} (X : Stand p l e R s m args below meth c T locs cells slots) (cA cI : ClassId) (N M : Nat) : ∀ i, ∃ locs' : List Loc, Stand p l e R s m args below meth c (mz_F T cA cI N M i) locs' (cells + 1 + i) (slots + N + i * M) ∧ ∀ q ∈ locs', q ∈ locs ∨ q.base = T.heap.size
  | 0 => by
    have h := X.pushed (arrV cA N (mz_g T.heap.size 0))
    rw [arrV_size] at h
    exact ⟨locs, by simpa [mz_F] using h, fun q hq => Or.inl hq⟩
  | i + 1 => by
    obtain ⟨l1, Xi, hl⟩ := mz_stand X cA cI N M i
    obtain ⟨f1, f2, f3, f4, f5, f6⟩ := mz_facts T cA cI N M i
    have hlt : T.heap.size < (mz_F T cA cI N M i).heap.size := by omega
    have hb : ((mz_F T cA cI N M i).pushCell (arrV cI M fun _ => .int 0)).heap[T.heap.size]? = some (arrV cA N (mz_g T.heap.size i)) := by
      rw [State.heap_pushCell_of_lt (h := hlt)]
      exact f2
    have h := (Xi.pushed (arrV cI M fun _ => .int 0)).stored hb i (.ref (T.heap.size + 1 + i))
    rw [arrV_size, mz_gs] at h
    refine ⟨l1 ++ [⟨T.heap.size, i⟩], ?_, fun q hq => ?_⟩
    · rw [show slots + N + (i + 1) * M = slots + N + i * M + M by rw [Nat.succ_mul]; omega]
      exact h
    · rcases List.mem_append.mp hq with h | h
      · exact hl q h
      · rw [List.mem_singleton] at h
        rw [h]
        exact Or.inr rfl
end MZ
section MW
variable {E : CtlPost} {e : Env} {d : Bool} {acts : List Action} {s : State}
/-- one array of default values -/
theorem mz_new {c comp : ClassId} {k : Class} {type : FieldType} {len : Nat} (hk : s.vm.classes[c]? = some k) (hkind : k.kind = .array comp type) {v : Value}
    (hl : ¬ len > e.platform.arrayLengthLimit) (hh : ¬ len * componentBytes type > e.platform.maxHeapBytes) (hf : fits type v = true) (hd : v.isDefault = true) {Q : Addr → Pre}
    (h1 : s.heap.size < e.platform.maxCells) (h2 : s.slotsUsed + len ≤ e.platform.maxSlots) (hq : Q s.heap.size d acts (s.pushCell (arrV c len fun _ => v))) : wp (Jvm.newArray c len v) Q E e d acts s := by
  have h3 : ∀ (i : Nat) (x : Value), (Array.replicate len v)[i]? = some x → s.fitsSlot c .none i x = true := by
    intro i x hx
    rw [Array.getElem?_replicate] at hx
    split at hx
    · cases hx
      simp [State.fitsSlot, State.slotType?, hk, hkind, hf]
    · cases hx
  have h4 : allocActs (Array.replicate len v) s.heap.size acts = acts := by
    have h5 : ((Array.replicate len v).all (·.isDefault)) = true := by
      rw [Array.all_replicate]
      split
      · rfl
      · exact hd
    unfold allocActs
    rw [if_pos h5]
  rw [← arrV_new] at hq
  simp only [Jvm.newArray, Jvm.arrayFits, wp_bind', W.ask, W.ite, hl, if_false, wp_pure', W.theClass, hk, hkind, hh, W.alloc, W.stop, Option.some.injEq, exists_eq_left', Array.size_replicate, h4]
  rw [if_neg (by omega)]
  exact ⟨h1, h2, h3, hq⟩
theorem mz_row {cI cc : ClassId} {kc : Class} {m : Int32} (hk : s.vm.classes[cI]? = some kc) (hkind : kc.kind = .array cc .int) (hm : ¬ m < 0) (hl : ¬ m.toNatClampNeg > e.platform.arrayLengthLimit) (hh : ¬ m.toNatClampNeg * 4 > e.platform.maxHeapBytes)
    (h1 : s.heap.size < e.platform.maxCells) (h2 : s.slotsUsed + m.toNatClampNeg ≤ e.platform.maxSlots) {Q : Addr → Pre} (hq : Q s.heap.size d acts (s.pushCell (arrV cI m.toNatClampNeg fun _ => .int 0))) : wp (multianewarray.make cI [m]) Q E e d acts s := by
  rw [multianewarray.make]
  simp only [wp_bind', W.ite, hm, if_false, wp_pure', W.theClass, hk, hkind, Option.some.injEq, exists_eq_left']
  exact mz_new hk hkind hl hh rfl rfl h1 h2 hq
theorem mz_make {cA cI cc : ClassId} {k kc : Class} {n m : Int32} (hk : s.vm.classes[cA]? = some k) (hkind : k.kind = .array cI (.array .int)) (hkc : s.vm.classes[cI]? = some kc) (hkindc : kc.kind = .array cc .int) (hn : ¬ n < 0) (hm : ¬ m < 0)
    (hl1 : ¬ n.toNatClampNeg > e.platform.arrayLengthLimit) (hh1 : ¬ n.toNatClampNeg * 4 > e.platform.maxHeapBytes) (hl2 : ¬ m.toNatClampNeg > e.platform.arrayLengthLimit) (hh2 : ¬ m.toNatClampNeg * 4 > e.platform.maxHeapBytes)
    (hc : s.heap.size + 1 + n.toNatClampNeg ≤ e.platform.maxCells) (hs : s.slotsUsed + n.toNatClampNeg + n.toNatClampNeg * m.toNatClampNeg ≤ e.platform.maxSlots)
    {Q : Addr → Pre} (hq : ∀ d' acts', Q s.heap.size d' acts' (mz_F s cA cI n.toNatClampNeg m.toNatClampNeg n.toNatClampNeg)) : wp (multianewarray.make cA [n, m]) Q E e d acts s := by
  have hfind : ([m].find? (· < 0)) = none := by simp [hm]
  rw [multianewarray.make]
  simp only [wp_bind', W.ite, hn, if_false, wp_pure', W.theClass, hk, hkind, Option.some.injEq, exists_eq_left']
  refine mz_new hk hkind hl1 hh1 rfl rfl (by omega) (by have := Nat.zero_le (n.toNatClampNeg * m.toNatClampNeg); omega) ?_
  simp only [hfind]
  rw [ite_self, wp_bind', Std.Legacy.Range.forIn_eq_forIn_range']
  rw [show ([:n.toNatClampNeg] : Std.Legacy.Range).size = n.toNatClampNeg by simp [Std.Legacy.Range.size]]
  show wp (forIn (List.range' 0 n.toNatClampNeg 1) PUnit.unit _) _ E e d acts _
  have e0 : s.pushCell (arrV cA n.toNatClampNeg fun _ => Value.null) = mz_F s cA cI n.toNatClampNeg m.toNatClampNeg 0 := by
    unfold mz_F
    congr 2
  rw [e0]
  refine wp_forIn_inv (fun rest s' => ∃ i, i ≤ n.toNatClampNeg ∧ rest = List.range' i (n.toNatClampNeg - i) ∧ s' = mz_F s cA cI n.toNatClampNeg m.toNatClampNeg i) _ _ ⟨0, Nat.zero_le _, rfl, rfl⟩ ?_ ?_
  · rintro x rest s' d' acts' Q' ⟨i, hi, hl, rfl⟩ hnext
    have hlt : i < n.toNatClampNeg := by
      rcases Nat.lt_or_ge i n.toNatClampNeg with h | h
      · exact h
      · rw [show n.toNatClampNeg - i = 0 by omega] at hl
        cases hl
    rw [show n.toNatClampNeg - i = (n.toNatClampNeg - (i + 1)) + 1 by omega, List.range'_succ] at hl
    obtain ⟨rfl, hrest⟩ := List.cons.inj hl
    obtain ⟨f1, f2, f3, f4, f5, f6⟩ := mz_facts s cA cI n.toNatClampNeg m.toNatClampNeg x
    have hmul : x * m.toNatClampNeg + m.toNatClampNeg ≤ n.toNatClampNeg * m.toNatClampNeg := by
      have h := Nat.mul_le_mul_right m.toNatClampNeg (show x + 1 ≤ n.toNatClampNeg from hlt)
      rw [Nat.succ_mul] at h
      exact h
    simp only [wp_bind']
    refine mz_row (by rw [f3]; exact hkc) hkindc hm hl2 hh2 (by rw [f1]; omega) (by rw [f4]; omega) ?_
    have hlt0 : s.heap.size < (mz_F s cA cI n.toNatClampNeg m.toNatClampNeg x).heap.size := by rw [f1]; omega
    simp only [wp_bind', W.writeLoc, wp_pure']
    refine ⟨arrV cA n.toNatClampNeg (mz_g s.heap.size x), by rw [State.heap_pushCell_of_lt (h := hlt0)]; exact f2, by simp [arrV], by rw [arrV_size]; exact hlt, ?_, hnext _ _ _ ⟨x + 1, hlt, hrest, ?_⟩⟩
    · show State.fitsSlot _ cA .none x _ = true
      simp [State.fitsSlot, State.slotType?, f3, hk, hkind, fits]
    · rw [f1, mz_gs]
      rfl
  · rintro s' d' acts' ⟨i, hi, hl, rfl⟩
    have hiN : i = n.toNatClampNeg := by
      rcases Nat.lt_or_ge i n.toNatClampNeg with h | h
      · rw [show n.toNatClampNeg - i = (n.toNatClampNeg - (i + 1)) + 1 by omega, List.range'_succ] at hl
        cases hl
      · omega
    subst hiN
    simp only [wp_pure']
    exact hq _ _
end MW
theorem mw_sz_ma (σ : mv_S) (n k : Nat) : mw_sz (mv_ma σ n k).1 = mw_sz σ.1 + n + n * k := by
  show mw_sz (σ.1 ++ (.inr (5, n) :: List.replicate n (.inr (0, k)))) = _
  rw [mw_sz_app]
  unfold mw_sz
  rw [List.map_cons, List.sum_cons, List.map_replicate]
  simp [mw_szT, List.sum_replicate_nat]
  omega
theorem mw_len_ma (σ : mv_S) (n k : Nat) : (mv_ma σ n k).1.length = σ.1.length + 1 + n := by
  show (σ.1 ++ ((.inr (5, n) : mv_T) :: List.replicate n (.inr (0, k)))).length = _
  simp
  omega
section MZW
variable {p : Program} {l : Launch} {e : Env} {R : Room} {s : State} {m : MethodId} {args : Array Value} {below : List Frame} {meth : Method} {c : Code} {own : String} {cc : ByteArray} {nL rt : Nat} {D : va_G} {ac sa : Nat → Nat} {b L : Nat} {xs : Nat → Int32} {base n0 s0 : Nat} {Q : State → Prop}
variable {cl : Nat → List mv_V → mv_S → mv_O} {lk : Nat → mv_K} {k : Nat → mv_L → List mv_V → mv_S → mv_O} {pc len : Nat} {lv : mv_L} {st : List mv_V} {σ σF : mv_S} {r0 : Option mv_V} {d i : Nat}
theorem mw_R_ma {H H' : Heap} {n k : Nat} (hR : mw_R (mw_ad b sa base) D ac base L xs σ H) (hz : H'.size = H.size + 1 + n) (e1 : H'[H.size]? = some (arrV (ac 5) n (mz_g H.size n))) (ho : ∀ q : Nat, q < H.size → H'[q]? = H[q]?) (hr : ∀ j : Nat, j < n → H'[H.size + 1 + j]? = some (arrV (ac 0) k fun _ => .int 0)) : mw_R (mw_ad b sa base) D ac base L xs (mv_ma σ n k) H' := by
  have hA := mw_ad_len hR
  obtain ⟨g1, g2, g3, g4, g5⟩ := hR
  have hl := mw_len_ma σ n k
  have hT' : ∀ j, j < σ.1.length → (mv_ma σ n k).1[j]? = σ.1[j]? := fun j hj => List.getElem?_append_left hj
  have hT0 : (mv_ma σ n k).1[σ.1.length]? = some (.inr (5, n)) := by
    show (σ.1 ++ ((.inr (5, n) : mv_T) :: List.replicate n (.inr (0, k))))[σ.1.length]? = _
    simp
  have hT1 : ∀ j, j < n → (mv_ma σ n k).1[σ.1.length + 1 + j]? = some (.inr (0, k)) := fun j hj => by
    show (σ.1 ++ ((.inr (5, n) : mv_T) :: List.replicate n (.inr (0, k))))[σ.1.length + 1 + j]? = _
    rw [List.getElem?_append_right (by omega), show σ.1.length + 1 + j - σ.1.length = j + 1 by omega, List.getElem?_cons_succ, List.getElem?_replicate, if_pos hj]
  have hN : ∀ q, q < σ.1.length → (mv_ma σ n k).2.1 q = σ.2.1 q := fun q hq => by
    funext y
    show (if σ.1.length ≤ q then 0 else σ.2.1 q y) = _
    rw [if_neg (by omega)]
  have hN1 : ∀ q y, σ.1.length ≤ q → (mv_ma σ n k).2.1 q y = 0 := fun q y hq => by
    show (if σ.1.length ≤ q then 0 else σ.2.1 q y) = _
    rw [if_pos hq]
  have hF : ∀ q, q < σ.1.length → (mv_ma σ n k).2.2.1 q = σ.2.2.1 q := fun q hq => by
    funext y
    show (if q = σ.1.length then (if y < n then some (σ.1.length + 1 + y) else none) else if σ.1.length ≤ q then none else σ.2.2.1 q y) = _
    rw [if_neg (by omega), if_neg (by omega)]
  have hF0 : ∀ y, (mv_ma σ n k).2.2.1 σ.1.length y = if y < n then some (σ.1.length + 1 + y) else none := fun y => by
    show (if σ.1.length = σ.1.length then (if y < n then some (σ.1.length + 1 + y) else none) else if σ.1.length ≤ σ.1.length then none else σ.2.2.1 σ.1.length y) = _
    rw [if_pos rfl]
  refine ⟨fun q hq => ?_, by omega, by omega, ⟨by rw [hT' 0 (by omega)]; exact g4.1, fun j hj => ?_⟩, fun q h5 h6 => by rw [hT' q (by omega)]; exact g5 q h5 h6⟩
  · rcases Nat.lt_trichotomy q σ.1.length with e | e | e
    · exact mw_at_keep (g1 q hq) (hT' q e) (hN q e) (hF q e) rfl (ho _ (by rw [mw_ad_ge hq, g3]; omega))
    · subst e
      unfold mw_at
      rw [hT0]
      intro _
      show H'[mw_ad b sa base σ.1.length]? = _
      rw [hA, e1]
      congr 2
      funext y
      show mz_g H.size n y = va_rf (((mv_ma σ n k).2.2.1 σ.1.length y).map (mw_ad b sa base))
      rw [hF0]
      unfold mz_g
      by_cases hy : y < n
      · rw [if_pos hy, if_pos hy]
        show Value.ref _ = Value.ref (mw_ad b sa base (σ.1.length + 1 + y))
        rw [mw_ad_ge (by omega)]
        refine congrArg Value.ref ?_
        show (H.size + 1 + y : Nat) = base + (σ.1.length + 1 + y - 16)
        omega
      · rw [if_neg hy, if_neg hy]
        rfl
    · by_cases hq2 : q < σ.1.length + 1 + n
      · obtain ⟨j, rfl⟩ : ∃ j, q = σ.1.length + 1 + j := ⟨q - (σ.1.length + 1), by omega⟩
        unfold mw_at
        rw [hT1 j (by omega)]
        intro _
        show H'[mw_ad b sa base (σ.1.length + 1 + j)]? = _
        rw [mw_ad_ge (by omega), show base + (σ.1.length + 1 + j - 16) = H.size + 1 + j by omega, hr j (by omega)]
        congr 2
        funext y
        show _ = Value.int ((mv_ma σ n k).2.1 (σ.1.length + 1 + j) y)
        rw [hN1 _ _ (by omega)]
      · unfold mw_at
        rw [List.getElem?_eq_none (by omega)]
        trivial
  · rw [hN 0 (by omega)]
    exact g4.2 j hj
theorem mw_mna {H : Heap} {locs : List Loc} {ls : Array Slot} {cells slots index : Nat} {rest : List Value} {x y : Int32} (X : mw_X p l R s m args meth c own cc nL rt D ac sa b L xs base) (hlink : Cond.classLink own index "[[I" ∈ lw_good) (harr : Cond.arrayClass .int ∈ lw_good) (hR : mw_R (mw_ad b sa base) D ac base L xs σ H) (hS : va_S (fun q => base ≤ q) s.heap H locs) (hx : ¬ (x < 0 ∨ 1000 ≤ x.toNatClampNeg)) (hy : ¬ (y < 0 ∨ 1000 ≤ y.toNatClampNeg)) (hd : decode cc pc = .ok (.multianewarray index 2, 4))
    (hcells : cells + (1 + x.toNatClampNeg) ≤ R.cells) (hslots : slots + (x.toNatClampNeg + x.toNatClampNeg * y.toNatClampNeg) ≤ R.slots)
    (kk : ∀ (H1 : Heap) (locs1 : List Loc), mw_R (mw_ad b sa base) D ac base L xs (mv_ma σ x.toNatClampNeg y.toNatClampNeg) H1 → va_S (fun q => base ≤ q) s.heap H1 locs1 → W p l e R s m args below meth c H1 locs1 (cells + 1 + x.toNatClampNeg) (slots + x.toNatClampNeg + x.toNatClampNeg * y.toNatClampNeg) Q (F0 m (pc + 4) ls (.ref (mw_ad b sa base σ.1.length) :: rest))) : W p l e R s m args below meth c H locs cells slots Q (F0 m pc ls (.int y :: .int x :: rest)) := by
  obtain ⟨hexec, hb, -, hown, hts, hK, hbase, -, -, -, hE2⟩ := X
  obtain ⟨-, -, -, -, -, -, -, -, -, -, hAA⟩ := hE2
  obtain ⟨cI, cA, kA, h1, h2, h3, h4⟩ := hAA
  intro T hT Xs
  have hpl : e.platform.magicAccessors = ({} : Platform).magicAccessors := by rw [Xs.admits.platform]
  obtain ⟨cI', kC, cc', g1, g2, g3⟩ := Cond.arrayClass_spec (hts _ harr)
  have eI : ("[" ++ FieldType.int.toString) = "[I" := by decide +kernel
  rw [eI] at g1
  cases h1.symm.trans g1
  have a0 : cI = ac 0 := by
    obtain ⟨-, hA⟩ := hK.2 0 (ac 0, mw_kty 0) (mw_tysG (by omega))
    exact Option.some.inj (g1.symm.trans hA)
  have a5 : cA = ac 5 := by
    obtain ⟨-, hA⟩ := hK.2 5 (ac 5, mw_kty 5) (mw_tysG (by omega))
    exact Option.some.inj (h4.symm.trans hA)
  subst a0 a5
  obtain ⟨c0, hfc0, hcl⟩ := Cond.classLink_spec hown (hts _ hlink) e.platform hpl
  cases h4.symm.trans hfc0
  obtain ⟨hg₁, hw₁, -⟩ := State.classEntry (e := e) Xs.warmed hcl
  generalize T.vm.noted m.cls index (.cls (ac 5)) = vm₁ at hg₁ hw₁
  obtain ⟨kA₁, hkA₁, heA⟩ := hw₁.alike.2.2 _ _ h2
  obtain ⟨kC₁, hkC₁, heC⟩ := hw₁.alike.2.2 _ _ g2
  have X₁ := Xs.noted hw₁
  obtain ⟨hr1, hr2⟩ := Xs.roomAbove hcells hslots
  obtain ⟨l1, XF, hl1⟩ := mz_stand X₁ (ac 5) (ac 0) x.toNatClampNeg y.toNatClampNeg x.toNatClampNeg
  obtain ⟨f1, f2, f3, f4, f5, f6⟩ := mz_facts (T.setVm vm₁) (ac 5) (ac 0) x.toNatClampNeg y.toNatClampNeg x.toNatClampNeg
  have hTh : (T.setVm vm₁).heap = H := hT
  rw [hTh] at f1 f2 f5 f6
  have hTz : T.heap.size = H.size := by rw [hT]
  obtain ⟨t, t1, t2⟩ := kk _ l1 (mw_R_ma hR f1 f2 f5 f6) ⟨Nat.le_trans hS.1 (by rw [f1]; omega), fun q q1 q2 => (f5 q (Nat.lt_of_lt_of_le q1 hS.1)).trans (hS.2.1 q q1 q2), fun q hq => by
    rcases hl1 q hq with h | h
    · exact hS.2.2 q h
    · rw [hTh] at h
      show base ≤ q.base
      rw [h]
      have := hR.2.2.1
      omega⟩ (mz_F (T.setVm vm₁) (ac 5) (ac 0) x.toNatClampNeg y.toNatClampNeg x.toNatClampNeg) rfl XF
  refine ⟨t, ?_, t2⟩
  rw [mw_ad_len hR, ← hTz] at t1
  have hkindA₁ : kA₁.kind = .array (ac 0) (.array .int) := by rw [heA]; exact h3
  have hkindC₁ : kC₁.kind = .array cc' .int := by rw [heC]; exact g3
  have q1 : ¬ x.toNatClampNeg > e.platform.arrayLengthLimit := by rw [Launch.admits_arrayLengthLimit Xs.admits]; omega
  have q2 : ¬ x.toNatClampNeg * 4 > e.platform.maxHeapBytes := by rw [Launch.admits_maxHeapBytes Xs.admits]; omega
  have q3 : ¬ y.toNatClampNeg > e.platform.arrayLengthLimit := by rw [Launch.admits_arrayLengthLimit Xs.admits]; omega
  have q4 : ¬ y.toNatClampNeg * 4 > e.platform.maxHeapBytes := by rw [Launch.admits_maxHeapBytes Xs.admits]; omega
  jvm_step Xs.here [Xs.here.top, hexec, hb, hd]
  have hg₂ : (resolveClass (F0 m pc ls (.int y :: .int x :: rest)).method.cls index).Gives e.toSetting (T.setTop (F0 m pc ls (.int y :: .int x :: rest))).vm (Except.ok (ac 5)) vm₁ := hg₁
  simp only [multianewarray.sem, wp_bind', W.resolveClassAt_links (State.method?_setTop (F0 m pc ls (.int y :: .int x :: rest)) Xs.here.top) hg₂]
  rw [W.popN, if_neg (by decide)]
  refine ⟨_, State.topJava?_setTop' (s := T.setVm vm₁) _ Xs.here.top, [.int x, .int y], rest, rfl, rfl, ?_⟩
  simp only [List.mapM_cons, List.mapM_nil, wp_bind', wp_pure']
  refine mz_make (k := kA₁) (kc := kC₁) (cI := ac 0) (cc := cc') hkA₁ hkindA₁ hkC₁ hkindC₁ (fun h => hx (Or.inl h)) (fun h => hy (Or.inl h)) q1 q2 q3 q4 (by show T.heap.size + 1 + _ ≤ _; omega) (by show T.slotsUsed + _ + _ ≤ _; omega) (fun d' acts' => ?_)
  have eS : ((T.setTop (F0 m pc ls (.int y :: .int x :: rest))).setVm vm₁).setTop { (F0 m pc ls (.int y :: .int x :: rest)) with stack := rest } = (T.setVm vm₁).setTop { (F0 m pc ls (.int y :: .int x :: rest)) with stack := rest } := by
    show ((T.setVm vm₁).setTop _).setTop _ = _
    rw [State.setTop_setTop]
  rw [eS, mz_top]
  simp only [wp_bind', W.mark, W.pushRef, State.topJava?_setTop' _ XF.here.top, Option.some.injEq, exists_eq_left', State.setTop_setTop, State.heap_setTop]
  intro acts
  simp [jvm, XF.here.top]
  exact t1
theorem ms_multianewarray {z0 : Nat} (X : mw_X p l R s m args meth c own cc nL rt D ac sa b L xs base) (hd : decode cc pc = .ok (.multianewarray i z0, 4)) (hz0 : z0 = 2) (hB : σF.1.length ≤ R.cells + n0 ∧ mw_sz σF.1 ≤ R.slots + s0) (hL : mw_okL own i (lk i)) (hA : Cond.arrayClass .int ∈ lw_good) (hst : mv_step cl lk rt k (.multianewarray i z0) pc lv st σ = some (r0, σF)) (hk : ∀ pc' lv' st' σ', k pc' lv' st' σ' = some (r0, σF) → σ'.1 <+: σF.1 ∧ mw_G p l e R s m args below meth c nL D ac (mw_ad b sa base) base L xs n0 s0 Q pc' lv' st' σ') : σ.1 <+: σF.1 ∧ mw_G p l e R s m args below meth c nL D ac (mw_ad b sa base) base L xs n0 s0 Q pc lv st σ := by
  subst hz0
  have hst : (match (generalizing := false) lk i with
    | (31, _, _, _, _) => (match (generalizing := false) st with
      | .inl m :: .inl n :: r => mo_ma σ n m fun o σ' => k (pc + 4) lv (.inr (.inr o) :: r) σ'
      | _ => none)
    | _ => none) = some (r0, σF) := hst
  split at hst
  · rename_i hlk
    rw [hlk] at hL
    split at hst
    · rename_i y x r hz
      unfold mo_ma at hst
      obtain ⟨hin1, hst⟩ := mo_ix_inv hst
      obtain ⟨hin2, hst⟩ := mo_ix_inv hst
      obtain ⟨h1, h2⟩ := hk _ _ _ _ hst
      have h3 := mw_sz_le h1
      rw [mw_sz_ma, mw_len_ma] at h3
      refine ⟨List.IsPrefix.trans (List.prefix_append _ _) h1, fun H locs ls cells slots hl hR hS hc hs => ?_⟩
      refine mw_mna X hL hA hR hS hin1 hin2 hd (by omega) (by omega) (fun H1 locs1 hR1 hS1 => h2 H1 locs1 ls _ _ hl hR1 hS1 ?_ ?_)
      · rw [mw_len_ma]; omega
      · rw [mw_sz_ma]; omega
    · cases hst
  · cases hst
end MZW
end
section
/-! SOUNDNESS of the small machine, 12: strings (isEmpty, length, charAt of the JDK on its own bytecode) -/
def yS_length : MethodName := ⟨"java/lang/String", "length", "()I"⟩
def yS_isEmpty : MethodName := ⟨"java/lang/String", "isEmpty", "()Z"⟩
def yS_charAt : MethodName := ⟨"java/lang/String", "charAt", "(I)C"⟩
def yS_coder : MethodName := ⟨"java/lang/String", "coder", "()B"⟩
def yS_latin : MethodName := ⟨"java/lang/String", "isLatin1", "()Z"⟩
def yS_check : MethodName := ⟨"java/lang/String", "checkIndex", "(II)V"⟩
def yS_at1 : MethodName := ⟨"java/lang/StringLatin1", "charAt", "([BI)C"⟩
def yS_pre : MethodName := ⟨"jdk/internal/util/Preconditions", "checkIndex", "(IILjava/util/function/BiFunction;)I"⟩
abbrev cS_length : ByteArray := prog_15_method_54_code
abbrev cS_isEmpty : ByteArray := prog_15_method_55_code
abbrev cS_charAt : ByteArray := prog_15_method_56_code
abbrev cS_coder : ByteArray := prog_15_method_152_code
abbrev cS_latin : ByteArray := prog_15_method_154_code
abbrev cS_check : ByteArray := prog_15_method_155_code
abbrev cS_at1 : ByteArray := prog_16_method_2_code
abbrev cS_pre : ByteArray := prog_22_method_11_code
/-- a method that changes nothing: with these arguments it says v -/
def mw_Pu (l : Launch) (y : MethodName) (bytes : ByteArray) (maxL : Nat) (ret : Option FieldType) (fr lo : Nat) (sa : Nat → Nat) (base : Nat) (P : State → Prop) (as : List Value) (v : Option Value) : Prop :=
  Met l y (Cond.code y bytes maxL ret :: lw_good) { frames := fr, cells := 0, slots := 0, locals := lo } (va_Pc as (fun U => (mw_E2 sa base U ∧ base ≤ U.heap.size) ∧ P U)) (fun _ st o t => o = .returned v ∧ t.heap = st.heap) 0 0 (fun _ => False)
/-- what stands at such a method's start -/
def mw_PuB (p : Program) (s : State) (m : MethodId) (args : Array Value) (meth : Method) (c : Code) (own : String) (cc : ByteArray) (nL : Nat) (ret : Option FieldType) (sa : Nat → Nat) (base : Nat) : Prop :=
  p.tables.exec = Jvm.exec ∧ c.code = cc ∧ c.maxLocals = nL ∧ s.vm.findClass own = some m.cls ∧ (∀ w ∈ lw_good, w.before args s = true) ∧ mw_E2 sa base s ∧ base ≤ s.heap.size ∧ meth.sig.returnType = ret ∧ meth.locks = false
theorem mw_Pu_of {l : Launch} {y : MethodName} {bytes : ByteArray} {maxL : Nat} {ret : Option FieldType} {fr lo : Nat} {sa : Nat → Nat} {base : Nat} {P : State → Prop} {as : List Value} {v : Option Value} (hy : plainName y.cls = true) (hl : (lg_sl as).length ≤ maxL)
    (body : ∀ (p : Program) (e : Env) (s : State) (m : MethodId) (below : List Frame) (meth : Method) (c : Code) (ls : Array Slot), mw_PuB p s m as.toArray meth c y.cls bytes maxL ret sa base → P s → lv_has ls maxL (lv_args 0 as) →
      W p l e { frames := fr, cells := 0, slots := 0, locals := lo } s m as.toArray below meth c s.heap [] 0 0 (MQ below (fun _ st o t => o = .returned v ∧ t.heap = st.heap) as.toArray s 0 0 (fun _ => False)) (F0 m 0 ls [])) : mw_Pu l y bytes maxL ret fr lo sa base P as v := by
  refine Met.ofW (cc := bytes) (maxL := maxL) (ret := ret) hy rfl ?_
  intro p e s m args below meth c s₁ B hml hP
  obtain ⟨rfl, ⟨hE, hb⟩, hPs⟩ := hP
  have hts0 : ∀ w ∈ (Cond.code y bytes maxL ret :: lw_good), w.before as.toArray s = true := atoms_spec (ws := Cond.code y bytes maxL ret :: lw_good) B.pre
  rw [lg_entry_eq]
  exact body p e s m below meth c _ ⟨B.exec, B.bytes, hml, findClass_of_methodNamed B.named, fun w hw => hts0 w (List.mem_cons_of_mem _ hw), hE, hb, B.returns, B.notSynchronized⟩ hPs (lv_entry as hl)
section PU
variable {p : Program} {l : Launch} {e : Env} {R : Room} {s : State} {m : MethodId} {args : Array Value} {below : List Frame} {meth : Method} {c : Code} {own : String} {cc : ByteArray} {nL : Nat} {sa : Nat → Nat} {base : Nat} {Q : State → Prop}
variable {H : Heap} {locs : List Loc} {ls : Array Slot} {cells slots pc index maxL fr lo np : Nat} {rest as : List Value} {v : Option Value} {y : MethodName} {bytes : ByteArray} {ret : Option FieldType} {a : Nat} {P : State → Prop}
theorem mw_puGo {aa : Array Value} {st1 : List Value} (hr : va_Run p l e R s m args below meth c H locs cells slots 0 0 (F0 m pc ls st1) rest ((fun _ st o t => o = .returned v ∧ t.heap = st.heap : Array Value → State → Outcome → State → Prop) aa) (fun _ => False))
    (kk : W p l e R s m args below meth c H locs cells slots Q (F0 m (pc + 3) ls (v.toList ++ rest))) : W p l e R s m args below meth c H locs cells slots Q (F0 m pc ls st1) := by
  intro T hT X
  obtain ⟨v', st₀, t, T', L0, h0, X', hL, e1, e2, ⟨hv, hh⟩, st⟩ := hr T hT X
  cases hv
  have hL0 : L0 = [] := by
    match L0, hL with
    | [], _ => rfl
    | q :: r, hL => exact absurd (hL q List.mem_cons_self) (fun h => h)
  subst hL0
  rw [List.append_nil] at X'
  obtain ⟨t2, a1, b1⟩ := kk T' (by rw [e1, hh, h0]) X'
  exact ⟨t2, st t2 a1, b1⟩
theorem mw_E2_same {H : Heap} {locs : List Loc} (hE : mw_E2 sa base s) (hb : base ≤ s.heap.size) (hS : va_S (fun q => base ≤ q) s.heap H locs) : ∀ U : State, U.heap = H → s.WarmedH U.vm → mw_E2 sa base U ∧ base ≤ U.heap.size :=
  fun U hU hW => ⟨mw_E2_warm hW hU hS hE, by rw [hU]; exact Nat.le_trans hb hS.1⟩
theorem mw_puBlind {as : List Value} (hPb : ∀ (U : State) (g : JFrame) (mk : MethodId) (a : Array Value), P U → P (U.calling g mk a)) : FrameBlind (va_Pc as (fun U => (mw_E2 sa base U ∧ base ≤ U.heap.size) ∧ P U)) := fun _ _ _ _ h => ⟨h.1, ⟨mw_E2_call h.2.1.1, h.2.1.2⟩, hPb _ _ _ _ h.2.2⟩
theorem mw_puV (hM : mw_Pu l y bytes maxL ret fr lo sa base P (.ref a :: as) v) (hPb : ∀ (U : State) (g : JFrame) (mk : MethodId) (a : Array Value), P U → P (U.calling g mk a)) (hP : ∀ U : State, U.heap = H → s.WarmedH U.vm → P U) (hx : p.tables.exec = Jvm.exec) (hb : c.code = cc) (hml : c.maxLocals = nL) (hown : s.vm.findClass own = some m.cls) (hts : ∀ w ∈ lw_good, w.before args s = true) (hE : mw_E2 sa base s) (hbs : base ≤ s.heap.size) (hlink : Cond.methodLink own index y ∈ lw_good) (hw1 : Cond.code y bytes maxL ret ∈ lw_good) (hw2 : Cond.instanceMethod y ∈ lw_good) (hw3 : Cond.selects y.cls y y ∈ lw_good) (hw4 : Cond.initialized y.cls ∈ lw_good)
    (hy : y.cls ≠ "java/lang/invoke/MethodHandle" ∧ y.cls ≠ "java/lang/invoke/VarHandle" ∧ (parseMethodDescriptor y.desc).map (fun d => d.parameters.length) = some np) (hn : as.length = np) (hcell : ∃ cell : Cell, H[a]? = some cell ∧ cell.vm.isStatics = false ∧ s.vm.findClass y.cls = some cell.cls) (hS : va_S (fun q => base ≤ q) s.heap H locs) (hsz : ls.size = nL) (hwd : (rest.map fun v => v.category).sum ≤ 8) (hR : fr + 1 ≤ R.frames ∧ 8 + (maxL + 11) + lo ≤ R.locals) (hc : cells ≤ R.cells ∧ slots ≤ R.slots)
    (hd : decode cc pc = .ok (.invokevirtual index, 3)) (kk : W p l e R s m args below meth c H locs cells slots Q (F0 m (pc + 3) ls (v.toList ++ rest))) : W p l e R s m args below meth c H locs cells slots Q (F0 m pc ls (as.reverse ++ .ref a :: rest)) := by
  refine mw_puGo (aa := (Value.ref a :: as).toArray) (va_runV (As := as) (rest := rest) (C := y.cls) (Ts := lw_good) ⟨hx, hb, hml, hown, hts⟩ hM (cwV np hts ?_ rfl rfl rfl ⟨rfl, hy⟩ hR) ⟨mw_puBlind hPb, hcell, fun U hU hW => ⟨rfl, mw_E2_same hE hbs hS U hU hW, hP U hU hW⟩⟩ rfl hn hsz rfl (lv_room hwd) hd ⟨hc.1, hc.2⟩) kk
  intro w hw
  unfold wsV at hw
  rcases List.mem_append.mp hw with hw | hw
  · simp only [List.mem_cons, List.not_mem_nil, or_false] at hw
    rcases hw with rfl | rfl | rfl | rfl
    · exact mw_goodIn _ hlink
    · exact mw_goodIn _ hw2
    · exact mw_goodIn _ hw3
    · exact mw_goodIn _ hw4
  · exact mw_goodC hw1 w hw
theorem mw_puS (hM : mw_Pu l y bytes maxL ret fr lo sa base P as v) (hPb : ∀ (U : State) (g : JFrame) (mk : MethodId) (a : Array Value), P U → P (U.calling g mk a)) (hP : ∀ U : State, U.heap = H → s.WarmedH U.vm → P U) (hx : p.tables.exec = Jvm.exec) (hb : c.code = cc) (hml : c.maxLocals = nL) (hown : s.vm.findClass own = some m.cls) (hts : ∀ w ∈ lw_good, w.before args s = true) (hE : mw_E2 sa base s) (hbs : base ≤ s.heap.size) (hlink : Cond.methodLink own index y ∈ lw_good) (hw1 : Cond.code y bytes maxL ret ∈ lw_good) (hw2 : Cond.static y ∈ lw_good) (hw4 : Cond.initialized y.cls ∈ lw_good)
    (hy : y.cls ≠ "java/lang/invoke/MethodHandle" ∧ y.cls ≠ "java/lang/invoke/VarHandle" ∧ (parseMethodDescriptor y.desc).map (fun d => d.parameters.length) = some np) (hn : as.length = np) (hS : va_S (fun q => base ≤ q) s.heap H locs) (hsz : ls.size = nL) (hwd : (rest.map fun v => v.category).sum ≤ 8) (hR : fr + 1 ≤ R.frames ∧ 8 + (maxL + 11) + lo ≤ R.locals) (hc : cells ≤ R.cells ∧ slots ≤ R.slots)
    (hd : decode cc pc = .ok (.invokestatic index, 3)) (kk : W p l e R s m args below meth c H locs cells slots Q (F0 m (pc + 3) ls (v.toList ++ rest))) : W p l e R s m args below meth c H locs cells slots Q (F0 m pc ls (as.reverse ++ rest)) := by
  refine mw_puGo (aa := as.toArray) (va_runS (As := as) (rest := rest) (Ts := lw_good) ⟨hx, hb, hml, hown, hts⟩ hM (va_cwS np hts ?_ rfl rfl rfl hy hR) ⟨mw_puBlind hPb, fun U hU hW => ⟨rfl, mw_E2_same hE hbs hS U hU hW, hP U hU hW⟩⟩ rfl hn hsz rfl (lv_room hwd) hd ⟨hc.1, hc.2⟩) kk
  intro w hw
  unfold va_wsS at hw
  rcases List.mem_append.mp hw with hw | hw
  · simp only [List.mem_cons, List.not_mem_nil, or_false] at hw
    rcases hw with rfl | rfl | rfl
    · exact mw_goodIn _ hlink
    · exact mw_goodIn _ hw2
    · exact mw_goodIn _ hw4
  · exact mw_goodC hw1 w hw
end PU
theorem mw_S0 {base : Nat} {s : State} : va_S (fun q => base ≤ q) s.heap s.heap [] := ⟨Nat.le_refl _, fun _ _ _ => rfl, fun _ h => nomatch h⟩
/-- the lengths of the six texts -/
def mw_len (i : Nat) : Nat := (mv_str (i + 1)).length
theorem mw_len_ok : ∀ i, i < 6 → (mw_strs.map fun t => t.length).getD i 0 = mw_len i ∧ mw_len i < 100 := by decide +kernel
theorem mw_byt_ok (i : Nat) (hi : i < 6) : ((List.range 6).map fun i => (mv_str (i + 1)).map fun x => nI x).getD i [] = (mv_str (i + 1)).map fun x => nI x := by
  simp [hi]
def mw_T0 : State → Prop := fun _ => True
theorem mw_T0b : ∀ (U : State) (g : JFrame) (mk : MethodId) (a : Array Value), mw_T0 U → mw_T0 (U.calling g mk a) := fun _ _ _ _ h => h
theorem mw_T0c {H : Heap} {s : State} : ∀ U : State, U.heap = H → s.WarmedH U.vm → mw_T0 U := fun _ _ _ => trivial
section STR
variable (l : Launch) {sa : Nat → Nat} {base : Nat} {i : Nat}
theorem mw_coder (hi : i < 6) : mw_Pu l yS_coder cS_coder 1 (some .byte) 1 30 sa base mw_T0 [.ref (sa (i + 1))] (some (.int 0)) := by
  refine mw_Pu_of (by decide +kernel) (Nat.le_refl 1) ?_
  intro p e s m below meth c ls ⟨hx, hb, hml, hown, hts, hE, hbs, hr, hlk⟩ hPs hl
  obtain ⟨⟨adV, h1, -⟩, -, -, -, -, -, -, -, -, ⟨hZ, -⟩, -⟩ := hE
  obtain ⟨-, hco, -, -⟩ := h1 i hi
  refine va_gets hx hb hZ mw_S0 hown (hts _ (mw_in (w := .fieldLink "java/lang/String" 38 "java/lang/String" "COMPACT_STRINGS" "Z") 445 (by decide +kernel) (by decide +kernel))) (fun _ h => h) (by decide +kernel : decode cS_coder 0 = .ok (.getstatic 38, 3)) ?_
  refine lv_if_eq hx hb (by decide +kernel : decode cS_coder 3 = .ok (.ifCond .eq 10, 3)) (tgt := 13) (by decide) (fun h => absurd h (by decide)) (fun _ => ?_)
  refine lv_aload_n hx hb (by decide +kernel : decode cS_coder 6 = .ok (.aload_n 0, 1)) rfl (lv_at hl 0 rfl) ?_
  refine vk_getf hx hb hco mw_S0 hown (hts _ (mw_in (w := .fieldLink "java/lang/String" 15 "java/lang/String" "coder" "B") 1585 (by decide +kernel) (by decide +kernel))) (fun _ h => h) (by decide +kernel : decode cS_coder 7 = .ok (.getfield 15, 3)) ?_
  refine lv_goto hx hb (by decide +kernel : decode cS_coder 10 = .ok (.goto 4, 3)) (tgt := 14) (by decide) ?_
  exact W.zret hx hb hr rfl (fun t ht _ => ⟨rfl, ht⟩) (fun q hq => nomatch hq) (by decide +kernel : decode cS_coder 14 = .ok (.ireturn, 1)) hlk
theorem mw_latin (hi : i < 6) : mw_Pu l yS_latin cS_latin 1 (some .boolean) 1 30 sa base mw_T0 [.ref (sa (i + 1))] (some (.int 1)) := by
  refine mw_Pu_of (by decide +kernel) (Nat.le_refl 1) ?_
  intro p e s m below meth c ls ⟨hx, hb, hml, hown, hts, hE, hbs, hr, hlk⟩ hPs hl
  obtain ⟨⟨adV, h1, -⟩, -, -, -, -, -, -, -, -, ⟨hZ, -⟩, -⟩ := hE
  obtain ⟨-, hco, -, -⟩ := h1 i hi
  refine va_gets hx hb hZ mw_S0 hown (hts _ (mw_in (w := .fieldLink "java/lang/String" 38 "java/lang/String" "COMPACT_STRINGS" "Z") 445 (by decide +kernel) (by decide +kernel))) (fun _ h => h) (by decide +kernel : decode cS_latin 0 = .ok (.getstatic 38, 3)) ?_
  refine lv_if_eq hx hb (by decide +kernel : decode cS_latin 3 = .ok (.ifCond .eq 14, 3)) (tgt := 17) (by decide) (fun h => absurd h (by decide)) (fun _ => ?_)
  refine lv_aload_n hx hb (by decide +kernel : decode cS_latin 6 = .ok (.aload_n 0, 1)) rfl (lv_at hl 0 rfl) ?_
  refine vk_getf hx hb hco mw_S0 hown (hts _ (mw_in (w := .fieldLink "java/lang/String" 15 "java/lang/String" "coder" "B") 1585 (by decide +kernel) (by decide +kernel))) (fun _ h => h) (by decide +kernel : decode cS_latin 7 = .ok (.getfield 15, 3)) ?_
  refine lv_if_ne hx hb (by decide +kernel : decode cS_latin 10 = .ok (.ifCond .ne 7, 3)) (tgt := 17) (by decide) (fun h => absurd rfl h) (fun _ => ?_)
  refine lv_iconst hx hb (by decide +kernel : decode cS_latin 13 = .ok (.iconst 1, 1)) rfl ?_
  refine lv_goto hx hb (by decide +kernel : decode cS_latin 14 = .ok (.goto 4, 3)) (tgt := 18) (by decide) ?_
  exact W.zret hx hb hr rfl (fun t ht _ => ⟨rfl, ht⟩) (fun q hq => nomatch hq) (by decide +kernel : decode cS_latin 18 = .ok (.ireturn, 1)) hlk
theorem mw_isEmptyS (hi : i < 6) : mw_Pu l yS_isEmpty cS_isEmpty 1 (some .boolean) 1 30 sa base mw_T0 [.ref (sa (i + 1))] (some (.int (if mw_len i = 0 then 1 else 0))) := by
  refine mw_Pu_of (by decide +kernel) (Nat.le_refl 1) ?_
  intro p e s m below meth c ls ⟨hx, hb, hml, hown, hts, hE, hbs, hr, hlk⟩ hPs hl
  obtain ⟨⟨adV, h1, -⟩, -⟩ := hE
  obtain ⟨-, -, hva, hT⟩ := h1 i hi
  obtain ⟨hle, hlt⟩ := mw_len_ok i hi
  rw [hle] at hT
  refine lv_aload_n hx hb (by decide +kernel : decode cS_isEmpty 0 = .ok (.aload_n 0, 1)) rfl (lv_at hl 0 rfl) ?_
  refine vk_getf hx hb hva mw_S0 hown (hts _ (mw_in (w := .fieldLink "java/lang/String" 9 "java/lang/String" "value" "[B") 1584 (by decide +kernel) (by decide +kernel))) (fun _ h => h) (by decide +kernel : decode cS_isEmpty 1 = .ok (.getfield 9, 3)) ?_
  refine va_tlen hx hb hT mw_S0 rfl (by decide +kernel : decode cS_isEmpty 4 = .ok (.arraylength, 1)) ?_
  have hz : Int32.ofNat (mw_len i) = 0 ↔ mw_len i = 0 := by
    constructor
    · intro h
      have h2 := congrArg Int32.toInt h
      rw [Int32.toInt_ofNat_of_lt (by omega)] at h2
      simpa using h2
    · intro h
      rw [h]
      rfl
  refine lv_if_ne hx hb (by decide +kernel : decode cS_isEmpty 5 = .ok (.ifCond .ne 7, 3)) (tgt := 12) (by decide) (fun h => ?_) (fun h => ?_)
  · rw [if_neg (fun q => h (hz.mpr q))]
    refine lv_iconst hx hb (by decide +kernel : decode cS_isEmpty 12 = .ok (.iconst 0, 1)) rfl ?_
    exact W.zret hx hb hr rfl (fun t ht _ => ⟨rfl, ht⟩) (fun q hq => nomatch hq) (by decide +kernel : decode cS_isEmpty 13 = .ok (.ireturn, 1)) hlk
  · rw [if_pos (hz.mp h)]
    refine lv_iconst hx hb (by decide +kernel : decode cS_isEmpty 8 = .ok (.iconst 1, 1)) rfl ?_
    refine lv_goto hx hb (by decide +kernel : decode cS_isEmpty 9 = .ok (.goto 4, 3)) (tgt := 13) (by decide) ?_
    exact W.zret hx hb hr rfl (fun t ht _ => ⟨rfl, ht⟩) (fun q hq => nomatch hq) (by decide +kernel : decode cS_isEmpty 13 = .ok (.ireturn, 1)) hlk
theorem mw_lengthS (hi : i < 6) : mw_Pu l yS_length cS_length 1 (some .int) 2 60 sa base mw_T0 [.ref (sa (i + 1))] (some (.int (nI (mw_len i)))) := by
  refine mw_Pu_of (by decide +kernel) (Nat.le_refl 1) ?_
  intro p e s m below meth c ls ⟨hx, hb, hml, hown, hts, hE, hbs, hr, hlk⟩ hPs hl
  obtain ⟨⟨adV, h1, -⟩, -⟩ := id hE
  obtain ⟨hO, -, hva, hT⟩ := h1 i hi
  obtain ⟨hle, hlt⟩ := mw_len_ok i hi
  rw [hle] at hT
  refine lv_aload_n hx hb (by decide +kernel : decode cS_length 0 = .ok (.aload_n 0, 1)) rfl (lv_at hl 0 rfl) ?_
  refine vk_getf hx hb hva mw_S0 hown (hts _ (mw_in (w := .fieldLink "java/lang/String" 9 "java/lang/String" "value" "[B") 1584 (by decide +kernel) (by decide +kernel))) (fun _ h => h) (by decide +kernel : decode cS_length 1 = .ok (.getfield 9, 3)) ?_
  refine va_tlen hx hb hT mw_S0 rfl (by decide +kernel : decode cS_length 4 = .ok (.arraylength, 1)) ?_
  refine lv_aload_n hx hb (by decide +kernel : decode cS_length 5 = .ok (.aload_n 0, 1)) rfl (lv_at hl 0 rfl) ?_
  obtain ⟨cell, g1, g2, g3, -⟩ := hO
  refine mw_puV (as := []) (np := 0) (mw_coder l hi) mw_T0b mw_T0c hx hb hml hown hts hE hbs (mw_in (w := .methodLink "java/lang/String" 335 yS_coder) 441 (by decide +kernel) (by decide +kernel)) (mw_in 444 (by decide +kernel) (by decide +kernel)) (mw_in 442 (by decide +kernel) (by decide +kernel)) (mw_in 443 (by decide +kernel) (by decide +kernel)) (mw_in 83 (by decide +kernel) (by decide +kernel)) (by decide +kernel) rfl ⟨cell, g1, g2, g3⟩ mw_S0 hl.1 (by simp [Value.category]) (by decide) ⟨Nat.le_refl _, Nat.le_refl _⟩ (by decide +kernel : decode cS_length 6 = .ok (.invokevirtual 335, 3)) ?_
  refine lv_ishr hx hb (by decide +kernel : decode cS_length 9 = .ok (.ishr, 1)) ?_
  have e9 : Int32.ofNat (mw_len i) >>> ((0 : Int32) &&& 31) = nI (mw_len i) := by
    have h9 : ∀ i, i < 6 → Int32.ofNat (mw_len i) >>> ((0 : Int32) &&& 31) = nI (mw_len i) := by decide +kernel
    exact h9 i hi
  rw [e9]
  exact W.zret hx hb hr rfl (fun t ht _ => ⟨rfl, ht⟩) (fun q hq => nomatch hq) (by decide +kernel : decode cS_length 10 = .ok (.ireturn, 1)) hlk
theorem mw_preS {j n : Int32} {v : Value} (hv : v.category = 1) (h0 : ¬ j < 0) (h1 : j < n) : mw_Pu l yS_pre cS_pre 3 (some .int) 1 30 sa base mw_T0 [.int j, .int n, v] (some (.int j)) := by
  refine mw_Pu_of (by decide +kernel) (by simp only [lg_sl, List.flatMap_cons, hv]; exact Nat.le_refl 3) ?_
  intro p e s m below meth c ls ⟨hx, hb, hml, hown, hts, hE, hbs, hr, hlk⟩ hPs hl
  refine lv_iload_n hx hb (by decide +kernel : decode cS_pre 0 = .ok (.iload_n 0, 1)) rfl (lv_at hl 0 rfl) ?_
  refine lv_if_lt hx hb (by decide +kernel : decode cS_pre 1 = .ok (.ifCond .lt 8, 3)) (tgt := 9) (by decide) (fun h => absurd h h0) (fun _ => ?_)
  refine lv_iload_n hx hb (by decide +kernel : decode cS_pre 4 = .ok (.iload_n 0, 1)) rfl (lv_at hl 0 rfl) ?_
  refine lv_iload_n hx hb (by decide +kernel : decode cS_pre 5 = .ok (.iload_n 1, 1)) rfl (lv_at hl 1 rfl) ?_
  refine lv_icmp_lt hx hb (by decide +kernel : decode cS_pre 6 = .ok (.if_icmp .lt 10, 3)) (tgt := 16) (by decide) (fun _ => ?_) (fun h => absurd h1 h)
  refine lv_iload_n hx hb (by decide +kernel : decode cS_pre 16 = .ok (.iload_n 0, 1)) rfl (lv_at hl 0 rfl) ?_
  exact W.zret hx hb hr rfl (fun t ht _ => ⟨rfl, ht⟩) (fun q hq => nomatch hq) (by decide +kernel : decode cS_pre 17 = .ok (.ireturn, 1)) hlk
theorem mw_checkS {j n : Int32} (h0 : ¬ j < 0) (h1 : j < n) : mw_Pu l yS_check cS_check 2 none 2 60 sa base mw_T0 [.int j, .int n] none := by
  refine mw_Pu_of (by decide +kernel) (Nat.le_refl 2) ?_
  intro p e s m below meth c ls ⟨hx, hb, hml, hown, hts, hE, hbs, hr, hlk⟩ hPs hl
  obtain ⟨-, -, -, -, -, -, -, -, -, ⟨-, hZ⟩, -⟩ := id hE
  refine lv_iload_n hx hb (by decide +kernel : decode cS_check 0 = .ok (.iload_n 0, 1)) rfl (lv_at hl 0 rfl) ?_
  refine lv_iload_n hx hb (by decide +kernel : decode cS_check 1 = .ok (.iload_n 1, 1)) rfl (lv_at hl 1 rfl) ?_
  have key : ∀ v : Value, v.category = 1 → va_Z "jdk/internal/util/Preconditions" "SIOOBE_FORMATTER" "Ljava/util/function/BiFunction;" v (fun q => base ≤ q) s s.heap → W p l e { frames := 2, cells := 0, slots := 0, locals := 60 } s m ([.int j, .int n] : List Value).toArray below meth c s.heap [] 0 0 (MQ below (fun _ st o t => o = .returned none ∧ t.heap = st.heap) ([.int j, .int n] : List Value).toArray s 0 0 (fun _ => False)) (F0 m 2 ls [.int n, .int j]) := by
    intro v hv hZ
    refine va_gets hx hb hZ mw_S0 hown (hts _ (mw_in (w := .fieldLink "java/lang/String" 1053 "jdk/internal/util/Preconditions" "SIOOBE_FORMATTER" "Ljava/util/function/BiFunction;") 461 (by decide +kernel) (by decide +kernel))) (fun _ h => h) (by decide +kernel : decode cS_check 2 = .ok (.getstatic 1053, 3)) ?_
    refine mw_puS (as := [.int j, .int n, v]) (rest := []) (np := 3) (mw_preS l hv h0 h1) mw_T0b mw_T0c hx hb hml hown hts hE hbs (mw_in (w := .methodLink "java/lang/String" 1059 yS_pre) 463 (by decide +kernel) (by decide +kernel)) (mw_in 465 (by decide +kernel) (by decide +kernel)) (mw_in 464 (by decide +kernel) (by decide +kernel)) (mw_in 85 (by decide +kernel) (by decide +kernel)) (by decide +kernel) rfl mw_S0 hl.1 (by decide) (by decide) ⟨Nat.le_refl _, Nat.le_refl _⟩ (by decide +kernel : decode cS_check 5 = .ok (.invokestatic 1059, 3)) ?_
    refine lv_pop hx hb (by decide +kernel : decode cS_check 8 = .ok (.pop, 1)) rfl ?_
    exact W.vret hx hb hr (fun t ht _ => ⟨rfl, ht⟩) (fun q hq => nomatch hq) (by decide +kernel : decode cS_check 9 = .ok (.return_, 1)) hlk
  rcases hZ with hZ | ⟨t, hZ⟩
  · exact key .null rfl hZ
  · exact key (.ref t) rfl hZ
theorem mw_chr : ∀ i, i < 6 → ∀ k, k < mw_len i → (((((mv_str (i + 1)).map fun x => nI x).getD k 0 &&& 255).toUInt32 % 65536).toInt32 = nI ((mv_str (i + 1)).getD k 0) ∧ ((nI ((mv_str (i + 1)).getD k 0)).toUInt32 % 65536).toInt32 = nI ((mv_str (i + 1)).getD k 0)) := by decide +kernel
theorem mw_ltS {j : Int32} {n : Nat} (hn : n < 100) (h0 : ¬ j < 0) (h1 : j.toNatClampNeg < n) : j < Int32.ofNat n := by
  have h2 : (0 : Int) ≤ j.toInt := by
    have := Int32.not_lt.mp h0
    simpa using Int32.le_iff_toInt_le.mp this
  rw [Int32.lt_iff_toInt_lt, Int32.toInt_ofNat_of_lt (by omega)]
  have h3 : j.toInt = (j.toNatClampNeg : Int) := by
    show j.toInt = ((j.toInt.toNat : Nat) : Int)
    omega
  omega
def mw_PB (base i q : Nat) : State → Prop := fun U => va_T .byte q (mw_len i) (fun k => .int (((mv_str (i + 1)).map fun x => nI x).getD k 0)) (fun q => base ≤ q) U U.heap
theorem mw_at1S {q : Nat} {j : Int32} (hi : i < 6) (h0 : ¬ j < 0) (h1 : j.toNatClampNeg < mw_len i) : mw_Pu l yS_at1 cS_at1 2 (some .char) 3 90 sa base (mw_PB base i q) [.ref q, .int j] (some (.int (nI ((mv_str (i + 1)).getD j.toNatClampNeg 0)))) := by
  refine mw_Pu_of (by decide +kernel) (Nat.le_refl 2) ?_
  intro p e s m below meth c ls ⟨hx, hb, hml, hown, hts, hE, hbs, hr, hlk⟩ hT hl
  obtain ⟨hle, hlt⟩ := mw_len_ok i hi
  obtain ⟨c1, c2⟩ := mw_chr i hi _ h1
  refine lv_iload_n hx hb (by decide +kernel : decode cS_at1 0 = .ok (.iload_n 1, 1)) rfl (lv_at hl 1 rfl) ?_
  refine lv_aload_n hx hb (by decide +kernel : decode cS_at1 1 = .ok (.aload_n 0, 1)) rfl (lv_at hl 0 rfl) ?_
  refine va_tlen hx hb hT mw_S0 rfl (by decide +kernel : decode cS_at1 2 = .ok (.arraylength, 1)) ?_
  refine mw_puS (as := [.int j, .int (Int32.ofNat (mw_len i))]) (rest := []) (np := 2) (mw_checkS l h0 (mw_ltS hlt h0 h1)) mw_T0b mw_T0c hx hb hml hown hts hE hbs (mw_in (w := .methodLink "java/lang/StringLatin1" 9 yS_check) 458 (by decide +kernel) (by decide +kernel)) (mw_in 460 (by decide +kernel) (by decide +kernel)) (mw_in 459 (by decide +kernel) (by decide +kernel)) (mw_in 83 (by decide +kernel) (by decide +kernel)) (by decide +kernel) rfl mw_S0 hl.1 (by decide) (by decide) ⟨Nat.le_refl _, Nat.le_refl _⟩ (by decide +kernel : decode cS_at1 3 = .ok (.invokestatic 9, 3)) ?_
  refine lv_aload_n hx hb (by decide +kernel : decode cS_at1 6 = .ok (.aload_n 0, 1)) rfl (lv_at hl 0 rfl) ?_
  refine lv_iload_n hx hb (by decide +kernel : decode cS_at1 7 = .ok (.iload_n 1, 1)) rfl (lv_at hl 1 rfl) ?_
  refine va_tb hx hb hT mw_S0 (fun h => h.elim h0 (fun h => absurd h1 (Nat.not_lt.mpr h))) rfl (by decide +kernel : decode cS_at1 8 = .ok (.baload, 1)) ?_
  refine lv_sipush hx hb (by decide +kernel : decode cS_at1 9 = .ok (.sipush 255, 3)) rfl ?_
  refine lv_iand hx hb (by decide +kernel : decode cS_at1 12 = .ok (.iand, 1)) ?_
  refine lv_i2c hx hb (by decide +kernel : decode cS_at1 13 = .ok (.i2c, 1)) c1 ?_
  exact W.zret hx hb hr (congrArg Value.int c2) (fun t ht _ => ⟨rfl, ht⟩) (fun q hq => nomatch hq) (by decide +kernel : decode cS_at1 14 = .ok (.ireturn, 1)) hlk
theorem mw_charAtS {j : Int32} (hi : i < 6) (h0 : ¬ j < 0) (h1 : j.toNatClampNeg < mw_len i) : mw_Pu l yS_charAt cS_charAt 2 (some .char) 4 120 sa base mw_T0 [.ref (sa (i + 1)), .int j] (some (.int (nI ((mv_str (i + 1)).getD j.toNatClampNeg 0)))) := by
  refine mw_Pu_of (by decide +kernel) (Nat.le_refl 2) ?_
  intro p e s m below meth c ls ⟨hx, hb, hml, hown, hts, hE, hbs, hr, hlk⟩ hPs hl
  obtain ⟨⟨adV, h2, -⟩, -⟩ := id hE
  obtain ⟨⟨cell, g1, g2, g3, -⟩, -, hva, hT⟩ := h2 i hi
  obtain ⟨hle, hlt⟩ := mw_len_ok i hi
  obtain ⟨c1, c2⟩ := mw_chr i hi _ h1
  rw [hle, mw_byt_ok i hi] at hT
  refine lv_aload_n hx hb (by decide +kernel : decode cS_charAt 0 = .ok (.aload_n 0, 1)) rfl (lv_at hl 0 rfl) ?_
  refine mw_puV (as := []) (np := 0) (mw_latin l hi) mw_T0b mw_T0c hx hb hml hown hts hE hbs (mw_in (w := .methodLink "java/lang/String" 492 yS_latin) 451 (by decide +kernel) (by decide +kernel)) (mw_in 454 (by decide +kernel) (by decide +kernel)) (mw_in 452 (by decide +kernel) (by decide +kernel)) (mw_in 453 (by decide +kernel) (by decide +kernel)) (mw_in 83 (by decide +kernel) (by decide +kernel)) (by decide +kernel) rfl ⟨cell, g1, g2, g3⟩ mw_S0 hl.1 (by decide) (by decide) ⟨Nat.le_refl _, Nat.le_refl _⟩ (by decide +kernel : decode cS_charAt 1 = .ok (.invokevirtual 492, 3)) ?_
  refine lv_if_eq hx hb (by decide +kernel : decode cS_charAt 4 = .ok (.ifCond .eq 12, 3)) (tgt := 16) (by decide) (fun h => absurd h (by decide)) (fun _ => ?_)
  refine lv_aload_n hx hb (by decide +kernel : decode cS_charAt 7 = .ok (.aload_n 0, 1)) rfl (lv_at hl 0 rfl) ?_
  refine vk_getf hx hb hva mw_S0 hown (hts _ (mw_in (w := .fieldLink "java/lang/String" 9 "java/lang/String" "value" "[B") 1584 (by decide +kernel) (by decide +kernel))) (fun _ h => h) (by decide +kernel : decode cS_charAt 8 = .ok (.getfield 9, 3)) ?_
  refine lv_iload_n hx hb (by decide +kernel : decode cS_charAt 11 = .ok (.iload_n 1, 1)) rfl (lv_at hl 1 rfl) ?_
  refine mw_puS (as := [.ref (adV i), .int j]) (rest := []) (np := 2) (mw_at1S l (q := adV i) hi h0 h1) (fun U g mk a h => va_T.moved (u := U) (U := U.calling g mk a) (Vm.Alike.refl U.vm) h) (fun U hU hW => ?_) hx hb hml hown hts hE hbs (mw_in (w := .methodLink "java/lang/String" 495 yS_at1) 455 (by decide +kernel) (by decide +kernel)) (mw_in 457 (by decide +kernel) (by decide +kernel)) (mw_in 456 (by decide +kernel) (by decide +kernel)) (mw_in 84 (by decide +kernel) (by decide +kernel)) (by decide +kernel) rfl mw_S0 hl.1 (by decide) (by decide) ⟨Nat.le_refl _, Nat.le_refl _⟩ (by decide +kernel : decode cS_charAt 12 = .ok (.invokestatic 495, 3)) ?_
  · show va_T _ _ _ _ _ U U.heap
    rw [hU]
    exact hT.moved hW.alike
  · exact W.zret hx hb hr (congrArg Value.int c2) (fun t ht _ => ⟨rfl, ht⟩) (fun q hq => nomatch hq) (by decide +kernel : decode cS_charAt 15 = .ok (.ireturn, 1)) hlk
end STR
section MSTR
variable {p : Program} {l : Launch} {e : Env} {R : Room} {s : State} {m : MethodId} {args : Array Value} {below : List Frame} {meth : Method} {c : Code} {own : String} {cc : ByteArray} {nL rt : Nat} {D : va_G} {ac sa : Nat → Nat} {b L : Nat} {xs : Nat → Int32} {base n0 s0 : Nat} {Q : State → Prop}
variable {cl : Nat → List mv_V → mv_S → mv_O} {lk : Nat → mv_K} {k : Nat → mv_L → List mv_V → mv_S → mv_O} {pc len : Nat} {lv : mv_L} {st : List mv_V} {σ σF : mv_S} {r0 : Option mv_V} {d i : Nat}
theorem mo_str_inv {a : Nat} {k : List Nat → mv_O} {q : Option mv_V × mv_S} (h : mo_str a k = some q) : 1 ≤ a ∧ a ≤ 6 ∧ k (mv_str a) = some q := by
  unfold mo_str at h
  split at h
  · rename_i g
    exact ⟨g.1, g.2, h⟩
  · cases h
theorem mw_cellS {H : Heap} {locs : List Loc} {a : Nat} (X : mw_X p l R s m args meth c own cc nL rt D ac sa b L xs base) (hS : va_S (fun q => base ≤ q) s.heap H locs) (h1 : 1 ≤ a) (h6 : a ≤ 6) : mw_ad b sa base a = sa (a - 1 + 1) ∧ ∃ cell : Cell, H[sa (a - 1 + 1)]? = some cell ∧ cell.vm.isStatics = false ∧ s.vm.findClass "java/lang/String" = some cell.cls := by
  obtain ⟨-, -, -, -, -, -, -, -, -, -, ⟨adV, h2, -⟩, -⟩ := X
  obtain ⟨cell, g1, g2, g3, -⟩ := (h2 (a - 1) (by omega)).1.kept hS.2.1
  refine ⟨?_, cell, g1, g2, g3⟩
  unfold mw_ad
  rw [if_neg (by omega), if_pos (by omega), show a - 1 + 1 = a by omega]
theorem mq_c10 (X : mw_X p l R s m args meth c own cc nL rt D ac sa b L xs base) (hB : σF.1.length ≤ R.cells + n0 ∧ mw_sz σF.1 ≤ R.slots + s0) (hd : decode cc pc = .ok (.invokevirtual i, 3)) {M n c0 : Nat} {z : Int} (hL : mw_okL own i (10, M, n, c0, z)) (hst : mv_call cl (10, M, n, c0, z) st σ (fun st' σ' => k (pc + 3) lv st' σ') = some (r0, σF)) (hk : ∀ pc' lv' st' σ', k pc' lv' st' σ' = some (r0, σF) → σ'.1 <+: σF.1 ∧ mw_G p l e R s m args below meth c nL D ac (mw_ad b sa base) base L xs n0 s0 Q pc' lv' st' σ') : σ.1 <+: σF.1 ∧ mw_G p l e R s m args below meth c nL D ac (mw_ad b sa base) base L xs n0 s0 Q pc lv st σ := by
  have hst : (match (generalizing := false) st with
    | .inr (.inr o) :: r => mo_rf o fun a => mo_str a fun s => if mv_wd r ≤ 8 then k (pc + 3) lv (.inl (if s.length = 0 then 1 else 0) :: r) σ else none
    | _ => none) = some (r0, σF) := hst
  split at hst
  · rename_i o r hz
    obtain ⟨a, ho9, hs9⟩ := mo_rf_inv hst
    clear hst
    subst ho9
    obtain ⟨a1, a6, hst⟩ := mo_str_inv hs9
    clear hs9
    split at hst
    · rename_i hwd
      obtain ⟨h1, h2⟩ := hk _ _ _ _ hst
      have h3 := mw_sz_le h1
      refine ⟨h1, fun H locs ls cells slots hl hR hS hc hs => ?_⟩
      obtain ⟨e1, hcell⟩ := mw_cellS X hS a1 a6
      have h9 := h2 H locs ls cells slots hl hR hS hc hs
      have hRm := X.2.2.2.2.2.2.2.2.2.1
      have e2 : mw_len (a - 1) = (mv_str a).length := by unfold mw_len; rw [show a - 1 + 1 = a by omega]
      show W p l e R s m args below meth c H locs cells slots Q (F0 m pc ls (.ref (mw_ad b sa base a) :: r.map (mw_v (mw_ad b sa base))))
      rw [e1]
      refine mw_puV (as := []) (np := 0) (mw_isEmptyS l (i := a - 1) (by omega)) mw_T0b mw_T0c X.1 X.2.1 X.2.2.1 X.2.2.2.1 X.2.2.2.2.1 X.2.2.2.2.2.2.2.2.2.2 X.2.2.2.2.2.2.1 hL (mw_in (w := .code yS_isEmpty cS_isEmpty 1 (some .boolean)) 436 (by decide +kernel) (by decide +kernel)) (mw_in (w := .instanceMethod yS_isEmpty) 434 (by decide +kernel) (by decide +kernel)) (mw_in (w := .selects yS_isEmpty.cls yS_isEmpty yS_isEmpty) 435 (by decide +kernel) (by decide +kernel)) (mw_in (w := .initialized "java/lang/String") 83 (by decide +kernel) (by decide +kernel)) (by decide +kernel) rfl hcell hS hl.1 (by rw [mw_wd]; exact hwd) ⟨by omega, by omega⟩ ⟨by omega, by omega⟩ hd ?_
      rw [e2]
      exact h9
    · cases hst
  · cases hst
theorem mq_c11 (X : mw_X p l R s m args meth c own cc nL rt D ac sa b L xs base) (hB : σF.1.length ≤ R.cells + n0 ∧ mw_sz σF.1 ≤ R.slots + s0) (hd : decode cc pc = .ok (.invokevirtual i, 3)) {M n c0 : Nat} {z : Int} (hL : mw_okL own i (11, M, n, c0, z)) (hst : mv_call cl (11, M, n, c0, z) st σ (fun st' σ' => k (pc + 3) lv st' σ') = some (r0, σF)) (hk : ∀ pc' lv' st' σ', k pc' lv' st' σ' = some (r0, σF) → σ'.1 <+: σF.1 ∧ mw_G p l e R s m args below meth c nL D ac (mw_ad b sa base) base L xs n0 s0 Q pc' lv' st' σ') : σ.1 <+: σF.1 ∧ mw_G p l e R s m args below meth c nL D ac (mw_ad b sa base) base L xs n0 s0 Q pc lv st σ := by
  have hst : (match (generalizing := false) st with
    | .inr (.inr o) :: r => mo_rf o fun a => mo_str a fun s => if mv_wd r ≤ 8 then k (pc + 3) lv (.inl (nI s.length) :: r) σ else none
    | _ => none) = some (r0, σF) := hst
  split at hst
  · rename_i o r hz
    obtain ⟨a, ho9, hs9⟩ := mo_rf_inv hst
    clear hst
    subst ho9
    obtain ⟨a1, a6, hst⟩ := mo_str_inv hs9
    clear hs9
    split at hst
    · rename_i hwd
      obtain ⟨h1, h2⟩ := hk _ _ _ _ hst
      have h3 := mw_sz_le h1
      refine ⟨h1, fun H locs ls cells slots hl hR hS hc hs => ?_⟩
      obtain ⟨e1, hcell⟩ := mw_cellS X hS a1 a6
      have h9 := h2 H locs ls cells slots hl hR hS hc hs
      have hRm := X.2.2.2.2.2.2.2.2.2.1
      have e2 : mw_len (a - 1) = (mv_str a).length := by unfold mw_len; rw [show a - 1 + 1 = a by omega]
      show W p l e R s m args below meth c H locs cells slots Q (F0 m pc ls (.ref (mw_ad b sa base a) :: r.map (mw_v (mw_ad b sa base))))
      rw [e1]
      refine mw_puV (as := []) (np := 0) (mw_lengthS l (i := a - 1) (by omega)) mw_T0b mw_T0c X.1 X.2.1 X.2.2.1 X.2.2.2.1 X.2.2.2.2.1 X.2.2.2.2.2.2.2.2.2.2 X.2.2.2.2.2.2.1 hL (mw_in (w := .code yS_length cS_length 1 (some .int)) 440 (by decide +kernel) (by decide +kernel)) (mw_in (w := .instanceMethod yS_length) 438 (by decide +kernel) (by decide +kernel)) (mw_in (w := .selects yS_length.cls yS_length yS_length) 439 (by decide +kernel) (by decide +kernel)) (mw_in (w := .initialized "java/lang/String") 83 (by decide +kernel) (by decide +kernel)) (by decide +kernel) rfl hcell hS hl.1 (by rw [mw_wd]; exact hwd) ⟨by omega, by omega⟩ ⟨by omega, by omega⟩ hd ?_
      rw [e2]
      exact h9
    · cases hst
  · cases hst
theorem mq_c12 (X : mw_X p l R s m args meth c own cc nL rt D ac sa b L xs base) (hB : σF.1.length ≤ R.cells + n0 ∧ mw_sz σF.1 ≤ R.slots + s0) (hd : decode cc pc = .ok (.invokevirtual i, 3)) {M n c0 : Nat} {z : Int} (hL : mw_okL own i (12, M, n, c0, z)) (hst : mv_call cl (12, M, n, c0, z) st σ (fun st' σ' => k (pc + 3) lv st' σ') = some (r0, σF)) (hk : ∀ pc' lv' st' σ', k pc' lv' st' σ' = some (r0, σF) → σ'.1 <+: σF.1 ∧ mw_G p l e R s m args below meth c nL D ac (mw_ad b sa base) base L xs n0 s0 Q pc' lv' st' σ') : σ.1 <+: σF.1 ∧ mw_G p l e R s m args below meth c nL D ac (mw_ad b sa base) base L xs n0 s0 Q pc lv st σ := by
  have hst : (match (generalizing := false) st with
    | .inl i :: .inr (.inr o) :: r => mo_rf o fun a => mo_str a fun s => if mv_wd r ≤ 8 then mo_ix i s.length fun j => k (pc + 3) lv (.inl (nI (s.getD j 0)) :: r) σ else none
    | _ => none) = some (r0, σF) := hst
  split at hst
  · rename_i j o r hz
    obtain ⟨a, ho9, hs9⟩ := mo_rf_inv hst
    clear hst
    subst ho9
    obtain ⟨a1, a6, hst⟩ := mo_str_inv hs9
    clear hs9
    split at hst
    · rename_i hwd
      obtain ⟨hin, hst⟩ := mo_ix_inv hst
      obtain ⟨h1, h2⟩ := hk _ _ _ _ hst
      have h3 := mw_sz_le h1
      refine ⟨h1, fun H locs ls cells slots hl hR hS hc hs => ?_⟩
      obtain ⟨e1, hcell⟩ := mw_cellS X hS a1 a6
      have h9 := h2 H locs ls cells slots hl hR hS hc hs
      have hRm := X.2.2.2.2.2.2.2.2.2.1
      have e2 : mw_len (a - 1) = (mv_str a).length := by unfold mw_len; rw [show a - 1 + 1 = a by omega]
      have e3 : a - 1 + 1 = a := by omega
      show W p l e R s m args below meth c H locs cells slots Q (F0 m pc ls (.int j :: .ref (mw_ad b sa base a) :: r.map (mw_v (mw_ad b sa base))))
      rw [e1]
      refine mw_puV (as := [.int j]) (np := 1) (mw_charAtS l (i := a - 1) (by omega) (fun h => hin (Or.inl h)) (by rw [e2]; exact Nat.not_le.mp fun h => hin (Or.inr h))) mw_T0b mw_T0c X.1 X.2.1 X.2.2.1 X.2.2.2.1 X.2.2.2.2.1 X.2.2.2.2.2.2.2.2.2.2 X.2.2.2.2.2.2.1 hL (mw_in (w := .code yS_charAt cS_charAt 2 (some .char)) 450 (by decide +kernel) (by decide +kernel)) (mw_in (w := .instanceMethod yS_charAt) 448 (by decide +kernel) (by decide +kernel)) (mw_in (w := .selects yS_charAt.cls yS_charAt yS_charAt) 449 (by decide +kernel) (by decide +kernel)) (mw_in (w := .initialized "java/lang/String") 83 (by decide +kernel) (by decide +kernel)) (by decide +kernel) rfl hcell hS hl.1 (by rw [mw_wd]; exact hwd) ⟨by omega, by omega⟩ ⟨by omega, by omega⟩ hd ?_
      rw [e3]
      exact h9
    · cases hst
  · cases hst
end MSTR
end
section
/-! SOUNDNESS of the small machine, 13: any instruction (by program: wip/whole/gen/gen_sound17.py) -/
def mw_finB (own nm : String) (q : mv_K) : Bool := match q with
  | (0, ci, f, _, _) => (match vwCl[ci]? with
    | some r => !(r.2.1 f).2.2.2 || (nm == "<init>" && r.1 == own)
    | none => true)
  | _ => true
theorem mw_finP {own nm : String} {q : mv_K} (h : mw_finB own nm q = true) : match (generalizing := false) q with | (0, ci, f, _, _) => ∀ r : vw_C, vwCl[ci]? = some r → ((r.2.1 f).2.2.2 = false ∨ (nm = "<init>" ∧ r.1 = own)) | _ => True := by
  split
  · rename_i ci f _ _
    intro r hr
    have h : (match (generalizing := false) vwCl[ci]? with
      | some r => !(r.2.1 f).2.2.2 || (nm == "<init>" && r.1 == own)
      | none => true) = true := h
    rw [hr] at h
    have h : (!(r.2.1 f).2.2.2 || (nm == "<init>" && r.1 == own)) = true := h
    rcases Bool.or_eq_true _ _ |>.mp h with h | h
    · exact Or.inl (by simpa using h)
    · exact Or.inr (by simpa using h)
  · trivial
def mw_ancB (q : mv_K) : Bool := match q with
  | (32, c, _, _, _) => c == 2 || c == 4
  | _ => true
theorem mw_ancP {q : mv_K} (h : mw_ancB q = true) : ∀ (rc : vw_C) {c0 x y : Nat} (z : Int), q = (32, c0, x, y, z) → vwCl[c0]? = some rc → (c0 = 2 ∧ rc.1 = "LandByMap$Drawer") ∨ (c0 = 4 ∧ rc.1 = "LandByMap$Shelf") := by
  intro rc c0 x y z e hr
  subst e
  have h : (c0 == 2 || c0 == 4) = true := h
  rcases Bool.or_eq_true _ _ |>.mp h with h | h
  · have : c0 = 2 := by simpa using h
    subst this
    cases hr
    exact Or.inl ⟨rfl, rfl⟩
  · have : c0 = 4 := by simpa using h
    subst this
    cases hr
    exact Or.inr ⟨rfl, rfl⟩
/-- what is asked of an instruction at its place -/
def mw_okI (ths : List Nat) (ct : Option Nat) (own nm : String) (nL : Nat) (lk : Nat → mv_K) (pc : Nat) (ins : Instr) (len : Nat) : Bool := match ins with
  | .aaload => len == 1
  | .aastore => len == 1
  | .aconst_null => len == 1
  | .arraylength => len == 1
  | .baload => len == 1
  | .bastore => len == 1
  | .dup => len == 1
  | .dup2 => len == 1
  | .i2b => len == 1
  | .i2l => len == 1
  | .i2s => len == 1
  | .iadd => len == 1
  | .iaload => len == 1
  | .iand => len == 1
  | .iastore => len == 1
  | .idiv => len == 1
  | .imul => len == 1
  | .ineg => len == 1
  | .ior => len == 1
  | .irem => len == 1
  | .ishl => len == 1
  | .ishr => len == 1
  | .isub => len == 1
  | .laload => len == 1
  | .lastore => len == 1
  | .lcmp => len == 1
  | .pop => len == 1
  | .areturn => len == 1
  | .ireturn => len == 1
  | .lreturn => len == 1
  | .return_ => len == 1
  | .iconst _ => len == 1
  | .lconst _ => len == 1
  | .bipush n => len == 2 && decide ((Int8.ofInt n).toInt32 = mv_c n)
  | .sipush n => len == 3 && decide ((Int16.ofInt n).toInt32 = mv_c n)
  | .iload_n _ => len == 1
  | .lload_n _ => len == 1
  | .aload_n _ => len == 1
  | .iload _ => len == 2
  | .lload _ => len == 2
  | .aload _ => len == 2
  | .istore_n i => len == 1 && decide (i.val < nL)
  | .astore_n i => len == 1 && decide (i.val < nL)
  | .istore i => len == 2 && decide (i < nL)
  | .astore i => len == 2 && decide (i < nL)
  | .lstore i => len == 2 && decide (i + 1 < nL)
  | .iinc i _ => len == 3 && decide (i < nL)
  | .goto off => len == 3 && decide (0 ≤ (pc : Int) + off)
  | .ifCond _ off => len == 3 && decide (0 ≤ (pc : Int) + off)
  | .if_icmp _ off => len == 3 && decide (0 ≤ (pc : Int) + off)
  | .ifnull off => len == 3 && decide (0 ≤ (pc : Int) + off)
  | .ifnonnull off => len == 3 && decide (0 ≤ (pc : Int) + off)
  | .getfield _ => len == 3
  | .putfield i => len == 3 && mw_finB own nm (lk i)
  | .newarray t => len == 2 && (match t with | .int => true | .boolean => true | .long => true | _ => false)
  | .anewarray i => len == 3 && mw_ancB (lk i)
  | .multianewarray _ z => len == 4 && z == 2
  | .new i => len == 3 && ((lk i).1 == 32 || ths.contains pc)
  | .ldc _ => len == 2
  | .ldc_w _ => len == 3
  | .ldc2_w _ => len == 3
  | .tableswitch df lo hi offs => decide (hi + 1 = lo + offs.size) && (List.range offs.toList.length).all (fun j => decide ((mv_c (lo + (j : Nat))).toInt = lo + (j : Nat))) && decide (0 ≤ (pc : Int) + df) && offs.toList.all (fun o => decide (0 ≤ (pc : Int) + o))
  | .lookupswitch df ps => (ps.toList.zip (ps.toList.drop 1)).all (fun (a, next) => a.1 < next.1) && ps.toList.all (fun q => decide ((mv_c q.1).toInt = q.1)) && decide (0 ≤ (pc : Int) + df) && ps.toList.all (fun q => decide (0 ≤ (pc : Int) + q.2))
  | .invokevirtual i => len == 3 && ((lk i).1 == 1 || (lk i).1 == 10 || (lk i).1 == 11 || (lk i).1 == 12 || (lk i).1 == 40 || ((lk i).1 == 42 && some pc == ct))
  | .invokestatic i => len == 3 && ((lk i).1 == 2 || (lk i).1 == 5 || (lk i).1 == 6 || (lk i).1 == 7 || (lk i).1 == 8 || (lk i).1 == 41)
  | .invokespecial i => len == 3 && ((lk i).1 == 3 || (lk i).1 == 4 || (lk i).1 == 9)
  | _ => false
theorem mw_arrW : Cond.arrayClass (mw_kty 0) ∈ lw_good ∧ Cond.arrayClass (mw_kty 1) ∈ lw_good ∧ Cond.arrayClass (mw_kty 2) ∈ lw_good := ⟨mw_in 218 (by decide +kernel) (by decide +kernel), mw_in 219 (by decide +kernel) (by decide +kernel), mw_in 1582 (by decide +kernel) (by decide +kernel)⟩
section MSTEP
variable {p : Program} {l : Launch} {e : Env} {R : Room} {s : State} {m : MethodId} {args : Array Value} {below : List Frame} {meth : Method} {c : Code} {own : String} {cc : ByteArray} {nL rt : Nat} {D : va_G} {ac sa : Nat → Nat} {b L : Nat} {xs : Nat → Int32} {base n0 s0 : Nat} {Q : State → Prop}
variable {cl : Nat → List mv_V → mv_S → mv_O} {lk : Nat → mv_K} {k : Nat → mv_L → List mv_V → mv_S → mv_O} {pc len : Nat} {lv : mv_L} {st : List mv_V} {σ σF : mv_S} {r0 : Option mv_V} {d : Nat} {ths : List Nat} {ct : Option Nat}
theorem mw_b1 {a b : Bool} (h : (a && b) = true) : a = true ∧ b = true := by simpa using h
theorem mw_n1 {a b : Nat} (h : (a == b) = true) : a = b := by simpa using h
theorem ms_step (X : mw_X p l R s m args meth c own cc nL rt D ac sa b L xs base) (hC : mw_CC l D ac sa b L xs base d cl) (hRd : d + 9 ≤ R.frames ∧ 64 * d + 564 ≤ R.locals) (hB : σF.1.length ≤ R.cells + n0 ∧ mw_sz σF.1 ≤ R.slots + s0) (hLK : ∀ i, mw_okL own i (lk i) ∧ mw_okX own i (lk i))
    (hRt : mw_Ret p l e R s m args below meth c cc nL rt D ac (mw_ad b sa base) base L xs n0 s0 Q r0 σF) (hT : mw_Thr p l e R s m args below meth c cc nL D ac (mw_ad b sa base) base L xs n0 s0 Q lk r0 σF ths) (hCat : mw_Cat p l e R s m args below meth c cc nL (mw_ad b sa base) Q lk ct) {nm : String} (hnm : meth.name = nm)
    {ins : Instr} (hd : decode cc pc = .ok (ins, len)) (hok : mw_okI ths ct own nm nL lk pc ins len = true) (hst : mv_step cl lk rt k ins pc lv st σ = some (r0, σF)) (hk : ∀ pc' lv' st' σ', k pc' lv' st' σ' = some (r0, σF) → σ'.1 <+: σF.1 ∧ mw_G p l e R s m args below meth c nL D ac (mw_ad b sa base) base L xs n0 s0 Q pc' lv' st' σ') : σ.1 <+: σF.1 ∧ mw_G p l e R s m args below meth c nL D ac (mw_ad b sa base) base L xs n0 s0 Q pc lv st σ := by
  cases ins with
  | aaload =>
    obtain rfl : len = 1 := mw_n1 hok
    exact ms_aaload X hd hst hk
  | aastore =>
    obtain rfl : len = 1 := mw_n1 hok
    exact ms_aastore X hd hst hk
  | aconst_null =>
    obtain rfl : len = 1 := mw_n1 hok
    exact ms_aconst_null X hd hst hk
  | arraylength =>
    obtain rfl : len = 1 := mw_n1 hok
    exact ms_arraylength X hd hst hk
  | baload =>
    obtain rfl : len = 1 := mw_n1 hok
    exact ms_baload X hd hst hk
  | bastore =>
    obtain rfl : len = 1 := mw_n1 hok
    exact ms_bastore X hd hst hk
  | dup =>
    obtain rfl : len = 1 := mw_n1 hok
    exact ms_dup X hd hst hk
  | dup2 =>
    obtain rfl : len = 1 := mw_n1 hok
    exact ms_dup2 X hd hst hk
  | i2b =>
    obtain rfl : len = 1 := mw_n1 hok
    exact ms_i2b X hd hst hk
  | i2l =>
    obtain rfl : len = 1 := mw_n1 hok
    exact ms_i2l X hd hst hk
  | i2s =>
    obtain rfl : len = 1 := mw_n1 hok
    exact ms_i2s X hd hst hk
  | iadd =>
    obtain rfl : len = 1 := mw_n1 hok
    exact ms_iadd X hd hst hk
  | iaload =>
    obtain rfl : len = 1 := mw_n1 hok
    exact ms_iaload X hd hst hk
  | iand =>
    obtain rfl : len = 1 := mw_n1 hok
    exact ms_iand X hd hst hk
  | iastore =>
    obtain rfl : len = 1 := mw_n1 hok
    exact ms_iastore X hd hst hk
  | idiv =>
    obtain rfl : len = 1 := mw_n1 hok
    exact ms_idiv X hd hst hk
  | imul =>
    obtain rfl : len = 1 := mw_n1 hok
    exact ms_imul X hd hst hk
  | ineg =>
    obtain rfl : len = 1 := mw_n1 hok
    exact ms_ineg X hd hst hk
  | ior =>
    obtain rfl : len = 1 := mw_n1 hok
    exact ms_ior X hd hst hk
  | irem =>
    obtain rfl : len = 1 := mw_n1 hok
    exact ms_irem X hd hst hk
  | ishl =>
    obtain rfl : len = 1 := mw_n1 hok
    exact ms_ishl X hd hst hk
  | ishr =>
    obtain rfl : len = 1 := mw_n1 hok
    exact ms_ishr X hd hst hk
  | isub =>
    obtain rfl : len = 1 := mw_n1 hok
    exact ms_isub X hd hst hk
  | laload =>
    obtain rfl : len = 1 := mw_n1 hok
    exact ms_laload X hd hst hk
  | lastore =>
    obtain rfl : len = 1 := mw_n1 hok
    exact ms_lastore X hd hst hk
  | lcmp =>
    obtain rfl : len = 1 := mw_n1 hok
    exact ms_lcmp X hd hst hk
  | pop =>
    obtain rfl : len = 1 := mw_n1 hok
    exact ms_pop X hd hst hk
  | areturn =>
    obtain rfl : len = 1 := mw_n1 hok
    exact ms_areturn hd hRt hst
  | ireturn =>
    obtain rfl : len = 1 := mw_n1 hok
    exact ms_ireturn hd hRt hst
  | lreturn =>
    obtain rfl : len = 1 := mw_n1 hok
    exact ms_lreturn hd hRt hst
  | return_ =>
    obtain rfl : len = 1 := mw_n1 hok
    exact ms_return hd hRt hst
  | iconst n =>
    obtain rfl : len = 1 := mw_n1 hok
    exact ms_iconst X hd hst hk
  | lconst n =>
    obtain rfl : len = 1 := mw_n1 hok
    exact ms_lconst X hd hst hk
  | bipush n =>
    obtain ⟨h1, h2⟩ := mw_b1 hok
    obtain rfl : len = 2 := mw_n1 h1
    exact ms_bipush X hd (by simpa using h2) hst hk
  | sipush n =>
    obtain ⟨h1, h2⟩ := mw_b1 hok
    obtain rfl : len = 3 := mw_n1 h1
    exact ms_sipush X hd (by simpa using h2) hst hk
  | iload_n i =>
    obtain rfl : len = 1 := mw_n1 hok
    exact ms_iload_n X hd hst hk
  | lload_n i =>
    obtain rfl : len = 1 := mw_n1 hok
    exact ms_lload_n X hd hst hk
  | aload_n i =>
    obtain rfl : len = 1 := mw_n1 hok
    exact ms_aload_n X hd hst hk
  | iload i =>
    obtain rfl : len = 2 := mw_n1 hok
    exact ms_iload X hd hst hk
  | lload i =>
    obtain rfl : len = 2 := mw_n1 hok
    exact ms_lload X hd hst hk
  | aload i =>
    obtain rfl : len = 2 := mw_n1 hok
    exact ms_aload X hd hst hk
  | istore_n i =>
    obtain ⟨h1, h2⟩ := mw_b1 hok
    obtain rfl : len = 1 := mw_n1 h1
    exact ms_istore_n X hd (by simpa using h2) hst hk
  | astore_n i =>
    obtain ⟨h1, h2⟩ := mw_b1 hok
    obtain rfl : len = 1 := mw_n1 h1
    exact ms_astore_n X hd (by simpa using h2) hst hk
  | istore i =>
    obtain ⟨h1, h2⟩ := mw_b1 hok
    obtain rfl : len = 2 := mw_n1 h1
    exact ms_istore X hd (by simpa using h2) hst hk
  | astore i =>
    obtain ⟨h1, h2⟩ := mw_b1 hok
    obtain rfl : len = 2 := mw_n1 h1
    exact ms_astore X hd (by simpa using h2) hst hk
  | lstore i =>
    obtain ⟨h1, h2⟩ := mw_b1 hok
    obtain rfl : len = 2 := mw_n1 h1
    exact ms_lstore X hd (by simpa using h2) hst hk
  | iinc i n =>
    obtain ⟨h1, h2⟩ := mw_b1 hok
    obtain rfl : len = 3 := mw_n1 h1
    exact ms_iinc X hd (by simpa using h2) hst hk
  | goto off =>
    obtain ⟨h1, h2⟩ := mw_b1 hok
    obtain rfl : len = 3 := mw_n1 h1
    exact ms_goto X hd (of_decide_eq_true h2) hst hk
  | ifCond q off =>
    obtain ⟨h1, h2⟩ := mw_b1 hok
    obtain rfl : len = 3 := mw_n1 h1
    have h3 := of_decide_eq_true h2
    cases q with
    | eq => exact ms_if_eq X hd h3 hst hk
    | ne => exact ms_if_ne X hd h3 hst hk
    | lt => exact ms_if_lt X hd h3 hst hk
    | ge => exact ms_if_ge X hd h3 hst hk
    | gt => exact ms_if_gt X hd h3 hst hk
    | le => exact ms_if_le X hd h3 hst hk
  | if_icmp q off =>
    obtain ⟨h1, h2⟩ := mw_b1 hok
    obtain rfl : len = 3 := mw_n1 h1
    have h3 := of_decide_eq_true h2
    cases q with
    | eq => exact ms_icmp_eq X hd h3 hst hk
    | ne => exact ms_icmp_ne X hd h3 hst hk
    | lt => exact ms_icmp_lt X hd h3 hst hk
    | ge => exact ms_icmp_ge X hd h3 hst hk
    | gt => exact ms_icmp_gt X hd h3 hst hk
    | le => exact ms_icmp_le X hd h3 hst hk
  | ifnull off =>
    obtain ⟨h1, h2⟩ := mw_b1 hok
    obtain rfl : len = 3 := mw_n1 h1
    exact ms_ifnull X hd (of_decide_eq_true h2) hst hk
  | ifnonnull off =>
    obtain ⟨h1, h2⟩ := mw_b1 hok
    obtain rfl : len = 3 := mw_n1 h1
    exact ms_ifnonnull X hd (of_decide_eq_true h2) hst hk
  | getfield i =>
    obtain rfl : len = 3 := mw_n1 hok
    exact ms_getfield X hd (hLK i).1 hst hk
  | putfield i =>
    obtain ⟨h1, h2⟩ := mw_b1 hok
    obtain rfl : len = 3 := mw_n1 h1
    exact ms_putfield X hd (hLK i).1 (by rw [hnm]; exact mw_finP h2) hst hk
  | newarray t =>
    obtain ⟨h1, h2⟩ := mw_b1 hok
    obtain rfl : len = 2 := mw_n1 h1
    cases t with
    | int => exact ms_newI X hd hB mw_arrW.1 hst hk
    | boolean => exact ms_newZ X hd hB mw_arrW.2.1 hst hk
    | long => exact ms_newL X hd hB mw_arrW.2.2 hst hk
    | _ => cases h2
  | anewarray i =>
    obtain ⟨h1, h2⟩ := mw_b1 hok
    obtain rfl : len = 3 := mw_n1 h1
    exact ms_anewarray X hd hB (hLK i).1 (mw_ancP h2) hst hk
  | multianewarray i z =>
    obtain ⟨h1, h2⟩ := mw_b1 hok
    obtain rfl : len = 4 := mw_n1 h1
    exact ms_multianewarray X hd (mw_n1 h2) hB (hLK i).1 mw_arrW.1 hst hk
  | new i =>
    obtain ⟨h1, h2⟩ := mw_b1 hok
    obtain rfl : len = 3 := mw_n1 h1
    exact ms_new X hB hd (hLK i).1 (fun h3 => by rw [h3] at h2; simpa using h2) hT hst hk
  | ldc i =>
    obtain rfl : len = 2 := mw_n1 hok
    exact ms_ldc X hd (hLK i).1 hst hk
  | ldc_w i =>
    obtain rfl : len = 3 := mw_n1 hok
    exact ms_ldc_w X hd (hLK i).1 hst hk
  | ldc2_w i =>
    obtain rfl : len = 3 := mw_n1 hok
    exact ms_ldc2_w X hd (hLK i).1 hst hk
  | tableswitch df lo hi offs =>
    obtain ⟨h1, h4⟩ := mw_b1 hok
    obtain ⟨h1, h3⟩ := mw_b1 h1
    obtain ⟨h1, h2⟩ := mw_b1 h1
    exact ms_tableswitch X hd (of_decide_eq_true h1) (fun j hj => of_decide_eq_true (List.all_eq_true.mp h2 j (List.mem_range.mpr hj))) (of_decide_eq_true h3) (fun o ho => of_decide_eq_true (List.all_eq_true.mp h4 o ho)) hst hk
  | lookupswitch df ps =>
    obtain ⟨h1, h4⟩ := mw_b1 hok
    obtain ⟨h1, h3⟩ := mw_b1 h1
    obtain ⟨h1, h2⟩ := mw_b1 h1
    exact ms_lookupswitch X hd h1 (fun q hq => of_decide_eq_true (List.all_eq_true.mp h2 q hq)) (of_decide_eq_true h3) (fun q hq => of_decide_eq_true (List.all_eq_true.mp h4 q hq)) hst hk
  | invokevirtual i =>
    obtain ⟨h1, h2⟩ := mw_b1 hok
    obtain rfl : len = 3 := mw_n1 h1
    have hl := hLK i
    have hst : (match (generalizing := false) lk i with
      | (42, m, n, c, z) => mv_try cl m n c z st σ (fun st' σ' => k (pc + 3) lv st' σ') (fun h σ' => k h (mv_drop4 lv) [] σ')
      | q => mv_call cl q st σ fun st' σ' => k (pc + 3) lv st' σ') = some (r0, σF) := hst
    obtain ⟨⟨kd, M, n, c0, z⟩, hq⟩ : ∃ q, q = lk i := ⟨_, rfl⟩
    rw [← hq] at hst hl h2
    have h2 : (kd == 1 || kd == 10 || kd == 11 || kd == 12 || kd == 40 || (kd == 42 && some pc == ct)) = true := h2
    simp only [Bool.or_eq_true, Bool.and_eq_true, beq_iff_eq] at h2
    rcases h2 with ((((rfl | rfl) | rfl) | rfl) | rfl) | ⟨rfl, hct⟩
    · exact mq_c1 X hC hRd hB hd hl.1 hst hk
    · exact mq_c10 X hB hd hl.1 hst hk
    · exact mq_c11 X hB hd hl.1 hst hk
    · exact mq_c12 X hB hd hl.1 hst hk
    · exact mq_c40 X hC hRd hB hd hl.2 hst hk
    · exact ms_try X hC hRd hB hd hq.symm hl.2 hct hCat hst hk
  | invokestatic i =>
    obtain ⟨h1, h2⟩ := mw_b1 hok
    obtain rfl : len = 3 := mw_n1 h1
    have hl := hLK i
    have hst : mv_call cl (lk i) st σ (fun st' σ' => k (pc + 3) lv st' σ') = some (r0, σF) := hst
    obtain ⟨⟨kd, M, n, c0, z⟩, hq⟩ : ∃ q, q = lk i := ⟨_, rfl⟩
    rw [← hq] at hst hl h2
    have h2 : (kd == 2 || kd == 5 || kd == 6 || kd == 7 || kd == 8 || kd == 41) = true := h2
    simp only [Bool.or_eq_true, Bool.and_eq_true, beq_iff_eq] at h2
    rcases h2 with ((((rfl | rfl) | rfl) | rfl) | rfl) | rfl
    · exact mq_c2 X hC hRd hB hd hl.1 hst hk
    · exact mq_c5 X hC hRd hB hd hl.1 hst hk
    · exact mq_c6 X hC hRd hB hd hl.1 hst hk
    · exact mq_c7 X hC hRd hB hd hl.1 hst hk
    · exact mq_c8 X hC hRd hB hd hl.1 hst hk
    · exact mq_c41 X hC hRd hB hd hl.2 hst hk
  | invokespecial i =>
    obtain ⟨h1, h2⟩ := mw_b1 hok
    obtain rfl : len = 3 := mw_n1 h1
    have hl := hLK i
    have hst : mv_call cl (lk i) st σ (fun st' σ' => k (pc + 3) lv st' σ') = some (r0, σF) := hst
    obtain ⟨⟨kd, M, n, c0, z⟩, hq⟩ : ∃ q, q = lk i := ⟨_, rfl⟩
    rw [← hq] at hst hl h2
    have h2 : (kd == 3 || kd == 4 || kd == 9) = true := h2
    simp only [Bool.or_eq_true, Bool.and_eq_true, beq_iff_eq] at h2
    rcases h2 with (rfl | rfl) | rfl
    · exact mq_c3 X hC hRd hB hd hl.1 hst hk
    · exact mq_c4 X hC hRd hB hd hl.1 hst hk
    · exact mq_c9 X hC hRd hB hd hl.1 hst hk
  | _ => exact absurd (show false = true from hok) Bool.false_ne_true
end MSTEP
end
section
/-! SOUNDNESS of the small machine, 14: walks, methods -/
theorem mw_lookup {α : Type} : ∀ {l : List (Nat × α)} {i : Nat} {v : α}, l.lookup i = some v → (i, v) ∈ l
  | [], _, _, h => by cases h
  | (j, w) :: r, i, v, h => by
    rw [List.lookup_cons] at h
    by_cases e : i = j
    · subst e
      simp at h
      subst h
      exact List.mem_cons_self
    · have e2 : (i == j) = false := by simpa using e
      rw [e2] at h
      exact List.mem_cons_of_mem _ (mw_lookup h)
theorem mw_lkok {own : String} {l : List (Nat × mv_K)} (h : ∀ q ∈ l, mw_okL own q.1 q.2 ∧ mw_okX own q.1 q.2) (i : Nat) : mw_okL own i (mv_lk l i) ∧ mw_okX own i (mv_lk l i) := by
  unfold mv_lk
  cases e : l.lookup i with
  | none => exact ⟨trivial, trivial⟩
  | some q => exact h (i, q) (mw_lookup e)
/-- a method's code stands in its bytes, each instruction as asked -/
def mw_okC (ths : List Nat) (ct : Option Nat) (own nm : String) (cc : ByteArray) (M : mv_M) : Prop := ∀ q ∈ M.2.2.1, decode cc q.1 = .ok (q.2.1, q.2.2) ∧ mw_okI ths ct own nm M.1 (mv_lk M.2.2.2.1) q.1 q.2.1 q.2.2 = true
section MRUN
variable {p : Program} {l : Launch} {e : Env} {R : Room} {s : State} {m : MethodId} {args : Array Value} {below : List Frame} {meth : Method} {c : Code} {own : String} {cc : ByteArray} {M : mv_M} {rt : Nat} {D : va_G} {ac sa : Nat → Nat} {b L : Nat} {xs : Nat → Int32} {base n0 s0 : Nat} {Q : State → Prop}
variable {cl : Nat → List mv_V → mv_S → mv_O} {K : Nat → mv_L → List mv_V → mv_S → mv_O} {σF : mv_S} {r0 : Option mv_V} {d : Nat} {ths : List Nat} {ct : Option Nat} {nm : String}
theorem mw_ev (X : mw_X p l R s m args meth c own cc M.1 M.2.1 D ac sa b L xs base) (hC : mw_CC l D ac sa b L xs base d cl) (hRd : d + 9 ≤ R.frames ∧ 64 * d + 564 ≤ R.locals) (hB : σF.1.length ≤ R.cells + n0 ∧ mw_sz σF.1 ≤ R.slots + s0) (hLK : ∀ i, mw_okL own i (mv_lk M.2.2.2.1 i) ∧ mw_okX own i (mv_lk M.2.2.2.1 i))
    (hRt : mw_Ret p l e R s m args below meth c cc M.1 M.2.1 D ac (mw_ad b sa base) base L xs n0 s0 Q r0 σF) (hT : mw_Thr p l e R s m args below meth c cc M.1 D ac (mw_ad b sa base) base L xs n0 s0 Q (mv_lk M.2.2.2.1) r0 σF ths) (hCat : mw_Cat p l e R s m args below meth c cc M.1 (mw_ad b sa base) Q (mv_lk M.2.2.2.1) ct) (hnm : meth.name = nm) (hM : mw_okC ths ct own nm cc M)
    (hK : ∀ pc lv st σ, K pc lv st σ = some (r0, σF) → σ.1 <+: σF.1 ∧ mw_G p l e R s m args below meth c M.1 D ac (mw_ad b sa base) base L xs n0 s0 Q pc lv st σ) :
    ∀ (n pc : Nat) (lv : mv_L) (st : List mv_V) (σ : mv_S), mv_ev cl M K n pc lv st σ = some (r0, σF) → σ.1 <+: σF.1 ∧ mw_G p l e R s m args below meth c M.1 D ac (mw_ad b sa base) base L xs n0 s0 Q pc lv st σ
  | 0, _, _, _, _, h => by cases h
  | n + 1, pc, lv, st, σ, h => by
    unfold mv_ev at h
    cases hl : M.2.2.1.lookup pc with
    | none => rw [hl] at h; cases h
    | some q =>
      obtain ⟨ins, len⟩ := q
      rw [hl] at h
      obtain ⟨h1, h2⟩ := hM _ (mw_lookup hl)
      refine ms_step X hC hRd hB hLK hRt hT hCat hnm h1 h2 h (fun pc' lv' st' σ' h' => ?_)
      split at h'
      · obtain ⟨g1, g2⟩ := hK _ _ _ _ h'
        exact ⟨g1, fun H locs ls cells slots hls => g2 H locs ls cells slots (mw_pick hls)⟩
      · exact mw_ev X hC hRd hB hLK hRt hT hCat hnm hM hK n _ _ _ _ h'
theorem mw_run (X : mw_X p l R s m args meth c own cc M.1 M.2.1 D ac sa b L xs base) (hC : mw_CC l D ac sa b L xs base d cl) (hRd : d + 9 ≤ R.frames ∧ 64 * d + 564 ≤ R.locals) (hB : σF.1.length ≤ R.cells + n0 ∧ mw_sz σF.1 ≤ R.slots + s0) (hLK : ∀ i, mw_okL own i (mv_lk M.2.2.2.1 i) ∧ mw_okX own i (mv_lk M.2.2.2.1 i))
    (hRt : mw_Ret p l e R s m args below meth c cc M.1 M.2.1 D ac (mw_ad b sa base) base L xs n0 s0 Q r0 σF) (hT : mw_Thr p l e R s m args below meth c cc M.1 D ac (mw_ad b sa base) base L xs n0 s0 Q (mv_lk M.2.2.2.1) r0 σF ths) (hCat : mw_Cat p l e R s m args below meth c cc M.1 (mw_ad b sa base) Q (mv_lk M.2.2.2.1) ct) (hnm : meth.name = nm) (hM : mw_okC ths ct own nm cc M) :
    ∀ (n pc : Nat) (lv : mv_L) (st : List mv_V) (σ : mv_S), mv_run cl M n pc lv st σ = some (r0, σF) → σ.1 <+: σF.1 ∧ mw_G p l e R s m args below meth c M.1 D ac (mw_ad b sa base) base L xs n0 s0 Q pc lv st σ
  | 0, _, _, _, _, h => by cases h
  | n + 1, pc, lv, st, σ, h => mw_ev X hC hRd hB hLK hRt hT hCat hnm hM (mw_run X hC hRd hB hLK hRt hT hCat hnm hM n) _ _ _ _ _ h
end MRUN
theorem mw_args (ad : Nat → Nat) : ∀ (as : List mv_V) (i : Nat), lv_args i (as.map (mw_v ad)) = (mv_args i as).map fun q => (q.1, mw_v ad q.2)
  | [], _ => rfl
  | v :: r, i => by
    show (i, mw_v ad v) :: lv_args (if (mw_v ad v).category = 2 then i + 2 else i + 1) (r.map (mw_v ad)) = (i, mw_v ad v) :: (mv_args (if mv_lg v then i + 2 else i + 1) r).map fun q => (q.1, mw_v ad q.2)
    have h := mw_cat ad v
    cases hg : mv_lg v with
    | true =>
      rw [hg] at h
      rw [if_pos (by simpa using h)]
      exact congrArg _ (mw_args ad r (i + 2))
    | false =>
      rw [hg] at h
      rw [if_neg (by simpa using h)]
      exact congrArg _ (mw_args ad r (i + 1))
def mw_lgs (as : List mv_V) : Nat := (as.map fun v => if mv_lg v then 2 else 1).sum
theorem mw_sl (ad : Nat → Nat) : ∀ as : List mv_V, (lg_sl (as.map (mw_v ad))).length = mw_lgs as
  | [] => rfl
  | v :: r => by
    have h := mw_cat ad v
    have ih := mw_sl ad r
    unfold lg_sl at ih ⊢
    unfold mw_lgs at ih ⊢
    rw [List.map_cons, List.flatMap_cons, List.length_append, ih, List.map_cons, List.sum_cons]
    congr 1
    cases hg : mv_lg v with
    | true =>
      rw [hg] at h
      rw [if_pos (by simpa using h)]
      rfl
    | false =>
      rw [hg] at h
      rw [if_neg (by simpa using h)]
      rfl
/-- the kind of a method's answer -/
def mw_rtok (rt : Nat) (ret : Option FieldType) : Prop := (rt = 0 ∧ ret = some .int) ∨ (rt = 1 ∧ ret = some .boolean) ∨ (rt = 2 ∧ ∃ n, ret = some (.object n)) ∨ (rt = 3 ∧ ret = some .long) ∨ (rt = 4 ∧ ret = none)
section MMETH
variable {p : Program} {l : Launch} {e : Env} {R : Room} {s : State} {m : MethodId} {args : Array Value} {below : List Frame} {meth : Method} {c : Code} {cc : ByteArray} {nL rt : Nat} {D : va_G} {ac sa : Nat → Nat} {b L : Nat} {xs : Nat → Int32} {base : Nat}
variable {cl : Nat → List mv_V → mv_S → mv_O} {σ σF : mv_S} {r0 : Option mv_V} {d : Nat} {I : mw_I} {as : List mv_V} {M : mv_M}
theorem mw_retOf {n0 s0 : Nat} (hx : p.tables.exec = Jvm.exec) (hb : c.code = cc) (hr : mw_rtok rt meth.sig.returnType) (hlk : meth.locks = false) (h0 : n0 ≤ σF.1.length) (h1 : s0 ≤ mw_sz σF.1) :
    mw_Ret p l e R s m args below meth c cc nL rt D ac (mw_ad b sa base) base L xs n0 s0 (MQ below (mw_Qc D ac sa b L xs base r0 σF) args s (σF.1.length - n0) (mw_sz σF.1 - s0) (fun q => base ≤ q)) r0 σF := by
  intro H locs ls cells slots pc st hsz hR hS hc hs hret
  have ec : cells = σF.1.length - n0 := by omega
  have es : slots = mw_sz σF.1 - s0 := by omega
  subst ec es
  have hf : ∀ q ∈ locs, base ≤ q.base := hS.2.2
  rcases hret with ⟨hd, x, rfl, hr0, hrt⟩ | ⟨hd, x, rfl, hr0, hrt⟩ | ⟨hd, x, rfl, hr0, hrt⟩ | ⟨hd, rfl, hr0, hrt⟩
  · rcases hr with ⟨e1, e2⟩ | ⟨e1, e2⟩ | ⟨e1, -⟩ | ⟨e1, -⟩ | ⟨e1, -⟩
    · exact W.iret hx hb e2 (fun t ht _ => ⟨by rw [hr0]; rfl, by rw [ht]; exact hR, hS.F ht⟩) hf hd hlk
    · rcases hrt with h | ⟨-, h | h⟩
      · omega
      · exact W.zret hx hb e2 (by rw [h]; rfl) (fun t ht _ => ⟨by rw [hr0]; rfl, by rw [ht]; exact hR, hS.F ht⟩) hf hd hlk
      · exact W.zret hx hb e2 (by rw [h]; rfl) (fun t ht _ => ⟨by rw [hr0]; rfl, by rw [ht]; exact hR, hS.F ht⟩) hf hd hlk
    · omega
    · omega
    · omega
  · rcases hr with ⟨e1, -⟩ | ⟨e1, -⟩ | ⟨e1, n, e2⟩ | ⟨e1, -⟩ | ⟨e1, -⟩
    · omega
    · omega
    · refine W.aret (v := mw_v (mw_ad b sa base) (.inr (.inr x))) hx hb e2 (Or.inl ⟨n, rfl⟩) ?_ (fun t ht _ => ⟨by rw [hr0]; rfl, by rw [ht]; exact hR, hS.F ht⟩) hf hd hlk
      cases x with
      | none => exact Or.inl rfl
      | some a => exact Or.inr ⟨_, rfl⟩
    · omega
    · omega
  · rcases hr with ⟨e1, -⟩ | ⟨e1, -⟩ | ⟨e1, -⟩ | ⟨e1, e2⟩ | ⟨e1, -⟩
    · omega
    · omega
    · omega
    · exact W.lret hx hb e2 (fun t ht _ => ⟨by rw [hr0]; rfl, by rw [ht]; exact hR, hS.F ht⟩) hf hd hlk
    · omega
  · rcases hr with ⟨e1, -⟩ | ⟨e1, -⟩ | ⟨e1, -⟩ | ⟨e1, -⟩ | ⟨e1, e2⟩
    · omega
    · omega
    · omega
    · omega
    · exact W.vret hx hb e2 (fun t ht _ => ⟨by rw [hr0]; rfl, by rw [ht]; exact hR, hS.F ht⟩) hf hd hlk
/-- what a method's numbers say: where it may throw, where it catches -/
def mw_okF (I : mw_I) (M : mv_M) (ths : List Nat) (ct : Option Nat) : Prop := M.1 = I.2.2.1 ∧ mw_rtok M.2.1 I.2.2.2.1 ∧ mw_okC ths ct I.1.cls I.1.name I.2.1 M ∧ ∀ q ∈ M.2.2.2.1, mw_okL I.1.cls q.1 q.2 ∧ mw_okX I.1.cls q.1 q.2
theorem mw_xOf {y : MethodName} {bytes : ByteArray} {maxL : Nat} {ret : Option FieldType} {w0 : Cond} {s₁ : State} {as : List mv_V} (B : BodyLoose p l y (headSpec (w0 :: lw_good) (mw_rm (d + 1) σ σF)) bytes maxL ret e s m args below meth c s₁) (hml : c.maxLocals = maxL) (hP : mw_Pc D ac sa b L xs base as σ args s) :
    mw_X p l (mw_rm (d + 1) σ σF) s m args meth c y.cls bytes maxL rt D ac sa b L xs base := by
  obtain ⟨-, -, h1, h2, h3, h4, h5⟩ := hP
  have hts0 : ∀ w ∈ (w0 :: lw_good), w.before args s = true := atoms_spec (ws := w0 :: lw_good) B.pre
  exact ⟨B.exec, B.bytes, hml, findClass_of_methodNamed B.named, fun w hw => hts0 w (List.mem_cons_of_mem _ hw), h1, h2, h3, h4, ⟨by show 8 ≤ d + 1 + 8; omega, by show 500 ≤ 64 * (d + 1) + 500; omega⟩, h5⟩
theorem mw_room9 : d + 9 ≤ (mw_rm (d + 1) σ σF).frames ∧ 64 * d + 564 ≤ (mw_rm (d + 1) σ σF).locals := by
  constructor
  · show d + 9 ≤ d + 1 + 8
    omega
  · show 64 * d + 564 ≤ 64 * (d + 1) + 500
    omega
theorem mw_roomB : σF.1.length ≤ (mw_rm (d + 1) σ σF).cells + σ.1.length ∧ mw_sz σF.1 ≤ (mw_rm (d + 1) σ σF).slots + mw_sz σ.1 := by
  constructor
  · show σF.1.length ≤ (σF.1.length - σ.1.length) + σ.1.length
    omega
  · show mw_sz σF.1 ≤ (mw_sz σF.1 - mw_sz σ.1) + mw_sz σ.1
    omega
/-- the body of any method, where it neither throws nor catches -/
theorem mw_body {w0 : Cond} {s₁ : State} (hF : mw_okF I M [] none) (hrun : mv_run cl M 4000 0 (mv_args 0 as) [] σ = some (r0, σF)) (hC : mw_CC l D ac sa b L xs base d cl) (hn : mw_lgs as ≤ I.2.2.1)
    (B : BodyLoose p l I.1 (headSpec (w0 :: lw_good) (mw_rm (d + 1) σ σF)) I.2.1 I.2.2.1 I.2.2.2.1 e s m args below meth c s₁) (hml : c.maxLocals = I.2.2.1) (hP : mw_Pc D ac sa b L xs base as σ args s) (hpre : σ.1 <+: σF.1) :
    W p l e (mw_rm (d + 1) σ σF) s m args below meth c s.heap [] 0 0 (MQ below (mw_Qc D ac sa b L xs base r0 σF) args s (σF.1.length - σ.1.length) (mw_sz σF.1 - mw_sz σ.1) (fun q => base ≤ q)) (entryFrame m args I.2.2.1) := by
  obtain ⟨hM1, hM2, hM3, hM4⟩ := hF
  have X := mw_xOf (rt := M.2.1) B hml hP
  have h4 := mw_sz_le hpre
  obtain ⟨rfl, hR, -⟩ := hP
  rw [← hM1] at X
  have key := mw_run (M := M) (e := e) (below := below) (n0 := σ.1.length) (s0 := mw_sz σ.1) (ths := []) (ct := none) (nm := I.1.name) X hC mw_room9 mw_roomB (mw_lkok hM4) (mw_retOf (r0 := r0) (σF := σF) B.exec B.bytes (by rw [B.returns]; exact hM2) B.notSynchronized h4.2 h4.1) (fun H locs ls cells slots pc i x n y z st σ' _ h => nomatch h) (fun H locs ls cells slots pc i M n y x h z lv rest q ce _ h9 => nomatch h9) (name_of_methodNamed B.named B.method).1 hM3 4000 0 _ _ _ hrun
  rw [lg_entry_eq]
  refine key.2 s.heap [] _ 0 0 ?_ hR mw_S0 (Nat.zero_add _) (Nat.zero_add _)
  rw [← mw_args, hM1]
  exact lv_entry _ (by rw [mw_sl]; exact hn)
/-- the prefix: what a walk makes stands behind what was there -/
theorem mw_okOf (hF : mw_okF I M [] none) (hy : plainFor I.1 = true) (hrun : mv_run cl M 4000 0 (mv_args 0 as) [] σ = some (r0, σF)) (hC : mw_CC l D ac sa b L xs base d cl) (hn : mw_lgs as ≤ I.2.2.1) (hpre : σ.1 <+: σF.1) : mw_Ok l D ac sa b L xs base I (d + 1) as σ r0 σF :=
  va_MetF (cc := I.2.1) (maxL := I.2.2.1) (ret := I.2.2.2.1) hy rfl (fun p e s m args below meth c s₁ B hml hP => mw_body hF hrun hC hn B hml hP hpre)
end MMETH
end
