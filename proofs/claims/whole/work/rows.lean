section
-- ===== PART A: goes FIRST, ahead of the names: the tables' words, and 'selects' of the private methods out of them =====
/-- a private method of a class that the tables say can be made, by its rows of tables_1 -/
def lw_okq (q : MethodName × Nat) : Prop := (q.1.cls ≠ "java/lang/invoke/MethodHandle" ∧ q.1.cls ≠ "java/lang/invoke/VarHandle") ∧ Cond.instantiable q.1.cls q.2 ∈ tables_1 ∧ Cond.privateMethod q.1 ∈ tables_1 ∧ Cond.instanceMethod q.1 ∈ tables_1
theorem lw_p0 : lw_okq (⟨"java/lang/Throwable", "fillInStackTrace", "(I)Ljava/lang/Throwable;"⟩, 6) := ⟨⟨by decide +kernel, by decide +kernel⟩, List.mem_of_getElem? (i := 428) (by decide +kernel), List.mem_of_getElem? (i := 426) (by decide +kernel), List.mem_of_getElem? (i := 427) (by decide +kernel)⟩
theorem lw_p1 : lw_okq (⟨"PetitionBoard", "placeStone", "(II)I"⟩, 15) := ⟨⟨by decide +kernel, by decide +kernel⟩, List.mem_of_getElem? (i := 28) (by decide +kernel), List.mem_of_getElem? (i := 485) (by decide +kernel), List.mem_of_getElem? (i := 486) (by decide +kernel)⟩
theorem lw_p2 : lw_okq (⟨"PetitionBoard", "deny", "(II)I"⟩, 15) := ⟨⟨by decide +kernel, by decide +kernel⟩, List.mem_of_getElem? (i := 28) (by decide +kernel), List.mem_of_getElem? (i := 496) (by decide +kernel), List.mem_of_getElem? (i := 497) (by decide +kernel)⟩
theorem lw_p3 : lw_okq (⟨"PetitionBoard", "conclude", "(I)I"⟩, 15) := ⟨⟨by decide +kernel, by decide +kernel⟩, List.mem_of_getElem? (i := 28) (by decide +kernel), List.mem_of_getElem? (i := 504) (by decide +kernel), List.mem_of_getElem? (i := 505) (by decide +kernel)⟩
theorem lw_p4 : lw_okq (⟨"PetitionBoard", "keepDenial", "(IIII)V"⟩, 15) := ⟨⟨by decide +kernel, by decide +kernel⟩, List.mem_of_getElem? (i := 28) (by decide +kernel), List.mem_of_getElem? (i := 553) (by decide +kernel), List.mem_of_getElem? (i := 554) (by decide +kernel)⟩
theorem lw_p5 : lw_okq (⟨"PetitionBoard", "enlistOfficer", "(I)I"⟩, 15) := ⟨⟨by decide +kernel, by decide +kernel⟩, List.mem_of_getElem? (i := 28) (by decide +kernel), List.mem_of_getElem? (i := 584) (by decide +kernel), List.mem_of_getElem? (i := 585) (by decide +kernel)⟩
theorem lw_p6 : lw_okq (⟨"PetitionBoard", "lodgePetition", "(IIII)I"⟩, 15) := ⟨⟨by decide +kernel, by decide +kernel⟩, List.mem_of_getElem? (i := 28) (by decide +kernel), List.mem_of_getElem? (i := 647) (by decide +kernel), List.mem_of_getElem? (i := 648) (by decide +kernel)⟩
theorem lw_p7 : lw_okq (⟨"PetitionBoard$State", "moveToItsPosition", "(LPetitionBoard$Petition;)V"⟩, 14) := ⟨⟨by decide +kernel, by decide +kernel⟩, List.mem_of_getElem? (i := 36) (by decide +kernel), List.mem_of_getElem? (i := 663) (by decide +kernel), List.mem_of_getElem? (i := 664) (by decide +kernel)⟩
theorem lw_p8 : lw_okq (⟨"PetitionBoard", "castVote", "(IIZ)I"⟩, 15) := ⟨⟨by decide +kernel, by decide +kernel⟩, List.mem_of_getElem? (i := 28) (by decide +kernel), List.mem_of_getElem? (i := 678) (by decide +kernel), List.mem_of_getElem? (i := 679) (by decide +kernel)⟩
theorem lw_p9 : lw_okq (⟨"PetitionBoard", "citeRuling", "(II)I"⟩, 15) := ⟨⟨by decide +kernel, by decide +kernel⟩, List.mem_of_getElem? (i := 28) (by decide +kernel), List.mem_of_getElem? (i := 723) (by decide +kernel), List.mem_of_getElem? (i := 724) (by decide +kernel)⟩
theorem lw_p10 : lw_okq (⟨"PetitionBoard", "vetoPetition", "(II)I"⟩, 15) := ⟨⟨by decide +kernel, by decide +kernel⟩, List.mem_of_getElem? (i := 28) (by decide +kernel), List.mem_of_getElem? (i := 756) (by decide +kernel), List.mem_of_getElem? (i := 757) (by decide +kernel)⟩
theorem lw_p11 : lw_okq (⟨"PetitionBoard", "withdrawPetition", "(I)I"⟩, 15) := ⟨⟨by decide +kernel, by decide +kernel⟩, List.mem_of_getElem? (i := 28) (by decide +kernel), List.mem_of_getElem? (i := 771) (by decide +kernel), List.mem_of_getElem? (i := 772) (by decide +kernel)⟩
theorem lw_p12 : lw_okq (⟨"PetitionBoard", "requirePetition", "(I)LPetitionBoard$Petition;"⟩, 15) := ⟨⟨by decide +kernel, by decide +kernel⟩, List.mem_of_getElem? (i := 28) (by decide +kernel), List.mem_of_getElem? (i := 790) (by decide +kernel), List.mem_of_getElem? (i := 791) (by decide +kernel)⟩
theorem lw_p13 : lw_okq (⟨"PetitionBoard", "changeQuorum", "(I)I"⟩, 15) := ⟨⟨by decide +kernel, by decide +kernel⟩, List.mem_of_getElem? (i := 28) (by decide +kernel), List.mem_of_getElem? (i := 851) (by decide +kernel), List.mem_of_getElem? (i := 852) (by decide +kernel)⟩
theorem lw_p14 : lw_okq (⟨"PetitionBoard", "decideFirst", "()I"⟩, 15) := ⟨⟨by decide +kernel, by decide +kernel⟩, List.mem_of_getElem? (i := 28) (by decide +kernel), List.mem_of_getElem? (i := 862) (by decide +kernel), List.mem_of_getElem? (i := 863) (by decide +kernel)⟩
theorem lw_p15 : lw_okq (⟨"PetitionBoard$State", "levelAbove", "(LPetitionBoard$Citing;)I"⟩, 14) := ⟨⟨by decide +kernel, by decide +kernel⟩, List.mem_of_getElem? (i := 36) (by decide +kernel), List.mem_of_getElem? (i := 871) (by decide +kernel), List.mem_of_getElem? (i := 872) (by decide +kernel)⟩
def lw_privs_1 : List (MethodName × Nat) := [(⟨"java/lang/Throwable", "fillInStackTrace", "(I)Ljava/lang/Throwable;"⟩, 6), (⟨"PetitionBoard", "placeStone", "(II)I"⟩, 15), (⟨"PetitionBoard", "deny", "(II)I"⟩, 15), (⟨"PetitionBoard", "conclude", "(I)I"⟩, 15), (⟨"PetitionBoard", "keepDenial", "(IIII)V"⟩, 15), (⟨"PetitionBoard", "enlistOfficer", "(I)I"⟩, 15), (⟨"PetitionBoard", "lodgePetition", "(IIII)I"⟩, 15), (⟨"PetitionBoard$State", "moveToItsPosition", "(LPetitionBoard$Petition;)V"⟩, 14), (⟨"PetitionBoard", "castVote", "(IIZ)I"⟩, 15), (⟨"PetitionBoard", "citeRuling", "(II)I"⟩, 15), (⟨"PetitionBoard", "vetoPetition", "(II)I"⟩, 15), (⟨"PetitionBoard", "withdrawPetition", "(I)I"⟩, 15), (⟨"PetitionBoard", "requirePetition", "(I)LPetitionBoard$Petition;"⟩, 15), (⟨"PetitionBoard", "changeQuorum", "(I)I"⟩, 15), (⟨"PetitionBoard", "decideFirst", "()I"⟩, 15), (⟨"PetitionBoard$State", "levelAbove", "(LPetitionBoard$Citing;)I"⟩, 14)]
theorem lw_r1 : ∀ q ∈ lw_privs_1, lw_okq q := List.forall_mem_cons.mpr ⟨lw_p0, List.forall_mem_cons.mpr ⟨lw_p1, List.forall_mem_cons.mpr ⟨lw_p2, List.forall_mem_cons.mpr ⟨lw_p3, List.forall_mem_cons.mpr ⟨lw_p4, List.forall_mem_cons.mpr ⟨lw_p5, List.forall_mem_cons.mpr ⟨lw_p6, List.forall_mem_cons.mpr ⟨lw_p7, List.forall_mem_cons.mpr ⟨lw_p8, List.forall_mem_cons.mpr ⟨lw_p9, List.forall_mem_cons.mpr ⟨lw_p10, List.forall_mem_cons.mpr ⟨lw_p11, List.forall_mem_cons.mpr ⟨lw_p12, List.forall_mem_cons.mpr ⟨lw_p13, List.forall_mem_cons.mpr ⟨lw_p14, List.forall_mem_cons.mpr ⟨lw_p15, fun _ h => absurd h List.not_mem_nil⟩⟩⟩⟩⟩⟩⟩⟩⟩⟩⟩⟩⟩⟩⟩⟩
theorem lw_p16 : lw_okq (⟨"PetitionBoard$State", "moveStone", "(II)V"⟩, 14) := ⟨⟨by decide +kernel, by decide +kernel⟩, List.mem_of_getElem? (i := 36) (by decide +kernel), List.mem_of_getElem? (i := 878) (by decide +kernel), List.mem_of_getElem? (i := 879) (by decide +kernel)⟩
theorem lw_p17 : lw_okq (⟨"PetitionBoard", "requireRuling", "(I)LPetitionBoard$Ruling;"⟩, 15) := ⟨⟨by decide +kernel, by decide +kernel⟩, List.mem_of_getElem? (i := 28) (by decide +kernel), List.mem_of_getElem? (i := 891) (by decide +kernel), List.mem_of_getElem? (i := 892) (by decide +kernel)⟩
theorem lw_p18 : lw_okq (⟨"PetitionBoard$State", "citedSet", "(I)I"⟩, 14) := ⟨⟨by decide +kernel, by decide +kernel⟩, List.mem_of_getElem? (i := 36) (by decide +kernel), List.mem_of_getElem? (i := 948) (by decide +kernel), List.mem_of_getElem? (i := 949) (by decide +kernel)⟩
theorem lw_p19 : lw_okq (⟨"PetitionBoard", "rankByInfluence", "(I)I"⟩, 15) := ⟨⟨by decide +kernel, by decide +kernel⟩, List.mem_of_getElem? (i := 28) (by decide +kernel), List.mem_of_getElem? (i := 980) (by decide +kernel), List.mem_of_getElem? (i := 981) (by decide +kernel)⟩
theorem lw_p20 : lw_okq (⟨"PetitionBoard$TextReader", "readCommand", "(LPetitionBoard$Line;LPetitionBoard$Command;)Z"⟩, 3) := ⟨⟨by decide +kernel, by decide +kernel⟩, List.mem_of_getElem? (i := 227) (by decide +kernel), List.mem_of_getElem? (i := 1055) (by decide +kernel), List.mem_of_getElem? (i := 1056) (by decide +kernel)⟩
theorem lw_p21 : lw_okq (⟨"PetitionBoard$TextReader", "readPart", "(LPetitionBoard$Line;LPetitionBoard$Command;C)Z"⟩, 3) := ⟨⟨by decide +kernel, by decide +kernel⟩, List.mem_of_getElem? (i := 227) (by decide +kernel), List.mem_of_getElem? (i := 1133) (by decide +kernel), List.mem_of_getElem? (i := 1134) (by decide +kernel)⟩
theorem lw_p22 : lw_okq (⟨"PetitionBoard$TextReader", "readValue", "(LPetitionBoard$Line;LPetitionBoard$Command;Z)Z"⟩, 3) := ⟨⟨by decide +kernel, by decide +kernel⟩, List.mem_of_getElem? (i := 227) (by decide +kernel), List.mem_of_getElem? (i := 1137) (by decide +kernel), List.mem_of_getElem? (i := 1138) (by decide +kernel)⟩
theorem lw_p23 : lw_okq (⟨"PetitionBoard$TextReader", "readSign", "(LPetitionBoard$Line;C)Z"⟩, 3) := ⟨⟨by decide +kernel, by decide +kernel⟩, List.mem_of_getElem? (i := 227) (by decide +kernel), List.mem_of_getElem? (i := 1148) (by decide +kernel), List.mem_of_getElem? (i := 1149) (by decide +kernel)⟩
theorem lw_p24 : lw_okq (⟨"PetitionBoard", "runCommands", "()Z"⟩, 15) := ⟨⟨by decide +kernel, by decide +kernel⟩, List.mem_of_getElem? (i := 28) (by decide +kernel), List.mem_of_getElem? (i := 1157) (by decide +kernel), List.mem_of_getElem? (i := 1158) (by decide +kernel)⟩
theorem lw_p25 : lw_okq (⟨"PetitionBoard", "attempt", "(LPetitionBoard$Command;)I"⟩, 15) := ⟨⟨by decide +kernel, by decide +kernel⟩, List.mem_of_getElem? (i := 28) (by decide +kernel), List.mem_of_getElem? (i := 1161) (by decide +kernel), List.mem_of_getElem? (i := 1162) (by decide +kernel)⟩
theorem lw_p26 : lw_okq (⟨"PetitionBoard", "requireDenial", "()V"⟩, 15) := ⟨⟨by decide +kernel, by decide +kernel⟩, List.mem_of_getElem? (i := 28) (by decide +kernel), List.mem_of_getElem? (i := 1220) (by decide +kernel), List.mem_of_getElem? (i := 1221) (by decide +kernel)⟩
theorem lw_p27 : lw_okq (⟨"PetitionBoard", "requireCause", "()V"⟩, 15) := ⟨⟨by decide +kernel, by decide +kernel⟩, List.mem_of_getElem? (i := 28) (by decide +kernel), List.mem_of_getElem? (i := 1239) (by decide +kernel), List.mem_of_getElem? (i := 1240) (by decide +kernel)⟩
theorem lw_p28 : lw_okq (⟨"PetitionBoardModel", "fails", "(I)Z"⟩, 22) := ⟨⟨by decide +kernel, by decide +kernel⟩, List.mem_of_getElem? (i := 1275) (by decide +kernel), List.mem_of_getElem? (i := 1362) (by decide +kernel), List.mem_of_getElem? (i := 1363) (by decide +kernel)⟩
theorem lw_p29 : lw_okq (⟨"PetitionBoardModel", "within", "(I)I"⟩, 22) := ⟨⟨by decide +kernel, by decide +kernel⟩, List.mem_of_getElem? (i := 1275) (by decide +kernel), List.mem_of_getElem? (i := 1366) (by decide +kernel), List.mem_of_getElem? (i := 1367) (by decide +kernel)⟩
theorem lw_p30 : lw_okq (⟨"PetitionBoardModel", "cell", "(I)I"⟩, 22) := ⟨⟨by decide +kernel, by decide +kernel⟩, List.mem_of_getElem? (i := 1275) (by decide +kernel), List.mem_of_getElem? (i := 1370) (by decide +kernel), List.mem_of_getElem? (i := 1371) (by decide +kernel)⟩
theorem lw_p31 : lw_okq (⟨"PetitionBoardModel", "denies", "(III)I"⟩, 22) := ⟨⟨by decide +kernel, by decide +kernel⟩, List.mem_of_getElem? (i := 1275) (by decide +kernel), List.mem_of_getElem? (i := 1374) (by decide +kernel), List.mem_of_getElem? (i := 1375) (by decide +kernel)⟩
def lw_privs_2 : List (MethodName × Nat) := [(⟨"PetitionBoard$State", "moveStone", "(II)V"⟩, 14), (⟨"PetitionBoard", "requireRuling", "(I)LPetitionBoard$Ruling;"⟩, 15), (⟨"PetitionBoard$State", "citedSet", "(I)I"⟩, 14), (⟨"PetitionBoard", "rankByInfluence", "(I)I"⟩, 15), (⟨"PetitionBoard$TextReader", "readCommand", "(LPetitionBoard$Line;LPetitionBoard$Command;)Z"⟩, 3), (⟨"PetitionBoard$TextReader", "readPart", "(LPetitionBoard$Line;LPetitionBoard$Command;C)Z"⟩, 3), (⟨"PetitionBoard$TextReader", "readValue", "(LPetitionBoard$Line;LPetitionBoard$Command;Z)Z"⟩, 3), (⟨"PetitionBoard$TextReader", "readSign", "(LPetitionBoard$Line;C)Z"⟩, 3), (⟨"PetitionBoard", "runCommands", "()Z"⟩, 15), (⟨"PetitionBoard", "attempt", "(LPetitionBoard$Command;)I"⟩, 15), (⟨"PetitionBoard", "requireDenial", "()V"⟩, 15), (⟨"PetitionBoard", "requireCause", "()V"⟩, 15), (⟨"PetitionBoardModel", "fails", "(I)Z"⟩, 22), (⟨"PetitionBoardModel", "within", "(I)I"⟩, 22), (⟨"PetitionBoardModel", "cell", "(I)I"⟩, 22), (⟨"PetitionBoardModel", "denies", "(III)I"⟩, 22)]
theorem lw_r2 : ∀ q ∈ lw_privs_2, lw_okq q := List.forall_mem_cons.mpr ⟨lw_p16, List.forall_mem_cons.mpr ⟨lw_p17, List.forall_mem_cons.mpr ⟨lw_p18, List.forall_mem_cons.mpr ⟨lw_p19, List.forall_mem_cons.mpr ⟨lw_p20, List.forall_mem_cons.mpr ⟨lw_p21, List.forall_mem_cons.mpr ⟨lw_p22, List.forall_mem_cons.mpr ⟨lw_p23, List.forall_mem_cons.mpr ⟨lw_p24, List.forall_mem_cons.mpr ⟨lw_p25, List.forall_mem_cons.mpr ⟨lw_p26, List.forall_mem_cons.mpr ⟨lw_p27, List.forall_mem_cons.mpr ⟨lw_p28, List.forall_mem_cons.mpr ⟨lw_p29, List.forall_mem_cons.mpr ⟨lw_p30, List.forall_mem_cons.mpr ⟨lw_p31, fun _ h => absurd h List.not_mem_nil⟩⟩⟩⟩⟩⟩⟩⟩⟩⟩⟩⟩⟩⟩⟩⟩
theorem lw_p32 : lw_okq (⟨"PetitionBoardModel", "keeps", "([I)V"⟩, 22) := ⟨⟨by decide +kernel, by decide +kernel⟩, List.mem_of_getElem? (i := 1275) (by decide +kernel), List.mem_of_getElem? (i := 1378) (by decide +kernel), List.mem_of_getElem? (i := 1379) (by decide +kernel)⟩
theorem lw_p33 : lw_okq (⟨"PetitionBoardModel", "isStone", "(I)Z"⟩, 22) := ⟨⟨by decide +kernel, by decide +kernel⟩, List.mem_of_getElem? (i := 1275) (by decide +kernel), List.mem_of_getElem? (i := 1397) (by decide +kernel), List.mem_of_getElem? (i := 1398) (by decide +kernel)⟩
theorem lw_p34 : lw_okq (⟨"PetitionBoardModel", "heavy", "(I)I"⟩, 22) := ⟨⟨by decide +kernel, by decide +kernel⟩, List.mem_of_getElem? (i := 1275) (by decide +kernel), List.mem_of_getElem? (i := 1405) (by decide +kernel), List.mem_of_getElem? (i := 1406) (by decide +kernel)⟩
theorem lw_p35 : lw_okq (⟨"PetitionBoardModel", "isOfficer", "(I)Z"⟩, 22) := ⟨⟨by decide +kernel, by decide +kernel⟩, List.mem_of_getElem? (i := 1275) (by decide +kernel), List.mem_of_getElem? (i := 1421) (by decide +kernel), List.mem_of_getElem? (i := 1422) (by decide +kernel)⟩
theorem lw_p36 : lw_okq (⟨"PetitionBoardModel", "rank", "(I)I"⟩, 22) := ⟨⟨by decide +kernel, by decide +kernel⟩, List.mem_of_getElem? (i := 1275) (by decide +kernel), List.mem_of_getElem? (i := 1425) (by decide +kernel), List.mem_of_getElem? (i := 1426) (by decide +kernel)⟩
theorem lw_p37 : lw_okq (⟨"PetitionBoardModel", "of", "(II)I"⟩, 22) := ⟨⟨by decide +kernel, by decide +kernel⟩, List.mem_of_getElem? (i := 1275) (by decide +kernel), List.mem_of_getElem? (i := 1433) (by decide +kernel), List.mem_of_getElem? (i := 1434) (by decide +kernel)⟩
theorem lw_p38 : lw_okq (⟨"PetitionBoardModel", "about", "(I)I"⟩, 22) := ⟨⟨by decide +kernel, by decide +kernel⟩, List.mem_of_getElem? (i := 1275) (by decide +kernel), List.mem_of_getElem? (i := 1441) (by decide +kernel), List.mem_of_getElem? (i := 1442) (by decide +kernel)⟩
theorem lw_p39 : lw_okq (⟨"PetitionBoardModel", "lays", "(III)V"⟩, 22) := ⟨⟨by decide +kernel, by decide +kernel⟩, List.mem_of_getElem? (i := 1275) (by decide +kernel), List.mem_of_getElem? (i := 1445) (by decide +kernel), List.mem_of_getElem? (i := 1446) (by decide +kernel)⟩
theorem lw_p40 : lw_okq (⟨"PetitionBoardModel", "placeOf", "(I)I"⟩, 22) := ⟨⟨by decide +kernel, by decide +kernel⟩, List.mem_of_getElem? (i := 1275) (by decide +kernel), List.mem_of_getElem? (i := 1453) (by decide +kernel), List.mem_of_getElem? (i := 1454) (by decide +kernel)⟩
theorem lw_p41 : lw_okq (⟨"PetitionBoardModel", "votes", "(I)I"⟩, 22) := ⟨⟨by decide +kernel, by decide +kernel⟩, List.mem_of_getElem? (i := 1275) (by decide +kernel), List.mem_of_getElem? (i := 1457) (by decide +kernel), List.mem_of_getElem? (i := 1458) (by decide +kernel)⟩
theorem lw_p42 : lw_okq (⟨"PetitionBoardModel", "isRuling", "(I)Z"⟩, 22) := ⟨⟨by decide +kernel, by decide +kernel⟩, List.mem_of_getElem? (i := 1275) (by decide +kernel), List.mem_of_getElem? (i := 1468) (by decide +kernel), List.mem_of_getElem? (i := 1469) (by decide +kernel)⟩
theorem lw_p43 : lw_okq (⟨"PetitionBoardModel", "drops", "(I)V"⟩, 22) := ⟨⟨by decide +kernel, by decide +kernel⟩, List.mem_of_getElem? (i := 1275) (by decide +kernel), List.mem_of_getElem? (i := 1476) (by decide +kernel), List.mem_of_getElem? (i := 1477) (by decide +kernel)⟩
theorem lw_p44 : lw_okq (⟨"PetitionBoardModel", "isNone", "(I)Z"⟩, 22) := ⟨⟨by decide +kernel, by decide +kernel⟩, List.mem_of_getElem? (i := 1275) (by decide +kernel), List.mem_of_getElem? (i := 1484) (by decide +kernel), List.mem_of_getElem? (i := 1485) (by decide +kernel)⟩
theorem lw_p45 : lw_okq (⟨"PetitionBoardModel", "queued", "(I)I"⟩, 22) := ⟨⟨by decide +kernel, by decide +kernel⟩, List.mem_of_getElem? (i := 1275) (by decide +kernel), List.mem_of_getElem? (i := 1496) (by decide +kernel), List.mem_of_getElem? (i := 1497) (by decide +kernel)⟩
theorem lw_p46 : lw_okq (⟨"PetitionBoardModel", "ahead", "(I)I"⟩, 22) := ⟨⟨by decide +kernel, by decide +kernel⟩, List.mem_of_getElem? (i := 1275) (by decide +kernel), List.mem_of_getElem? (i := 1500) (by decide +kernel), List.mem_of_getElem? (i := 1501) (by decide +kernel)⟩
theorem lw_p47 : lw_okq (⟨"PetitionBoardModel", "isAhead", "(II)Z"⟩, 22) := ⟨⟨by decide +kernel, by decide +kernel⟩, List.mem_of_getElem? (i := 1275) (by decide +kernel), List.mem_of_getElem? (i := 1504) (by decide +kernel), List.mem_of_getElem? (i := 1505) (by decide +kernel)⟩
def lw_privs_3 : List (MethodName × Nat) := [(⟨"PetitionBoardModel", "keeps", "([I)V"⟩, 22), (⟨"PetitionBoardModel", "isStone", "(I)Z"⟩, 22), (⟨"PetitionBoardModel", "heavy", "(I)I"⟩, 22), (⟨"PetitionBoardModel", "isOfficer", "(I)Z"⟩, 22), (⟨"PetitionBoardModel", "rank", "(I)I"⟩, 22), (⟨"PetitionBoardModel", "of", "(II)I"⟩, 22), (⟨"PetitionBoardModel", "about", "(I)I"⟩, 22), (⟨"PetitionBoardModel", "lays", "(III)V"⟩, 22), (⟨"PetitionBoardModel", "placeOf", "(I)I"⟩, 22), (⟨"PetitionBoardModel", "votes", "(I)I"⟩, 22), (⟨"PetitionBoardModel", "isRuling", "(I)Z"⟩, 22), (⟨"PetitionBoardModel", "drops", "(I)V"⟩, 22), (⟨"PetitionBoardModel", "isNone", "(I)Z"⟩, 22), (⟨"PetitionBoardModel", "queued", "(I)I"⟩, 22), (⟨"PetitionBoardModel", "ahead", "(I)I"⟩, 22), (⟨"PetitionBoardModel", "isAhead", "(II)Z"⟩, 22)]
theorem lw_r3 : ∀ q ∈ lw_privs_3, lw_okq q := List.forall_mem_cons.mpr ⟨lw_p32, List.forall_mem_cons.mpr ⟨lw_p33, List.forall_mem_cons.mpr ⟨lw_p34, List.forall_mem_cons.mpr ⟨lw_p35, List.forall_mem_cons.mpr ⟨lw_p36, List.forall_mem_cons.mpr ⟨lw_p37, List.forall_mem_cons.mpr ⟨lw_p38, List.forall_mem_cons.mpr ⟨lw_p39, List.forall_mem_cons.mpr ⟨lw_p40, List.forall_mem_cons.mpr ⟨lw_p41, List.forall_mem_cons.mpr ⟨lw_p42, List.forall_mem_cons.mpr ⟨lw_p43, List.forall_mem_cons.mpr ⟨lw_p44, List.forall_mem_cons.mpr ⟨lw_p45, List.forall_mem_cons.mpr ⟨lw_p46, List.forall_mem_cons.mpr ⟨lw_p47, fun _ h => absurd h List.not_mem_nil⟩⟩⟩⟩⟩⟩⟩⟩⟩⟩⟩⟩⟩⟩⟩⟩
theorem lw_p48 : lw_okq (⟨"PetitionBoardModel", "wins", "(I)Z"⟩, 22) := ⟨⟨by decide +kernel, by decide +kernel⟩, List.mem_of_getElem? (i := 1275) (by decide +kernel), List.mem_of_getElem? (i := 1532) (by decide +kernel), List.mem_of_getElem? (i := 1533) (by decide +kernel)⟩
theorem lw_p49 : lw_okq (⟨"PetitionBoardModel", "by", "(II)I"⟩, 22) := ⟨⟨by decide +kernel, by decide +kernel⟩, List.mem_of_getElem? (i := 1275) (by decide +kernel), List.mem_of_getElem? (i := 1536) (by decide +kernel), List.mem_of_getElem? (i := 1537) (by decide +kernel)⟩
theorem lw_p50 : lw_okq (⟨"PetitionBoardModel", "isUnruled", "(I)Z"⟩, 22) := ⟨⟨by decide +kernel, by decide +kernel⟩, List.mem_of_getElem? (i := 1275) (by decide +kernel), List.mem_of_getElem? (i := 1560) (by decide +kernel), List.mem_of_getElem? (i := 1561) (by decide +kernel)⟩
theorem lw_p51 : lw_okq (⟨"PetitionBoardModel", "names", "(II)Z"⟩, 22) := ⟨⟨by decide +kernel, by decide +kernel⟩, List.mem_of_getElem? (i := 1275) (by decide +kernel), List.mem_of_getElem? (i := 1580) (by decide +kernel), List.mem_of_getElem? (i := 1581) (by decide +kernel)⟩
theorem lw_p52 : lw_okq (⟨"PetitionBoardModel", "based", "(I)I"⟩, 22) := ⟨⟨by decide +kernel, by decide +kernel⟩, List.mem_of_getElem? (i := 1275) (by decide +kernel), List.mem_of_getElem? (i := 1592) (by decide +kernel), List.mem_of_getElem? (i := 1593) (by decide +kernel)⟩
theorem lw_p53 : lw_okq (⟨"PetitionBoardModel", "reaches", "(I)I"⟩, 22) := ⟨⟨by decide +kernel, by decide +kernel⟩, List.mem_of_getElem? (i := 1275) (by decide +kernel), List.mem_of_getElem? (i := 1600) (by decide +kernel), List.mem_of_getElem? (i := 1601) (by decide +kernel)⟩
theorem lw_p54 : lw_okq (⟨"PetitionBoardModel", "isText", "()Z"⟩, 22) := ⟨⟨by decide +kernel, by decide +kernel⟩, List.mem_of_getElem? (i := 1275) (by decide +kernel), List.mem_of_getElem? (i := 1644) (by decide +kernel), List.mem_of_getElem? (i := 1645) (by decide +kernel)⟩
theorem lw_p55 : lw_okq (⟨"PetitionBoardModel", "commandHere", "()Z"⟩, 22) := ⟨⟨by decide +kernel, by decide +kernel⟩, List.mem_of_getElem? (i := 1275) (by decide +kernel), List.mem_of_getElem? (i := 1648) (by decide +kernel), List.mem_of_getElem? (i := 1649) (by decide +kernel)⟩
theorem lw_p56 : lw_okq (⟨"PetitionBoardModel", "here", "()I"⟩, 22) := ⟨⟨by decide +kernel, by decide +kernel⟩, List.mem_of_getElem? (i := 1275) (by decide +kernel), List.mem_of_getElem? (i := 1652) (by decide +kernel), List.mem_of_getElem? (i := 1653) (by decide +kernel)⟩
theorem lw_p57 : lw_okq (⟨"PetitionBoardModel", "isWord", "(Ljava/lang/String;)Z"⟩, 22) := ⟨⟨by decide +kernel, by decide +kernel⟩, List.mem_of_getElem? (i := 1275) (by decide +kernel), List.mem_of_getElem? (i := 1657) (by decide +kernel), List.mem_of_getElem? (i := 1658) (by decide +kernel)⟩
theorem lw_p58 : lw_okq (⟨"PetitionBoardModel", "skips", "(I)Z"⟩, 22) := ⟨⟨by decide +kernel, by decide +kernel⟩, List.mem_of_getElem? (i := 1275) (by decide +kernel), List.mem_of_getElem? (i := 1663) (by decide +kernel), List.mem_of_getElem? (i := 1664) (by decide +kernel)⟩
theorem lw_p59 : lw_okq (⟨"PetitionBoardModel", "figures", "(II)Z"⟩, 22) := ⟨⟨by decide +kernel, by decide +kernel⟩, List.mem_of_getElem? (i := 1275) (by decide +kernel), List.mem_of_getElem? (i := 1667) (by decide +kernel), List.mem_of_getElem? (i := 1668) (by decide +kernel)⟩
theorem lw_p60 : lw_okq (⟨"PetitionBoardModel", "carries", "(I)I"⟩, 22) := ⟨⟨by decide +kernel, by decide +kernel⟩, List.mem_of_getElem? (i := 1275) (by decide +kernel), List.mem_of_getElem? (i := 1680) (by decide +kernel), List.mem_of_getElem? (i := 1681) (by decide +kernel)⟩
theorem lw_p61 : lw_okq (⟨"PetitionBoardModel", "deniesText", "(I)I"⟩, 22) := ⟨⟨by decide +kernel, by decide +kernel⟩, List.mem_of_getElem? (i := 1275) (by decide +kernel), List.mem_of_getElem? (i := 1693) (by decide +kernel), List.mem_of_getElem? (i := 1694) (by decide +kernel)⟩
theorem lw_p62 : lw_okq (⟨"PetitionBoardModel", "writesBehind", "(II)V"⟩, 22) := ⟨⟨by decide +kernel, by decide +kernel⟩, List.mem_of_getElem? (i := 1275) (by decide +kernel), List.mem_of_getElem? (i := 1705) (by decide +kernel), List.mem_of_getElem? (i := 1706) (by decide +kernel)⟩
theorem lw_p63 : lw_okq (⟨"PetitionBoardModel", "writes", "(I)V"⟩, 22) := ⟨⟨by decide +kernel, by decide +kernel⟩, List.mem_of_getElem? (i := 1275) (by decide +kernel), List.mem_of_getElem? (i := 1709) (by decide +kernel), List.mem_of_getElem? (i := 1710) (by decide +kernel)⟩
def lw_privs_4 : List (MethodName × Nat) := [(⟨"PetitionBoardModel", "wins", "(I)Z"⟩, 22), (⟨"PetitionBoardModel", "by", "(II)I"⟩, 22), (⟨"PetitionBoardModel", "isUnruled", "(I)Z"⟩, 22), (⟨"PetitionBoardModel", "names", "(II)Z"⟩, 22), (⟨"PetitionBoardModel", "based", "(I)I"⟩, 22), (⟨"PetitionBoardModel", "reaches", "(I)I"⟩, 22), (⟨"PetitionBoardModel", "isText", "()Z"⟩, 22), (⟨"PetitionBoardModel", "commandHere", "()Z"⟩, 22), (⟨"PetitionBoardModel", "here", "()I"⟩, 22), (⟨"PetitionBoardModel", "isWord", "(Ljava/lang/String;)Z"⟩, 22), (⟨"PetitionBoardModel", "skips", "(I)Z"⟩, 22), (⟨"PetitionBoardModel", "figures", "(II)Z"⟩, 22), (⟨"PetitionBoardModel", "carries", "(I)I"⟩, 22), (⟨"PetitionBoardModel", "deniesText", "(I)I"⟩, 22), (⟨"PetitionBoardModel", "writesBehind", "(II)V"⟩, 22), (⟨"PetitionBoardModel", "writes", "(I)V"⟩, 22)]
theorem lw_r4 : ∀ q ∈ lw_privs_4, lw_okq q := List.forall_mem_cons.mpr ⟨lw_p48, List.forall_mem_cons.mpr ⟨lw_p49, List.forall_mem_cons.mpr ⟨lw_p50, List.forall_mem_cons.mpr ⟨lw_p51, List.forall_mem_cons.mpr ⟨lw_p52, List.forall_mem_cons.mpr ⟨lw_p53, List.forall_mem_cons.mpr ⟨lw_p54, List.forall_mem_cons.mpr ⟨lw_p55, List.forall_mem_cons.mpr ⟨lw_p56, List.forall_mem_cons.mpr ⟨lw_p57, List.forall_mem_cons.mpr ⟨lw_p58, List.forall_mem_cons.mpr ⟨lw_p59, List.forall_mem_cons.mpr ⟨lw_p60, List.forall_mem_cons.mpr ⟨lw_p61, List.forall_mem_cons.mpr ⟨lw_p62, List.forall_mem_cons.mpr ⟨lw_p63, fun _ h => absurd h List.not_mem_nil⟩⟩⟩⟩⟩⟩⟩⟩⟩⟩⟩⟩⟩⟩⟩⟩
theorem lw_p64 : lw_okq (⟨"PetitionBoardModel", "writesNumber", "(I)V"⟩, 22) := ⟨⟨by decide +kernel, by decide +kernel⟩, List.mem_of_getElem? (i := 1275) (by decide +kernel), List.mem_of_getElem? (i := 1713) (by decide +kernel), List.mem_of_getElem? (i := 1714) (by decide +kernel)⟩
def lw_privs_5 : List (MethodName × Nat) := [(⟨"PetitionBoardModel", "writesNumber", "(I)V"⟩, 22)]
theorem lw_r5 : ∀ q ∈ lw_privs_5, lw_okq q := List.forall_mem_cons.mpr ⟨lw_p64, fun _ h => absurd h List.not_mem_nil⟩
def lw_privs : List (MethodName × Nat) := lw_privs_1 ++ (lw_privs_2 ++ (lw_privs_3 ++ (lw_privs_4 ++ (lw_privs_5))))
def lw_tbl : List Cond := k2_sels lw_privs ++ tables_1
theorem lw_privs_ok : ∀ q ∈ lw_privs, lw_okq q := by
  show ∀ q ∈ lw_privs_1 ++ (lw_privs_2 ++ (lw_privs_3 ++ (lw_privs_4 ++ (lw_privs_5)))), lw_okq q
  exact List.forall_mem_append.mpr ⟨lw_r1, List.forall_mem_append.mpr ⟨lw_r2, List.forall_mem_append.mpr ⟨lw_r3, List.forall_mem_append.mpr ⟨lw_r4, lw_r5⟩⟩⟩⟩
/-- the streams that the claim lets the run draw from -/
abbrev lw_cs : List Choice := [Jvm.Choice.named "NaN.bits"]
theorem lw_bits : nanBits ∈ lw_cs := by first | decide | exact List.mem_cons_self | simp [lw_cs, nanBits]
/-! ===== BEGIN words of one list among another's, by their places ===== -/
theorem goodIn_r {big : List Cond} (ws : List Cond) (ps : List Nat) (hp : ws = ps.filterMap (fun i => big[i]?)) (h : ws.all goodWord = true) : GoodIn big ws := by
  intro w hw
  have h1 := List.all_eq_true.mp h w hw
  rw [hp] at hw
  obtain ⟨i, -, hi⟩ := List.mem_filterMap.mp hw
  have hm : w ∈ big := by first | exact List.mem_of_getElem? hi | exact List.getElem?_mem hi
  exact ⟨hm, good_of_word h1⟩
theorem goodIn_app {big a b : List Cond} (ha : GoodIn big a) (hb : GoodIn big b) : GoodIn big (a ++ b) := fun w h => (List.mem_append.mp h).elim (ha w) (hb w)
theorem goodIn_ca {big a b : List Cond} {c : Cond} (ha : GoodIn big (c :: a)) (hb : GoodIn big b) : GoodIn big (c :: (a ++ b)) := fun w h => (List.mem_cons.mp h).elim (fun e => ha w (List.mem_cons.mpr (Or.inl e))) (fun h => (List.mem_append.mp h).elim (fun h => ha w (List.mem_cons.mpr (Or.inr h))) (hb w))
theorem goodIn_sub {big ws : List Cond} (hm : ∀ w ∈ ws, w ∈ big) (h : ws.all goodWord = true) : GoodIn big ws := fun w hw => ⟨hm w hw, good_of_word (List.all_eq_true.mp h w hw)⟩
/-! ===== END ===== -/

/-! ===== BEGIN exceptions that leave a method, and their catching by the caller (launches without stack traces) ===== -/
section VXA
/-! The laws vx_back, vx_callV, vx_callS, vx_callSW, vx_throw0, vx_throwS follow proofs of the library, with one case more: JvmDerived/Free/Laws.lean (Back.of_free), Shelf42/LK1.lean (callV, callS), Shelf/KitTraced.lean (throwNew0V, throwNewS). -/
/-- where a method has thrown q: the class by its name, the cell, what was written, the world -/
def vx_T (XC : String → State → State → Prop) (st : State) (q : Addr) (t : State) (mc ms : Nat) (free : Addr → Prop) : Prop :=
  ∃ (E : String) (ce : Cell) (L : List Loc), XC E st t ∧ t.heap[q]? = some ce ∧ ce.vm = .none ∧ st.vm.findClass E = some ce.cls ∧ st.WarmedH t.vm ∧ st.sameButNew ({ t with vm := st.vm } : State) L mc ms ∧ ∀ z ∈ L, free z.base
def vx_Q (Qc : Array Value → State → Outcome → State → Prop) (XC : String → State → State → Prop) (mc ms : Nat) (free : Addr → Prop) : Array Value → State → Outcome → State → Prop := fun a st o t =>
  (Qc a st o t ∧ ∃ L, FrameEnd st o t L mc ms ∧ ∀ q ∈ L, free q.base) ∨ ∃ q, o = .threw q ∧ vx_T XC st q t mc ms free
/-- a callee that returns or throws -/
def vx_Met (l : Launch) (y : MethodName) (ws : List Cond) (rm : Room) (Pc : Array Value → State → Prop) (Qc : Array Value → State → Outcome → State → Prop) (XC : String → State → State → Prop) (mc ms : Nat) (free : Addr → Prop) : Prop :=
  MetFree l y (headSpec ws rm) Pc (fun _ _ _ _ _ => True) (vx_Q Qc XC mc ms free)
def vx_Post (XC : String → State → State → Prop) (mc ms : Nat) (free : Addr → Prop) : Pt → Array Value → Addr → Pt → Prop := fun A a q B =>
  ∃ (g : JFrame) (mk : MethodId) (t : State) (L : List Loc) (E : String) (ce : Cell), B.U.heap = t.heap ∧ B.U.vm = t.vm ∧ XC E (A.U.calling g mk a) t ∧ t.heap[q]? = some ce ∧ ce.vm = .none ∧ A.U.vm.findClass E = some ce.cls ∧ B.locs = A.locs ++ L ∧ (∀ z ∈ L, free z.base) ∧ B.cells = A.cells + mc ∧ B.slots = A.slots + ms
def vx_Back (l : Launch) (R : Room) (p : Program) (e : Env) (below : List Frame) (s : State) (sargs : Array Value) (y : MethodName) (len W9 : Nat)
    (Pre : Pt → Array Value → Prop) (Post : Pt → Array Value → Option Value → Pt → Prop) (PostX : Pt → Array Value → Addr → Pt → Prop) : Prop :=
  ∀ (m : MethodId) (meth : Method) (c : Code) (A : Pt) (g : JFrame) (ig : Instr) (mk : MethodId) (a : Array Value),
    Stand p l e R s m sargs below meth c A.U A.locs A.cells A.slots → g.method = m → g.locals.size = c.maxLocals → decode c.code g.pc = .ok (ig, len) →
    2 * g.monitorRoom + (g.stack.map fun v => v.category).sum ≤ W9 → A.U.methodNamed? y = some mk → Pre A a →
    (∃ (v : Option Value) (B : Pt), Stand p l e R s m sargs below meth c B.U B.locs B.cells B.slots ∧ Post A a v B ∧
      Steps p.tables e below (doInvoke e (A.U.setTop g) [] mk a).1 (B.U.setTop { g with pc := g.pc + len, stack := v.toList ++ g.stack })) ∨
    (∃ (q : Addr) (B : Pt), Stand p l e R s m sargs below meth c B.U B.locs B.cells B.slots ∧ PostX A a q B ∧
      Steps p.tables e below (doInvoke e (A.U.setTop g) [] mk a).1 ((B.U.setTop g).pushFrame (.throwing q)))
section Payer
variable {l : Launch} {R : Room} {p : Program} {e : Env} {below : List Frame} {s : State} {sargs : Array Value} {y : MethodName} {len W9 : Nat}
theorem vx_back {ws : List Cond} {rm : Room} {Pc : Array Value → State → Prop} {Qc : Array Value → State → Outcome → State → Prop} {XC : String → State → State → Prop} {mc ms : Nat} {free : Addr → Prop} {bytes : ByteArray} {maxL : Nat} {ret : Option FieldType}
    (hM : vx_Met l y ws rm Pc Qc XC mc ms free) (hblind : FrameBlind Pc) (hrc : rm.cells = mc) (hrs : rm.slots = ms)
    (hframes : rm.frames + 1 ≤ R.frames) (hlocals : W9 + (maxL + 11) + rm.locals ≤ R.locals)
    (hws : ∀ w ∈ ws, ∀ a' U, s.WarmedH U.vm → w.before a' U = true) (hcode : Cond.code y bytes maxL ret ∈ ws) (hinit : ∀ a' U, s.WarmedH U.vm → (Cond.initialized y.cls).before a' U = true) :
    vx_Back l R p e below s sargs y len W9 (PreOf R mc ms Pc) (PostOf Qc mc ms free) (vx_Post XC mc ms free) := by
  intro m meth c A g ig mk a X hg hsize hdg hW hn hp
  have h1 : (headSpec ws rm).pre.before a A.U = true := atoms_intro fun w hw => hws w hw _ _ X.warmed
  have h2 : (Cond.code y bytes maxL ret).before a A.U = true := hws _ hcode _ _ X.warmed
  have h3 : (Cond.initialized y.cls).before a A.U = true := hinit _ _ X.warmed
  have h4 : A.cells + (headSpec ws rm).room.cells ≤ R.cells := by rw [show (headSpec ws rm).room.cells = mc from hrc]; exact hp.1
  have h5 : A.slots + (headSpec ws rm).room.slots ≤ R.slots := by rw [show (headSpec ws rm).room.slots = ms from hrs]; exact hp.2.1
  have hPc : Pc a (A.U.calling g mk a) := hblind _ _ _ _ hp.2.2
  obtain ⟨U, Ls, c0, s0⟩ := A
  dsimp only [Pt.U, Pt.locs, Pt.cells, Pt.slots] at h1 h2 h3 h4 h5 X hn hPc ⊢
  obtain ⟨methY, cY, hmY, hcY, -, hlY, -, -, -, -⟩ := Cond.code_spec hn h2
  obtain ⟨kY, hkY, -⟩ := className_of_methodNamed hn
  have hinitY : kY.init = .initialized := Cond.initialized_spec (findClass_of_methodNamed hn) hkY h3
  have h : At U g.method c below := by rw [hg]; exact X.here
  have hlocals9 : W9 + (maxL + 11) + (headSpec ws rm).room.locals ≤ R.locals := hlocals
  have happ : (headSpec ws rm).appliesLoose y e.platform (U.calling g mk a) = true :=
    Spec.appliesLoose_calling (g := g) h hdg hn hkY hinitY
      (X.room_calling (g := g) (R' := (headSpec ws rm).room) hsize hmY hcY hframes (by rw [hlY]; omega) h4 h5) h1
  obtain ⟨mid, hmid⟩ := h.above
  have hfr : (U.setTop g).frames = (.java g :: mid) ++ below := by rw [State.frames_setTop' g h.top, hmid]; rfl
  obtain ⟨o, s₂, hsteps, -, hend, hq⟩ := Steps.callFree hM p X.admits X.cas X.clock (acts := []) hfr happ hPc trivial
  have hq' : vx_Q Qc XC mc ms free a (U.calling g mk a) o s₂ := hq
  rw [State.frames_setTop' g h.top] at hend
  obtain ⟨g₀, hg0⟩ := Option.isSome_iff_exists.mp h.top
  obtain ⟨r, hr⟩ := State.topJava?_eq_some.mp hg0
  have hr' : (({ U with heap := s₂.heap, slotsUsed := s₂.slotsUsed } : State).setVm s₂.vm).frames = .java g₀ :: r := hr
  rcases hq' with ⟨hqc, L, hfe, hL⟩ | ⟨q, rfl, E, ce, L, hx, hce, hcv, hcl, hW₂, hsm, hL⟩
  · obtain ⟨⟨v, rfl⟩, hW₂, e2, q2, q3, q4, q5, q6⟩ := id hfe
    have e3 : s₂ = ({ (U.calling g mk a).setFrames s₂.frames with heap := s₂.heap, slotsUsed := s₂.slotsUsed } : State).setVm s₂.vm := by
      have : s₂ = ({ s₂ with vm := (U.calling g mk a).vm } : State).setVm s₂.vm := rfl
      rw [e2] at this
      exact this
    obtain ⟨c₂, i₂, len₂, hc₂, hd₂, hf₂⟩ := hend
    have hW' : U.WarmedH s₂.vm := hW₂
    have hcc : c₂ = c := by
      have h1 : s₂.code? g.method = U.code? g.method := by
        rw [State.code?_eq, State.code?_eq, hW'.alike.method?]
      exact Option.some.inj (hc₂.symm.trans (h1.trans h.code))
    subst hcc
    have hlen : len₂ = len := by rw [hdg] at hd₂; cases hd₂; rfl
    subst hlen
    have hs₂ : s₂ = (({ U with heap := s₂.heap, slotsUsed := s₂.slotsUsed } : State).setVm s₂.vm).setTop { g with pc := g.pc + len₂, stack := v.toList ++ g.stack } := by
      refine e3.trans ?_
      rw [hf₂, State.calling_eq h.top, State.setFrames_setFrames, State.setTop_of_frames _ hr', hr]
      rfl
    have hsame : U.sameButNew ({ U with heap := s₂.heap, slotsUsed := s₂.slotsUsed } : State) L mc ms := by
      refine ⟨?_, q2, q3, q4, q5, q6⟩
      obtain ⟨t, ht, -⟩ := State.frames_cons hr
      show ({ U with heap := s₂.heap, slotsUsed := s₂.slotsUsed } : State) = { U.setFrames U.frames with heap := s₂.heap, slotsUsed := s₂.slotsUsed }
      rw [State.setFrames_self ht]
    subst hg
    refine Or.inl ⟨v, ⟨(({ U with heap := s₂.heap, slotsUsed := s₂.slotsUsed } : State).setVm s₂.vm), Ls ++ L, c0 + mc, s0 + ms⟩,
      ⟨X.admits, X.cas, X.clock, X.frames, X.room, X.hears, X.method, X.code, (X.here.setHeapUsed s₂.heap s₂.slotsUsed).setVm hW'.alike, X.tail, State.WarmedH.trans X.warmed hW', X.limits, X.bytes, X.same.trans (hsame.setVm s.vm)⟩,
      ⟨g, mk, s₂, L, rfl, rfl, hqc, rfl, hL, rfl, rfl⟩, ?_⟩
    show Steps p.tables e below _ ((({ U with heap := s₂.heap, slotsUsed := s₂.slotsUsed } : State).setVm s₂.vm).setTop { g with pc := g.pc + len₂, stack := v.toList ++ g.stack })
    rw [← hs₂]
    exact hsteps
  · obtain ⟨e2, q2, q3, q4, q5, q6⟩ := id hsm
    have e3 : s₂ = ({ (U.calling g mk a).setFrames s₂.frames with heap := s₂.heap, slotsUsed := s₂.slotsUsed } : State).setVm s₂.vm := by
      have : s₂ = ({ s₂ with vm := (U.calling g mk a).vm } : State).setVm s₂.vm := rfl
      rw [e2] at this
      exact this
    have hf₂ : s₂.frames = .throwing q :: .java g :: U.frames.tail := hend
    have hW' : U.WarmedH s₂.vm := hW₂
    have hs₂ : s₂ = ((({ U with heap := s₂.heap, slotsUsed := s₂.slotsUsed } : State).setVm s₂.vm).setTop g).pushFrame (.throwing q) := by
      refine e3.trans ?_
      rw [hf₂, State.calling_eq h.top, State.setFrames_setFrames, State.pushFrame, State.frames_setTop _ hr', State.setTop_of_frames _ hr', State.setFrames_setFrames, hr]
      rfl
    have hsame : U.sameButNew ({ U with heap := s₂.heap, slotsUsed := s₂.slotsUsed } : State) L mc ms := by
      refine ⟨?_, q2, q3, q4, q5, q6⟩
      obtain ⟨t, ht, -⟩ := State.frames_cons hr
      show ({ U with heap := s₂.heap, slotsUsed := s₂.slotsUsed } : State) = { U.setFrames U.frames with heap := s₂.heap, slotsUsed := s₂.slotsUsed }
      rw [State.setFrames_self ht]
    subst hg
    refine Or.inr ⟨q, ⟨(({ U with heap := s₂.heap, slotsUsed := s₂.slotsUsed } : State).setVm s₂.vm), Ls ++ L, c0 + mc, s0 + ms⟩,
      ⟨X.admits, X.cas, X.clock, X.frames, X.room, X.hears, X.method, X.code, (X.here.setHeapUsed s₂.heap s₂.slotsUsed).setVm hW'.alike, X.tail, State.WarmedH.trans X.warmed hW', X.limits, X.bytes, X.same.trans (hsame.setVm s.vm)⟩,
      ⟨g, mk, s₂, L, E, ce, rfl, rfl, hx, hce, hcv, hcl, rfl, hL, rfl, rfl⟩, ?_⟩
    show Steps p.tables e below _ (((({ U with heap := s₂.heap, slotsUsed := s₂.slotsUsed } : State).setVm s₂.vm).setTop g).pushFrame (.throwing q))
    rw [← hs₂]
    exact hsteps
end Payer
section Calls
variable {p : Program} {l : Launch} {e : Env} {R : Room} {s : State} {m : MethodId} {args : Array Value} {below : List Frame} {meth : Method} {c : Code} {T : State} {locs : List Loc} {cells slots : Nat}
theorem vx_callV (X : Stand p l e R s m args below meth c T locs cells slots) (hexec : p.tables.exec = Jvm.exec) {own C : String} {index : Nat} {y : MethodName} {bytes : ByteArray} {maxL : Nat} {ret : Option FieldType}
    (hown : s.vm.findClass own = some m.cls) (hlink : (Cond.methodLink own index y).before args s = true) (hinst : (Cond.instanceMethod y).before args s = true) (hsel : (Cond.selects C y y).before args s = true)
    (hcode : (Cond.code y bytes maxL ret).before args s = true) (hy : y.cls ≠ "java/lang/invoke/MethodHandle" ∧ y.cls ≠ "java/lang/invoke/VarHandle")
    {W9 : Nat} {Pre : Pt → Array Value → Prop} {Post : Pt → Array Value → Option Value → Pt → Prop} {PostX : Pt → Array Value → Addr → Pt → Prop} (hK : vx_Back l R p e below s args y 3 W9 Pre Post PostX)
    {b : Addr} {cellB : Cell} (hcell : T.heap[b]? = some cellB) (hobj : cellB.vm.isStatics = false) (hcls : s.vm.findClass C = some cellB.cls)
    {g : JFrame} (hg : g.method = m) (hsize : g.locals.size = c.maxLocals) {argsL rest : List Value} (hlen : ∀ sig, parseMethodDescriptor y.desc = some sig → argsL.length = sig.parameters.length)
    (hstack : g.stack = argsL.reverse ++ .ref b :: rest) (hW : 2 * g.monitorRoom + (rest.map fun v => v.category).sum ≤ W9) (hdg : decode c.code g.pc = .ok (.invokevirtual index, 3))
    (hpre : ∀ vm₁, s.WarmedH vm₁ → Pre ⟨T.setVm vm₁, locs, cells, slots⟩ (Value.ref b :: argsL).toArray) :
    (∃ (v : Option Value) (vm₁ : Vm) (B : Pt), s.WarmedH vm₁ ∧ Stand p l e R s m args below meth c B.U B.locs B.cells B.slots ∧ Post ⟨T.setVm vm₁, locs, cells, slots⟩ (Value.ref b :: argsL).toArray v B ∧
      ∀ target, Steps p.tables e below (B.U.setTop { g with pc := g.pc + 3, stack := v.toList ++ rest }) target → Steps p.tables e below (T.setTop g) target) ∨
    (∃ (q : Addr) (vm₁ : Vm) (B : Pt), s.WarmedH vm₁ ∧ Stand p l e R s m args below meth c B.U B.locs B.cells B.slots ∧ PostX ⟨T.setVm vm₁, locs, cells, slots⟩ (Value.ref b :: argsL).toArray q B ∧
      Steps p.tables e below (T.setTop g) ((B.U.setTop { g with stack := rest }).pushFrame (.throwing q))) := by
  obtain ⟨mk, methM, hnamed, hmethM, hstM, habM⟩ := Cond.instanceMethod_spec hinst
  obtain ⟨methM', cM, hmethM', -, -, -, -, -, -, hsigM⟩ := Cond.code_spec hnamed hcode
  cases hmethM.symm.trans hmethM'
  obtain ⟨c2, r2, m2, q1, q2, q3, q4, kP, hkP, hkPi⟩ := Cond.selects_spec hsel
  cases hcls.symm.trans q1
  cases (State.methodFound?_of_named hnamed hy).symm.trans q2
  cases hnamed.symm.trans q3
  have hselP : selectMethod e.platform s.vm cellB.cls mk = .method mk := by rw [Launch.admits_selectMethod X.admits]; exact q4
  obtain ⟨vm₁, X₁, hstep₁⟩ := X.invokevirtual hexec hown hlink hnamed hmethM hstM hkP hkPi hy (a := b) (cell := cellB) hcell
    (fun z h => by rw [h] at hobj; cases hobj) hselP hmethM habM hkP hkPi (g := g) hg (argsL := argsL) (rest := rest) (hlen _ hsigM) hstack hdg
  rcases hK m meth c ⟨T.setVm vm₁, locs, cells, slots⟩ { g with stack := rest } (.invokevirtual index) mk (Value.ref b :: argsL).toArray X₁ hg hsize hdg hW (X₁.named hnamed) (hpre vm₁ X₁.warmed) with ⟨v, B, X', hpost, hsteps⟩ | ⟨q, B, X', hpost, hsteps⟩
  · exact Or.inl ⟨v, vm₁, B, X₁.warmed, X', hpost, fun target h => hstep₁ _ fun acts => by rw [doInvoke_state]; exact hsteps.trans h⟩
  · exact Or.inr ⟨q, vm₁, B, X₁.warmed, X', hpost, hstep₁ _ fun acts => by rw [doInvoke_state]; exact hsteps⟩
theorem vx_callS (X : Stand p l e R s m args below meth c T locs cells slots) (hexec : p.tables.exec = Jvm.exec) {own : String} {index : Nat} {y : MethodName} {bytes : ByteArray} {maxL : Nat} {ret : Option FieldType}
    (hown : s.vm.findClass own = some m.cls) (hlink : (Cond.methodLink own index y).before args s = true) (hstat : (Cond.static y).before args s = true) (hinit : (Cond.initialized y.cls).before args s = true)
    (hcode : (Cond.code y bytes maxL ret).before args s = true) (hy : y.cls ≠ "java/lang/invoke/MethodHandle" ∧ y.cls ≠ "java/lang/invoke/VarHandle")
    {W9 : Nat} {Pre : Pt → Array Value → Prop} {Post : Pt → Array Value → Option Value → Pt → Prop} {PostX : Pt → Array Value → Addr → Pt → Prop} (hK : vx_Back l R p e below s args y 3 W9 Pre Post PostX)
    {g : JFrame} (hg : g.method = m) (hsize : g.locals.size = c.maxLocals) {argsL rest : List Value} (hlen : ∀ sig, parseMethodDescriptor y.desc = some sig → argsL.length = sig.parameters.length)
    (hstack : g.stack = argsL.reverse ++ rest) (hW : 2 * g.monitorRoom + (rest.map fun v => v.category).sum ≤ W9) (hdg : decode c.code g.pc = .ok (.invokestatic index, 3))
    (hpre : ∀ vm₁, s.WarmedH vm₁ → Pre ⟨T.setVm vm₁, locs, cells, slots⟩ argsL.toArray) :
    (∃ (v : Option Value) (vm₁ : Vm) (B : Pt), s.WarmedH vm₁ ∧ Stand p l e R s m args below meth c B.U B.locs B.cells B.slots ∧ Post ⟨T.setVm vm₁, locs, cells, slots⟩ argsL.toArray v B ∧
      ∀ target, Steps p.tables e below (B.U.setTop { g with pc := g.pc + 3, stack := v.toList ++ rest }) target → Steps p.tables e below (T.setTop g) target) ∨
    (∃ (q : Addr) (vm₁ : Vm) (B : Pt), s.WarmedH vm₁ ∧ Stand p l e R s m args below meth c B.U B.locs B.cells B.slots ∧ PostX ⟨T.setVm vm₁, locs, cells, slots⟩ argsL.toArray q B ∧
      Steps p.tables e below (T.setTop g) ((B.U.setTop { g with stack := rest }).pushFrame (.throwing q))) := by
  obtain ⟨mk, hnamed⟩ := Cond.code_named hcode
  obtain ⟨methM, cM, hmethM, -, -, -, -, -, -, hsigM⟩ := Cond.code_spec hnamed hcode
  have hstatic : methM.isStatic = true := Cond.static_spec hnamed hmethM hstat
  obtain ⟨kP, hkP, -⟩ := className_of_methodNamed hnamed
  have hinitP : kP.init = .initialized := Cond.initialized_spec (findClass_of_methodNamed hnamed) hkP hinit
  obtain ⟨vm₁, X₁, hstep₁⟩ := X.invokestatic hexec hown hlink hnamed hmethM hstatic hkP hinitP hy (g := g) hg (argsL := argsL) (rest := rest) (hlen _ hsigM) hstack hdg
  rcases hK m meth c ⟨T.setVm vm₁, locs, cells, slots⟩ { g with stack := rest } (.invokestatic index) mk argsL.toArray X₁ hg hsize hdg hW (X₁.named hnamed) (hpre vm₁ X₁.warmed) with ⟨v, B, X', hpost, hsteps⟩ | ⟨q, B, X', hpost, hsteps⟩
  · exact Or.inl ⟨v, vm₁, B, X₁.warmed, X', hpost, fun target h => hstep₁ _ fun acts => by rw [doInvoke_state]; exact hsteps.trans h⟩
  · exact Or.inr ⟨q, vm₁, B, X₁.warmed, X', hpost, hstep₁ _ fun acts => by rw [doInvoke_state]; exact hsteps⟩
end Calls
theorem vx_cls {s : State} {T : State} {vm₁ : Vm} {E : String} {k : ClassId} (hW : s.WarmedH vm₁) (h : (T.setVm vm₁).vm.findClass E = some k) : s.vm.findClass E = some k := by
  have h1 : vm₁.findClass E = some k := h
  rw [hW.alike.findClass] at h1
  exact h1
/-- the method's frame g, with q thrown over it -/
def vx_W (p : Program) (l : Launch) (e : Env) (R : Room) (s : State) (m : MethodId) (args : Array Value) (below : List Frame) (meth : Method) (c : Code) (H : Heap) (locs : List Loc) (cells slots : Nat) (Q : State → Prop) (g : JFrame) (q : Addr) : Prop :=
  ∀ T : State, T.heap = H → Stand p l e R s m args below meth c T locs cells slots → ∃ t, Steps p.tables e below ((T.setTop g).pushFrame (.throwing q)) t ∧ Q t
def vx_Run (p : Program) (l : Launch) (e : Env) (R : Room) (s : State) (m : MethodId) (args : Array Value) (below : List Frame) (meth : Method) (c : Code) (H : Heap) (locs : List Loc) (cells slots mc ms : Nat) (g : JFrame) (rest : List Value) (Qa : State → Outcome → State → Prop) (XC : String → State → State → Prop) (free : Addr → Prop) : Prop :=
  ∀ T : State, T.heap = H → Stand p l e R s m args below meth c T locs cells slots →
    (∃ (v : Option Value) (st₀ t T' : State) (L : List Loc), st₀.heap = H ∧ Stand p l e R s m args below meth c T' (locs ++ L) (cells + mc) (slots + ms) ∧ (∀ q ∈ L, free q.base) ∧ T'.heap = t.heap ∧ T'.vm = t.vm ∧ Qa st₀ (.returned v) t ∧
      Goes p e below T g T' { g with pc := g.pc + 3, stack := v.toList ++ rest }) ∨
    (∃ (q : Addr) (st₀ t T' : State) (L : List Loc) (E : String) (ce : Cell), st₀.heap = H ∧ Stand p l e R s m args below meth c T' (locs ++ L) (cells + mc) (slots + ms) ∧ (∀ z ∈ L, free z.base) ∧ T'.heap = t.heap ∧ T'.vm = t.vm ∧ XC E st₀ t ∧ t.heap[q]? = some ce ∧ ce.vm = .none ∧ s.vm.findClass E = some ce.cls ∧
      Steps p.tables e below (T.setTop g) ((T'.setTop { g with stack := rest }).pushFrame (.throwing q)))
def vx_X {S : Type} (px : S → Prop) (B : String → S → State → Prop) (A : Nat → Prop) : String → State → State → Prop := fun E st t => ∃ u : S, px u ∧ B E u t ∧ va_F A st t
section Runs
variable {p : Program} {l : Launch} {e : Env} {R : Room} {s : State} {m : MethodId} {args : Array Value} {below : List Frame} {meth : Method} {c : Code} {H : Heap} {locs : List Loc} {cells slots : Nat}
variable {y : MethodName} {bytes cc : ByteArray} {maxL nL mc ms n index : Nat} {ret : Option FieldType} {ws : List Cond} {rm : Room} {Pc : Array Value → State → Prop} {Qc : Array Value → State → Outcome → State → Prop} {XC : String → State → State → Prop} {free : Addr → Prop} {Ts : List Cond} {own C : String} {b : Addr} {As rest : List Value} {g : JFrame}
theorem vx_callBack (cb : CallB R s args own index y bytes maxL ret ws rm mc ms n) (hM : vx_Met l y ws rm Pc Qc XC mc ms free) (hbl : FrameBlind Pc) : vx_Back l R p e below s args y 3 8 (PreOf R mc ms Pc) (PostOf Qc mc ms free) (vx_Post XC mc ms free) := by
  obtain ⟨hrc, hrs, hfr, hlo, hws, hcw, -, hini, -⟩ := cb
  exact vx_back (bytes := bytes) (maxL := maxL) (ret := ret) hM hbl hrc hrs hfr hlo hws hcw (fun a' U hW => word_at hW (Or.inl (by first | rfl | simp [Cond.onTables, Cond.keeps, Cond.steady])) hini)
theorem vx_runV (S : CallFix p m c cc nL s args Ts own) (hM : vx_Met l y ws rm Pc Qc XC mc ms free) (cw : CallW R s args own C index y bytes maxL ret ws rm mc ms n) (hp : PreV s H C b Pc As)
    (hg : g.method = m) (hn : As.length = n) (hsize : g.locals.size = nL) (hstack : g.stack = As.reverse ++ .ref b :: rest) (hW : 2 * g.monitorRoom + (rest.map fun v => v.category).sum ≤ 8) (hdg : decode cc g.pc = .ok (.invokevirtual index, 3)) (hf : cells + mc ≤ R.cells ∧ slots + ms ≤ R.slots) :
    vx_Run p l e R s m args below meth c H locs cells slots mc ms g rest (Qc (Value.ref b :: As).toArray) XC free := by
  have hK : vx_Back l R p e below s args y 3 8 (PreOf R mc ms Pc) (PostOf Qc mc ms free) (vx_Post XC mc ms free) := vx_callBack cw.1 hM hp.1
  obtain ⟨⟨-, -, -, -, -, -, hcode, -, hy, hlen, hl⟩, hin, hse⟩ := cw
  obtain ⟨hx, hb, hml, ho, -⟩ := S
  obtain ⟨-, ⟨cellB, hcB, hoB, hclB⟩, hPc⟩ := hp
  intro T hT X
  rcases vx_callV X hx (C := C) (bytes := bytes) (maxL := maxL) (ret := ret) ho hl hin hse hcode hy hK (by rw [hT]; exact hcB) hoB hclB hg (hsize.trans hml.symm) (argsL := As) (rest := rest) (fun sig h => hn.trans (hlen sig h)) hstack hW (by rw [hb]; exact hdg)
    (fun vm₁ hW₁ => ⟨hf.1, hf.2, hPc (T.setVm vm₁) hT hW₁⟩) with ⟨v, vm₁, ⟨U', l2, c2, s2⟩, hW₁, X', ⟨g', mk, t, L, e1, e2, hq, h1, hL, h2, h3⟩, st⟩ | ⟨q, vm₁, ⟨U', l2, c2, s2⟩, hW₁, X', ⟨g', mk, t, L, E, ce, e1, e2, hq, hce, hcv, hcl, h1, hL, h2, h3⟩, st⟩
  · dsimp only [Pt.U, Pt.locs, Pt.cells, Pt.slots] at X' e1 e2 h1 h2 h3 st
    subst h1; subst h2; subst h3
    exact Or.inl ⟨v, (T.setVm vm₁).calling g' mk (Value.ref b :: As).toArray, t, U', L, hT, X', hL, e1, e2, hq, st⟩
  · dsimp only [Pt.U, Pt.locs, Pt.cells, Pt.slots] at X' e1 e2 h1 h2 h3 st hcl
    subst h1; subst h2; subst h3
    exact Or.inr ⟨q, (T.setVm vm₁).calling g' mk (Value.ref b :: As).toArray, t, U', L, E, ce, hT, X', hL, e1, e2, hq, hce, hcv, vx_cls hW₁ hcl, st⟩
theorem vx_runS (S : CallFix p m c cc nL s args Ts own) (hM : vx_Met l y ws rm Pc Qc XC mc ms free) (cw : CallB R s args own index y bytes maxL ret ws rm mc ms n ∧ (Cond.static y).before args s = true) (hp : PreS s H Pc As)
    (hg : g.method = m) (hn : As.length = n) (hsize : g.locals.size = nL) (hstack : g.stack = As.reverse ++ rest) (hW : 2 * g.monitorRoom + (rest.map fun v => v.category).sum ≤ 8) (hdg : decode cc g.pc = .ok (.invokestatic index, 3)) (hf : cells + mc ≤ R.cells ∧ slots + ms ≤ R.slots) :
    vx_Run p l e R s m args below meth c H locs cells slots mc ms g rest (Qc As.toArray) XC free := by
  have hK : vx_Back l R p e below s args y 3 8 (PreOf R mc ms Pc) (PostOf Qc mc ms free) (vx_Post XC mc ms free) := vx_callBack cw.1 hM hp.1
  obtain ⟨⟨-, -, -, -, -, -, hcode, hini, hy, hlen, hl⟩, hstt⟩ := cw
  obtain ⟨hx, hb, hml, ho, -⟩ := S
  intro T hT X
  rcases vx_callS X hx (bytes := bytes) (maxL := maxL) (ret := ret) ho hl hstt hini hcode hy hK hg (hsize.trans hml.symm) (argsL := As) (rest := rest) (fun sig h => hn.trans (hlen sig h)) hstack hW (by rw [hb]; exact hdg)
    (fun vm₁ hW₁ => ⟨hf.1, hf.2, hp.2 (T.setVm vm₁) hT hW₁⟩) with ⟨v, vm₁, ⟨U', l2, c2, s2⟩, hW₁, X', ⟨g', mk, t, L, e1, e2, hq, h1, hL, h2, h3⟩, st⟩ | ⟨q, vm₁, ⟨U', l2, c2, s2⟩, hW₁, X', ⟨g', mk, t, L, E, ce, e1, e2, hq, hce, hcv, hcl, h1, hL, h2, h3⟩, st⟩
  · dsimp only [Pt.U, Pt.locs, Pt.cells, Pt.slots] at X' e1 e2 h1 h2 h3 st
    subst h1; subst h2; subst h3
    exact Or.inl ⟨v, (T.setVm vm₁).calling g' mk As.toArray, t, U', L, hT, X', hL, e1, e2, hq, st⟩
  · dsimp only [Pt.U, Pt.locs, Pt.cells, Pt.slots] at X' e1 e2 h1 h2 h3 st hcl
    subst h1; subst h2; subst h3
    exact Or.inr ⟨q, (T.setVm vm₁).calling g' mk As.toArray, t, U', L, E, ce, hT, X', hL, e1, e2, hq, hce, hcv, vx_cls hW₁ hcl, st⟩
end Runs
section Rows
variable {p : Program} {l : Launch} {e : Env} {R : Room} {s : State} {m : MethodId} {args : Array Value} {below : List Frame} {meth : Method} {c : Code} {H : Heap} {locs : List Loc} {cells slots : Nat} {Q : State → Prop}
variable {mc ms : Nat} {free : Addr → Prop} {A0 A1 : Nat → Prop} {H0 : Heap} {a : Array Value} {pc : Nat} {ls : Array Slot} {st0 rest : List Value}
theorem vx_keep {st₀ t T' : State} {L : List Loc} (h0 : st₀.heap = H) (e1 : T'.heap = t.heap) (hS : va_S A0 H0 H locs) (hA : ∀ q, q < H.size → A1 q → A0 q) (hf : ∀ q, free q → A0 q) (hL : ∀ q ∈ L, free q.base) (hF : va_F A1 st₀ t) :
    H.size ≤ T'.heap.size ∧ (∀ q : Nat, q < H.size → ¬ A1 q → T'.heap[q]? = H[q]?) ∧ va_S A0 H0 T'.heap (locs ++ L) := by
  obtain ⟨hz, hk⟩ := hF
  rw [h0] at hz hk
  exact ⟨by rw [e1]; exact hz, fun q h1 h2 => by rw [e1]; exact hk q h1 h2,
    ⟨Nat.le_trans hS.1 (by rw [e1]; exact hz), fun q h1 h2 => by rw [e1, hk q (Nat.lt_of_lt_of_le h1 hS.1) (fun z => h2 (hA q (Nat.lt_of_lt_of_le h1 hS.1) z))]; exact hS.2.1 q h1 h2, fun q hq => by
      rcases List.mem_append.mp hq with h | h
      · exact hS.2.2 q h
      · exact hf _ (hL q h)⟩⟩
theorem vx_calli {S SX : Type} {post : Int32 → S → Prop} {px : SX → Prop} {B : S → State → Prop} {BX : String → SX → State → Prop} {AX : Nat → Prop} (hr : vx_Run p l e R s m args below meth c H locs cells slots mc ms (F0 m pc ls st0) rest (va_Qi post B A1 a) (vx_X px BX AX) free) (hS : va_S A0 H0 H locs) (hA : ∀ q, q < H.size → A1 q → A0 q) (hf : ∀ q, free q → A0 q) (hAX : ∀ q, q < H.size → AX q → A0 q)
    (kx : ∀ (E : String) (ce : Cell) (q9 : Addr) (u : SX) (t : State) (H1 : Heap) (locs1 : List Loc), t.heap = H1 → s.vm.Alike t.vm → px u → BX E u t → H.size ≤ H1.size → (∀ q : Nat, q < H.size → ¬ AX q → H1[q]? = H[q]?) → va_S A0 H0 H1 locs1 → H1[q9]? = some ce → ce.vm = .none → s.vm.findClass E = some ce.cls → vx_W p l e R s m args below meth c H1 locs1 (cells + mc) (slots + ms) Q (F0 m pc ls rest) q9)
    (kk : ∀ (r : Int32) (u : S) (t : State) (H1 : Heap) (locs1 : List Loc), t.heap = H1 → s.vm.Alike t.vm → post r u → B u t → H.size ≤ H1.size → (∀ q : Nat, q < H.size → ¬ A1 q → H1[q]? = H[q]?) → va_S A0 H0 H1 locs1 → W p l e R s m args below meth c H1 locs1 (cells + mc) (slots + ms) Q (F0 m (pc + 3) ls (.int r :: rest))) : W p l e R s m args below meth c H locs cells slots Q (F0 m pc ls st0) := by
  intro T hT X
  rcases hr T hT X with ⟨v, st₀, t, T', L, h0, X', hL, e1, e2, ⟨⟨r, u, hv, hp, hb⟩, hF⟩, st⟩ | ⟨q, st₀, t, T', L, E, ce, h0, X', hL, e1, e2, ⟨u, hp, hb, hF⟩, hce, hcv, hcl, st⟩
  · cases hv
    obtain ⟨k1, k2, k3⟩ := vx_keep h0 e1 hS hA hf hL hF
    obtain ⟨t2, a1, b1⟩ := kk r u t T'.heap (locs ++ L) e1.symm (by rw [← e2]; exact X'.warmed.alike) hp hb k1 k2 k3 T' rfl X'
    exact ⟨t2, st t2 a1, b1⟩
  · obtain ⟨k1, k2, k3⟩ := vx_keep h0 e1 hS hAX hf hL hF
    obtain ⟨t2, a1, b1⟩ := kx E ce q u t T'.heap (locs ++ L) e1.symm (by rw [← e2]; exact X'.warmed.alike) hp hb k1 k2 k3 (by rw [e1]; exact hce) hcv hcl T' rfl X'
    exact ⟨t2, st.trans a1, b1⟩
theorem vx_calll {S SX : Type} {post : Int64 → S → Prop} {px : SX → Prop} {B : S → State → Prop} {BX : String → SX → State → Prop} {AX : Nat → Prop} (hr : vx_Run p l e R s m args below meth c H locs cells slots mc ms (F0 m pc ls st0) rest (va_Ql post B A1 a) (vx_X px BX AX) free) (hS : va_S A0 H0 H locs) (hA : ∀ q, q < H.size → A1 q → A0 q) (hf : ∀ q, free q → A0 q) (hAX : ∀ q, q < H.size → AX q → A0 q)
    (kx : ∀ (E : String) (ce : Cell) (q9 : Addr) (u : SX) (t : State) (H1 : Heap) (locs1 : List Loc), t.heap = H1 → s.vm.Alike t.vm → px u → BX E u t → H.size ≤ H1.size → (∀ q : Nat, q < H.size → ¬ AX q → H1[q]? = H[q]?) → va_S A0 H0 H1 locs1 → H1[q9]? = some ce → ce.vm = .none → s.vm.findClass E = some ce.cls → vx_W p l e R s m args below meth c H1 locs1 (cells + mc) (slots + ms) Q (F0 m pc ls rest) q9)
    (kk : ∀ (r : Int64) (u : S) (t : State) (H1 : Heap) (locs1 : List Loc), t.heap = H1 → s.vm.Alike t.vm → post r u → B u t → H.size ≤ H1.size → (∀ q : Nat, q < H.size → ¬ A1 q → H1[q]? = H[q]?) → va_S A0 H0 H1 locs1 → W p l e R s m args below meth c H1 locs1 (cells + mc) (slots + ms) Q (F0 m (pc + 3) ls (.long r :: rest))) : W p l e R s m args below meth c H locs cells slots Q (F0 m pc ls st0) := by
  intro T hT X
  rcases hr T hT X with ⟨v, st₀, t, T', L, h0, X', hL, e1, e2, ⟨⟨r, u, hv, hp, hb⟩, hF⟩, st⟩ | ⟨q, st₀, t, T', L, E, ce, h0, X', hL, e1, e2, ⟨u, hp, hb, hF⟩, hce, hcv, hcl, st⟩
  · cases hv
    obtain ⟨k1, k2, k3⟩ := vx_keep h0 e1 hS hA hf hL hF
    obtain ⟨t2, a1, b1⟩ := kk r u t T'.heap (locs ++ L) e1.symm (by rw [← e2]; exact X'.warmed.alike) hp hb k1 k2 k3 T' rfl X'
    exact ⟨t2, st t2 a1, b1⟩
  · obtain ⟨k1, k2, k3⟩ := vx_keep h0 e1 hS hAX hf hL hF
    obtain ⟨t2, a1, b1⟩ := kx E ce q u t T'.heap (locs ++ L) e1.symm (by rw [← e2]; exact X'.warmed.alike) hp hb k1 k2 k3 (by rw [e1]; exact hce) hcv hcl T' rfl X'
    exact ⟨t2, st.trans a1, b1⟩
theorem vx_callf {S SX : Type} {post : UInt32 → S → Prop} {px : SX → Prop} {B : S → State → Prop} {BX : String → SX → State → Prop} {AX : Nat → Prop} (hr : vx_Run p l e R s m args below meth c H locs cells slots mc ms (F0 m pc ls st0) rest (va_Qf post B A1 a) (vx_X px BX AX) free) (hS : va_S A0 H0 H locs) (hA : ∀ q, q < H.size → A1 q → A0 q) (hf : ∀ q, free q → A0 q) (hAX : ∀ q, q < H.size → AX q → A0 q)
    (kx : ∀ (E : String) (ce : Cell) (q9 : Addr) (u : SX) (t : State) (H1 : Heap) (locs1 : List Loc), t.heap = H1 → s.vm.Alike t.vm → px u → BX E u t → H.size ≤ H1.size → (∀ q : Nat, q < H.size → ¬ AX q → H1[q]? = H[q]?) → va_S A0 H0 H1 locs1 → H1[q9]? = some ce → ce.vm = .none → s.vm.findClass E = some ce.cls → vx_W p l e R s m args below meth c H1 locs1 (cells + mc) (slots + ms) Q (F0 m pc ls rest) q9)
    (kk : ∀ (r : UInt32) (u : S) (t : State) (H1 : Heap) (locs1 : List Loc), t.heap = H1 → s.vm.Alike t.vm → post r u → B u t → H.size ≤ H1.size → (∀ q : Nat, q < H.size → ¬ A1 q → H1[q]? = H[q]?) → va_S A0 H0 H1 locs1 → W p l e R s m args below meth c H1 locs1 (cells + mc) (slots + ms) Q (F0 m (pc + 3) ls (.float r :: rest))) : W p l e R s m args below meth c H locs cells slots Q (F0 m pc ls st0) := by
  intro T hT X
  rcases hr T hT X with ⟨v, st₀, t, T', L, h0, X', hL, e1, e2, ⟨⟨r, u, hv, hp, hb⟩, hF⟩, st⟩ | ⟨q, st₀, t, T', L, E, ce, h0, X', hL, e1, e2, ⟨u, hp, hb, hF⟩, hce, hcv, hcl, st⟩
  · cases hv
    obtain ⟨k1, k2, k3⟩ := vx_keep h0 e1 hS hA hf hL hF
    obtain ⟨t2, a1, b1⟩ := kk r u t T'.heap (locs ++ L) e1.symm (by rw [← e2]; exact X'.warmed.alike) hp hb k1 k2 k3 T' rfl X'
    exact ⟨t2, st t2 a1, b1⟩
  · obtain ⟨k1, k2, k3⟩ := vx_keep h0 e1 hS hAX hf hL hF
    obtain ⟨t2, a1, b1⟩ := kx E ce q u t T'.heap (locs ++ L) e1.symm (by rw [← e2]; exact X'.warmed.alike) hp hb k1 k2 k3 (by rw [e1]; exact hce) hcv hcl T' rfl X'
    exact ⟨t2, st.trans a1, b1⟩
theorem vx_calld {S SX : Type} {post : UInt64 → S → Prop} {px : SX → Prop} {B : S → State → Prop} {BX : String → SX → State → Prop} {AX : Nat → Prop} (hr : vx_Run p l e R s m args below meth c H locs cells slots mc ms (F0 m pc ls st0) rest (va_Qd post B A1 a) (vx_X px BX AX) free) (hS : va_S A0 H0 H locs) (hA : ∀ q, q < H.size → A1 q → A0 q) (hf : ∀ q, free q → A0 q) (hAX : ∀ q, q < H.size → AX q → A0 q)
    (kx : ∀ (E : String) (ce : Cell) (q9 : Addr) (u : SX) (t : State) (H1 : Heap) (locs1 : List Loc), t.heap = H1 → s.vm.Alike t.vm → px u → BX E u t → H.size ≤ H1.size → (∀ q : Nat, q < H.size → ¬ AX q → H1[q]? = H[q]?) → va_S A0 H0 H1 locs1 → H1[q9]? = some ce → ce.vm = .none → s.vm.findClass E = some ce.cls → vx_W p l e R s m args below meth c H1 locs1 (cells + mc) (slots + ms) Q (F0 m pc ls rest) q9)
    (kk : ∀ (r : UInt64) (u : S) (t : State) (H1 : Heap) (locs1 : List Loc), t.heap = H1 → s.vm.Alike t.vm → post r u → B u t → H.size ≤ H1.size → (∀ q : Nat, q < H.size → ¬ A1 q → H1[q]? = H[q]?) → va_S A0 H0 H1 locs1 → W p l e R s m args below meth c H1 locs1 (cells + mc) (slots + ms) Q (F0 m (pc + 3) ls (.double r :: rest))) : W p l e R s m args below meth c H locs cells slots Q (F0 m pc ls st0) := by
  intro T hT X
  rcases hr T hT X with ⟨v, st₀, t, T', L, h0, X', hL, e1, e2, ⟨⟨r, u, hv, hp, hb⟩, hF⟩, st⟩ | ⟨q, st₀, t, T', L, E, ce, h0, X', hL, e1, e2, ⟨u, hp, hb, hF⟩, hce, hcv, hcl, st⟩
  · cases hv
    obtain ⟨k1, k2, k3⟩ := vx_keep h0 e1 hS hA hf hL hF
    obtain ⟨t2, a1, b1⟩ := kk r u t T'.heap (locs ++ L) e1.symm (by rw [← e2]; exact X'.warmed.alike) hp hb k1 k2 k3 T' rfl X'
    exact ⟨t2, st t2 a1, b1⟩
  · obtain ⟨k1, k2, k3⟩ := vx_keep h0 e1 hS hAX hf hL hF
    obtain ⟨t2, a1, b1⟩ := kx E ce q u t T'.heap (locs ++ L) e1.symm (by rw [← e2]; exact X'.warmed.alike) hp hb k1 k2 k3 (by rw [e1]; exact hce) hcv hcl T' rfl X'
    exact ⟨t2, st.trans a1, b1⟩
theorem vx_callv {S SX : Type} {post : S → Prop} {px : SX → Prop} {B : S → State → Prop} {BX : String → SX → State → Prop} {AX : Nat → Prop} (hr : vx_Run p l e R s m args below meth c H locs cells slots mc ms (F0 m pc ls st0) rest (va_Qv post B A1 a) (vx_X px BX AX) free) (hS : va_S A0 H0 H locs) (hA : ∀ q, q < H.size → A1 q → A0 q) (hf : ∀ q, free q → A0 q) (hAX : ∀ q, q < H.size → AX q → A0 q)
    (kx : ∀ (E : String) (ce : Cell) (q9 : Addr) (u : SX) (t : State) (H1 : Heap) (locs1 : List Loc), t.heap = H1 → s.vm.Alike t.vm → px u → BX E u t → H.size ≤ H1.size → (∀ q : Nat, q < H.size → ¬ AX q → H1[q]? = H[q]?) → va_S A0 H0 H1 locs1 → H1[q9]? = some ce → ce.vm = .none → s.vm.findClass E = some ce.cls → vx_W p l e R s m args below meth c H1 locs1 (cells + mc) (slots + ms) Q (F0 m pc ls rest) q9)
    (kk : ∀ (u : S) (t : State) (H1 : Heap) (locs1 : List Loc), t.heap = H1 → s.vm.Alike t.vm → post u → B u t → H.size ≤ H1.size → (∀ q : Nat, q < H.size → ¬ A1 q → H1[q]? = H[q]?) → va_S A0 H0 H1 locs1 → W p l e R s m args below meth c H1 locs1 (cells + mc) (slots + ms) Q (F0 m (pc + 3) ls (rest))) : W p l e R s m args below meth c H locs cells slots Q (F0 m pc ls st0) := by
  intro T hT X
  rcases hr T hT X with ⟨v, st₀, t, T', L, h0, X', hL, e1, e2, ⟨⟨u, hv, hp, hb⟩, hF⟩, st⟩ | ⟨q, st₀, t, T', L, E, ce, h0, X', hL, e1, e2, ⟨u, hp, hb, hF⟩, hce, hcv, hcl, st⟩
  · cases hv
    obtain ⟨k1, k2, k3⟩ := vx_keep h0 e1 hS hA hf hL hF
    obtain ⟨t2, a1, b1⟩ := kk u t T'.heap (locs ++ L) e1.symm (by rw [← e2]; exact X'.warmed.alike) hp hb k1 k2 k3 T' rfl X'
    exact ⟨t2, st t2 a1, b1⟩
  · obtain ⟨k1, k2, k3⟩ := vx_keep h0 e1 hS hAX hf hL hF
    obtain ⟨t2, a1, b1⟩ := kx E ce q u t T'.heap (locs ++ L) e1.symm (by rw [← e2]; exact X'.warmed.alike) hp hb k1 k2 k3 (by rw [e1]; exact hce) hcv hcl T' rfl X'
    exact ⟨t2, st.trans a1, b1⟩
/-- caught by the row x of this method's table; the rows ahead don't take it -/
theorem vx_catch {own name : String} {E : String} {ce : Cell} {q : Addr} (hown : s.vm.findClass own = some m.cls) (pre : List ExceptionTableEntry) (x : ExceptionTableEntry) (suf : List ExceptionTableEntry) (hsplit : c.exceptionTable.toList = pre ++ x :: suf)
    (hpass : ∀ z ∈ pre, covers z pc = false ∨ (z.catchType ≠ 0 ∧ ∃ nm : String, (Cond.classLink own z.catchType nm).before args s = true ∧ va_Nc E nm s)) (hx : covers x pc = true) (h0 : x.catchType ≠ 0)
    (hlink : (Cond.classLink own x.catchType name).before args s = true) (hcast : (Cond.castable E name).before args s = true) (hcell : H[q]? = some ce) (hv : ce.vm = .none) (hcl : s.vm.findClass E = some ce.cls)
    (kk : W p l e R s m args below meth c H locs cells slots Q (F0 m x.handlerPc ls [.ref q])) : vx_W p l e R s m args below meth c H locs cells slots Q (F0 m pc ls rest) q := by
  intro T hT X
  have hpl : e.platform.magicAccessors = ({} : Platform).magicAccessors := by rw [X.admits.platform]
  obtain ⟨c3, c4, hc3, hc4, hasg⟩ := Cond.castable_spec hcast
  cases Option.some.inj (hc3.symm.trans hcl)
  obtain ⟨c5, hc5, hcl5⟩ := Cond.classLink_spec hown hlink e.platform hpl
  cases Option.some.inj (hc4.symm.trans hc5)
  obtain ⟨vm', X', st⟩ := X.thenCaughtThrough q (g := F0 m pc ls rest) rfl (Steps.refl _) (by rw [hT]; exact hcell) (by rw [hv]; rfl) (by obtain ⟨k9, h9, -⟩ := Vm.findClass_spec hcl; exact ⟨k9, h9⟩) pre x suf hsplit
    (fun z hz => by
      rcases hpass z hz with h | ⟨hz0, nm, hl1, hn1⟩
      · exact Or.inl h
      · obtain ⟨c6, hc6, hcl6⟩ := Cond.classLink_spec hown hl1 e.platform hpl
        obtain ⟨a8, b8, h1, h2, h3⟩ := hn1
        cases Option.some.inj (h1.symm.trans hcl)
        cases Option.some.inj (h2.symm.trans hc6)
        exact Or.inr ⟨hz0, _, hcl6, h3⟩) hx (Or.inr ⟨h0, c4, hcl5, hasg⟩)
  obtain ⟨t, a1, b1⟩ := kk (T.setVm vm') hT X'
  exact ⟨t, st.trans a1, b1⟩
end Rows
section Ends
variable {p : Program} {l : Launch} {e : Env} {R : Room} {s : State} {m : MethodId} {args : Array Value} {below : List Frame} {meth : Method} {c : Code} {H : Heap} {locs : List Loc} {cells slots : Nat} {Q : State → Prop}
variable {mc ms : Nat} {free : Addr → Prop} {A0 A1 : Nat → Prop} {H0 : Heap} {a : Array Value} {ls : Array Slot} {st0 rest : List Value}
variable {Qc : Array Value → State → Outcome → State → Prop} {XC : String → State → State → Prop}
/-- what a body that may throw owes at its end -/
def vx_MQ (below : List Frame) (Qc : Array Value → State → Outcome → State → Prop) (XC : String → State → State → Prop) (a : Array Value) (s : State) (mc ms : Nat) (free : Addr → Prop) : State → Prop := fun t =>
  ∃ o, t.status = .running ∧ Ended t below o ∧ vx_Q Qc XC mc ms free a s o t
theorem vx_ret {g : JFrame} {mc ms : Nat} (k : W p l e R s m args below meth c H locs cells slots (MQ below Qc args s mc ms free) g) : W p l e R s m args below meth c H locs cells slots (vx_MQ below Qc XC args s mc ms free) g := by
  intro T hT X
  obtain ⟨t, a1, o, b1, b2, b3, b4⟩ := k T hT X
  exact ⟨t, a1, o, b1, b2, Or.inl ⟨b3, b4⟩⟩
/-- not caught here: it goes on to the caller -/
theorem vx_widen {g : JFrame} {q : Addr} {k n : Nat} (h1 : cells ≤ k) (h2 : slots ≤ n) (kk : vx_W p l e R s m args below meth c H locs k n Q g q) : vx_W p l e R s m args below meth c H locs cells slots Q g q := fun T hT X => kk T hT (stand_widen X h1 h2)
theorem vx_out {pc : Nat} {E : String} {ce : Cell} {q : Addr} {mc ms : Nat} (hout : ∀ x ∈ c.exceptionTable.toList, covers x pc = false) (hlocks : meth.locks = false) (hcell : H[q]? = some ce) (hv : ce.vm = .none) (hcl : s.vm.findClass E = some ce.cls)
    (hx : ∀ t : State, t.heap = H → s.vm.Alike t.vm → XC E s t) (hf : ∀ z ∈ locs, free z.base) (hc : cells ≤ mc) (hs : slots ≤ ms) :
    vx_W p l e R s m args below meth c H locs cells slots (vx_MQ below Qc XC args s mc ms free) (F0 m pc ls rest) q := by
  intro T hT X
  obtain ⟨st1, hrun, hend, hW, hsm⟩ := X.leaveThrown q (g := F0 m pc ls rest) rfl rfl rfl hout hlocks
  have hcell9 : (T.setFrames (.throwing q :: below)).heap[q]? = some ce := by
    show T.heap[q]? = some ce
    rw [hT]; exact hcell
  exact ⟨_, st1, .threw q, hrun, hend, Or.inr ⟨q, rfl, E, ce, locs, hx _ hT hW.alike, hcell9, hv, hcl, hW, hsm.mono hc hs, hf⟩⟩
theorem vx_frame {U : State} {k n : Nat} (h : s.sameButNew ({ U with vm := s.vm } : State) locs k n) : s.heap.size ≤ U.heap.size ∧ ∀ q : Nat, q < s.heap.size → (∀ z ∈ locs, z.base ≠ q) → U.heap[q]? = s.heap[q]? := by
  obtain ⟨-, h2, -, -, -, h6⟩ := h
  refine ⟨h2, fun q hq hz => ?_⟩
  obtain ⟨c9, e1, e2, e3, e4⟩ := h6 q _ (Array.getElem?_eq_getElem hq)
  have hs : c9.slots = (s.heap[q]).slots := Array.ext_getElem? fun i => e4 i fun hm => hz _ hm rfl
  have h9 : c9 = s.heap[q] := by
    rw [hs] at e2
    exact e2
  have e5 : U.heap[q]? = some c9 := e1
  rw [e5, h9, Array.getElem?_eq_getElem hq]
/-- the words of a throw but the four that speak of the heap -/
def vx_no (w : Cond) : Bool := decide (w ≠ .isRef (.static Bundle.tN "UNASSIGNED_STACK" Bundle.steD)) && decide (w ≠ .isRef (.static Bundle.tN "SUPPRESSED_SENTINEL" Bundle.listD)) && decide (w ≠ .laysStatic Bundle.tN "UNASSIGNED_STACK" Bundle.steD) && decide (w ≠ .laysStatic Bundle.tN "SUPPRESSED_SENTINEL" Bundle.listD)
def vx_at0 (own : String) (ic : Nat) (X : String) (names : List String) : List Cond := (Bundle.ownAtoms0 own ic X names).filter vx_no
def vx_atS (own : String) (ic : Nat) (X : String) (names : List String) : List Cond := (Bundle.ownAtoms own ic X names).filter vx_no
/-- a word that the tables alone decide, or a good one -/
def vx_ot (w : Cond) : Bool := w.onTables || goodWord w
theorem vx_ot_at {args a' : Array Value} {s U : State} {w : Cond} (hW : s.WarmedH U.vm) (hvm : s.vm = U.vm) (hg : vx_ot w = true) (h : w.before args s = true) : w.before a' U = true := by
  simp only [vx_ot, Bool.or_eq_true] at hg
  rcases hg with hg | hg
  · exact va_tabs hg hvm h
  · exact word_at hW (good_of_word hg) h
/-- a list's words: the good ones out of the method's own list, the others by premises of their own -/
theorem vx_hat {args : Array Value} {s : State} {L B : List Cond} (h1 : ∀ w ∈ L.filter goodWord, w.before args s = true) (h2 : ∀ w ∈ L.filter (fun w => !goodWord w), w ∈ B) (h3 : ∀ w ∈ B, w.before args s = true) : ∀ w ∈ L, w.before args s = true := by
  intro w hw
  by_cases g : goodWord w = true
  · exact h1 w (List.mem_filter.mpr ⟨hw, g⟩)
  · refine h3 w (h2 w (List.mem_filter.mpr ⟨hw, ?_⟩))
    show (!goodWord w) = true
    cases hgw : goodWord w
    · rfl
    · exact absurd hgw g
theorem vx_c {args : Array Value} {s : State} {w : Cond} {B : List Cond} (h : w.before args s = true) (t : ∀ w ∈ B, w.before args s = true) : ∀ w' ∈ w :: B, w'.before args s = true := fun w' h' => (List.mem_cons.mp h').elim (fun e => by rw [e]; exact h) (t w')
theorem vx_n {args : Array Value} {s : State} : ∀ w ∈ ([] : List Cond), w.before args s = true := fun _ h => nomatch h
theorem vx_own {args : Array Value} {s : State} {L : List Cond} (h1 : ∀ w ∈ L.filter vx_no, w.before args s = true)
    (hU : (Cond.isRef (.static Bundle.tN "UNASSIGNED_STACK" Bundle.steD)).before args s = true) (hN : (Cond.isRef (.static Bundle.tN "SUPPRESSED_SENTINEL" Bundle.listD)).before args s = true)
    (lU : (Cond.laysStatic Bundle.tN "UNASSIGNED_STACK" Bundle.steD).before args s = true) (lN : (Cond.laysStatic Bundle.tN "SUPPRESSED_SENTINEL" Bundle.listD).before args s = true) : ∀ w ∈ L, w.before args s = true := by
  intro w hw
  by_cases e1 : w = .isRef (.static Bundle.tN "UNASSIGNED_STACK" Bundle.steD)
  · rw [e1]; exact hU
  · by_cases e2 : w = .isRef (.static Bundle.tN "SUPPRESSED_SENTINEL" Bundle.listD)
    · rw [e2]; exact hN
    · by_cases e3 : w = .laysStatic Bundle.tN "UNASSIGNED_STACK" Bundle.steD
      · rw [e3]; exact lU
      · by_cases e4 : w = .laysStatic Bundle.tN "SUPPRESSED_SENTINEL" Bundle.listD
        · rw [e4]; exact lN
        · exact h1 w (List.mem_filter.mpr ⟨hw, by unfold vx_no; rw [decide_eq_true e1, decide_eq_true e2, decide_eq_true e3, decide_eq_true e4]; rfl⟩)
/-- where a static field lies, its class's statics cell in H -/
def vx_L (C n d : String) (A : Nat → Prop) (U : State) (H : Heap) : Prop := ∃ (c : ClassId) (k : Class) (i : Nat) (f : Field) (a : Nat) (cell : Cell), U.vm.findClass C = some c ∧ U.fieldFound? C n d = some (c, k, i, f) ∧ f.isStatic = true ∧ k.statics = some a ∧ H[a]? = some cell ∧ cell.vm.isStatics = true ∧ cell.cls = c ∧ f.slot < cell.slots.size ∧ k.staticTypes[f.slot]? = some f.type ∧ ¬ A a
theorem vx_L.moved {C n d : String} {A : Nat → Prop} {u U : State} {H : Heap} (hvm : u.vm.Alike U.vm) (h : vx_L C n d A u H) : vx_L C n d A U H := by
  obtain ⟨c, k, i, f, a, cell, h1, h2, h3, h4, h5, h6, h7, h8, h9, h10⟩ := h
  obtain ⟨k', hi', he⟩ := State.fieldFound?_setVm hvm h2
  exact ⟨c, k', i, f, a, cell, by rw [hvm.findClass]; exact h1, hi', h3, by rw [he]; exact h4, h5, h6, h7, h8, by rw [he]; exact h9, h10⟩
theorem vx_L.kept {C n d : String} {A : Nat → Prop} {U : State} {H H1 : Heap} (h : vx_L C n d A U H) (hq : ∀ a : Nat, a < H.size → ¬ A a → H1[a]? = H[a]?) : vx_L C n d A U H1 := by
  obtain ⟨c, k, i, f, a, cell, h1, h2, h3, h4, h5, h6, h7, h8, h9, h10⟩ := h
  exact ⟨c, k, i, f, a, cell, h1, h2, h3, h4, by rw [hq a (Array.getElem?_eq_some_iff.mp h5).1 h10]; exact h5, h6, h7, h8, h9, h10⟩
theorem vx_L.narrow {C n d : String} {A B : Nat → Prop} {U : State} {H : Heap} (h : vx_L C n d A U H) (hAB : ∀ q, B q → A q) : vx_L C n d B U H := by
  obtain ⟨c, k, i, f, a, cell, h1, h2, h3, h4, h5, h6, h7, h8, h9, h10⟩ := h
  exact ⟨c, k, i, f, a, cell, h1, h2, h3, h4, h5, h6, h7, h8, h9, fun z => h10 (hAB _ z)⟩
theorem vx_L.word {C n d : String} {A : Nat → Prop} {s : State} {args : Array Value} (h : vx_L C n d A s s.heap) : (Cond.laysStatic C n d).before args s = true := by
  obtain ⟨c, k, i, f, a, cell, h1, h2, h3, h4, h5, h6, h7, h8, h9, -⟩ := h
  show (Cond.laysStatic C n d).holds args s none s [] = true
  exact Cond.laysStatic_of h1 h2 h3 h4 h5 h6 h7 h8 h9
/-- .. and what it holds: null or some reference -/
def vx_Zq (C n d : String) (A : Nat → Prop) (U : State) (H : Heap) : Prop := va_Zq C n d A U H ∧ vx_L C n d A U H
theorem vx_Zq.moved {C n d : String} {A : Nat → Prop} {u U : State} {H : Heap} (hvm : u.vm.Alike U.vm) (h : vx_Zq C n d A u H) : vx_Zq C n d A U H := ⟨va_Zq.moved hvm h.1, vx_L.moved hvm h.2⟩
theorem vx_Zq.kept {C n d : String} {A : Nat → Prop} {U : State} {H H1 : Heap} (h : vx_Zq C n d A U H) (hq : ∀ a : Nat, a < H.size → ¬ A a → H1[a]? = H[a]?) : vx_Zq C n d A U H1 := ⟨va_Zq.kept h.1 hq, vx_L.kept h.2 hq⟩
theorem vx_Zq.narrow {C n d : String} {A B : Nat → Prop} {U : State} {H : Heap} (h : vx_Zq C n d A U H) (hAB : ∀ q, B q → A q) : vx_Zq C n d B U H := ⟨va_Zq.narrow h.1 hAB, vx_L.narrow h.2 hAB⟩
theorem vx_Zqof {args : Array Value} {s : State} {C n d : String} {A : Nat → Prop} (hl : (Cond.laysStatic C n d).before args s = true) (hini : (Cond.initialized C).before args s = true) (h : (Cond.isRef (.static C n d)).before args s = true) (hA : ∀ a : Nat, a < s.heap.size → ¬ A a) : vx_Zq C n d A s s.heap := by
  refine ⟨va_Zqof hl hini h hA, ?_⟩
  obtain ⟨c, k, i, f, a, cell, h1, h2, h3, h4, h5, h6, h7, h8, h9⟩ := Cond.laysStatic_spec hl
  exact ⟨c, k, i, f, a, cell, h1, h2, h3, h4, h5, h6, h7, h8, h9, hA a (Array.getElem?_eq_some_iff.mp h5).1⟩
theorem vx_isRef {C n d : String} {v : Value} {A : Nat → Prop} {s : State} {args : Array Value} (h : va_Z C n d v A s s.heap) (hv : v.isRef = true) : (Cond.isRef (.static C n d)).before args s = true := by
  obtain ⟨cf, kf, fi, f, a, cell, h1, h2, h3, h4, h5, h6, h7, -⟩ := h
  have he : (Term.static C n d).eval args s none [] s = some v := by
    simp [Term.eval, State.fieldNamed?, h1, h2, h4, h5, h6, h7]
  simp only [Cond.before, Cond.holds, Cond.value, he]
  cases v <;> simp_all [Value.isRef]
theorem vx_isRefq {C n d : String} {A : Nat → Prop} {s : State} {args : Array Value} (h : va_Zq C n d A s s.heap) : (Cond.isRef (.static C n d)).before args s = true := by
  rcases h with h | ⟨t, h⟩
  · exact vx_isRef h rfl
  · exact vx_isRef h rfl
/-- the same frame, seen from here: as if the method were called anew in this heap -/
theorem vx_rebase {T : State} (X : Stand p l e R s m args below meth c T locs cells slots) {R' : Room} (hf : R'.frames ≤ R.frames) (hl : R'.locals ≤ R.locals) (hc : cells + R'.cells ≤ R.cells) (hs : slots + R'.slots ≤ R.slots) :
    Stand p l e R' ((T.setVm s.vm).setFrames (.invoking m args :: below)) m args below meth c T [] 0 0 := by
  have htop : (T.setVm s.vm).topJava?.isSome := X.here.top
  have hF : ((T.setVm s.vm).setFrames (.invoking m args :: below)).frames = .invoking m args :: below := State.frames_setFrames _ (State.cur_lt_of_top htop)
  obtain ⟨g₀, hg0⟩ := Option.isSome_iff_exists.mp htop
  obtain ⟨r, hr⟩ := State.topJava?_eq_some.mp hg0
  have hl9 : e.platform.stackLimits (T.setVm s.vm).me = e.platform.stackLimits s.me := X.limits
  have hb9 : (T.setVm s.vm).me.stackBytes = s.me.stackBytes := X.bytes
  refine ⟨X.admits, X.cas, X.clock, hF, ?_, X.hears, X.method, X.code, X.here, X.tail, X.warmed, ?_, ?_, ?_⟩
  · have h := X.room
    have hU : ((T.setVm s.vm).setFrames (.invoking m args :: below)).localsInUse = s.localsInUse := by
      rw [State.localsInUse_invoking hF (meth := meth) (c := c) X.method X.code, State.localsInUse_invoking X.frames X.method X.code]
    simp only [State.hasRoom, Bool.and_eq_true, decide_eq_true_eq] at h ⊢
    obtain ⟨⟨⟨⟨h1, h2, h3, h4, h5, h6⟩, h7⟩, h8⟩, h9⟩ := h
    rw [X.frames, List.length_cons] at h2 h3
    have q1 := X.heapSize
    have q2 := X.used
    simp only [hF, hU, List.length_cons, State.stackLimits_setFrames, State.stackBytes_setFrames, hl9, hb9]
    refine ⟨⟨⟨⟨by omega, by omega, by omega, by omega, by omega, h6⟩, ?_⟩, ?_⟩, X.book⟩
    · show T.heap.size + R'.cells ≤ e.platform.maxCells
      omega
    · show T.slotsUsed + R'.slots ≤ e.platform.maxSlots
      omega
  · rw [State.stackLimits_setFrames]; rfl
  · rw [State.stackBytes_setFrames]; rfl
  · refine ⟨?_, Nat.le_refl _, Nat.le_refl _, ?_, ?_, fun a c9 h9 => ⟨c9, h9, rfl, rfl, fun _ _ => rfl⟩⟩
    · obtain ⟨t, ht, -⟩ := State.frames_cons hr
      show T.setVm s.vm = { ((T.setVm s.vm).setFrames (.invoking m args :: below)).setFrames (T.setVm s.vm).frames with heap := T.heap, slotsUsed := T.slotsUsed }
      rw [State.setFrames_setFrames, State.setFrames_self ht]
      rfl
    · show T.slotsUsed = T.slotsUsed + ((T.heap.toList.drop T.heap.size).map (·.slots.size)).sum
      rw [List.drop_eq_nil_of_le (Nat.le_of_eq Array.length_toList)]
      rfl
    · show ((T.heap.toList.drop T.heap.size).map (·.slots.size)).sum ≤ 0
      rw [List.drop_eq_nil_of_le (Nat.le_of_eq Array.length_toList)]
      exact Nat.le_refl _
/-- 'throw new E()': new; dup; invokespecial; athrow -/
theorem vx_throw0 {cc : ByteArray} {pc : Nat} (hexec : p.tables.exec = Jvm.exec) (hb : c.code = cc) (hl : l.stackTraces = false) {own cls : String} {names : List String} {ik ic mc ms : Nat} {A : Nat → Prop}
    (hown : s.vm.findClass own = some m.cls) (hcls : Bundle.fit cls = true) (hnames : ∀ n ∈ names, Bundle.fit n = true)
    (hk : (Cond.classLink own ik cls).before args s = true) (hini : (Cond.initialized cls).before args s = true) (hat : ∀ w ∈ vx_at0 own ic cls names, w.before args s = true)
    (hgood : ∀ w ∈ Cond.classLink own ik cls :: Cond.initialized cls :: vx_at0 own ic cls names, vx_ot w = true)
    (hU : vx_Zq Bundle.tN "UNASSIGNED_STACK" Bundle.steD A s s.heap) (hN : vx_Zq Bundle.tN "SUPPRESSED_SENTINEL" Bundle.listD A s s.heap) (hS : va_S A s.heap H locs) (hsize : ls.size = c.maxLocals)
    (d0 : decode cc pc = .ok (.new ik, 3)) (d3 : decode cc (pc + 3) = .ok (.dup, 1)) (d4 : decode cc (pc + 4) = .ok (.invokespecial ic, 3)) (d7 : decode cc (pc + 7) = .ok (.athrow, 1))
    (hout : ∀ x ∈ c.exceptionTable.toList, covers x (pc + 7) = false)
    (hRframes : names.length + 3 < R.frames) (hRlocals : (rest.map fun v => v.category).sum + (13 * (names.length + 1) + 42) ≤ R.locals) (hRcells : cells + 1 ≤ R.cells) (hRslots : slots + 6 ≤ R.slots) (hlocks : meth.locks = false)
    (hx : ∀ t : State, s.vm.Alike t.vm → H.size ≤ t.heap.size → (∀ q : Nat, q < H.size → t.heap[q]? = H[q]?) → XC cls s t)
    (hf : ∀ z ∈ locs, free z.base) (hc : cells + 1 ≤ mc) (hs : slots + 6 ≤ ms) :
    W p l e R s m args below meth c H locs cells slots (vx_MQ below Qc XC args s mc ms free) (F0 m pc ls rest) := by
  intro T hT X
  have htr : e.platform.stackTraces = false := (show e.platform.stackTraces = l.stackTraces by rw [X.admits.platform]).trans hl
  have Y := vx_rebase X (R' := { frames := R.frames, locals := R.locals, cells := 1, slots := 6 }) (Nat.le_refl _) (Nat.le_refl _) hRcells hRslots
  obtain ⟨s', hA⟩ : ∃ z, z = (T.setVm s.vm).setFrames (.invoking m args :: below) := ⟨_, rfl⟩
  rw [← hA] at Y
  have hvm : s'.vm = s.vm := by rw [hA]; rfl
  have hhp : s'.heap = H := by rw [hA]; exact hT
  have hW0 : s.WarmedH s'.vm := by rw [hvm]; exact State.WarmedH.refl s
  have hat' : ∀ w ∈ vx_at0 own ic cls names, w.before args s' = true := fun w hw => vx_ot_at hW0 hvm.symm (hgood w (List.mem_cons_of_mem _ (List.mem_cons_of_mem _ hw))) (hat w hw)
  have hk' : (Cond.classLink own ik cls).before args s' = true := vx_ot_at hW0 hvm.symm (hgood _ List.mem_cons_self) hk
  have hini' : (Cond.initialized cls).before args s' = true := vx_ot_at hW0 hvm.symm (hgood _ (List.mem_cons_of_mem _ List.mem_cons_self)) hini
  have hU' : vx_Zq Bundle.tN "UNASSIGNED_STACK" Bundle.steD A s' s'.heap := by rw [hhp]; exact vx_Zq.moved hW0.alike (hU.kept hS.2.1)
  have hN' : vx_Zq Bundle.tN "SUPPRESSED_SENTINEL" Bundle.listD A s' s'.heap := by rw [hhp]; exact vx_Zq.moved hW0.alike (hN.kept hS.2.1)
  have h : ∀ w ∈ Bundle.ownAtoms0 own ic cls names, w.before args s' = true := vx_own hat' (vx_isRefq hU'.1) (vx_isRefq hN'.1) hU'.2.word hN'.2.word
  have hown' : s'.vm.findClass own = some m.cls := by rw [hvm]; exact hown
  have hins : (Cond.instantiable cls 6).before args s' = true := h _ (by simp [Bundle.ownAtoms0])
  obtain ⟨vm₁, cX, kX, hfX, hkX, -, -, X₁, st1⟩ := Y.newCold hexec (own := own) (C := cls) (index := ik) (n := 6) hown' hk' hins hini'
    (g := F0 m pc ls rest) rfl (by rw [hb]; exact d0) (Nat.le_refl _) (Nat.le_refl _)
  generalize hT1 : (T.setVm vm₁).pushCell { cls := cX, slots := kX.instanceTypes.map defaultValue, vm := .none } = T1 at X₁ st1
  have hcat : (Value.ref T.heap.size).category = 1 := rfl
  have hcellA : T1.heap[T.heap.size]? = some (freshCell cX kX) := by rw [← hT1]; exact State.heap_pushCell_size _ _
  have d3' : decode c.code (pc + 3) = .ok (.dup, 1) := by rw [hb]; exact d3
  obtain ⟨U, hsteps, hrun, hend, hW, hsame, ce, hce, hO⟩ := X₁.ctorThrow0 hexec htr (own := own) (cls := cls) (names := names) (ic := ic) hown' hcls hnames h (fun x hx => nomatch hx) hfX hkX hcellA (by rw [hhp, hT]; exact Nat.le_refl _)
    (g := { method := m, pc := pc + 4, locals := ls, stack := .ref T.heap.size :: .ref T.heap.size :: rest, locked := none }) rfl hsize rfl rfl (rest := rest) rfl
    (by rw [hb]; exact d4) (by rw [hb]; exact d7) hout hRframes (by simp only [List.map_cons, List.sum_cons, hcat]; omega) hlocks
  obtain ⟨f1, f2⟩ := vx_frame hsame
  rw [hhp] at f1 f2
  have hWs : s.WarmedH U.vm := State.WarmedH.trans hW0 hW
  have hcl : s.vm.findClass cls = some ce.cls := by
    have h9 := hO.cls
    rw [hvm] at h9
    exact h9
  have hall : s.sameButNew ({ U with vm := s.vm } : State) locs mc ms := by
    subst hA
    obtain ⟨e1, e2⟩ := hsame
    rw [State.setFrames_setFrames] at e1
    have h2 : (T.setVm s.vm).sameButNew ({ U with vm := s.vm } : State) [] (0 + 1) (0 + 6) := ⟨e1, e2⟩
    have h3 := X.same.trans h2
    rw [List.append_nil] at h3
    exact h3.mono hc hs
  refine ⟨U, ?_, .threw T.heap.size, hrun, hend, Or.inr ⟨T.heap.size, rfl, cls, ce, locs, hx U hWs.alike f1 (fun q hq => f2 q hq (fun z hz => nomatch hz)), hce, hO.vm, hcl, hWs, hall, hf⟩⟩
  refine st1 _ ?_
  show Steps p.tables e below (T1.setTop { method := m, pc := pc + 3, locals := ls, stack := .ref T.heap.size :: rest, locked := none }) _
  jvm_step X₁.here [X₁.here.top, hexec, d3', Value.category]
  exact hsteps
/-- 'throw new E("text")': new; dup; ldc; invokespecial; athrow -/
theorem vx_throwS {cc : ByteArray} {pc : Nat} (hexec : p.tables.exec = Jvm.exec) (hb : c.code = cc) (hl : l.stackTraces = false) {own cls text : String} {names : List String} {ik is ic mc ms sa : Nat} {A : Nat → Prop}
    (hown : s.vm.findClass own = some m.cls) (hcls : Bundle.fit cls = true) (hnames : ∀ n ∈ names, Bundle.fit n = true)
    (hk : (Cond.classLink own ik cls).before args s = true) (hini : (Cond.initialized cls).before args s = true) (hstr : vk_R own is text sa s) (hat : ∀ w ∈ vx_atS own ic cls names, w.before args s = true)
    (hgood : ∀ w ∈ Cond.classLink own ik cls :: Cond.initialized cls :: vx_atS own ic cls names, vx_ot w = true)
    (hU : vx_Zq Bundle.tN "UNASSIGNED_STACK" Bundle.steD A s s.heap) (hN : vx_Zq Bundle.tN "SUPPRESSED_SENTINEL" Bundle.listD A s s.heap) (hS : va_S A s.heap H locs) (hsize : ls.size = c.maxLocals)
    (d0 : decode cc pc = .ok (.new ik, 3)) (d3 : decode cc (pc + 3) = .ok (.dup, 1)) (d4 : decode cc (pc + 4) = .ok (.ldc is, 2)) (d6 : decode cc (pc + 6) = .ok (.invokespecial ic, 3)) (d9 : decode cc (pc + 9) = .ok (.athrow, 1))
    (hout : ∀ x ∈ c.exceptionTable.toList, covers x (pc + 9) = false)
    (hRframes : names.length + 3 < R.frames) (hRlocals : (rest.map fun v => v.category).sum + (13 * (names.length + 1) + 43) ≤ R.locals) (hRcells : cells + 1 ≤ R.cells) (hRslots : slots + 6 ≤ R.slots) (hlocks : meth.locks = false)
    (hx : ∀ t : State, s.vm.Alike t.vm → H.size ≤ t.heap.size → (∀ q : Nat, q < H.size → t.heap[q]? = H[q]?) → XC cls s t)
    (hf : ∀ z ∈ locs, free z.base) (hc : cells + 1 ≤ mc) (hs : slots + 6 ≤ ms) :
    W p l e R s m args below meth c H locs cells slots (vx_MQ below Qc XC args s mc ms free) (F0 m pc ls rest) := by
  intro T hT X
  have htr : e.platform.stackTraces = false := (show e.platform.stackTraces = l.stackTraces by rw [X.admits.platform]).trans hl
  have Y := vx_rebase X (R' := { frames := R.frames, locals := R.locals, cells := 1, slots := 6 }) (Nat.le_refl _) (Nat.le_refl _) hRcells hRslots
  obtain ⟨s', hA⟩ : ∃ z, z = (T.setVm s.vm).setFrames (.invoking m args :: below) := ⟨_, rfl⟩
  rw [← hA] at Y
  have hvm : s'.vm = s.vm := by rw [hA]; rfl
  have hhp : s'.heap = H := by rw [hA]; exact hT
  have hW0 : s.WarmedH s'.vm := by rw [hvm]; exact State.WarmedH.refl s
  have hat' : ∀ w ∈ vx_atS own ic cls names, w.before args s' = true := fun w hw => vx_ot_at hW0 hvm.symm (hgood w (List.mem_cons_of_mem _ (List.mem_cons_of_mem _ hw))) (hat w hw)
  have hk' : (Cond.classLink own ik cls).before args s' = true := vx_ot_at hW0 hvm.symm (hgood _ List.mem_cons_self) hk
  have hini' : (Cond.initialized cls).before args s' = true := vx_ot_at hW0 hvm.symm (hgood _ (List.mem_cons_of_mem _ List.mem_cons_self)) hini
  have hU' : vx_Zq Bundle.tN "UNASSIGNED_STACK" Bundle.steD A s' s'.heap := by rw [hhp]; exact vx_Zq.moved hW0.alike (hU.kept hS.2.1)
  have hN' : vx_Zq Bundle.tN "SUPPRESSED_SENTINEL" Bundle.listD A s' s'.heap := by rw [hhp]; exact vx_Zq.moved hW0.alike (hN.kept hS.2.1)
  have h : ∀ w ∈ Bundle.ownAtoms own ic cls names, w.before args s' = true := vx_own hat' (vx_isRefq hU'.1) (vx_isRefq hN'.1) hU'.2.word hN'.2.word
  have hown' : s'.vm.findClass own = some m.cls := by rw [hvm]; exact hown
  have hins : (Cond.instantiable cls 6).before args s' = true := h _ (by simp [Bundle.ownAtoms])
  obtain ⟨vm₁, cX, kX, hfX, hkX, -, -, X₁, st1⟩ := Y.newCold hexec (own := own) (C := cls) (index := ik) (n := 6) hown' hk' hins hini'
    (g := F0 m pc ls rest) rfl (by rw [hb]; exact d0) (Nat.le_refl _) (Nat.le_refl _)
  generalize hT1 : (T.setVm vm₁).pushCell { cls := cX, slots := kX.instanceTypes.map defaultValue, vm := .none } = T1 at X₁ st1
  have hcat : (Value.ref T.heap.size).category = 1 := rfl
  have hcellA : T1.heap[T.heap.size]? = some (freshCell cX kX) := by rw [← hT1]; exact State.heap_pushCell_size _ _
  have d3' : decode c.code (pc + 3) = .ok (.dup, 1) := by rw [hb]; exact d3
  have d4' : decode c.code (pc + 4) = .ok (.ldc is, 2) := by rw [hb]; exact d4
  have hstr' : vk_R own is text sa s' := vk_R.warm hW0 hstr
  obtain ⟨U, hsteps, hrun, hend, hW, hsame, ce, hce, hO⟩ := X₁.ctorThrowS hexec htr (own := own) (cls := cls) (names := names) (ic := ic) hown' hcls hnames h (fun x hx => nomatch hx) hfX hkX hcellA (by rw [hhp, hT]; exact Nat.le_refl _) (msg := .ref sa) rfl
    (g := { method := m, pc := pc + 6, locals := ls, stack := .ref sa :: .ref T.heap.size :: .ref T.heap.size :: rest, locked := none }) rfl hsize rfl rfl (rest := rest) rfl
    (by rw [hb]; exact d6) (by rw [hb]; exact d9) hout hRframes (by simp only [List.map_cons, List.sum_cons, hcat]; omega) hlocks
  obtain ⟨f1, f2⟩ := vx_frame hsame
  rw [hhp] at f1 f2
  have hWs : s.WarmedH U.vm := State.WarmedH.trans hW0 hW
  have hcl : s.vm.findClass cls = some ce.cls := by
    have h9 := hO.cls
    rw [hvm] at h9
    exact h9
  have hall : s.sameButNew ({ U with vm := s.vm } : State) locs mc ms := by
    subst hA
    obtain ⟨e1, e2⟩ := hsame
    rw [State.setFrames_setFrames] at e1
    have h2 : (T.setVm s.vm).sameButNew ({ U with vm := s.vm } : State) [] (0 + 1) (0 + 6) := ⟨e1, e2⟩
    have h3 := X.same.trans h2
    rw [List.append_nil] at h3
    exact h3.mono hc hs
  refine ⟨U, ?_, .threw T.heap.size, hrun, hend, Or.inr ⟨T.heap.size, rfl, cls, ce, locs, hx U hWs.alike f1 (fun q hq => f2 q hq (fun z hz => nomatch hz)), hce, hO.vm, hcl, hWs, hall, hf⟩⟩
  refine st1 _ ?_
  show Steps p.tables e below (T1.setTop { method := m, pc := pc + 3, locals := ls, stack := .ref T.heap.size :: rest, locked := none }) _
  jvm_step X₁.here [X₁.here.top, hexec, d3', Value.category]
  exact X₁.ldcString hexec (own := own) (text := text) (index := is) (a := sa) hown' hstr'.1 hstr'.2
    (g := { method := m, pc := pc + 4, locals := ls, stack := .ref T.heap.size :: .ref T.heap.size :: rest, locked := none }) rfl d4' _ hsteps
/-- 'throw new E("text")', the text by a wide index -/
theorem vx_throwSW {cc : ByteArray} {pc : Nat} (hexec : p.tables.exec = Jvm.exec) (hb : c.code = cc) (hl : l.stackTraces = false) {own cls text : String} {names : List String} {ik is ic mc ms sa : Nat} {A : Nat → Prop}
    (hown : s.vm.findClass own = some m.cls) (hcls : Bundle.fit cls = true) (hnames : ∀ n ∈ names, Bundle.fit n = true)
    (hk : (Cond.classLink own ik cls).before args s = true) (hini : (Cond.initialized cls).before args s = true) (hstr : vk_R own is text sa s) (hat : ∀ w ∈ vx_atS own ic cls names, w.before args s = true)
    (hgood : ∀ w ∈ Cond.classLink own ik cls :: Cond.initialized cls :: vx_atS own ic cls names, vx_ot w = true)
    (hU : vx_Zq Bundle.tN "UNASSIGNED_STACK" Bundle.steD A s s.heap) (hN : vx_Zq Bundle.tN "SUPPRESSED_SENTINEL" Bundle.listD A s s.heap) (hS : va_S A s.heap H locs) (hsize : ls.size = c.maxLocals)
    (d0 : decode cc pc = .ok (.new ik, 3)) (d3 : decode cc (pc + 3) = .ok (.dup, 1)) (d4 : decode cc (pc + 4) = .ok (.ldc_w is, 3)) (d7 : decode cc (pc + 7) = .ok (.invokespecial ic, 3)) (d10 : decode cc (pc + 10) = .ok (.athrow, 1))
    (hout : ∀ x ∈ c.exceptionTable.toList, covers x (pc + 10) = false)
    (hRframes : names.length + 3 < R.frames) (hRlocals : (rest.map fun v => v.category).sum + (13 * (names.length + 1) + 43) ≤ R.locals) (hRcells : cells + 1 ≤ R.cells) (hRslots : slots + 6 ≤ R.slots) (hlocks : meth.locks = false)
    (hx : ∀ t : State, s.vm.Alike t.vm → H.size ≤ t.heap.size → (∀ q : Nat, q < H.size → t.heap[q]? = H[q]?) → XC cls s t)
    (hf : ∀ z ∈ locs, free z.base) (hc : cells + 1 ≤ mc) (hs : slots + 6 ≤ ms) :
    W p l e R s m args below meth c H locs cells slots (vx_MQ below Qc XC args s mc ms free) (F0 m pc ls rest) := by
  intro T hT X
  have htr : e.platform.stackTraces = false := (show e.platform.stackTraces = l.stackTraces by rw [X.admits.platform]).trans hl
  have Y := vx_rebase X (R' := { frames := R.frames, locals := R.locals, cells := 1, slots := 6 }) (Nat.le_refl _) (Nat.le_refl _) hRcells hRslots
  obtain ⟨s', hA⟩ : ∃ z, z = (T.setVm s.vm).setFrames (.invoking m args :: below) := ⟨_, rfl⟩
  rw [← hA] at Y
  have hvm : s'.vm = s.vm := by rw [hA]; rfl
  have hhp : s'.heap = H := by rw [hA]; exact hT
  have hW0 : s.WarmedH s'.vm := by rw [hvm]; exact State.WarmedH.refl s
  have hat' : ∀ w ∈ vx_atS own ic cls names, w.before args s' = true := fun w hw => vx_ot_at hW0 hvm.symm (hgood w (List.mem_cons_of_mem _ (List.mem_cons_of_mem _ hw))) (hat w hw)
  have hk' : (Cond.classLink own ik cls).before args s' = true := vx_ot_at hW0 hvm.symm (hgood _ List.mem_cons_self) hk
  have hini' : (Cond.initialized cls).before args s' = true := vx_ot_at hW0 hvm.symm (hgood _ (List.mem_cons_of_mem _ List.mem_cons_self)) hini
  have hU' : vx_Zq Bundle.tN "UNASSIGNED_STACK" Bundle.steD A s' s'.heap := by rw [hhp]; exact vx_Zq.moved hW0.alike (hU.kept hS.2.1)
  have hN' : vx_Zq Bundle.tN "SUPPRESSED_SENTINEL" Bundle.listD A s' s'.heap := by rw [hhp]; exact vx_Zq.moved hW0.alike (hN.kept hS.2.1)
  have h : ∀ w ∈ Bundle.ownAtoms own ic cls names, w.before args s' = true := vx_own hat' (vx_isRefq hU'.1) (vx_isRefq hN'.1) hU'.2.word hN'.2.word
  have hown' : s'.vm.findClass own = some m.cls := by rw [hvm]; exact hown
  have hins : (Cond.instantiable cls 6).before args s' = true := h _ (by simp [Bundle.ownAtoms])
  obtain ⟨vm₁, cX, kX, hfX, hkX, -, -, X₁, st1⟩ := Y.newCold hexec (own := own) (C := cls) (index := ik) (n := 6) hown' hk' hins hini'
    (g := F0 m pc ls rest) rfl (by rw [hb]; exact d0) (Nat.le_refl _) (Nat.le_refl _)
  generalize hT1 : (T.setVm vm₁).pushCell { cls := cX, slots := kX.instanceTypes.map defaultValue, vm := .none } = T1 at X₁ st1
  have hcat : (Value.ref T.heap.size).category = 1 := rfl
  have hcellA : T1.heap[T.heap.size]? = some (freshCell cX kX) := by rw [← hT1]; exact State.heap_pushCell_size _ _
  have d3' : decode c.code (pc + 3) = .ok (.dup, 1) := by rw [hb]; exact d3
  have d4' : decode c.code (pc + 4) = .ok (.ldc_w is, 3) := by rw [hb]; exact d4
  have hstr' : vk_R own is text sa s' := vk_R.warm hW0 hstr
  obtain ⟨U, hsteps, hrun, hend, hW, hsame, ce, hce, hO⟩ := X₁.ctorThrowS hexec htr (own := own) (cls := cls) (names := names) (ic := ic) hown' hcls hnames h (fun x hx => nomatch hx) hfX hkX hcellA (by rw [hhp, hT]; exact Nat.le_refl _) (msg := .ref sa) rfl
    (g := { method := m, pc := pc + 7, locals := ls, stack := .ref sa :: .ref T.heap.size :: .ref T.heap.size :: rest, locked := none }) rfl hsize rfl rfl (rest := rest) rfl
    (by rw [hb]; exact d7) (by rw [hb]; exact d10) hout hRframes (by simp only [List.map_cons, List.sum_cons, hcat]; omega) hlocks
  obtain ⟨f1, f2⟩ := vx_frame hsame
  rw [hhp] at f1 f2
  have hWs : s.WarmedH U.vm := State.WarmedH.trans hW0 hW
  have hcl : s.vm.findClass cls = some ce.cls := by
    have h9 := hO.cls
    rw [hvm] at h9
    exact h9
  have hall : s.sameButNew ({ U with vm := s.vm } : State) locs mc ms := by
    subst hA
    obtain ⟨e1, e2⟩ := hsame
    rw [State.setFrames_setFrames] at e1
    have h2 : (T.setVm s.vm).sameButNew ({ U with vm := s.vm } : State) [] (0 + 1) (0 + 6) := ⟨e1, e2⟩
    have h3 := X.same.trans h2
    rw [List.append_nil] at h3
    exact h3.mono hc hs
  refine ⟨U, ?_, .threw T.heap.size, hrun, hend, Or.inr ⟨T.heap.size, rfl, cls, ce, locs, hx U hWs.alike f1 (fun q hq => f2 q hq (fun z hz => nomatch hz)), hce, hO.vm, hcl, hWs, hall, hf⟩⟩
  refine st1 _ ?_
  show Steps p.tables e below (T1.setTop { method := m, pc := pc + 3, locals := ls, stack := .ref T.heap.size :: rest, locked := none }) _
  jvm_step X₁.here [X₁.here.top, hexec, d3', Value.category]
  exact X₁.ldcStringW hexec (own := own) (text := text) (index := is) (a := sa) hown' hstr'.1 hstr'.2
    (g := { method := m, pc := pc + 4, locals := ls, stack := .ref T.heap.size :: .ref T.heap.size :: rest, locked := none }) rfl d4' _ hsteps
end Ends
section Bodies
variable {l : Launch}
theorem vx_ofW {y : MethodName} {ws ws' : List Cond} {rm : Room} {Pc : Array Value → State → Prop} {Qc : Array Value → State → Outcome → State → Prop} {XC : String → State → State → Prop} {mc ms : Nat} {free : Addr → Prop} {cc : ByteArray} {maxL : Nat} {ret : Option FieldType}
    (hy : plainName y.cls = true) (hw : ws = Cond.code y cc maxL ret :: ws')
    (body : ∀ p e s m args below meth c s₁, BodyLoose p l y (headSpec ws rm) cc maxL ret e s m args below meth c s₁ → c.maxLocals = maxL → (∀ x ∈ c.exceptionTable.toList, False) → Pc args s →
      W p l e (headSpec ws rm).room s m args below meth c s.heap [] 0 0 (vx_MQ below Qc XC args s mc ms free) (entryFrame m args maxL)) : vx_Met l y ws rm Pc Qc XC mc ms free := by
  refine MetFree.of_bodyS (code := cc) (maxLocals := maxL) (ret := ret) hy ?_ ?_
  · intro args s m h hn
    obtain ⟨meth, c, h1, h2, h3, h4, h5, h6, -, -⟩ := Cond.code_spec hn (atoms_spec (ws := ws) h _ (by rw [hw]; exact List.mem_cons_self))
    exact ⟨meth, c, h1, h2, h3, h4, h5, h6⟩
  · intro p e s m args below meth c s₁ B hml hP _
    have hh0 : s₁.heap = s.heap := by rw [B.state]; rfl
    have ht : ∀ x ∈ c.exceptionTable.toList, False := by
      obtain ⟨meth9, c9, h1, h2, -, -, -, -, h7, -⟩ := Cond.code_spec B.named (atoms_spec (ws := ws) B.pre _ (by rw [hw]; exact List.mem_cons_self))
      cases Option.some.inj (h1.symm.trans B.method)
      cases Option.some.inj (h2.symm.trans (Stand.of_body B).code)
      intro x hx
      rw [Array.isEmpty_iff.mp h7] at hx
      cases hx
    obtain ⟨t, a1, o, b1, b2, b3⟩ := body p e s m args below meth c s₁ B hml ht hP s₁ hh0 (Stand.of_body B)
    exact ⟨t, o, a1, b1, b2, b3⟩
/-- the table of a body with handlers -/
theorem vx_table {p : Program} {x y : MethodName} {S : Spec} {cc bytes : ByteArray} {maxL maxL' : Nat} {ret ret' : Option FieldType} {e : Env} {s s₁ : State} {m : MethodId} {args : Array Value} {below : List Frame} {meth : Method} {c : Code} {hh : List (Nat × Nat × Nat × Nat)}
    (B : BodyLoose p l y S cc maxL ret e s m args below meth c s₁) (h : (Cond.codeWith y bytes maxL' ret' hh).before args s = true) : c.exceptionTable.toList = tableOf hh := by
  obtain ⟨m9, meth9, c9, hn9, h1, h2, -, -, h6, -⟩ := Cond.codeWith_spec h
  cases Option.some.inj (hn9.symm.trans B.named)
  cases Option.some.inj (h1.symm.trans B.method)
  cases Option.some.inj (h2.symm.trans (Stand.of_body B).code)
  rw [← h6, table_eq]
end Bodies
end VXA
/-! ===== END ===== -/
/-! ===== BEGIN a static call of a method with an exception table ===== -/
section VXS
variable {p : Program} {l : Launch} {e : Env} {R : Room} {s : State} {m : MethodId} {args : Array Value} {below : List Frame} {meth : Method} {c : Code} {T : State} {H : Heap} {locs : List Loc} {cells slots : Nat}
abbrev vx_CSW (R : Room) (s : State) (args : Array Value) (own : String) (index : Nat) (y : MethodName) (bytes : ByteArray) (maxL : Nat) (ret : Option FieldType) (hh : List (Nat × Nat × Nat × Nat)) (ws : List Cond) (rm : Room) (mc ms n : Nat) : Prop :=
  (rm.cells = mc ∧ rm.slots = ms ∧ rm.frames + 1 ≤ R.frames ∧ 8 + (maxL + 11) + rm.locals ≤ R.locals ∧ (∀ w ∈ ws, ∀ (a' : Array Value) (U : State), s.WarmedH U.vm → w.before a' U = true) ∧ Cond.codeWith y bytes maxL ret hh ∈ ws) ∧
  (Cond.codeWith y bytes maxL ret hh).before args s = true ∧ (Cond.initialized y.cls).before args s = true ∧ (y.cls ≠ "java/lang/invoke/MethodHandle" ∧ y.cls ≠ "java/lang/invoke/VarHandle") ∧
  (∀ sig, parseMethodDescriptor y.desc = some sig → n = sig.parameters.length) ∧ (Cond.methodLink own index y).before args s = true ∧ (Cond.static y).before args s = true
theorem vx_cwSW {own : String} {index maxL mc ms : Nat} {y : MethodName} {bytes : ByteArray} {ret : Option FieldType} {hh : List (Nat × Nat × Nat × Nat)} {Ts ws ws' : List Cond} {rm : Room} (n : Nat) (ht : ∀ w ∈ Ts, w.before args s = true) (hT : GoodIn Ts (va_wsS own index y ws)) (hw : ws = Cond.codeWith y bytes maxL ret hh :: ws') (hrc : rm.cells = mc) (hrs : rm.slots = ms)
    (hd : y.cls ≠ "java/lang/invoke/MethodHandle" ∧ y.cls ≠ "java/lang/invoke/VarHandle" ∧ (parseMethodDescriptor y.desc).map (fun d => d.parameters.length) = some n) (hR : rm.frames + 1 ≤ R.frames ∧ 8 + (maxL + 11) + rm.locals ≤ R.locals) :
    vx_CSW R s args own index y bytes maxL ret hh ws rm mc ms n := by
  have ok : ∀ w ∈ va_wsS own index y ws, w.before args s = true := fun w h => ht w (hT w h).1
  have hG : GoodIn Ts ws := fun w h => hT w (by unfold va_wsS; exact List.mem_append_right _ h)
  have hc : Cond.codeWith y bytes maxL ret hh ∈ ws := by rw [hw]; exact List.mem_cons_self
  refine ⟨⟨hrc, hrs, hR.1, hR.2, pay_in ht hG, hc⟩, ht _ (hG _ hc).1, ok _ (by simp [va_wsS]), ⟨hd.1, hd.2.1⟩, fun sig h => ?_, ok _ (by simp [va_wsS]), ok _ (by simp [va_wsS])⟩
  have h2 := hd.2.2
  rw [h] at h2
  exact (Option.some.inj h2).symm
theorem vx_callSW (X : Stand p l e R s m args below meth c T locs cells slots) (hexec : p.tables.exec = Jvm.exec) {own : String} {index : Nat} {y : MethodName} {bytes : ByteArray} {maxL : Nat} {ret : Option FieldType} {hh : List (Nat × Nat × Nat × Nat)}
    (hown : s.vm.findClass own = some m.cls) (hlink : (Cond.methodLink own index y).before args s = true) (hstat : (Cond.static y).before args s = true) (hinit : (Cond.initialized y.cls).before args s = true)
    (hcode : (Cond.codeWith y bytes maxL ret hh).before args s = true) (hy : y.cls ≠ "java/lang/invoke/MethodHandle" ∧ y.cls ≠ "java/lang/invoke/VarHandle")
    {W9 : Nat} {Pre : Pt → Array Value → Prop} {Post : Pt → Array Value → Option Value → Pt → Prop} (hK : Back l R p e below s args y 3 W9 Pre Post)
    {g : JFrame} (hg : g.method = m) (hsize : g.locals.size = c.maxLocals) {argsL rest : List Value} (hlen : ∀ sig, parseMethodDescriptor y.desc = some sig → argsL.length = sig.parameters.length)
    (hstack : g.stack = argsL.reverse ++ rest) (hW : 2 * g.monitorRoom + (rest.map fun v => v.category).sum ≤ W9) (hdg : decode c.code g.pc = .ok (.invokestatic index, 3))
    (hpre : ∀ vm₁, s.WarmedH vm₁ → Pre ⟨T.setVm vm₁, locs, cells, slots⟩ argsL.toArray) :
    ∃ (v : Option Value) (vm₁ : Vm) (B : Pt), s.WarmedH vm₁ ∧ Stand p l e R s m args below meth c B.U B.locs B.cells B.slots ∧ Post ⟨T.setVm vm₁, locs, cells, slots⟩ argsL.toArray v B ∧
      ∀ target, Steps p.tables e below (B.U.setTop { g with pc := g.pc + 3, stack := v.toList ++ rest }) target → Steps p.tables e below (T.setTop g) target := by
  obtain ⟨mk, methM, cM, hnamed, hmethM, -, -, -, -, -, -, hsigM⟩ := Cond.codeWith_spec hcode
  have hstatic : methM.isStatic = true := Cond.static_spec hnamed hmethM hstat
  obtain ⟨kP, hkP, -⟩ := className_of_methodNamed hnamed
  have hinitP : kP.init = .initialized := Cond.initialized_spec (findClass_of_methodNamed hnamed) hkP hinit
  obtain ⟨vm₁, X₁, hstep₁⟩ := X.invokestatic hexec hown hlink hnamed hmethM hstatic hkP hinitP hy (g := g) hg (argsL := argsL) (rest := rest) (hlen _ hsigM) hstack hdg
  obtain ⟨v, B, X', hpost, hsteps⟩ := hK m meth c ⟨T.setVm vm₁, locs, cells, slots⟩ { g with stack := rest } (.invokestatic index) mk argsL.toArray X₁ hg hsize hdg hW (X₁.named hnamed) (hpre vm₁ X₁.warmed)
  exact ⟨v, vm₁, B, X₁.warmed, X', hpost, fun target h => hstep₁ _ fun acts => by rw [doInvoke_state]; exact hsteps.trans h⟩
theorem vx_runSW {y : MethodName} {bytes cc : ByteArray} {maxL nL mc ms n index : Nat} {ret : Option FieldType} {hh : List (Nat × Nat × Nat × Nat)} {ws : List Cond} {rm : Room} {Pc : Array Value → State → Prop} {Qc : Array Value → State → Outcome → State → Prop} {free : Addr → Prop} {Ts : List Cond} {own : String} {As rest : List Value} {g : JFrame}
    (S : CallFix p m c cc nL s args Ts own) (hM : Met l y ws rm Pc Qc mc ms free) (cw : vx_CSW R s args own index y bytes maxL ret hh ws rm mc ms n) (hp : PreS s H Pc As)
    (hg : g.method = m) (hn : As.length = n) (hsize : g.locals.size = nL) (hstack : g.stack = As.reverse ++ rest) (hW : 2 * g.monitorRoom + (rest.map fun v => v.category).sum ≤ 8) (hdg : decode cc g.pc = .ok (.invokestatic index, 3)) (hf : cells + mc ≤ R.cells ∧ slots + ms ≤ R.slots) :
    va_Run p l e R s m args below meth c H locs cells slots mc ms g rest (Qc As.toArray) (free) := by
  obtain ⟨⟨hrc, hrs, hfr, hlo, hws, hcw⟩, hcode, hini, hy, hlen, hl, hstt⟩ := cw
  have hK : Back l R p e below s args y 3 8 (PreOf R mc ms Pc) (PostOf Qc mc ms free) := va_backW (hh := hh) (bytes := bytes) (maxL := maxL) (ret := ret) hM hp.1 hrc hrs hfr hlo hws hcw (fun a' U hW => word_at hW (Or.inl (by first | rfl | simp [Cond.onTables, Cond.keeps, Cond.steady])) hini)
  obtain ⟨hx, hb, hml, ho, -⟩ := S
  intro T hT X
  obtain ⟨v, vm₁, ⟨U', l2, c2, s2⟩, hW₁, X', ⟨g', mk, t, L, e1, e2, hq, h1, hL, h2, h3⟩, st⟩ := vx_callSW X hx (hh := hh) (bytes := bytes) (maxL := maxL) (ret := ret) ho hl hstt hini hcode hy hK hg (hsize.trans hml.symm) (argsL := As) (rest := rest) (fun sig h => hn.trans (hlen sig h)) hstack hW (by rw [hb]; exact hdg)
    (fun vm₁ hW₁ => ⟨hf.1, hf.2, hp.2 (T.setVm vm₁) hT hW₁⟩)
  dsimp only [Pt.U, Pt.locs, Pt.cells, Pt.slots] at X' e1 e2 h1 h2 h3 st
  subst h1; subst h2; subst h3
  exact ⟨v, (T.setVm vm₁).calling g' mk As.toArray, t, U', L, hT, X', hL, e1, e2, hq, st⟩
/-- not caught here, past rows that name other classes: it goes on to the caller -/
theorem vx_outP {p : Program} {l : Launch} {e : Env} {R : Room} {s : State} {m : MethodId} {args : Array Value} {below : List Frame} {meth : Method} {c : Code} {H : Heap} {locs : List Loc} {cells slots : Nat} {free : Addr → Prop} {ls : Array Slot} {rest : List Value} {Qc : Array Value → State → Outcome → State → Prop} {XC : String → State → State → Prop}
    {pc : Nat} {own E : String} {ce : Cell} {q : Addr} {mc ms : Nat} (hown : s.vm.findClass own = some m.cls) (hlocks : meth.locks = false)
    (hpass : ∀ z ∈ c.exceptionTable.toList, covers z pc = false ∨ (z.catchType ≠ 0 ∧ ∃ nm : String, (Cond.classLink own z.catchType nm).before args s = true ∧ va_Nc E nm s)) (hcell : H[q]? = some ce) (hv : ce.vm = .none) (hcl : s.vm.findClass E = some ce.cls)
    (hx : ∀ t : State, t.heap = H → s.vm.Alike t.vm → XC E s t) (hf : ∀ z ∈ locs, free z.base) (hc : cells ≤ mc) (hs : slots ≤ ms) :
    vx_W p l e R s m args below meth c H locs cells slots (vx_MQ below Qc XC args s mc ms free) (F0 m pc ls rest) q := by
  intro T hT X
  have hpl : e.platform.magicAccessors = ({} : Platform).magicAccessors := by rw [X.admits.platform]
  obtain ⟨vm', hW', X', st⟩ := X.outThrough hlocks q (g := F0 m pc ls rest) rfl rfl rfl (cell := ce) (by rw [hT]; exact hcell) (by rw [hv]; rfl)
    (by obtain ⟨k9, h9, -⟩ := Vm.findClass_spec hcl; exact ⟨k9, h9⟩) (fun z hz => by
      rcases hpass z hz with h | ⟨hz0, nm, hl1, hn1⟩
      · exact Or.inl h
      · obtain ⟨c6, hc6, hcl6⟩ := Cond.classLink_spec hown hl1 e.platform hpl
        obtain ⟨a8, b8, h1, h2, h3⟩ := hn1
        cases Option.some.inj (h1.symm.trans hcl)
        cases Option.some.inj (h2.symm.trans hc6)
        exact Or.inr ⟨hz0, _, hcl6, h3⟩)
  obtain ⟨g₀, hfr⟩ := X'.frames_eq
  have hcell9 : ((T.setVm vm').setFrames (.throwing q :: below)).heap[q]? = some ce := by
    show T.heap[q]? = some ce
    rw [hT]; exact hcell
  have hend : Ended ((T.setVm vm').setFrames (.throwing q :: below)) below (.threw q) := State.frames_setFrames _ (State.cur_lt_of_frames hfr)
  refine ⟨(T.setVm vm').setFrames (.throwing q :: below), ?_, .threw q, X'.here.running, hend, Or.inr ⟨q, rfl, E, ce, locs, hx _ hT (X'.ends _).1.alike, hcell9, hv, hcl, (X'.ends _).1, (X'.ends _).2.mono hc hs, hf⟩⟩
  rw [X.pushThrowing_eq]
  exact st
/-- a thing of a world lies in the heap -/
theorem vx_lt {D : va_G} {cl : List vw_C} {ws : va_W} {H1 : Heap} (h : va_P D cl ws H1) {k : Nat} {q : Nat × va_E} (hk : ws[k]? = some q) : q.1 < H1.size := (h k q hk).lt
end VXS
/-! ===== END ===== -/
/-! ===== BEGIN methods with a table of their own: called by a name, returning or throwing ===== -/
section VXH
/-! vx_backW, vx_callVX, vx_callSX, vx_callVW, vx_runVW, vx_runVX, vx_runSX, vx_ofWH follow the same proofs as their sisters above (Free/Laws.lean, Shelf42/LK1.lean); vx_outP calls Shelf42/NT130.lean (outThrough). -/
section
variable {l : Launch} {R : Room} {p : Program} {e : Env} {below : List Frame} {s : State} {sargs : Array Value} {y : MethodName} {len W9 : Nat}
theorem vx_backW {ws : List Cond} {rm : Room} {Pc : Array Value → State → Prop} {Qc : Array Value → State → Outcome → State → Prop} {XC : String → State → State → Prop} {mc ms : Nat} {free : Addr → Prop} {bytes : ByteArray} {maxL : Nat} {ret : Option FieldType} {hh : List (Nat × Nat × Nat × Nat)}
    (hM : vx_Met l y ws rm Pc Qc XC mc ms free) (hblind : FrameBlind Pc) (hrc : rm.cells = mc) (hrs : rm.slots = ms)
    (hframes : rm.frames + 1 ≤ R.frames) (hlocals : W9 + (maxL + 11) + rm.locals ≤ R.locals)
    (hws : ∀ w ∈ ws, ∀ a' U, s.WarmedH U.vm → w.before a' U = true) (hcode : Cond.codeWith y bytes maxL ret hh ∈ ws) (hinit : ∀ a' U, s.WarmedH U.vm → (Cond.initialized y.cls).before a' U = true) :
    vx_Back l R p e below s sargs y len W9 (PreOf R mc ms Pc) (PostOf Qc mc ms free) (vx_Post XC mc ms free) := by
  intro m meth c A g ig mk a X hg hsize hdg hW hn hp
  have h1 : (headSpec ws rm).pre.before a A.U = true := atoms_intro fun w hw => hws w hw _ _ X.warmed
  have h2 : (Cond.codeWith y bytes maxL ret hh).before a A.U = true := hws _ hcode _ _ X.warmed
  have h3 : (Cond.initialized y.cls).before a A.U = true := hinit _ _ X.warmed
  have h4 : A.cells + (headSpec ws rm).room.cells ≤ R.cells := by rw [show (headSpec ws rm).room.cells = mc from hrc]; exact hp.1
  have h5 : A.slots + (headSpec ws rm).room.slots ≤ R.slots := by rw [show (headSpec ws rm).room.slots = ms from hrs]; exact hp.2.1
  have hPc : Pc a (A.U.calling g mk a) := hblind _ _ _ _ hp.2.2
  obtain ⟨U, Ls, c0, s0⟩ := A
  dsimp only [Pt.U, Pt.locs, Pt.cells, Pt.slots] at h1 h2 h3 h4 h5 X hn hPc ⊢
  obtain ⟨m9, methY, cY, hn9, hmY, hcY, -, hlY, -⟩ := Cond.codeWith_spec h2
  cases Option.some.inj (hn9.symm.trans hn)
  obtain ⟨kY, hkY, -⟩ := className_of_methodNamed hn
  have hinitY : kY.init = .initialized := Cond.initialized_spec (findClass_of_methodNamed hn) hkY h3
  have h : At U g.method c below := by rw [hg]; exact X.here
  have hlocals9 : W9 + (maxL + 11) + (headSpec ws rm).room.locals ≤ R.locals := hlocals
  have happ : (headSpec ws rm).appliesLoose y e.platform (U.calling g mk a) = true :=
    Spec.appliesLoose_calling (g := g) h hdg hn hkY hinitY
      (X.room_calling (g := g) (R' := (headSpec ws rm).room) hsize hmY hcY hframes (by rw [hlY]; omega) h4 h5) h1
  obtain ⟨mid, hmid⟩ := h.above
  have hfr : (U.setTop g).frames = (.java g :: mid) ++ below := by rw [State.frames_setTop' g h.top, hmid]; rfl
  obtain ⟨o, s₂, hsteps, -, hend, hq⟩ := Steps.callFree hM p X.admits X.cas X.clock (acts := []) hfr happ hPc trivial
  have hq' : vx_Q Qc XC mc ms free a (U.calling g mk a) o s₂ := hq
  rw [State.frames_setTop' g h.top] at hend
  obtain ⟨g₀, hg0⟩ := Option.isSome_iff_exists.mp h.top
  obtain ⟨r, hr⟩ := State.topJava?_eq_some.mp hg0
  have hr' : (({ U with heap := s₂.heap, slotsUsed := s₂.slotsUsed } : State).setVm s₂.vm).frames = .java g₀ :: r := hr
  rcases hq' with ⟨hqc, L, hfe, hL⟩ | ⟨q, rfl, E, ce, L, hx, hce, hcv, hcl, hW₂, hsm, hL⟩
  · obtain ⟨⟨v, rfl⟩, hW₂, e2, q2, q3, q4, q5, q6⟩ := id hfe
    have e3 : s₂ = ({ (U.calling g mk a).setFrames s₂.frames with heap := s₂.heap, slotsUsed := s₂.slotsUsed } : State).setVm s₂.vm := by
      have : s₂ = ({ s₂ with vm := (U.calling g mk a).vm } : State).setVm s₂.vm := rfl
      rw [e2] at this
      exact this
    obtain ⟨c₂, i₂, len₂, hc₂, hd₂, hf₂⟩ := hend
    have hW' : U.WarmedH s₂.vm := hW₂
    have hcc : c₂ = c := by
      have h1 : s₂.code? g.method = U.code? g.method := by
        rw [State.code?_eq, State.code?_eq, hW'.alike.method?]
      exact Option.some.inj (hc₂.symm.trans (h1.trans h.code))
    subst hcc
    have hlen : len₂ = len := by rw [hdg] at hd₂; cases hd₂; rfl
    subst hlen
    have hs₂ : s₂ = (({ U with heap := s₂.heap, slotsUsed := s₂.slotsUsed } : State).setVm s₂.vm).setTop { g with pc := g.pc + len₂, stack := v.toList ++ g.stack } := by
      refine e3.trans ?_
      rw [hf₂, State.calling_eq h.top, State.setFrames_setFrames, State.setTop_of_frames _ hr', hr]
      rfl
    have hsame : U.sameButNew ({ U with heap := s₂.heap, slotsUsed := s₂.slotsUsed } : State) L mc ms := by
      refine ⟨?_, q2, q3, q4, q5, q6⟩
      obtain ⟨t, ht, -⟩ := State.frames_cons hr
      show ({ U with heap := s₂.heap, slotsUsed := s₂.slotsUsed } : State) = { U.setFrames U.frames with heap := s₂.heap, slotsUsed := s₂.slotsUsed }
      rw [State.setFrames_self ht]
    subst hg
    refine Or.inl ⟨v, ⟨(({ U with heap := s₂.heap, slotsUsed := s₂.slotsUsed } : State).setVm s₂.vm), Ls ++ L, c0 + mc, s0 + ms⟩,
      ⟨X.admits, X.cas, X.clock, X.frames, X.room, X.hears, X.method, X.code, (X.here.setHeapUsed s₂.heap s₂.slotsUsed).setVm hW'.alike, X.tail, State.WarmedH.trans X.warmed hW', X.limits, X.bytes, X.same.trans (hsame.setVm s.vm)⟩,
      ⟨g, mk, s₂, L, rfl, rfl, hqc, rfl, hL, rfl, rfl⟩, ?_⟩
    show Steps p.tables e below _ ((({ U with heap := s₂.heap, slotsUsed := s₂.slotsUsed } : State).setVm s₂.vm).setTop { g with pc := g.pc + len₂, stack := v.toList ++ g.stack })
    rw [← hs₂]
    exact hsteps
  · obtain ⟨e2, q2, q3, q4, q5, q6⟩ := id hsm
    have e3 : s₂ = ({ (U.calling g mk a).setFrames s₂.frames with heap := s₂.heap, slotsUsed := s₂.slotsUsed } : State).setVm s₂.vm := by
      have : s₂ = ({ s₂ with vm := (U.calling g mk a).vm } : State).setVm s₂.vm := rfl
      rw [e2] at this
      exact this
    have hf₂ : s₂.frames = .throwing q :: .java g :: U.frames.tail := hend
    have hW' : U.WarmedH s₂.vm := hW₂
    have hs₂ : s₂ = ((({ U with heap := s₂.heap, slotsUsed := s₂.slotsUsed } : State).setVm s₂.vm).setTop g).pushFrame (.throwing q) := by
      refine e3.trans ?_
      rw [hf₂, State.calling_eq h.top, State.setFrames_setFrames, State.pushFrame, State.frames_setTop _ hr', State.setTop_of_frames _ hr', State.setFrames_setFrames, hr]
      rfl
    have hsame : U.sameButNew ({ U with heap := s₂.heap, slotsUsed := s₂.slotsUsed } : State) L mc ms := by
      refine ⟨?_, q2, q3, q4, q5, q6⟩
      obtain ⟨t, ht, -⟩ := State.frames_cons hr
      show ({ U with heap := s₂.heap, slotsUsed := s₂.slotsUsed } : State) = { U.setFrames U.frames with heap := s₂.heap, slotsUsed := s₂.slotsUsed }
      rw [State.setFrames_self ht]
    subst hg
    refine Or.inr ⟨q, ⟨(({ U with heap := s₂.heap, slotsUsed := s₂.slotsUsed } : State).setVm s₂.vm), Ls ++ L, c0 + mc, s0 + ms⟩,
      ⟨X.admits, X.cas, X.clock, X.frames, X.room, X.hears, X.method, X.code, (X.here.setHeapUsed s₂.heap s₂.slotsUsed).setVm hW'.alike, X.tail, State.WarmedH.trans X.warmed hW', X.limits, X.bytes, X.same.trans (hsame.setVm s.vm)⟩,
      ⟨g, mk, s₂, L, E, ce, rfl, rfl, hx, hce, hcv, hcl, rfl, hL, rfl, rfl⟩, ?_⟩
    show Steps p.tables e below _ (((({ U with heap := s₂.heap, slotsUsed := s₂.slotsUsed } : State).setVm s₂.vm).setTop g).pushFrame (.throwing q))
    rw [← hs₂]
    exact hsteps
end
variable {p : Program} {l : Launch} {e : Env} {R : Room} {s : State} {m : MethodId} {args : Array Value} {below : List Frame} {meth : Method} {c : Code} {T : State} {H : Heap} {locs : List Loc} {cells slots : Nat}
theorem vx_callVX (X : Stand p l e R s m args below meth c T locs cells slots) (hexec : p.tables.exec = Jvm.exec) {own C : String} {index : Nat} {y : MethodName} {bytes : ByteArray} {maxL : Nat} {ret : Option FieldType} {hh : List (Nat × Nat × Nat × Nat)}
    (hown : s.vm.findClass own = some m.cls) (hlink : (Cond.methodLink own index y).before args s = true) (hinst : (Cond.instanceMethod y).before args s = true) (hsel : (Cond.selects C y y).before args s = true)
    (hcode : (Cond.codeWith y bytes maxL ret hh).before args s = true) (hy : y.cls ≠ "java/lang/invoke/MethodHandle" ∧ y.cls ≠ "java/lang/invoke/VarHandle")
    {W9 : Nat} {Pre : Pt → Array Value → Prop} {Post : Pt → Array Value → Option Value → Pt → Prop} {PostX : Pt → Array Value → Addr → Pt → Prop} (hK : vx_Back l R p e below s args y 3 W9 Pre Post PostX)
    {b : Addr} {cellB : Cell} (hcell : T.heap[b]? = some cellB) (hobj : cellB.vm.isStatics = false) (hcls : s.vm.findClass C = some cellB.cls)
    {g : JFrame} (hg : g.method = m) (hsize : g.locals.size = c.maxLocals) {argsL rest : List Value} (hlen : ∀ sig, parseMethodDescriptor y.desc = some sig → argsL.length = sig.parameters.length)
    (hstack : g.stack = argsL.reverse ++ .ref b :: rest) (hW : 2 * g.monitorRoom + (rest.map fun v => v.category).sum ≤ W9) (hdg : decode c.code g.pc = .ok (.invokevirtual index, 3))
    (hpre : ∀ vm₁, s.WarmedH vm₁ → Pre ⟨T.setVm vm₁, locs, cells, slots⟩ (Value.ref b :: argsL).toArray) :
    (∃ (v : Option Value) (vm₁ : Vm) (B : Pt), s.WarmedH vm₁ ∧ Stand p l e R s m args below meth c B.U B.locs B.cells B.slots ∧ Post ⟨T.setVm vm₁, locs, cells, slots⟩ (Value.ref b :: argsL).toArray v B ∧
      ∀ target, Steps p.tables e below (B.U.setTop { g with pc := g.pc + 3, stack := v.toList ++ rest }) target → Steps p.tables e below (T.setTop g) target) ∨
    (∃ (q : Addr) (vm₁ : Vm) (B : Pt), s.WarmedH vm₁ ∧ Stand p l e R s m args below meth c B.U B.locs B.cells B.slots ∧ PostX ⟨T.setVm vm₁, locs, cells, slots⟩ (Value.ref b :: argsL).toArray q B ∧
      Steps p.tables e below (T.setTop g) ((B.U.setTop { g with stack := rest }).pushFrame (.throwing q))) := by
  obtain ⟨mk, methM, hnamed, hmethM, hstM, habM⟩ := Cond.instanceMethod_spec hinst
  obtain ⟨m8, methM', cM, hn8, hmethM', -, -, -, -, -, -, hsigM⟩ := Cond.codeWith_spec hcode
  cases Option.some.inj (hn8.symm.trans hnamed)
  cases hmethM.symm.trans hmethM'
  obtain ⟨c2, r2, m2, q1, q2, q3, q4, kP, hkP, hkPi⟩ := Cond.selects_spec hsel
  cases hcls.symm.trans q1
  cases (State.methodFound?_of_named hnamed hy).symm.trans q2
  cases hnamed.symm.trans q3
  have hselP : selectMethod e.platform s.vm cellB.cls mk = .method mk := by rw [Launch.admits_selectMethod X.admits]; exact q4
  obtain ⟨vm₁, X₁, hstep₁⟩ := X.invokevirtual hexec hown hlink hnamed hmethM hstM hkP hkPi hy (a := b) (cell := cellB) hcell
    (fun z h => by rw [h] at hobj; cases hobj) hselP hmethM habM hkP hkPi (g := g) hg (argsL := argsL) (rest := rest) (hlen _ hsigM) hstack hdg
  rcases hK m meth c ⟨T.setVm vm₁, locs, cells, slots⟩ { g with stack := rest } (.invokevirtual index) mk (Value.ref b :: argsL).toArray X₁ hg hsize hdg hW (X₁.named hnamed) (hpre vm₁ X₁.warmed) with ⟨v, B, X', hpost, hsteps⟩ | ⟨q, B, X', hpost, hsteps⟩
  · exact Or.inl ⟨v, vm₁, B, X₁.warmed, X', hpost, fun target h => hstep₁ _ fun acts => by rw [doInvoke_state]; exact hsteps.trans h⟩
  · exact Or.inr ⟨q, vm₁, B, X₁.warmed, X', hpost, hstep₁ _ fun acts => by rw [doInvoke_state]; exact hsteps⟩
theorem vx_callSX (X : Stand p l e R s m args below meth c T locs cells slots) (hexec : p.tables.exec = Jvm.exec) {own : String} {index : Nat} {y : MethodName} {bytes : ByteArray} {maxL : Nat} {ret : Option FieldType} {hh : List (Nat × Nat × Nat × Nat)}
    (hown : s.vm.findClass own = some m.cls) (hlink : (Cond.methodLink own index y).before args s = true) (hstat : (Cond.static y).before args s = true) (hinit : (Cond.initialized y.cls).before args s = true)
    (hcode : (Cond.codeWith y bytes maxL ret hh).before args s = true) (hy : y.cls ≠ "java/lang/invoke/MethodHandle" ∧ y.cls ≠ "java/lang/invoke/VarHandle")
    {W9 : Nat} {Pre : Pt → Array Value → Prop} {Post : Pt → Array Value → Option Value → Pt → Prop} {PostX : Pt → Array Value → Addr → Pt → Prop} (hK : vx_Back l R p e below s args y 3 W9 Pre Post PostX)
    {g : JFrame} (hg : g.method = m) (hsize : g.locals.size = c.maxLocals) {argsL rest : List Value} (hlen : ∀ sig, parseMethodDescriptor y.desc = some sig → argsL.length = sig.parameters.length)
    (hstack : g.stack = argsL.reverse ++ rest) (hW : 2 * g.monitorRoom + (rest.map fun v => v.category).sum ≤ W9) (hdg : decode c.code g.pc = .ok (.invokestatic index, 3))
    (hpre : ∀ vm₁, s.WarmedH vm₁ → Pre ⟨T.setVm vm₁, locs, cells, slots⟩ argsL.toArray) :
    (∃ (v : Option Value) (vm₁ : Vm) (B : Pt), s.WarmedH vm₁ ∧ Stand p l e R s m args below meth c B.U B.locs B.cells B.slots ∧ Post ⟨T.setVm vm₁, locs, cells, slots⟩ argsL.toArray v B ∧
      ∀ target, Steps p.tables e below (B.U.setTop { g with pc := g.pc + 3, stack := v.toList ++ rest }) target → Steps p.tables e below (T.setTop g) target) ∨
    (∃ (q : Addr) (vm₁ : Vm) (B : Pt), s.WarmedH vm₁ ∧ Stand p l e R s m args below meth c B.U B.locs B.cells B.slots ∧ PostX ⟨T.setVm vm₁, locs, cells, slots⟩ argsL.toArray q B ∧
      Steps p.tables e below (T.setTop g) ((B.U.setTop { g with stack := rest }).pushFrame (.throwing q))) := by
  obtain ⟨mk, methM, cM, hnamed, hmethM, -, -, -, -, -, -, hsigM⟩ := Cond.codeWith_spec hcode
  have hstatic : methM.isStatic = true := Cond.static_spec hnamed hmethM hstat
  obtain ⟨kP, hkP, -⟩ := className_of_methodNamed hnamed
  have hinitP : kP.init = .initialized := Cond.initialized_spec (findClass_of_methodNamed hnamed) hkP hinit
  obtain ⟨vm₁, X₁, hstep₁⟩ := X.invokestatic hexec hown hlink hnamed hmethM hstatic hkP hinitP hy (g := g) hg (argsL := argsL) (rest := rest) (hlen _ hsigM) hstack hdg
  rcases hK m meth c ⟨T.setVm vm₁, locs, cells, slots⟩ { g with stack := rest } (.invokestatic index) mk argsL.toArray X₁ hg hsize hdg hW (X₁.named hnamed) (hpre vm₁ X₁.warmed) with ⟨v, B, X', hpost, hsteps⟩ | ⟨q, B, X', hpost, hsteps⟩
  · exact Or.inl ⟨v, vm₁, B, X₁.warmed, X', hpost, fun target h => hstep₁ _ fun acts => by rw [doInvoke_state]; exact hsteps.trans h⟩
  · exact Or.inr ⟨q, vm₁, B, X₁.warmed, X', hpost, hstep₁ _ fun acts => by rw [doInvoke_state]; exact hsteps⟩
theorem vx_callVW (X : Stand p l e R s m args below meth c T locs cells slots) (hexec : p.tables.exec = Jvm.exec) {own C : String} {index : Nat} {y : MethodName} {bytes : ByteArray} {maxL : Nat} {ret : Option FieldType} {hh : List (Nat × Nat × Nat × Nat)}
    (hown : s.vm.findClass own = some m.cls) (hlink : (Cond.methodLink own index y).before args s = true) (hinst : (Cond.instanceMethod y).before args s = true) (hsel : (Cond.selects C y y).before args s = true)
    (hcode : (Cond.codeWith y bytes maxL ret hh).before args s = true) (hy : y.cls ≠ "java/lang/invoke/MethodHandle" ∧ y.cls ≠ "java/lang/invoke/VarHandle")
    {W9 : Nat} {Pre : Pt → Array Value → Prop} {Post : Pt → Array Value → Option Value → Pt → Prop} (hK : Back l R p e below s args y 3 W9 Pre Post)
    {b : Addr} {cellB : Cell} (hcell : T.heap[b]? = some cellB) (hobj : cellB.vm.isStatics = false) (hcls : s.vm.findClass C = some cellB.cls)
    {g : JFrame} (hg : g.method = m) (hsize : g.locals.size = c.maxLocals) {argsL rest : List Value} (hlen : ∀ sig, parseMethodDescriptor y.desc = some sig → argsL.length = sig.parameters.length)
    (hstack : g.stack = argsL.reverse ++ .ref b :: rest) (hW : 2 * g.monitorRoom + (rest.map fun v => v.category).sum ≤ W9) (hdg : decode c.code g.pc = .ok (.invokevirtual index, 3))
    (hpre : ∀ vm₁, s.WarmedH vm₁ → Pre ⟨T.setVm vm₁, locs, cells, slots⟩ (Value.ref b :: argsL).toArray) :
    ∃ (v : Option Value) (vm₁ : Vm) (B : Pt), s.WarmedH vm₁ ∧ Stand p l e R s m args below meth c B.U B.locs B.cells B.slots ∧ Post ⟨T.setVm vm₁, locs, cells, slots⟩ (Value.ref b :: argsL).toArray v B ∧
      ∀ target, Steps p.tables e below (B.U.setTop { g with pc := g.pc + 3, stack := v.toList ++ rest }) target → Steps p.tables e below (T.setTop g) target := by
  obtain ⟨mk, methM, hnamed, hmethM, hstM, habM⟩ := Cond.instanceMethod_spec hinst
  obtain ⟨m8, methM', cM, hn8, hmethM', -, -, -, -, -, -, hsigM⟩ := Cond.codeWith_spec hcode
  cases Option.some.inj (hn8.symm.trans hnamed)
  cases hmethM.symm.trans hmethM'
  obtain ⟨c2, r2, m2, q1, q2, q3, q4, kP, hkP, hkPi⟩ := Cond.selects_spec hsel
  cases hcls.symm.trans q1
  cases (State.methodFound?_of_named hnamed hy).symm.trans q2
  cases hnamed.symm.trans q3
  have hselP : selectMethod e.platform s.vm cellB.cls mk = .method mk := by rw [Launch.admits_selectMethod X.admits]; exact q4
  obtain ⟨vm₁, X₁, hstep₁⟩ := X.invokevirtual hexec hown hlink hnamed hmethM hstM hkP hkPi hy (a := b) (cell := cellB) hcell
    (fun z h => by rw [h] at hobj; cases hobj) hselP hmethM habM hkP hkPi (g := g) hg (argsL := argsL) (rest := rest) (hlen _ hsigM) hstack hdg
  obtain ⟨v, B, X', hpost, hsteps⟩ := hK m meth c ⟨T.setVm vm₁, locs, cells, slots⟩ { g with stack := rest } (.invokevirtual index) mk (Value.ref b :: argsL).toArray X₁ hg hsize hdg hW (X₁.named hnamed) (hpre vm₁ X₁.warmed)
  exact ⟨v, vm₁, B, X₁.warmed, X', hpost, fun target h => hstep₁ _ fun acts => by rw [doInvoke_state]; exact hsteps.trans h⟩
abbrev vx_CVW (R : Room) (s : State) (args : Array Value) (own C : String) (index : Nat) (y : MethodName) (bytes : ByteArray) (maxL : Nat) (ret : Option FieldType) (hh : List (Nat × Nat × Nat × Nat)) (ws : List Cond) (rm : Room) (mc ms n : Nat) : Prop :=
  (rm.cells = mc ∧ rm.slots = ms ∧ rm.frames + 1 ≤ R.frames ∧ 8 + (maxL + 11) + rm.locals ≤ R.locals ∧ (∀ w ∈ ws, ∀ (a' : Array Value) (U : State), s.WarmedH U.vm → w.before a' U = true) ∧ Cond.codeWith y bytes maxL ret hh ∈ ws) ∧
  (Cond.codeWith y bytes maxL ret hh).before args s = true ∧ (Cond.initialized y.cls).before args s = true ∧ (y.cls ≠ "java/lang/invoke/MethodHandle" ∧ y.cls ≠ "java/lang/invoke/VarHandle") ∧
  (∀ sig, parseMethodDescriptor y.desc = some sig → n = sig.parameters.length) ∧ (Cond.methodLink own index y).before args s = true ∧ (Cond.instanceMethod y).before args s = true ∧ (Cond.selects C y y).before args s = true
theorem vx_cwVW {own C : String} {index maxL mc ms : Nat} {y : MethodName} {bytes : ByteArray} {ret : Option FieldType} {hh : List (Nat × Nat × Nat × Nat)} {Ts ws ws' : List Cond} {rm : Room} (n : Nat) (ht : ∀ w ∈ Ts, w.before args s = true) (hT : GoodIn Ts (wsV own index C y ws)) (hw : ws = Cond.codeWith y bytes maxL ret hh :: ws') (hrc : rm.cells = mc) (hrs : rm.slots = ms)
    (hd : y.cls = C ∧ y.cls ≠ "java/lang/invoke/MethodHandle" ∧ y.cls ≠ "java/lang/invoke/VarHandle" ∧ (parseMethodDescriptor y.desc).map (fun d => d.parameters.length) = some n) (hR : rm.frames + 1 ≤ R.frames ∧ 8 + (maxL + 11) + rm.locals ≤ R.locals) :
    vx_CVW R s args own C index y bytes maxL ret hh ws rm mc ms n := by
  obtain ⟨hC, hd⟩ := hd
  subst hC
  have ok : ∀ w ∈ wsV own index y.cls y ws, w.before args s = true := fun w h => ht w (hT w h).1
  have hG : GoodIn Ts ws := fun w h => hT w (by unfold wsV; exact List.mem_append_right _ h)
  have hc : Cond.codeWith y bytes maxL ret hh ∈ ws := by rw [hw]; exact List.mem_cons_self
  refine ⟨⟨hrc, hrs, hR.1, hR.2, pay_in ht hG, hc⟩, ht _ (hG _ hc).1, ok _ (by simp [wsV]), ⟨hd.1, hd.2.1⟩, fun sig h => ?_, ok _ (by simp [wsV]), ok _ (by simp [wsV]), ok _ (by simp [wsV])⟩
  have h2 := hd.2.2
  rw [h] at h2
  exact (Option.some.inj h2).symm
theorem vx_runVW {y : MethodName} {bytes cc : ByteArray} {maxL nL mc ms n index : Nat} {ret : Option FieldType} {hh : List (Nat × Nat × Nat × Nat)} {ws : List Cond} {rm : Room} {Pc : Array Value → State → Prop} {Qc : Array Value → State → Outcome → State → Prop} {free : Addr → Prop} {Ts : List Cond} {own C : String} {b : Addr} {As rest : List Value} {g : JFrame}
    (S : CallFix p m c cc nL s args Ts own) (hM : Met l y ws rm Pc Qc mc ms free) (cw : vx_CVW R s args own C index y bytes maxL ret hh ws rm mc ms n) (hp : PreV s H C b Pc As)
    (hg : g.method = m) (hn : As.length = n) (hsize : g.locals.size = nL) (hstack : g.stack = As.reverse ++ .ref b :: rest) (hW : 2 * g.monitorRoom + (rest.map fun v => v.category).sum ≤ 8) (hdg : decode cc g.pc = .ok (.invokevirtual index, 3)) (hf : cells + mc ≤ R.cells ∧ slots + ms ≤ R.slots) :
    va_Run p l e R s m args below meth c H locs cells slots mc ms g rest (Qc (Value.ref b :: As).toArray) free := by
  obtain ⟨⟨hrc, hrs, hfr, hlo, hws, hcw⟩, hcode, hini, hy, hlen, hl, hin, hse⟩ := cw
  have hK : Back l R p e below s args y 3 8 (PreOf R mc ms Pc) (PostOf Qc mc ms free) := va_backW (hh := hh) (bytes := bytes) (maxL := maxL) (ret := ret) hM hp.1 hrc hrs hfr hlo hws hcw (fun a' U hW => word_at hW (Or.inl (by first | rfl | simp [Cond.onTables, Cond.keeps, Cond.steady])) hini)
  obtain ⟨hx, hb, hml, ho, -⟩ := S
  obtain ⟨-, ⟨cellB, hcB, hoB, hclB⟩, hPc⟩ := hp
  intro T hT X
  obtain ⟨v, vm₁, ⟨U', l2, c2, s2⟩, hW₁, X', ⟨g', mk, t, L, e1, e2, hq, h1, hL, h2, h3⟩, st⟩ := vx_callVW X hx (C := C) (hh := hh) (bytes := bytes) (maxL := maxL) (ret := ret) ho hl hin hse hcode hy hK (by rw [hT]; exact hcB) hoB hclB hg (hsize.trans hml.symm) (argsL := As) (rest := rest) (fun sig h => hn.trans (hlen sig h)) hstack hW (by rw [hb]; exact hdg)
    (fun vm₁ hW₁ => ⟨hf.1, hf.2, hPc (T.setVm vm₁) hT hW₁⟩)
  dsimp only [Pt.U, Pt.locs, Pt.cells, Pt.slots] at X' e1 e2 h1 h2 h3 st
  subst h1; subst h2; subst h3
  exact ⟨v, (T.setVm vm₁).calling g' mk (Value.ref b :: As).toArray, t, U', L, hT, X', hL, e1, e2, hq, st⟩
section
variable {y : MethodName} {bytes cc : ByteArray} {maxL nL mc ms n index : Nat} {ret : Option FieldType} {ws : List Cond} {rm : Room} {Pc : Array Value → State → Prop} {Qc : Array Value → State → Outcome → State → Prop} {XC : String → State → State → Prop} {free : Addr → Prop} {Ts : List Cond} {own C : String} {b : Addr} {As rest : List Value} {g : JFrame}
theorem vx_runVX {hh : List (Nat × Nat × Nat × Nat)} (S : CallFix p m c cc nL s args Ts own) (hM : vx_Met l y ws rm Pc Qc XC mc ms free) (cw : vx_CVW R s args own C index y bytes maxL ret hh ws rm mc ms n) (hp : PreV s H C b Pc As)
    (hg : g.method = m) (hn : As.length = n) (hsize : g.locals.size = nL) (hstack : g.stack = As.reverse ++ .ref b :: rest) (hW : 2 * g.monitorRoom + (rest.map fun v => v.category).sum ≤ 8) (hdg : decode cc g.pc = .ok (.invokevirtual index, 3)) (hf : cells + mc ≤ R.cells ∧ slots + ms ≤ R.slots) :
    vx_Run p l e R s m args below meth c H locs cells slots mc ms g rest (Qc (Value.ref b :: As).toArray) XC free := by
  obtain ⟨⟨hrc, hrs, hfr, hlo, hws, hcw⟩, hcode, hini, hy, hlen, hl, hin, hse⟩ := cw
  have hK : vx_Back l R p e below s args y 3 8 (PreOf R mc ms Pc) (PostOf Qc mc ms free) (vx_Post XC mc ms free) := vx_backW (hh := hh) (bytes := bytes) (maxL := maxL) (ret := ret) hM hp.1 hrc hrs hfr hlo hws hcw (fun a' U hW => word_at hW (Or.inl (by first | rfl | simp [Cond.onTables, Cond.keeps, Cond.steady])) hini)
  obtain ⟨hx, hb, hml, ho, -⟩ := S
  obtain ⟨-, ⟨cellB, hcB, hoB, hclB⟩, hPc⟩ := hp
  intro T hT X
  rcases vx_callVX X hx (C := C) (hh := hh) (bytes := bytes) (maxL := maxL) (ret := ret) ho hl hin hse hcode hy hK (by rw [hT]; exact hcB) hoB hclB hg (hsize.trans hml.symm) (argsL := As) (rest := rest) (fun sig h => hn.trans (hlen sig h)) hstack hW (by rw [hb]; exact hdg)
    (fun vm₁ hW₁ => ⟨hf.1, hf.2, hPc (T.setVm vm₁) hT hW₁⟩) with ⟨v, vm₁, ⟨U', l2, c2, s2⟩, hW₁, X', ⟨g', mk, t, L, e1, e2, hq, h1, hL, h2, h3⟩, st⟩ | ⟨q, vm₁, ⟨U', l2, c2, s2⟩, hW₁, X', ⟨g', mk, t, L, E, ce, e1, e2, hq, hce, hcv, hcl, h1, hL, h2, h3⟩, st⟩
  · dsimp only [Pt.U, Pt.locs, Pt.cells, Pt.slots] at X' e1 e2 h1 h2 h3 st
    subst h1; subst h2; subst h3
    exact Or.inl ⟨v, (T.setVm vm₁).calling g' mk (Value.ref b :: As).toArray, t, U', L, hT, X', hL, e1, e2, hq, st⟩
  · dsimp only [Pt.U, Pt.locs, Pt.cells, Pt.slots] at X' e1 e2 h1 h2 h3 st hcl
    subst h1; subst h2; subst h3
    exact Or.inr ⟨q, (T.setVm vm₁).calling g' mk (Value.ref b :: As).toArray, t, U', L, E, ce, hT, X', hL, e1, e2, hq, hce, hcv, vx_cls hW₁ hcl, st⟩
theorem vx_runSX {hh : List (Nat × Nat × Nat × Nat)} (S : CallFix p m c cc nL s args Ts own) (hM : vx_Met l y ws rm Pc Qc XC mc ms free) (cw : vx_CSW R s args own index y bytes maxL ret hh ws rm mc ms n) (hp : PreS s H Pc As)
    (hg : g.method = m) (hn : As.length = n) (hsize : g.locals.size = nL) (hstack : g.stack = As.reverse ++ rest) (hW : 2 * g.monitorRoom + (rest.map fun v => v.category).sum ≤ 8) (hdg : decode cc g.pc = .ok (.invokestatic index, 3)) (hf : cells + mc ≤ R.cells ∧ slots + ms ≤ R.slots) :
    vx_Run p l e R s m args below meth c H locs cells slots mc ms g rest (Qc As.toArray) XC free := by
  obtain ⟨⟨hrc, hrs, hfr, hlo, hws, hcw⟩, hcode, hini, hy, hlen, hl, hstt⟩ := cw
  have hK : vx_Back l R p e below s args y 3 8 (PreOf R mc ms Pc) (PostOf Qc mc ms free) (vx_Post XC mc ms free) := vx_backW (hh := hh) (bytes := bytes) (maxL := maxL) (ret := ret) hM hp.1 hrc hrs hfr hlo hws hcw (fun a' U hW => word_at hW (Or.inl (by first | rfl | simp [Cond.onTables, Cond.keeps, Cond.steady])) hini)
  obtain ⟨hx, hb, hml, ho, -⟩ := S
  intro T hT X
  rcases vx_callSX X hx (hh := hh) (bytes := bytes) (maxL := maxL) (ret := ret) ho hl hstt hini hcode hy hK hg (hsize.trans hml.symm) (argsL := As) (rest := rest) (fun sig h => hn.trans (hlen sig h)) hstack hW (by rw [hb]; exact hdg)
    (fun vm₁ hW₁ => ⟨hf.1, hf.2, hp.2 (T.setVm vm₁) hT hW₁⟩) with ⟨v, vm₁, ⟨U', l2, c2, s2⟩, hW₁, X', ⟨g', mk, t, L, e1, e2, hq, h1, hL, h2, h3⟩, st⟩ | ⟨q, vm₁, ⟨U', l2, c2, s2⟩, hW₁, X', ⟨g', mk, t, L, E, ce, e1, e2, hq, hce, hcv, hcl, h1, hL, h2, h3⟩, st⟩
  · dsimp only [Pt.U, Pt.locs, Pt.cells, Pt.slots] at X' e1 e2 h1 h2 h3 st
    subst h1; subst h2; subst h3
    exact Or.inl ⟨v, (T.setVm vm₁).calling g' mk As.toArray, t, U', L, hT, X', hL, e1, e2, hq, st⟩
  · dsimp only [Pt.U, Pt.locs, Pt.cells, Pt.slots] at X' e1 e2 h1 h2 h3 st hcl
    subst h1; subst h2; subst h3
    exact Or.inr ⟨q, (T.setVm vm₁).calling g' mk As.toArray, t, U', L, E, ce, hT, X', hL, e1, e2, hq, hce, hcv, vx_cls hW₁ hcl, st⟩
end
end VXH
theorem vx_ofWH {l : Launch} {y : MethodName} {ws ws' : List Cond} {rm : Room} {Pc : Array Value → State → Prop} {Qc : Array Value → State → Outcome → State → Prop} {XC : String → State → State → Prop} {mc ms : Nat} {free : Addr → Prop} {cc : ByteArray} {maxL : Nat} {ret : Option FieldType} {hh : List (Nat × Nat × Nat × Nat)}
    (hy : plainName y.cls = true) (hw : ws = Cond.codeWith y cc maxL ret hh :: ws')
    (body : ∀ p e s m args below meth c s₁, BodyLoose p l y (headSpec ws rm) cc maxL ret e s m args below meth c s₁ → c.maxLocals = maxL → Pc args s →
      W p l e (headSpec ws rm).room s m args below meth c s.heap [] 0 0 (vx_MQ below Qc XC args s mc ms free) (entryFrame m args maxL)) : vx_Met l y ws rm Pc Qc XC mc ms free := by
  refine MetFree.of_bodyS (code := cc) (maxLocals := maxL) (ret := ret) hy ?_ ?_
  · intro args s m h hn
    obtain ⟨m9, meth, c, hn9, h1, h2, h3, h4, -, h5, h6, -⟩ := Cond.codeWith_spec (atoms_spec (ws := ws) h _ (by rw [hw]; exact List.mem_cons_self))
    cases hn.symm.trans hn9
    exact ⟨meth, c, h1, h2, h3, h4, h5, h6⟩
  · intro p e s m args below meth c s₁ B hml hP _
    have hh0 : s₁.heap = s.heap := by rw [B.state]; rfl
    obtain ⟨t, a1, o, b1, b2, b3⟩ := body p e s m args below meth c s₁ B hml hP s₁ hh0 (Stand.of_body B)
    exact ⟨t, o, a1, b1, b2, b3⟩
/-! ===== END ===== -/

/-! ===== BEGIN what the machine throws by itself, no traces kept ===== -/
section VXM
set_option maxHeartbeats 1000000 in
/-- the machine throws cls with the message text, no traces kept: from its note over the frame g to 'throwing' over the same frame (follows the proofs of Stand.vmThrowsMessage, Shelf/KitTracedVmS.lean, and Stand.throwsMessageColdBareV, StandMessageColdV.lean, without the step out of the frame) -/
theorem vx_vmAt {p : Program} {l : Launch} {e : Env} {R : Room} {s : State} {m₀ : MethodId} {args : Array Value} {below : List Frame} {meth : Method} {c : Code} {W : State} {locs : List Loc} {cells slots : Nat}
    (X : Stand p l e R s m₀ args below meth c W locs cells slots) (hexec : p.tables.exec = Jvm.exec) (htr : e.platform.stackTraces = false) {cls : String} {names : List String} {text : String}
    (hcls : Bundle.fit cls = true) (hnames : ∀ n ∈ names, Bundle.fit n = true) (hsoe : (cls == "java/lang/StackOverflowError") = false) (hoom : (cls == "java/lang/OutOfMemoryError") = false)
    (h : ∀ a ∈ Bundle.messageArmAtoms cls names, a.before args s = true)
    (hlocs : ∀ x ∈ locs, ∀ cell, s.heap[x.base]? = some cell → cell.vm.isStatics = false)
    (htext : (text == notModelled) = false) (hlimit : ¬ (stringBytes (stringToUtf16 text)).size > e.platform.arrayLengthLimit) (hheap : ¬ (stringBytes (stringToUtf16 text)).size * componentBytes .byte > e.platform.maxHeapBytes)
    {g : JFrame} (hg : g.method = m₀) (hsize : g.locals.size = c.maxLocals)
    (hRframes : names.length + 4 < R.frames) (hRlocals : 2 * g.monitorRoom + (g.stack.map fun v => v.category).sum + 10240 ≤ R.locals) (hshort : 13 * names.length + 55 ≤ 10240)
    (hRcells : cells + 3 ≤ R.cells) (hRslots : slots + ((stringBytes (stringToUtf16 text)).size + 4 + 6) ≤ R.slots) (hlocks : meth.locks = false) :
    ∃ (S : State) (q : Addr) (ce : Cell), (∀ target, Steps p.tables e below ((S.setTop g).pushFrame (.throwing q)) target → Steps p.tables e below ((W.setTop g).pushFrame (.throwNew cls (some text) none)) target) ∧
      Stand p l e R s m₀ args below meth c S locs (cells + 3) (slots + ((stringBytes (stringToUtf16 text)).size + 4 + 6)) ∧ S.heap[q]? = some ce ∧ s.vm.findClass cls = some ce.cls ∧ ce.vm = .none := by
  have howns : e.platform.frameOwnsMonitors = true := by rw [X.admits.platform]
  have hfin : e.platform.finalization = false := by rw [X.admits.platform]
  have hpl : e.platform.magicAccessors = ({} : Platform).magicAccessors := by rw [X.admits.platform]
  have a : ∀ x, x ∈ Bundle.messageArmAtoms cls names → x.holds args s none s [] = true := fun x hx => h x hx
  obtain ⟨T, Z0, L, -, Y⟩ := ThrowableC.of_atoms (args := args) howns hfin hpl (fun x hx => h x (by simp [Bundle.messageArmAtoms, hx]))
  obtain ⟨Z, M, LZ, LM, hnZ⟩ := Init0T.ofS_atoms (args := args) hpl L Y (fun x hx => h x (by simp [Bundle.messageArmAtoms, hx]))
  obtain ⟨P1, Ps, hlen, L1, hL, hP1m, hlink1, hlink⟩ := Bundle.chainS (args := args) hpl hnZ names cls hcls hnames (fun x hx => h x (by simp [Bundle.messageArmAtoms, hx]))
  obtain ⟨Zs, LZs, hn4, hfitv, hfitc⟩ := StringT.of_atoms (args := args) (fun x hx => h x (by simp [Bundle.messageArmAtoms, hx]))
  have hfound : s.vm.findClass cls = some P1.m.cls := findClass_of_methodNamed hP1m
  obtain ⟨c1, kX, hc1, hk, hord, -, -, hn6⟩ := Cond.instantiable_spec (a (.instantiable cls 6) (by simp [Bundle.messageArmAtoms]))
  cases Option.some.inj (hc1.symm.trans hfound)
  have hinit := Cond.initialized_spec hfound hk (a (.initialized cls) (by simp [Bundle.messageArmAtoms]))
  have hctor : kX.findMethod "<init>" "(Ljava/lang/String;)V" = some P1.m.idx := findMethod_of_methodNamed hP1m hk
  have hsel0 : selectMethod e.platform s.vm P1.m.cls T.fill0 = .method T.fill0 := by
    obtain ⟨c2, r2, m2, q1, q2, q3, q4, -⟩ := Cond.selects_spec (a (.selects cls Bundle.tFill0 Bundle.tFill0) (by simp [Bundle.messageArmAtoms]))
    cases Option.some.inj (q1.symm.trans hfound)
    cases Option.some.inj (q2.symm.trans (State.methodFound?_of_named Y.fill0 (by decide)))
    cases Option.some.inj (q3.symm.trans Y.fill0)
    rw [Launch.admits_selectMethod X.admits]; exact q4
  have hselF : selectMethod e.platform s.vm P1.m.cls T.fill = .method T.fill := by
    obtain ⟨c2, r2, m2, q1, q2, q3, q4, -⟩ := Cond.selects_spec (a (.selects cls Bundle.tFill Bundle.tFill) (by simp [Bundle.messageArmAtoms]))
    cases Option.some.inj (q1.symm.trans hfound)
    cases Option.some.inj (q2.symm.trans (State.methodFound?_of_named Y.fill (by decide)))
    cases Option.some.inj (q3.symm.trans Y.fill)
    rw [Launch.admits_selectMethod X.admits]; exact q4
  obtain ⟨cellS0, hcS0, hiss⟩ := Y.statics
  obtain ⟨u0, hu0⟩ := Cond.staticRefV Y.unassigned L.unassignedStatic L.statics hcS0 hiss (a (.isRef (.static Bundle.tN "UNASSIGNED_STACK" Bundle.steD)) (by simp [Bundle.messageArmAtoms]))
  obtain ⟨sen, hsen⟩ := Cond.staticRefV Y.sentinel L.sentinelStatic L.statics hcS0 hiss (a (.isRef (.static Bundle.tN "SUPPRESSED_SENTINEL" Bundle.listD)) (by simp [Bundle.messageArmAtoms]))
  obtain ⟨ci198, i198, fB, hk198, hg198, ha198, hsB, -, hnB, htB, hffB⟩ := Cond.ownField (t := .object "java/lang/Object") Y.found L.cls (by decide +kernel) (a (.fieldLink Bundle.tN 198 Bundle.tN "backtrace" "Ljava/lang/Object;") (by simp [Bundle.messageArmAtoms])) (a (.lays Bundle.tN Bundle.tN "backtrace" "Ljava/lang/Object;") (by simp [Bundle.messageArmAtoms])) e.platform hpl
  obtain ⟨cellS, hcS', heS, -, hkeep⟩ := X.same.2.2.2.2.2 T.aS cellS0 hcS0
  have hcellS : W.heap[T.aS]? = some cellS := hcS'
  have hout' : ∀ i, (⟨T.aS, i⟩ : Loc) ∉ locs := fun i hmem => by
    have := hlocs _ hmem cellS0 hcS0
    rw [hiss] at this; cases this
  have hknownS : cellS.vm ≠ .unknown := by
    rw [heS]; intro hu
    rw [show cellS0.vm = .unknown from hu] at hiss
    cases hiss
  have hvU : cellS.slots[T.fUnassigned.slot]? = some u0.v := by rw [hkeep _ (hout' _)]; exact hu0
  have hvSen : cellS.slots[T.fSentinel.slot]? = some sen.v := by rw [hkeep _ (hout' _)]; exact hsen
  obtain ⟨iM, hffM⟩ := Y.msg
  obtain ⟨tyC, dC, hdC, hdnC⟩ := Cond.laysAt hfound hk Y.cause (a (.lays cls Bundle.tN "cause" "Ljava/lang/Throwable;") (by simp [Bundle.messageArmAtoms]))
  obtain ⟨tyS, dS, hdS, hdnS⟩ := Cond.laysAt hfound hk Y.stack (a (.lays cls Bundle.tN "stackTrace" Bundle.steD) (by simp [Bundle.messageArmAtoms]))
  obtain ⟨tyP, dP, hdP, hdnP⟩ := Cond.laysAt hfound hk Y.supp (a (.lays cls Bundle.tN "suppressedExceptions" Bundle.listD) (by simp [Bundle.messageArmAtoms]))
  obtain ⟨tyM, dM, hdM, hdnM⟩ := Cond.laysAt hfound hk hffM (a (.lays cls Bundle.tN "detailMessage" "Ljava/lang/String;") (by simp [Bundle.messageArmAtoms]))
  obtain ⟨tyB, dB, hdB, hdnB⟩ := Cond.laysAt hfound hk hffB (a (.lays cls Bundle.tN "backtrace" "Ljava/lang/Object;") (by simp [Bundle.messageArmAtoms]))
  have bC := Cond.laysApart hdB hdC hdnB hdnC (by rw [hnB, Y.causeName]; decide)
  have bS := Cond.laysApart hdB hdS hdnB hdnS (by rw [hnB, Y.stackName]; decide)
  have bP := Cond.laysApart hdB hdP hdnB hdnP (by rw [hnB, Y.suppName]; decide)
  have hbk : ((preparedCellV T.toThrowableT (freshCell P1.m.cls kX) (W.heap.size + 2) u0 sen).withEntry W.cur).slots[fB.slot]? = some .null := by
    have := fresh_default (c := P1.m.cls) tyB
    rw [htB] at this
    simpa [preparedCellV, Cell.setSlot, Cell.withEntry, Array.getElem?_setIfInBounds, bC, bS, bP, bC.symm, bS.symm, bP.symm, defaultValue] using this
  have tkC := Takes.of_laid (v := .ref (W.heap.size + 2)) hk hord tyC (by rw [Y.causeType]; rfl)
  have tkS := Takes.of_laid (v := u0.v) hk hord tyS (by rw [Y.stackType]; exact fits_refV_array _ u0)
  have tkP := Takes.of_laid (v := sen.v) hk hord tyP (by rw [Y.suppType]; exact fits_refV_object _ sen)
  have tkM := Takes.of_laid (v := .ref (W.heap.size + 1)) hk hord tyM (by rw [Y.msgType]; rfl)
  have hskip : SkipFacts T e.platform s (fun u => u) u0 ((preparedCellV T.toThrowableT (freshCell P1.m.cls kX) (W.heap.size + 2) u0 sen).withEntry W.cur) := ⟨{ ci198 := ci198, i198 := i198, fBack := fB }, ⟨hk198, hg198, ha198, hsB⟩, hbk, fun _ _ => rfl⟩
  have h0 : At W g.method c below := by rw [hg]; exact X.here
  obtain ⟨hbeyond, hfreeW⟩ := X.vmMayThrow hsize (.throwNew cls (some text) none) (fun f hf => by cases hf) rfl hRlocals
  have hfr' : W.frames.length + Ps.length + 4 < (e.platform.stackLimits W.me).1 := by have := X.framesAbove hRframes; omega
  have hwd' : (stackUse (.java g :: W.frames.tail)).2 + 13 * Ps.length + 55 ≤ (e.platform.stackLimits W.me).2 := by have := X.stackAbove hsize (K := 13 * Ps.length + 55) (by omega); omega
  have hslots : W.slotsUsed + (stringBytes (stringToUtf16 text)).size + Zs.kS.instanceTypes.size + kX.instanceTypes.size ≤ e.platform.maxSlots := by
    have := X.slotsAbove hRslots
    rw [hn4, hn6]
    omega
  obtain ⟨vm', hW', st⟩ := Steps.vmThrowsMessageColdByV p (s₀ := s) (S := W) (g := g) h0 hexec T L Z LZ M LM X.warmed (t := W.cur) rfl Zs LZs P1 L1 Ps hL hlink1 hlink hsoe hoom hfound hk hinit hord hctor
    (Launch.admits_hotImplicitExceptions X.admits) hbeyond hfreeW htext hlimit hheap (X.cellsAbove hRcells) hslots (hfitv _) (hfitc _)
    (Nn := fun u => u) heapOnly_id (fun _ _ => rfl) (fun _ => rfl) (fun u x y => setCell_twice _ _ _ _) (fun _ => Nat.le_refl _) (cN := ((preparedCellV T.toThrowableT (freshCell P1.m.cls kX) (W.heap.size + 2) u0 sen).withEntry W.cur))
    hsel0 hcellS hknownS hvU tkS (fun _ hu => hu) (fun _ hu => hu) rfl rfl rfl (by simp [preparedCellV, Cell.setSlot, Cell.withEntry]) hskip (fun _ _ hA hW _ hroom _ hrest => L.nativeOff p htr hA hW hroom hrest) hselF hvSen tkC tkP tkM Y.objLocals rfl hfr' hwd'
  rw [plainBareV_eq T.toThrowableT (W.heap.size + 2) u0 sen (.ref (W.heap.size + 1)) W.cur rfl rfl] at st
  obtain ⟨-, -, w3, w4, -, -, -⟩ := withThrown_facts e.platform W Zs text P1.m.cls kX
  have X3 := ((X.pushed (bytesOf Zs.cB (stringToUtf16 text))).pushed (stringAt Zs.cS Zs.kS Zs.fv Zs.fc (stringToUtf16 text) W.heap.size)).pushed (freshCell P1.m.cls kX)
  rw [← withString_eq] at X3
  have X4 := X3.noted hW'
  have ha : (W.heap.size + 2) < ((withThrown W Zs text P1.m.cls kX).setVm vm').heap.size := by show _ < (withThrown W Zs text P1.m.cls kX).heap.size; rw [w3]; omega
  have hcell : ((withThrown W Zs text P1.m.cls kX).setVm vm').heap[(W.heap.size + 2)]? = some (freshCell P1.m.cls kX) := w4
  have X5 := ((((X4.stored hcell T.fCause.slot (.ref (W.heap.size + 2))).storedAgain ha T.fStack.slot u0.v).storedAgain ha T.fSupp.slot sen.v).storedAgain ha T.fStack.slot u0.v).storedAgain ha T.fMsg.slot (.ref (W.heap.size + 1))
  obtain ⟨g₁, hfrM⟩ := X5.frames_eq
  have hU : ((((withThrown W Zs text P1.m.cls kX).setVm vm').setCell (W.heap.size + 2) (plainBareV T.toThrowableT (freshCell P1.m.cls kX) (W.heap.size + 2) u0 sen (.ref (W.heap.size + 1)))).setTop g).pushFrame (.throwing (W.heap.size + 2)) = (((withThrown W Zs text P1.m.cls kX).setVm vm').setCell (W.heap.size + 2) (plainBareV T.toThrowableT (freshCell P1.m.cls kX) (W.heap.size + 2) u0 sen (.ref (W.heap.size + 1)))).setFrames (.throwing (W.heap.size + 2) :: .java g :: below) := by
    rw [State.pushFrame, State.frames_setTop _ hfrM, State.setTop_of_frames _ hfrM, State.setFrames_setFrames]
  have b1 : (bytesOf Zs.cB (stringToUtf16 text)).slots.size = (stringBytes (stringToUtf16 text)).size := by
    rw [(Cell.writeAll_facts _ _).2.2]; simp [bytes0]
  have b2 : (stringAt Zs.cS Zs.kS Zs.fv Zs.fc (stringToUtf16 text) W.heap.size).slots.size = 4 := by simp [string0, Cell.setSlot, hn4]
  have b3 : (freshCell P1.m.cls kX).slots.size = 6 := by simp [hn6]
  rw [b1, b2, b3] at X5
  have e9 : slots + (stringBytes (stringToUtf16 text)).size + 4 + 6 = slots + ((stringBytes (stringToUtf16 text)).size + 4 + 6) := by omega
  rw [e9] at X5
  simp only [List.append_assoc, List.cons_append, List.nil_append] at X5
  refine ⟨((withThrown W Zs text P1.m.cls kX).setVm vm').setCell (W.heap.size + 2) (plainBareV T.toThrowableT (freshCell P1.m.cls kX) (W.heap.size + 2) u0 sen (.ref (W.heap.size + 1))), W.heap.size + 2, _, fun target ht => st _ (by rw [X.tail, ← hU]; exact ht),
    X5.forget (fun y hy => ?_), heapAt_setCell_self _ ha, hfound, rfl⟩
  simp only [List.mem_cons, List.not_mem_nil, or_false] at hy
  have hge : s.heap.size ≤ W.heap.size := X.same.2.1
  rcases hy with rfl | rfl | rfl | rfl | rfl <;> exact Nat.le_trans hge (Nat.le_add_right _ 2)
set_option maxHeartbeats 1000000 in
/-- the machine throws NullPointerException, no traces kept: from its note over the frame g to 'throwing' over the same frame (follows the proof of Stand.vmThrowsNpe, Shelf42/KT2.lean; throwsNpeColdBareVAt, Shelf42/NT91.lean, called) -/
theorem vx_npeAt {p : Program} {l : Launch} {e : Env} {R : Room} {s : State} {m₀ : MethodId} {args : Array Value} {below : List Frame} {meth : Method} {c : Code} {W : State} {locs : List Loc} {cells slots : Nat}
    (X : Stand p l e R s m₀ args below meth c W locs cells slots) (hexec : p.tables.exec = Jvm.exec) (htr : e.platform.stackTraces = false) {n : Nat}
    (h : ∀ a ∈ Bundle.npeArmAtoms n, a.before args s = true)
    (hlocs : ∀ x ∈ locs, ∀ cell, s.heap[x.base]? = some cell → cell.vm.isStatics = false)
    {g : JFrame} (hg : g.method = m₀) (hsize : g.locals.size = c.maxLocals)
    (hRframes : 7 < R.frames) (hRlocals : 2 * g.monitorRoom + (g.stack.map fun v => v.category).sum + 10240 ≤ R.locals)
    (hRcells : cells + 1 ≤ R.cells) (hRslots : slots + n ≤ R.slots) (hlocks : meth.locks = false) :
    ∃ (S : State) (q : Addr) (ce : Cell), (∀ target, Steps p.tables e below ((S.setTop g).pushFrame (.throwing q)) target → Steps p.tables e below ((W.setTop g).pushFrame (.throwNew "java/lang/NullPointerException" none none)) target) ∧
      Stand p l e R s m₀ args below meth c S locs (cells + 1) (slots + n) ∧ S.heap[q]? = some ce ∧ s.vm.findClass "java/lang/NullPointerException" = some ce.cls ∧ ce.vm = .none := by
  have howns : e.platform.frameOwnsMonitors = true := by rw [X.admits.platform]
  have hfin : e.platform.finalization = false := by rw [X.admits.platform]
  have hpl : e.platform.magicAccessors = ({} : Platform).magicAccessors := by rw [X.admits.platform]
  have hpl2 : e.platform.arrayCloneIsPublic = true := by rw [X.admits.platform]
  have a' : ∀ x, x ∈ Bundle.npeArmAtoms n → x.holds args s none s [] = true := fun x hx => h x hx
  obtain ⟨T, Z, L, LZ, Y⟩ := ThrowableC.of_atoms (args := args) howns hfin hpl (fun x hx => h x (by simp [Bundle.npeArmAtoms, hx]))
  obtain ⟨N, LN, hcN, hnNF, hordN, hffS⟩ := NpeC.of_atoms (args := args) hpl hpl2 L Y (fun x hx => h x (by simp [Bundle.npeArmAtoms, hx]))
  obtain ⟨P1, L1, hP1m, hP1s⟩ := PassC.of_atoms (args := args) (s := s) hpl (X := Bundle.nN) (Y := Bundle.rN) (by decide) (by decide) LibCode.NullPointerException.Init0.at_0 LibCode.NullPointerException.Init0.at_1 LibCode.NullPointerException.Init0.at_4 (fun x hx => h x (by simp [Bundle.npeArmAtoms, hx]))
  obtain ⟨PR, LR, hPRm, hPRs⟩ := PassC.of_atoms (args := args) (s := s) hpl (X := Bundle.rN) (Y := Bundle.eN) (by decide) (by decide) LibCode.RuntimeException.Init0.at_0 LibCode.RuntimeException.Init0.at_1 LibCode.RuntimeException.Init0.at_4 (fun x hx => h x (by simp [Bundle.npeArmAtoms, hx]))
  obtain ⟨PE, LEx, hPEm, hPEs⟩ := PassC.of_atoms (args := args) (s := s) hpl (X := Bundle.eN) (Y := Bundle.tN) (by decide) (by decide) LibCode.Exception.Init0.at_0 LibCode.Exception.Init0.at_1 LibCode.Exception.Init0.at_4 (fun x hx => h x (by simp [Bundle.npeArmAtoms, hx]))
  have hfound : s.vm.findClass Bundle.nN = some P1.m.cls := findClass_of_methodNamed hP1m
  have ecls : N.cN = P1.m.cls := Option.some.inj (hcN.symm.trans hfound)
  have hk : s.vm.classes[P1.m.cls]? = some N.kN := by rw [← ecls]; exact LN.cls
  have hinit := Cond.initialized_spec hfound hk (a' (.initialized Bundle.nN) (by simp [Bundle.npeArmAtoms]))
  have hctor : N.kN.findMethod "<init>" "()V" = some P1.m.idx := findMethod_of_methodNamed hP1m hk
  obtain ⟨c1, k1, hc1, hk1, -, -, -, hn⟩ := Cond.instantiable_spec (a' (.instantiable Bundle.nN n) (by simp [Bundle.npeArmAtoms]))
  cases Option.some.inj (hc1.symm.trans hfound)
  cases Option.some.inj (hk1.symm.trans hk)
  have hfsz : (freshCell P1.m.cls N.kN).slots.size = n := by simp [hn]
  have hlink1 : P1.sup = PR.m := Option.some.inj (hP1s.symm.trans hPRm)
  have hlinkR : PR.sup = PE.m := Option.some.inj (hPRs.symm.trans hPEm)
  have hlinkE : PE.sup = Z.m T.toThrowableT := Option.some.inj (hPEs.symm.trans Y.init0)
  have hLs : ∀ P, P ∈ [PR, PE] → P.Links0 e.platform s := fun P hP => by
    simp only [List.mem_cons, List.not_mem_nil, or_false] at hP
    rcases hP with rfl | rfl
    · exact LR
    · exact LEx
  have hsel0 : selectMethod e.platform s.vm P1.m.cls T.fill0 = .method T.fill0 := by
    obtain ⟨c2, r2, m2, q1, q2, q3, q4, -⟩ := Cond.selects_spec (a' (.selects Bundle.nN Bundle.tFill0 Bundle.tFill0) (by simp [Bundle.npeArmAtoms]))
    cases Option.some.inj (q1.symm.trans hfound)
    cases Option.some.inj (q2.symm.trans (State.methodFound?_of_named Y.fill0 (by decide)))
    cases Option.some.inj (q3.symm.trans Y.fill0)
    rw [Launch.admits_selectMethod X.admits]; exact q4
  have hselF : selectMethod e.platform s.vm P1.m.cls T.fill = .method N.fill := by
    obtain ⟨c2, r2, m2, q1, q2, q3, q4, -⟩ := Cond.selects_spec (a' (.selects Bundle.nN Bundle.tFill Bundle.nFill) (by simp [Bundle.npeArmAtoms]))
    cases Option.some.inj (q1.symm.trans hfound)
    cases Option.some.inj (q2.symm.trans (State.methodFound?_of_named Y.fill (by decide)))
    cases Option.some.inj (q3.symm.trans hnNF)
    rw [Launch.admits_selectMethod X.admits]; exact q4
  obtain ⟨cellS0, hcS0, hiss⟩ := Y.statics
  obtain ⟨u0, hu0⟩ := Cond.staticRefV Y.unassigned L.unassignedStatic L.statics hcS0 hiss (a' (.isRef (.static Bundle.tN "UNASSIGNED_STACK" Bundle.steD)) (by simp [Bundle.npeArmAtoms]))
  obtain ⟨sen, hsen⟩ := Cond.staticRefV Y.sentinel L.sentinelStatic L.statics hcS0 hiss (a' (.isRef (.static Bundle.tN "SUPPRESSED_SENTINEL" Bundle.listD)) (by simp [Bundle.npeArmAtoms]))
  obtain ⟨ci198, i198, fB, hk198, hg198, ha198, hsB, -, hnB, htB, hffB⟩ := Cond.ownField (t := .object "java/lang/Object") Y.found L.cls (by decide +kernel) (a' (.fieldLink Bundle.tN 198 Bundle.tN "backtrace" Bundle.objD) (by simp [Bundle.npeArmAtoms])) (a' (.lays Bundle.tN Bundle.tN "backtrace" Bundle.objD) (by simp [Bundle.npeArmAtoms])) e.platform hpl
  obtain ⟨cellS, hcS', heS, -, hkeep⟩ := X.same.2.2.2.2.2 T.aS cellS0 hcS0
  have hcellS : W.heap[T.aS]? = some cellS := hcS'
  have hout' : ∀ i, (⟨T.aS, i⟩ : Loc) ∉ locs := fun i hmem => by
    have := hlocs _ hmem cellS0 hcS0
    rw [hiss] at this; cases this
  have hknownS : cellS.vm ≠ .unknown := by
    rw [heS]; intro hu
    rw [show cellS0.vm = .unknown from hu] at hiss
    cases hiss
  have hvU : cellS.slots[T.fUnassigned.slot]? = some u0.v := by rw [hkeep _ (hout' _)]; exact hu0
  have hvSen : cellS.slots[T.fSentinel.slot]? = some sen.v := by rw [hkeep _ (hout' _)]; exact hsen
  obtain ⟨tyC, dC, hdC, hdnC⟩ := Cond.laysAt hfound hk Y.cause (a' (.lays Bundle.nN Bundle.tN "cause" "Ljava/lang/Throwable;") (by simp [Bundle.npeArmAtoms]))
  obtain ⟨tyS, dS, hdS, hdnS⟩ := Cond.laysAt hfound hk Y.stack (a' (.lays Bundle.nN Bundle.tN "stackTrace" Bundle.steD) (by simp [Bundle.npeArmAtoms]))
  obtain ⟨tyP, dP, hdP, hdnP⟩ := Cond.laysAt hfound hk Y.supp (a' (.lays Bundle.nN Bundle.tN "suppressedExceptions" Bundle.listD) (by simp [Bundle.npeArmAtoms]))
  obtain ⟨tyX, dX, hdX, hdnX⟩ := Cond.laysAt hfound hk hffS (a' (.lays Bundle.nN Bundle.nN "extendedMessageState" "I") (by simp [Bundle.npeArmAtoms, Bundle.npeAtoms]))
  obtain ⟨hnX, htX⟩ := State.fieldFound?_type hffS (t := .int) (by decide +kernel)
  have xC := Cond.laysApart hdC hdX hdnC hdnX (by rw [hnX, Y.causeName]; decide)
  have xS := Cond.laysApart hdS hdX hdnS hdnX (by rw [hnX, Y.stackName]; decide)
  have xP := Cond.laysApart hdP hdX hdnP hdnX (by rw [hnX, Y.suppName]; decide)
  have hv0 : (freshCell P1.m.cls N.kN).slots[N.fState.slot]? = some (.int 0) := by
    have := fresh_default (c := P1.m.cls) tyX
    rw [htX] at this; exact this
  obtain ⟨tyB, dB, hdB, hdnB⟩ := Cond.laysAt hfound hk hffB (a' (.lays Bundle.nN Bundle.tN "backtrace" Bundle.objD) (by simp [Bundle.npeArmAtoms]))
  have bC := Cond.laysApart hdB hdC hdnB hdnC (by rw [hnB, Y.causeName]; decide)
  have bS := Cond.laysApart hdB hdS hdnB hdnS (by rw [hnB, Y.stackName]; decide)
  have bP := Cond.laysApart hdB hdP hdnB hdnP (by rw [hnB, Y.suppName]; decide)
  have bX := Cond.laysApart hdB hdX hdnB hdnX (by rw [hnB, hnX]; decide)
  have hbk : ((npeCell N.toNpeT (preparedCellV T.toThrowableT (freshCell P1.m.cls N.kN) W.heap.size u0 sen) W.cur).withEntry W.cur).slots[fB.slot]? = some .null := by
    have := fresh_default (c := P1.m.cls) tyB
    rw [htB] at this
    simpa [npeCell, preparedCellV, Cell.setSlot, Cell.withEntry, Array.getElem?_setIfInBounds, bC, bS, bP, bX, bC.symm, bS.symm, bP.symm, bX.symm, defaultValue] using this
  have tkC := Takes.of_laid (v := .ref W.heap.size) hk hordN tyC (by rw [Y.causeType]; rfl)
  have tkS := Takes.of_laid (v := u0.v) hk hordN tyS (by rw [Y.stackType]; exact fits_refV_array _ u0)
  have tkP := Takes.of_laid (v := sen.v) hk hordN tyP (by rw [Y.suppType]; exact fits_refV_object _ sen)
  have tkX := Takes.of_laid (v := .int 1) hk hordN tyX (by rw [htX]; rfl)
  have hskip : SkipFacts T e.platform s (fun u => u) u0 ((npeCell N.toNpeT (preparedCellV T.toThrowableT (freshCell P1.m.cls N.kN) W.heap.size u0 sen) W.cur).withEntry W.cur) := ⟨{ ci198 := ci198, i198 := i198, fBack := fB }, ⟨hk198, hg198, ha198, hsB⟩, hbk, fun _ _ => rfl⟩
  obtain ⟨vm', X3, st, -⟩ := X.throwsNpeColdBareVAt hexec hg hsize T L Z LZ N LN P1 L1 [PR, PE] hLs hlink1 ⟨hlinkR, hlinkE, trivial⟩ hfound hk hinit hordN hctor hsel0 hselF hcellS hknownS hvU hvSen
    hv0 xC xS xP tkC tkS tkP tkX Y.objLocals hskip (fun _ _ hA hW _ hroom _ hrest => L.nativeOff p htr hA hW hroom hrest) (by simpa using hRframes) hRlocals (by simp) hRcells (by rw [hn]; exact hRslots)
  have hlt : W.heap.size < ((W.pushCell (freshCell P1.m.cls N.kN)).setVm vm').heap.size := by
    show W.heap.size < (W.pushCell (freshCell P1.m.cls N.kN)).heap.size
    rw [State.heap_size_pushCell]; omega
  rw [hfsz] at X3
  obtain ⟨g₁, hfrM⟩ := X3.frames_eq
  have hU : ((((W.pushCell (freshCell P1.m.cls N.kN)).setVm vm').setCell W.heap.size (npeBareV T.toThrowableT N.toNpeT (freshCell P1.m.cls N.kN) W.heap.size u0 sen)).setTop g).pushFrame (.throwing W.heap.size) = (((W.pushCell (freshCell P1.m.cls N.kN)).setVm vm').setCell W.heap.size (npeBareV T.toThrowableT N.toNpeT (freshCell P1.m.cls N.kN) W.heap.size u0 sen)).setFrames (.throwing W.heap.size :: .java g :: below) := by
    rw [State.pushFrame, State.frames_setTop _ hfrM, State.setTop_of_frames _ hfrM, State.setFrames_setFrames]
  refine ⟨_, W.heap.size, _, fun target ht => st.trans (by rw [← hU]; exact ht), X3.forget (fun y hy => ?_), heapAt_setCell_self _ hlt, hfound, rfl⟩
  simp only [List.mem_cons, List.not_mem_nil, or_false] at hy
  have hge : s.heap.size ≤ W.heap.size := X.same.2.1
  rcases hy with rfl | rfl | rfl | rfl | rfl <;> exact hge
/-- the words of a machine's NullPointerException, but the four that speak of the heap -/
def vx_atN (n : Nat) : List Cond := (Bundle.npeArmAtoms n).filter vx_no
/-- the words of a machine's throw with a message, but the four that speak of the heap -/
def vx_atM (X : String) (names : List String) : List Cond := (Bundle.messageArmAtoms X names).filter vx_no
section
variable {p : Program} {l : Launch} {e : Env} {R : Room} {s : State} {m : MethodId} {args : Array Value} {below : List Frame} {meth : Method} {c : Code} {H : Heap} {locs : List Loc} {cells slots : Nat}
/-- a frame seen from a rebased start, seen from the first start again -/
theorem vx_back9 {T S : State} {R' : Room} {k n : Nat} (X : Stand p l e R s m args below meth c T locs cells slots) (Y : Stand p l e R' ((T.setVm s.vm).setFrames (.invoking m args :: below)) m args below meth c T [] 0 0) (Z : Stand p l e R' ((T.setVm s.vm).setFrames (.invoking m args :: below)) m args below meth c S [] k n) :
    Stand p l e R s m args below meth c S locs (cells + k) (slots + n) := by
  have hW0 : s.WarmedH ((T.setVm s.vm).setFrames (.invoking m args :: below)).vm := State.WarmedH.refl s
  refine { admits := X.admits, cas := X.cas, clock := X.clock, frames := X.frames, room := X.room, hears := X.hears, method := X.method, code := X.code, here := Z.here, tail := Z.tail, warmed := State.WarmedH.trans hW0 Z.warmed, limits := Z.limits.trans (Y.limits.symm.trans X.limits), bytes := Z.bytes.trans (Y.bytes.symm.trans X.bytes), same := ?_ }
  obtain ⟨e1, e2⟩ := Z.same
  rw [State.setFrames_setFrames] at e1
  have h2 : (T.setVm s.vm).sameButNew (S.setVm s.vm) [] k n := ⟨e1, e2⟩
  have h3 := X.same.trans h2
  rw [List.append_nil] at h3
  exact h3
/-- from the machine's note that E is thrown here with this text -/
def vx_Note (p : Program) (l : Launch) (e : Env) (R : Room) (s : State) (m : MethodId) (args : Array Value) (below : List Frame) (meth : Method) (c : Code) (H : Heap) (locs : List Loc) (cells slots : Nat) (Q : State → Prop) (g : JFrame) (E text : String) : Prop :=
  ∀ T : State, T.heap = H → Stand p l e R s m args below meth c T locs cells slots → ∃ t, Steps p.tables e below ((T.setTop g).pushFrame (.throwNew E (some text) none)) t ∧ Q t
theorem vx_vm {pc : Nat} {ls : Array Slot} {rest : List Value} {Q : State → Prop} (hexec : p.tables.exec = Jvm.exec) (hl : l.stackTraces = false) {cls text : String} {names : List String} {nb : Nat} {A : Nat → Prop}
    (hcls : Bundle.fit cls = true) (hnames : ∀ n ∈ names, Bundle.fit n = true) (hsoe : (cls == "java/lang/StackOverflowError") = false) (hoom : (cls == "java/lang/OutOfMemoryError") = false)
    (hat : ∀ w ∈ vx_atM cls names, w.before args s = true) (hgood : ∀ w ∈ vx_atM cls names, vx_ot w = true)
    (hU : vx_Zq Bundle.tN "UNASSIGNED_STACK" Bundle.steD A s s.heap) (hN : vx_Zq Bundle.tN "SUPPRESSED_SENTINEL" Bundle.listD A s s.heap) (hS : va_S A s.heap H locs) (hsize : ls.size = c.maxLocals)
    (htext : (text == notModelled) = false) (hnb : (stringBytes (stringToUtf16 text)).size ≤ nb) (hnb1 : nb ≤ 1000)
    (hRframes : names.length + 4 < R.frames) (hRlocals : (rest.map fun v => v.category).sum + 10240 ≤ R.locals) (hshort : 13 * names.length + 55 ≤ 10240) (hRcells : cells + 3 ≤ R.cells) (hRslots : slots + (nb + 10) ≤ R.slots) (hlocks : meth.locks = false)
    (k : ∀ (H1 : Heap) (q9 : Addr) (ce : Cell), H.size ≤ H1.size → (∀ q : Nat, q < H.size → H1[q]? = H[q]?) → va_S A s.heap H1 locs → H1[q9]? = some ce → ce.vm = .none → s.vm.findClass cls = some ce.cls → vx_W p l e R s m args below meth c H1 locs (cells + 3) (slots + (nb + 10)) Q (F0 m pc ls rest) q9) :
    vx_Note p l e R s m args below meth c H locs cells slots Q (F0 m pc ls rest) cls text := by
  intro T hT X
  have htr : e.platform.stackTraces = false := (show e.platform.stackTraces = l.stackTraces by rw [X.admits.platform]).trans hl
  have Y := vx_rebase X (R' := { frames := R.frames, locals := R.locals, cells := 3, slots := nb + 10 }) (Nat.le_refl _) (Nat.le_refl _) hRcells hRslots
  have hhp : ((T.setVm s.vm).setFrames (.invoking m args :: below)).heap = H := hT
  have hW0 : s.WarmedH ((T.setVm s.vm).setFrames (.invoking m args :: below)).vm := State.WarmedH.refl s
  have hat' : ∀ w ∈ vx_atM cls names, w.before args ((T.setVm s.vm).setFrames (.invoking m args :: below)) = true := fun w hw => vx_ot_at hW0 rfl (hgood w hw) (hat w hw)
  have hU' : vx_Zq Bundle.tN "UNASSIGNED_STACK" Bundle.steD A ((T.setVm s.vm).setFrames (.invoking m args :: below)) ((T.setVm s.vm).setFrames (.invoking m args :: below)).heap := by rw [hhp]; exact vx_Zq.moved hW0.alike (hU.kept hS.2.1)
  have hN' : vx_Zq Bundle.tN "SUPPRESSED_SENTINEL" Bundle.listD A ((T.setVm s.vm).setFrames (.invoking m args :: below)) ((T.setVm s.vm).setFrames (.invoking m args :: below)).heap := by rw [hhp]; exact vx_Zq.moved hW0.alike (hN.kept hS.2.1)
  obtain ⟨S, q, ce, st, Z, hce, hcl', hv⟩ := vx_vmAt Y hexec htr (cls := cls) (names := names) (text := text) hcls hnames hsoe hoom (vx_own hat' (vx_isRefq hU'.1) (vx_isRefq hN'.1) hU'.2.word hN'.2.word) (fun x hx => nomatch hx) htext
    (by rw [Launch.admits_arrayLengthLimit X.admits]; omega) (by rw [Launch.admits_maxHeapBytes X.admits]; simp only [componentBytes]; omega)
    (g := F0 m pc ls rest) rfl hsize hRframes (by show 2 * 0 + (rest.map fun v => v.category).sum + 10240 ≤ R.locals; omega) hshort (by show 0 + 3 ≤ 3; omega) (by show 0 + (_ + 4 + 6) ≤ nb + 10; omega) hlocks
  obtain ⟨f1, f2⟩ := vx_frame Z.same
  have f1' : H.size ≤ S.heap.size := by rw [← hT]; exact f1
  have f2' : ∀ q : Nat, q < H.size → S.heap[q]? = H[q]? := fun q hq => by
    rw [← hT]
    exact f2 q (by rw [← hT] at hq; exact hq) (fun z hz => nomatch hz)
  have X5 := vx_back9 X Y Z
  have X6 : Stand p l e R s m args below meth c S locs (cells + 3) (slots + (nb + 10)) := { X5 with same := X5.same.mono (by omega) (by omega) }
  obtain ⟨t, a1, b1⟩ := k S.heap q ce f1' f2' ⟨Nat.le_trans hS.1 f1', fun q h1 h2 => (f2' q (Nat.lt_of_lt_of_le h1 hS.1)).trans (hS.2.1 q h1 h2), hS.2.2⟩ hce hv hcl' S rfl X6
  exact ⟨t, st t a1, b1⟩
/-- from the machine's note that NullPointerException is thrown here -/
def vx_NoteN (p : Program) (l : Launch) (e : Env) (R : Room) (s : State) (m : MethodId) (args : Array Value) (below : List Frame) (meth : Method) (c : Code) (H : Heap) (locs : List Loc) (cells slots : Nat) (Q : State → Prop) (g : JFrame) : Prop :=
  ∀ T : State, T.heap = H → Stand p l e R s m args below meth c T locs cells slots → ∃ t, Steps p.tables e below ((T.setTop g).pushFrame (.throwNew "java/lang/NullPointerException" none none)) t ∧ Q t
theorem vx_npe {pc : Nat} {ls : Array Slot} {rest : List Value} {Q : State → Prop} (hexec : p.tables.exec = Jvm.exec) (hl : l.stackTraces = false) {nb : Nat} {A : Nat → Prop}
    (hat : ∀ w ∈ vx_atN nb, w.before args s = true) (hgood : ∀ w ∈ vx_atN nb, vx_ot w = true)
    (hU : vx_Zq Bundle.tN "UNASSIGNED_STACK" Bundle.steD A s s.heap) (hN : vx_Zq Bundle.tN "SUPPRESSED_SENTINEL" Bundle.listD A s s.heap) (hS : va_S A s.heap H locs) (hsize : ls.size = c.maxLocals)
    (hRframes : 7 < R.frames) (hRlocals : (rest.map fun v => v.category).sum + 10240 ≤ R.locals) (hRcells : cells + 1 ≤ R.cells) (hRslots : slots + nb ≤ R.slots) (hlocks : meth.locks = false)
    (k : ∀ (H1 : Heap) (q9 : Addr) (ce : Cell), H.size ≤ H1.size → (∀ q : Nat, q < H.size → H1[q]? = H[q]?) → va_S A s.heap H1 locs → H1[q9]? = some ce → ce.vm = .none → s.vm.findClass "java/lang/NullPointerException" = some ce.cls → vx_W p l e R s m args below meth c H1 locs (cells + 1) (slots + nb) Q (F0 m pc ls rest) q9) :
    vx_NoteN p l e R s m args below meth c H locs cells slots Q (F0 m pc ls rest) := by
  intro T hT X
  have htr : e.platform.stackTraces = false := (show e.platform.stackTraces = l.stackTraces by rw [X.admits.platform]).trans hl
  have Y := vx_rebase X (R' := { frames := R.frames, locals := R.locals, cells := 1, slots := nb }) (Nat.le_refl _) (Nat.le_refl _) hRcells hRslots
  have hhp : ((T.setVm s.vm).setFrames (.invoking m args :: below)).heap = H := hT
  have hW0 : s.WarmedH ((T.setVm s.vm).setFrames (.invoking m args :: below)).vm := State.WarmedH.refl s
  have hat' : ∀ w ∈ vx_atN nb, w.before args ((T.setVm s.vm).setFrames (.invoking m args :: below)) = true := fun w hw => vx_ot_at hW0 rfl (hgood w hw) (hat w hw)
  have hU' : vx_Zq Bundle.tN "UNASSIGNED_STACK" Bundle.steD A ((T.setVm s.vm).setFrames (.invoking m args :: below)) ((T.setVm s.vm).setFrames (.invoking m args :: below)).heap := by rw [hhp]; exact vx_Zq.moved hW0.alike (hU.kept hS.2.1)
  have hN' : vx_Zq Bundle.tN "SUPPRESSED_SENTINEL" Bundle.listD A ((T.setVm s.vm).setFrames (.invoking m args :: below)) ((T.setVm s.vm).setFrames (.invoking m args :: below)).heap := by rw [hhp]; exact vx_Zq.moved hW0.alike (hN.kept hS.2.1)
  obtain ⟨S, q, ce, st, Z, hce, hcl', hv⟩ := vx_npeAt Y hexec htr (n := nb) (vx_own hat' (vx_isRefq hU'.1) (vx_isRefq hN'.1) hU'.2.word hN'.2.word) (fun x hx => nomatch hx)
    (g := F0 m pc ls rest) rfl hsize hRframes (by show 2 * 0 + (rest.map fun v => v.category).sum + 10240 ≤ R.locals; omega) (by show 0 + 1 ≤ 1; omega) (by show 0 + nb ≤ nb; omega) hlocks
  obtain ⟨f1, f2⟩ := vx_frame Z.same
  have f1' : H.size ≤ S.heap.size := by rw [← hT]; exact f1
  have f2' : ∀ q : Nat, q < H.size → S.heap[q]? = H[q]? := fun q hq => by
    rw [← hT]
    exact f2 q (by rw [← hT] at hq; exact hq) (fun z hz => nomatch hz)
  have X5 := vx_back9 X Y Z
  have X6 : Stand p l e R s m args below meth c S locs (cells + 1) (slots + nb) := { X5 with same := X5.same.mono (by omega) (by omega) }
  obtain ⟨t, a1, b1⟩ := k S.heap q ce f1' f2' ⟨Nat.le_trans hS.1 f1', fun q h1 h2 => (f2' q (Nat.lt_of_lt_of_le h1 hS.1)).trans (hS.2.1 q h1 h2), hS.2.2⟩ hce hv hcl' S rfl X6
  exact ⟨t, st t a1, b1⟩
variable {Q : State → Prop} {cc : ByteArray} {pc : Nat} {ls : Array Slot} {rest : List Value}
theorem vx_idivZ (hexec : p.tables.exec = Jvm.exec) (hb : c.code = cc) {a b : Int32} (h0 : b = 0) (d : decode cc pc = .ok (.idiv, 1)) (k : vx_Note p l e R s m args below meth c H locs cells slots Q (F0 m pc ls rest) "java/lang/ArithmeticException" "/ by zero") :
    W p l e R s m args below meth c H locs cells slots Q (F0 m pc ls (.int b :: .int a :: rest)) := by
  intro T hT X
  obtain ⟨t, st, q⟩ := k T hT X
  exact ⟨t, X.idivZero hexec (g := F0 m pc ls (.int b :: .int a :: rest)) rfl (a := a) (rest := rest) (by rw [h0]) (by rw [hb]; exact d) t st, q⟩
theorem vx_iremZ (hexec : p.tables.exec = Jvm.exec) (hb : c.code = cc) {a b : Int32} (h0 : b = 0) (d : decode cc pc = .ok (.irem, 1)) (k : vx_Note p l e R s m args below meth c H locs cells slots Q (F0 m pc ls rest) "java/lang/ArithmeticException" "/ by zero") :
    W p l e R s m args below meth c H locs cells slots Q (F0 m pc ls (.int b :: .int a :: rest)) := by
  intro T hT X
  obtain ⟨t, st, q⟩ := k T hT X
  exact ⟨t, X.iremZero hexec (g := F0 m pc ls (.int b :: .int a :: rest)) rfl (a := a) (rest := rest) (by rw [h0]) (by rw [hb]; exact d) t st, q⟩
theorem vx_ldivZ (hexec : p.tables.exec = Jvm.exec) (hb : c.code = cc) {a b : Int64} (h0 : b = 0) (d : decode cc pc = .ok (.ldiv, 1)) (k : vx_Note p l e R s m args below meth c H locs cells slots Q (F0 m pc ls rest) "java/lang/ArithmeticException" "/ by zero") :
    W p l e R s m args below meth c H locs cells slots Q (F0 m pc ls (.long b :: .long a :: rest)) := by
  intro T hT X
  obtain ⟨t, st, q⟩ := k T hT X
  exact ⟨t, X.ldivZero hexec (g := F0 m pc ls (.long b :: .long a :: rest)) rfl (a := a) (rest := rest) (by rw [h0]) (by rw [hb]; exact d) t st, q⟩
theorem vx_lremZ (hexec : p.tables.exec = Jvm.exec) (hb : c.code = cc) {a b : Int64} (h0 : b = 0) (d : decode cc pc = .ok (.lrem, 1)) (k : vx_Note p l e R s m args below meth c H locs cells slots Q (F0 m pc ls rest) "java/lang/ArithmeticException" "/ by zero") :
    W p l e R s m args below meth c H locs cells slots Q (F0 m pc ls (.long b :: .long a :: rest)) := by
  intro T hT X
  obtain ⟨t, st, q⟩ := k T hT X
  exact ⟨t, X.lremZero hexec (g := F0 m pc ls (.long b :: .long a :: rest)) rfl (a := a) (rest := rest) (by rw [h0]) (by rw [hb]; exact d) t st, q⟩
theorem vx_ialdZ {D : va_G} {cl : List vw_C} {ws : va_W} {tys : List (ClassId × FieldType)} {a : Nat} (hexec : p.tables.exec = Jvm.exec) (hb : c.code = cc) (hK : va_K D cl tys s) (hP : va_P D cl ws H) (q0 t0 : Nat) {cA : ClassId} {n : Nat} {f : Nat → Int32} (ha : ws[q0]? = some (a, .inl (cA, n, .inl f))) (ht : tys[t0]? = some (cA, .int)) {i : Int32} (hout : ¬ vp_in i n) (hdg : decode cc pc = .ok (.iaload, 1))
    (k : ∀ tx : String, tx = (toString "Index " ++ toString i ++ toString " out of bounds for length " ++ toString n : String) → vx_Note p l e R s m args below meth c H locs cells slots Q (F0 m pc ls rest) "java/lang/ArrayIndexOutOfBoundsException" tx) : W p l e R s m args below meth c H locs cells slots Q (F0 m pc ls (.int i :: .ref a :: rest)) := by
  intro T hT X
  obtain ⟨t, st, q⟩ := k _ rfl T hT X
  refine ⟨t, ?_, q⟩
  have h1 := X.ialoadOut hexec (by rw [hT]; exact hP q0 _ ha) ((hK.2 t0 _ ht).1 n (fun j => .int (f j))) (j := i) (by show (i < 0 ∨ (arrV _ _ _).slots.size ≤ _); rw [arrV_size]; exact Classical.byContradiction hout) (g := F0 m pc ls (.int i :: .ref a :: rest)) rfl (rest := rest) rfl (by rw [hb]; exact hdg) t
  simp only [arrV_size] at h1
  exact h1 st
theorem vx_iastZ {D : va_G} {cl : List vw_C} {ws : va_W} {tys : List (ClassId × FieldType)} {a : Nat} (hexec : p.tables.exec = Jvm.exec) (hb : c.code = cc) (hK : va_K D cl tys s) (hP : va_P D cl ws H) (q0 t0 : Nat) {cA : ClassId} {n : Nat} {f : Nat → Int32} (ha : ws[q0]? = some (a, .inl (cA, n, .inl f))) (ht : tys[t0]? = some (cA, .int)) {i : Int32} {x : Int32} (hout : ¬ vp_in i n) (hdg : decode cc pc = .ok (.iastore, 1))
    (k : ∀ tx : String, tx = (toString "Index " ++ toString i ++ toString " out of bounds for length " ++ toString n : String) → vx_Note p l e R s m args below meth c H locs cells slots Q (F0 m pc ls rest) "java/lang/ArrayIndexOutOfBoundsException" tx) : W p l e R s m args below meth c H locs cells slots Q (F0 m pc ls (.int x :: .int i :: .ref a :: rest)) := by
  intro T hT X
  obtain ⟨t, st, q⟩ := k _ rfl T hT X
  refine ⟨t, ?_, q⟩
  have h1 := X.iastoreOut hexec (by rw [hT]; exact hP q0 _ ha) ((hK.2 t0 _ ht).1 n (fun j => .int (f j))) (j := i) (by show (i < 0 ∨ (arrV _ _ _).slots.size ≤ _); rw [arrV_size]; exact Classical.byContradiction hout) (g := F0 m pc ls (.int x :: .int i :: .ref a :: rest)) rfl (rest := rest) rfl (by rw [hb]; exact hdg) t
  simp only [arrV_size] at h1
  exact h1 st
theorem vx_baldZ {D : va_G} {cl : List vw_C} {ws : va_W} {tys : List (ClassId × FieldType)} {a : Nat} (hexec : p.tables.exec = Jvm.exec) (hb : c.code = cc) (hK : va_K D cl tys s) (hP : va_P D cl ws H) (q0 t0 : Nat) {cA : ClassId} {n : Nat} {f : Nat → Int32} (ha : ws[q0]? = some (a, .inl (cA, n, .inl f))) (ht : tys[t0]? = some (cA, .byte)) {i : Int32} (hout : ¬ vp_in i n) (hdg : decode cc pc = .ok (.baload, 1))
    (k : ∀ tx : String, tx = (toString "Index " ++ toString i ++ toString " out of bounds for length " ++ toString n : String) → vx_Note p l e R s m args below meth c H locs cells slots Q (F0 m pc ls rest) "java/lang/ArrayIndexOutOfBoundsException" tx) : W p l e R s m args below meth c H locs cells slots Q (F0 m pc ls (.int i :: .ref a :: rest)) := by
  intro T hT X
  obtain ⟨t, st, q⟩ := k _ rfl T hT X
  refine ⟨t, ?_, q⟩
  have h1 := X.baloadOut hexec (by rw [hT]; exact hP q0 _ ha) ((hK.2 t0 _ ht).1 n (fun j => .int (f j))) (j := i) (by show (i < 0 ∨ (arrV _ _ _).slots.size ≤ _); rw [arrV_size]; exact Classical.byContradiction hout) (g := F0 m pc ls (.int i :: .ref a :: rest)) rfl (rest := rest) rfl (by rw [hb]; exact hdg) t
  simp only [arrV_size] at h1
  exact h1 st
theorem vx_bastZ {D : va_G} {cl : List vw_C} {ws : va_W} {tys : List (ClassId × FieldType)} {a : Nat} (hexec : p.tables.exec = Jvm.exec) (hb : c.code = cc) (hK : va_K D cl tys s) (hP : va_P D cl ws H) (q0 t0 : Nat) {cA : ClassId} {n : Nat} {f : Nat → Int32} (ha : ws[q0]? = some (a, .inl (cA, n, .inl f))) (ht : tys[t0]? = some (cA, .byte)) {i : Int32} {x : Int32} (hout : ¬ vp_in i n) (hdg : decode cc pc = .ok (.bastore, 1))
    (k : ∀ tx : String, tx = (toString "Index " ++ toString i ++ toString " out of bounds for length " ++ toString n : String) → vx_Note p l e R s m args below meth c H locs cells slots Q (F0 m pc ls rest) "java/lang/ArrayIndexOutOfBoundsException" tx) : W p l e R s m args below meth c H locs cells slots Q (F0 m pc ls (.int x :: .int i :: .ref a :: rest)) := by
  intro T hT X
  obtain ⟨t, st, q⟩ := k _ rfl T hT X
  refine ⟨t, ?_, q⟩
  have h1 := X.bastoreOut hexec (by rw [hT]; exact hP q0 _ ha) ((hK.2 t0 _ ht).1 n (fun j => .int (f j))) (j := i) (by show (i < 0 ∨ (arrV _ _ _).slots.size ≤ _); rw [arrV_size]; exact Classical.byContradiction hout) (g := F0 m pc ls (.int x :: .int i :: .ref a :: rest)) rfl (rest := rest) rfl (by rw [hb]; exact hdg) t
  simp only [arrV_size] at h1
  exact h1 st
theorem vx_zaldZ {D : va_G} {cl : List vw_C} {ws : va_W} {tys : List (ClassId × FieldType)} {a : Nat} (hexec : p.tables.exec = Jvm.exec) (hb : c.code = cc) (hK : va_K D cl tys s) (hP : va_P D cl ws H) (q0 t0 : Nat) {cA : ClassId} {n : Nat} {f : Nat → Int32} (ha : ws[q0]? = some (a, .inl (cA, n, .inl f))) (ht : tys[t0]? = some (cA, .boolean)) {i : Int32} (hout : ¬ vp_in i n) (hdg : decode cc pc = .ok (.baload, 1))
    (k : ∀ tx : String, tx = (toString "Index " ++ toString i ++ toString " out of bounds for length " ++ toString n : String) → vx_Note p l e R s m args below meth c H locs cells slots Q (F0 m pc ls rest) "java/lang/ArrayIndexOutOfBoundsException" tx) : W p l e R s m args below meth c H locs cells slots Q (F0 m pc ls (.int i :: .ref a :: rest)) := by
  intro T hT X
  obtain ⟨t, st, q⟩ := k _ rfl T hT X
  refine ⟨t, ?_, q⟩
  have h1 := X.baloadOut hexec (by rw [hT]; exact hP q0 _ ha) ((hK.2 t0 _ ht).1 n (fun j => .int (f j))) (j := i) (by show (i < 0 ∨ (arrV _ _ _).slots.size ≤ _); rw [arrV_size]; exact Classical.byContradiction hout) (g := F0 m pc ls (.int i :: .ref a :: rest)) rfl (rest := rest) rfl (by rw [hb]; exact hdg) t
  simp only [arrV_size] at h1
  exact h1 st
theorem vx_zastZ {D : va_G} {cl : List vw_C} {ws : va_W} {tys : List (ClassId × FieldType)} {a : Nat} (hexec : p.tables.exec = Jvm.exec) (hb : c.code = cc) (hK : va_K D cl tys s) (hP : va_P D cl ws H) (q0 t0 : Nat) {cA : ClassId} {n : Nat} {f : Nat → Int32} (ha : ws[q0]? = some (a, .inl (cA, n, .inl f))) (ht : tys[t0]? = some (cA, .boolean)) {i : Int32} {x : Int32} (hout : ¬ vp_in i n) (hdg : decode cc pc = .ok (.bastore, 1))
    (k : ∀ tx : String, tx = (toString "Index " ++ toString i ++ toString " out of bounds for length " ++ toString n : String) → vx_Note p l e R s m args below meth c H locs cells slots Q (F0 m pc ls rest) "java/lang/ArrayIndexOutOfBoundsException" tx) : W p l e R s m args below meth c H locs cells slots Q (F0 m pc ls (.int x :: .int i :: .ref a :: rest)) := by
  intro T hT X
  obtain ⟨t, st, q⟩ := k _ rfl T hT X
  refine ⟨t, ?_, q⟩
  have h1 := X.bastoreOut hexec (by rw [hT]; exact hP q0 _ ha) ((hK.2 t0 _ ht).1 n (fun j => .int (f j))) (j := i) (by show (i < 0 ∨ (arrV _ _ _).slots.size ≤ _); rw [arrV_size]; exact Classical.byContradiction hout) (g := F0 m pc ls (.int x :: .int i :: .ref a :: rest)) rfl (rest := rest) rfl (by rw [hb]; exact hdg) t
  simp only [arrV_size] at h1
  exact h1 st
theorem vx_caldZ {D : va_G} {cl : List vw_C} {ws : va_W} {tys : List (ClassId × FieldType)} {a : Nat} (hexec : p.tables.exec = Jvm.exec) (hb : c.code = cc) (hK : va_K D cl tys s) (hP : va_P D cl ws H) (q0 t0 : Nat) {cA : ClassId} {n : Nat} {f : Nat → Int32} (ha : ws[q0]? = some (a, .inl (cA, n, .inl f))) (ht : tys[t0]? = some (cA, .char)) {i : Int32} (hout : ¬ vp_in i n) (hdg : decode cc pc = .ok (.caload, 1))
    (k : ∀ tx : String, tx = (toString "Index " ++ toString i ++ toString " out of bounds for length " ++ toString n : String) → vx_Note p l e R s m args below meth c H locs cells slots Q (F0 m pc ls rest) "java/lang/ArrayIndexOutOfBoundsException" tx) : W p l e R s m args below meth c H locs cells slots Q (F0 m pc ls (.int i :: .ref a :: rest)) := by
  intro T hT X
  obtain ⟨t, st, q⟩ := k _ rfl T hT X
  refine ⟨t, ?_, q⟩
  have h1 := X.caloadOut hexec (by rw [hT]; exact hP q0 _ ha) ((hK.2 t0 _ ht).1 n (fun j => .int (f j))) (j := i) (by show (i < 0 ∨ (arrV _ _ _).slots.size ≤ _); rw [arrV_size]; exact Classical.byContradiction hout) (g := F0 m pc ls (.int i :: .ref a :: rest)) rfl (rest := rest) rfl (by rw [hb]; exact hdg) t
  simp only [arrV_size] at h1
  exact h1 st
theorem vx_castZ {D : va_G} {cl : List vw_C} {ws : va_W} {tys : List (ClassId × FieldType)} {a : Nat} (hexec : p.tables.exec = Jvm.exec) (hb : c.code = cc) (hK : va_K D cl tys s) (hP : va_P D cl ws H) (q0 t0 : Nat) {cA : ClassId} {n : Nat} {f : Nat → Int32} (ha : ws[q0]? = some (a, .inl (cA, n, .inl f))) (ht : tys[t0]? = some (cA, .char)) {i : Int32} {x : Int32} (hout : ¬ vp_in i n) (hdg : decode cc pc = .ok (.castore, 1))
    (k : ∀ tx : String, tx = (toString "Index " ++ toString i ++ toString " out of bounds for length " ++ toString n : String) → vx_Note p l e R s m args below meth c H locs cells slots Q (F0 m pc ls rest) "java/lang/ArrayIndexOutOfBoundsException" tx) : W p l e R s m args below meth c H locs cells slots Q (F0 m pc ls (.int x :: .int i :: .ref a :: rest)) := by
  intro T hT X
  obtain ⟨t, st, q⟩ := k _ rfl T hT X
  refine ⟨t, ?_, q⟩
  have h1 := X.castoreOut hexec (by rw [hT]; exact hP q0 _ ha) ((hK.2 t0 _ ht).1 n (fun j => .int (f j))) (j := i) (by show (i < 0 ∨ (arrV _ _ _).slots.size ≤ _); rw [arrV_size]; exact Classical.byContradiction hout) (g := F0 m pc ls (.int x :: .int i :: .ref a :: rest)) rfl (rest := rest) rfl (by rw [hb]; exact hdg) t
  simp only [arrV_size] at h1
  exact h1 st
theorem vx_saldZ {D : va_G} {cl : List vw_C} {ws : va_W} {tys : List (ClassId × FieldType)} {a : Nat} (hexec : p.tables.exec = Jvm.exec) (hb : c.code = cc) (hK : va_K D cl tys s) (hP : va_P D cl ws H) (q0 t0 : Nat) {cA : ClassId} {n : Nat} {f : Nat → Int32} (ha : ws[q0]? = some (a, .inl (cA, n, .inl f))) (ht : tys[t0]? = some (cA, .short)) {i : Int32} (hout : ¬ vp_in i n) (hdg : decode cc pc = .ok (.saload, 1))
    (k : ∀ tx : String, tx = (toString "Index " ++ toString i ++ toString " out of bounds for length " ++ toString n : String) → vx_Note p l e R s m args below meth c H locs cells slots Q (F0 m pc ls rest) "java/lang/ArrayIndexOutOfBoundsException" tx) : W p l e R s m args below meth c H locs cells slots Q (F0 m pc ls (.int i :: .ref a :: rest)) := by
  intro T hT X
  obtain ⟨t, st, q⟩ := k _ rfl T hT X
  refine ⟨t, ?_, q⟩
  have h1 := X.saloadOut hexec (by rw [hT]; exact hP q0 _ ha) ((hK.2 t0 _ ht).1 n (fun j => .int (f j))) (j := i) (by show (i < 0 ∨ (arrV _ _ _).slots.size ≤ _); rw [arrV_size]; exact Classical.byContradiction hout) (g := F0 m pc ls (.int i :: .ref a :: rest)) rfl (rest := rest) rfl (by rw [hb]; exact hdg) t
  simp only [arrV_size] at h1
  exact h1 st
theorem vx_sastZ {D : va_G} {cl : List vw_C} {ws : va_W} {tys : List (ClassId × FieldType)} {a : Nat} (hexec : p.tables.exec = Jvm.exec) (hb : c.code = cc) (hK : va_K D cl tys s) (hP : va_P D cl ws H) (q0 t0 : Nat) {cA : ClassId} {n : Nat} {f : Nat → Int32} (ha : ws[q0]? = some (a, .inl (cA, n, .inl f))) (ht : tys[t0]? = some (cA, .short)) {i : Int32} {x : Int32} (hout : ¬ vp_in i n) (hdg : decode cc pc = .ok (.sastore, 1))
    (k : ∀ tx : String, tx = (toString "Index " ++ toString i ++ toString " out of bounds for length " ++ toString n : String) → vx_Note p l e R s m args below meth c H locs cells slots Q (F0 m pc ls rest) "java/lang/ArrayIndexOutOfBoundsException" tx) : W p l e R s m args below meth c H locs cells slots Q (F0 m pc ls (.int x :: .int i :: .ref a :: rest)) := by
  intro T hT X
  obtain ⟨t, st, q⟩ := k _ rfl T hT X
  refine ⟨t, ?_, q⟩
  have h1 := X.sastoreOut hexec (by rw [hT]; exact hP q0 _ ha) ((hK.2 t0 _ ht).1 n (fun j => .int (f j))) (j := i) (by show (i < 0 ∨ (arrV _ _ _).slots.size ≤ _); rw [arrV_size]; exact Classical.byContradiction hout) (g := F0 m pc ls (.int x :: .int i :: .ref a :: rest)) rfl (rest := rest) rfl (by rw [hb]; exact hdg) t
  simp only [arrV_size] at h1
  exact h1 st
theorem vx_laldZ {D : va_G} {cl : List vw_C} {ws : va_W} {tys : List (ClassId × FieldType)} {a : Nat} (hexec : p.tables.exec = Jvm.exec) (hb : c.code = cc) (hK : va_K D cl tys s) (hP : va_P D cl ws H) (q0 t0 : Nat) {cA : ClassId} {n : Nat} {f : Nat → Int64} (ha : ws[q0]? = some (a, .inl (cA, n, .inr (.inl f)))) (ht : tys[t0]? = some (cA, .long)) {i : Int32} (hout : ¬ vp_in i n) (hdg : decode cc pc = .ok (.laload, 1))
    (k : ∀ tx : String, tx = (toString "Index " ++ toString i ++ toString " out of bounds for length " ++ toString n : String) → vx_Note p l e R s m args below meth c H locs cells slots Q (F0 m pc ls rest) "java/lang/ArrayIndexOutOfBoundsException" tx) : W p l e R s m args below meth c H locs cells slots Q (F0 m pc ls (.int i :: .ref a :: rest)) := by
  intro T hT X
  obtain ⟨t, st, q⟩ := k _ rfl T hT X
  refine ⟨t, ?_, q⟩
  have h1 := X.laloadOut hexec (by rw [hT]; exact hP q0 _ ha) ((hK.2 t0 _ ht).1 n (fun j => .long (f j))) (j := i) (by show (i < 0 ∨ (arrV _ _ _).slots.size ≤ _); rw [arrV_size]; exact Classical.byContradiction hout) (g := F0 m pc ls (.int i :: .ref a :: rest)) rfl (rest := rest) rfl (by rw [hb]; exact hdg) t
  simp only [arrV_size] at h1
  exact h1 st
theorem vx_lastZ {D : va_G} {cl : List vw_C} {ws : va_W} {tys : List (ClassId × FieldType)} {a : Nat} (hexec : p.tables.exec = Jvm.exec) (hb : c.code = cc) (hK : va_K D cl tys s) (hP : va_P D cl ws H) (q0 t0 : Nat) {cA : ClassId} {n : Nat} {f : Nat → Int64} (ha : ws[q0]? = some (a, .inl (cA, n, .inr (.inl f)))) (ht : tys[t0]? = some (cA, .long)) {i : Int32} {x : Int64} (hout : ¬ vp_in i n) (hdg : decode cc pc = .ok (.lastore, 1))
    (k : ∀ tx : String, tx = (toString "Index " ++ toString i ++ toString " out of bounds for length " ++ toString n : String) → vx_Note p l e R s m args below meth c H locs cells slots Q (F0 m pc ls rest) "java/lang/ArrayIndexOutOfBoundsException" tx) : W p l e R s m args below meth c H locs cells slots Q (F0 m pc ls (.long x :: .int i :: .ref a :: rest)) := by
  intro T hT X
  obtain ⟨t, st, q⟩ := k _ rfl T hT X
  refine ⟨t, ?_, q⟩
  have h1 := X.lastoreOut hexec (by rw [hT]; exact hP q0 _ ha) ((hK.2 t0 _ ht).1 n (fun j => .long (f j))) (j := i) (by show (i < 0 ∨ (arrV _ _ _).slots.size ≤ _); rw [arrV_size]; exact Classical.byContradiction hout) (g := F0 m pc ls (.long x :: .int i :: .ref a :: rest)) rfl (rest := rest) rfl (by rw [hb]; exact hdg) t
  simp only [arrV_size] at h1
  exact h1 st
theorem vx_faldZ {D : va_G} {cl : List vw_C} {ws : va_W} {tys : List (ClassId × FieldType)} {a : Nat} (hexec : p.tables.exec = Jvm.exec) (hb : c.code = cc) (hK : va_K D cl tys s) (hP : va_P D cl ws H) (q0 t0 : Nat) {cA : ClassId} {n : Nat} {f : Nat → UInt32} (ha : ws[q0]? = some (a, .inl (cA, n, .inr (.inr (.inl f))))) (ht : tys[t0]? = some (cA, .float)) {i : Int32} (hout : ¬ vp_in i n) (hdg : decode cc pc = .ok (.faload, 1))
    (k : ∀ tx : String, tx = (toString "Index " ++ toString i ++ toString " out of bounds for length " ++ toString n : String) → vx_Note p l e R s m args below meth c H locs cells slots Q (F0 m pc ls rest) "java/lang/ArrayIndexOutOfBoundsException" tx) : W p l e R s m args below meth c H locs cells slots Q (F0 m pc ls (.int i :: .ref a :: rest)) := by
  intro T hT X
  obtain ⟨t, st, q⟩ := k _ rfl T hT X
  refine ⟨t, ?_, q⟩
  have h1 := X.faloadOut hexec (by rw [hT]; exact hP q0 _ ha) ((hK.2 t0 _ ht).1 n (fun j => .float (f j))) (j := i) (by show (i < 0 ∨ (arrV _ _ _).slots.size ≤ _); rw [arrV_size]; exact Classical.byContradiction hout) (g := F0 m pc ls (.int i :: .ref a :: rest)) rfl (rest := rest) rfl (by rw [hb]; exact hdg) t
  simp only [arrV_size] at h1
  exact h1 st
theorem vx_fastZ {D : va_G} {cl : List vw_C} {ws : va_W} {tys : List (ClassId × FieldType)} {a : Nat} (hexec : p.tables.exec = Jvm.exec) (hb : c.code = cc) (hK : va_K D cl tys s) (hP : va_P D cl ws H) (q0 t0 : Nat) {cA : ClassId} {n : Nat} {f : Nat → UInt32} (ha : ws[q0]? = some (a, .inl (cA, n, .inr (.inr (.inl f))))) (ht : tys[t0]? = some (cA, .float)) {i : Int32} {x : UInt32} (hout : ¬ vp_in i n) (hdg : decode cc pc = .ok (.fastore, 1))
    (k : ∀ tx : String, tx = (toString "Index " ++ toString i ++ toString " out of bounds for length " ++ toString n : String) → vx_Note p l e R s m args below meth c H locs cells slots Q (F0 m pc ls rest) "java/lang/ArrayIndexOutOfBoundsException" tx) : W p l e R s m args below meth c H locs cells slots Q (F0 m pc ls (.float x :: .int i :: .ref a :: rest)) := by
  intro T hT X
  obtain ⟨t, st, q⟩ := k _ rfl T hT X
  refine ⟨t, ?_, q⟩
  have h1 := X.fastoreOut hexec (by rw [hT]; exact hP q0 _ ha) ((hK.2 t0 _ ht).1 n (fun j => .float (f j))) (j := i) (by show (i < 0 ∨ (arrV _ _ _).slots.size ≤ _); rw [arrV_size]; exact Classical.byContradiction hout) (g := F0 m pc ls (.float x :: .int i :: .ref a :: rest)) rfl (rest := rest) rfl (by rw [hb]; exact hdg) t
  simp only [arrV_size] at h1
  exact h1 st
theorem vx_daldZ {D : va_G} {cl : List vw_C} {ws : va_W} {tys : List (ClassId × FieldType)} {a : Nat} (hexec : p.tables.exec = Jvm.exec) (hb : c.code = cc) (hK : va_K D cl tys s) (hP : va_P D cl ws H) (q0 t0 : Nat) {cA : ClassId} {n : Nat} {f : Nat → UInt64} (ha : ws[q0]? = some (a, .inl (cA, n, .inr (.inr (.inr (.inl f)))))) (ht : tys[t0]? = some (cA, .double)) {i : Int32} (hout : ¬ vp_in i n) (hdg : decode cc pc = .ok (.daload, 1))
    (k : ∀ tx : String, tx = (toString "Index " ++ toString i ++ toString " out of bounds for length " ++ toString n : String) → vx_Note p l e R s m args below meth c H locs cells slots Q (F0 m pc ls rest) "java/lang/ArrayIndexOutOfBoundsException" tx) : W p l e R s m args below meth c H locs cells slots Q (F0 m pc ls (.int i :: .ref a :: rest)) := by
  intro T hT X
  obtain ⟨t, st, q⟩ := k _ rfl T hT X
  refine ⟨t, ?_, q⟩
  have h1 := X.daloadOut hexec (by rw [hT]; exact hP q0 _ ha) ((hK.2 t0 _ ht).1 n (fun j => .double (f j))) (j := i) (by show (i < 0 ∨ (arrV _ _ _).slots.size ≤ _); rw [arrV_size]; exact Classical.byContradiction hout) (g := F0 m pc ls (.int i :: .ref a :: rest)) rfl (rest := rest) rfl (by rw [hb]; exact hdg) t
  simp only [arrV_size] at h1
  exact h1 st
theorem vx_dastZ {D : va_G} {cl : List vw_C} {ws : va_W} {tys : List (ClassId × FieldType)} {a : Nat} (hexec : p.tables.exec = Jvm.exec) (hb : c.code = cc) (hK : va_K D cl tys s) (hP : va_P D cl ws H) (q0 t0 : Nat) {cA : ClassId} {n : Nat} {f : Nat → UInt64} (ha : ws[q0]? = some (a, .inl (cA, n, .inr (.inr (.inr (.inl f)))))) (ht : tys[t0]? = some (cA, .double)) {i : Int32} {x : UInt64} (hout : ¬ vp_in i n) (hdg : decode cc pc = .ok (.dastore, 1))
    (k : ∀ tx : String, tx = (toString "Index " ++ toString i ++ toString " out of bounds for length " ++ toString n : String) → vx_Note p l e R s m args below meth c H locs cells slots Q (F0 m pc ls rest) "java/lang/ArrayIndexOutOfBoundsException" tx) : W p l e R s m args below meth c H locs cells slots Q (F0 m pc ls (.double x :: .int i :: .ref a :: rest)) := by
  intro T hT X
  obtain ⟨t, st, q⟩ := k _ rfl T hT X
  refine ⟨t, ?_, q⟩
  have h1 := X.dastoreOut hexec (by rw [hT]; exact hP q0 _ ha) ((hK.2 t0 _ ht).1 n (fun j => .double (f j))) (j := i) (by show (i < 0 ∨ (arrV _ _ _).slots.size ≤ _); rw [arrV_size]; exact Classical.byContradiction hout) (g := F0 m pc ls (.double x :: .int i :: .ref a :: rest)) rfl (rest := rest) rfl (by rw [hb]; exact hdg) t
  simp only [arrV_size] at h1
  exact h1 st
theorem vx_arraylengthN (hexec : p.tables.exec = Jvm.exec) (hb : c.code = cc) (hdg : decode cc pc = .ok (.arraylength, 1)) (k : vx_NoteN p l e R s m args below meth c H locs cells slots Q (F0 m pc ls rest)) : W p l e R s m args below meth c H locs cells slots Q (F0 m pc ls (.null :: rest)) := by
  intro T hT X
  obtain ⟨t, st, q⟩ := k T hT X
  exact ⟨t, X.arraylengthNull hexec (g := F0 m pc ls (.null :: rest)) rfl (rest := rest) rfl (by rw [hb]; exact hdg) t st, q⟩
theorem vx_ialoadN (hexec : p.tables.exec = Jvm.exec) (hb : c.code = cc) {i : Int32} (hdg : decode cc pc = .ok (.iaload, 1)) (k : vx_NoteN p l e R s m args below meth c H locs cells slots Q (F0 m pc ls rest)) : W p l e R s m args below meth c H locs cells slots Q (F0 m pc ls (.int i :: .null :: rest)) := by
  intro T hT X
  obtain ⟨t, st, q⟩ := k T hT X
  exact ⟨t, X.ialoadNull hexec (g := F0 m pc ls (.int i :: .null :: rest)) rfl (rest := rest) rfl (by rw [hb]; exact hdg) t st, q⟩
theorem vx_laloadN (hexec : p.tables.exec = Jvm.exec) (hb : c.code = cc) {i : Int32} (hdg : decode cc pc = .ok (.laload, 1)) (k : vx_NoteN p l e R s m args below meth c H locs cells slots Q (F0 m pc ls rest)) : W p l e R s m args below meth c H locs cells slots Q (F0 m pc ls (.int i :: .null :: rest)) := by
  intro T hT X
  obtain ⟨t, st, q⟩ := k T hT X
  exact ⟨t, X.laloadNull hexec (g := F0 m pc ls (.int i :: .null :: rest)) rfl (rest := rest) rfl (by rw [hb]; exact hdg) t st, q⟩
theorem vx_faloadN (hexec : p.tables.exec = Jvm.exec) (hb : c.code = cc) {i : Int32} (hdg : decode cc pc = .ok (.faload, 1)) (k : vx_NoteN p l e R s m args below meth c H locs cells slots Q (F0 m pc ls rest)) : W p l e R s m args below meth c H locs cells slots Q (F0 m pc ls (.int i :: .null :: rest)) := by
  intro T hT X
  obtain ⟨t, st, q⟩ := k T hT X
  exact ⟨t, X.faloadNull hexec (g := F0 m pc ls (.int i :: .null :: rest)) rfl (rest := rest) rfl (by rw [hb]; exact hdg) t st, q⟩
theorem vx_daloadN (hexec : p.tables.exec = Jvm.exec) (hb : c.code = cc) {i : Int32} (hdg : decode cc pc = .ok (.daload, 1)) (k : vx_NoteN p l e R s m args below meth c H locs cells slots Q (F0 m pc ls rest)) : W p l e R s m args below meth c H locs cells slots Q (F0 m pc ls (.int i :: .null :: rest)) := by
  intro T hT X
  obtain ⟨t, st, q⟩ := k T hT X
  exact ⟨t, X.daloadNull hexec (g := F0 m pc ls (.int i :: .null :: rest)) rfl (rest := rest) rfl (by rw [hb]; exact hdg) t st, q⟩
theorem vx_aaloadN (hexec : p.tables.exec = Jvm.exec) (hb : c.code = cc) {i : Int32} (hdg : decode cc pc = .ok (.aaload, 1)) (k : vx_NoteN p l e R s m args below meth c H locs cells slots Q (F0 m pc ls rest)) : W p l e R s m args below meth c H locs cells slots Q (F0 m pc ls (.int i :: .null :: rest)) := by
  intro T hT X
  obtain ⟨t, st, q⟩ := k T hT X
  exact ⟨t, X.aaloadNull hexec (g := F0 m pc ls (.int i :: .null :: rest)) rfl (rest := rest) rfl (by rw [hb]; exact hdg) t st, q⟩
theorem vx_baloadN (hexec : p.tables.exec = Jvm.exec) (hb : c.code = cc) {i : Int32} (hdg : decode cc pc = .ok (.baload, 1)) (k : vx_NoteN p l e R s m args below meth c H locs cells slots Q (F0 m pc ls rest)) : W p l e R s m args below meth c H locs cells slots Q (F0 m pc ls (.int i :: .null :: rest)) := by
  intro T hT X
  obtain ⟨t, st, q⟩ := k T hT X
  exact ⟨t, X.baloadNull hexec (g := F0 m pc ls (.int i :: .null :: rest)) rfl (rest := rest) rfl (by rw [hb]; exact hdg) t st, q⟩
theorem vx_caloadN (hexec : p.tables.exec = Jvm.exec) (hb : c.code = cc) {i : Int32} (hdg : decode cc pc = .ok (.caload, 1)) (k : vx_NoteN p l e R s m args below meth c H locs cells slots Q (F0 m pc ls rest)) : W p l e R s m args below meth c H locs cells slots Q (F0 m pc ls (.int i :: .null :: rest)) := by
  intro T hT X
  obtain ⟨t, st, q⟩ := k T hT X
  exact ⟨t, X.caloadNull hexec (g := F0 m pc ls (.int i :: .null :: rest)) rfl (rest := rest) rfl (by rw [hb]; exact hdg) t st, q⟩
theorem vx_saloadN (hexec : p.tables.exec = Jvm.exec) (hb : c.code = cc) {i : Int32} (hdg : decode cc pc = .ok (.saload, 1)) (k : vx_NoteN p l e R s m args below meth c H locs cells slots Q (F0 m pc ls rest)) : W p l e R s m args below meth c H locs cells slots Q (F0 m pc ls (.int i :: .null :: rest)) := by
  intro T hT X
  obtain ⟨t, st, q⟩ := k T hT X
  exact ⟨t, X.saloadNull hexec (g := F0 m pc ls (.int i :: .null :: rest)) rfl (rest := rest) rfl (by rw [hb]; exact hdg) t st, q⟩
theorem vx_iastoreN (hexec : p.tables.exec = Jvm.exec) (hb : c.code = cc) {x : Int32} {i : Int32} (hdg : decode cc pc = .ok (.iastore, 1)) (k : vx_NoteN p l e R s m args below meth c H locs cells slots Q (F0 m pc ls rest)) : W p l e R s m args below meth c H locs cells slots Q (F0 m pc ls (.int x :: .int i :: .null :: rest)) := by
  intro T hT X
  obtain ⟨t, st, q⟩ := k T hT X
  exact ⟨t, X.iastoreNull hexec (g := F0 m pc ls (.int x :: .int i :: .null :: rest)) rfl (rest := rest) rfl (by rw [hb]; exact hdg) t st, q⟩
theorem vx_lastoreN (hexec : p.tables.exec = Jvm.exec) (hb : c.code = cc) {x : Int64} {i : Int32} (hdg : decode cc pc = .ok (.lastore, 1)) (k : vx_NoteN p l e R s m args below meth c H locs cells slots Q (F0 m pc ls rest)) : W p l e R s m args below meth c H locs cells slots Q (F0 m pc ls (.long x :: .int i :: .null :: rest)) := by
  intro T hT X
  obtain ⟨t, st, q⟩ := k T hT X
  exact ⟨t, X.lastoreNull hexec (g := F0 m pc ls (.long x :: .int i :: .null :: rest)) rfl (rest := rest) rfl (by rw [hb]; exact hdg) t st, q⟩
theorem vx_fastoreN (hexec : p.tables.exec = Jvm.exec) (hb : c.code = cc) {x : UInt32} {i : Int32} (hdg : decode cc pc = .ok (.fastore, 1)) (k : vx_NoteN p l e R s m args below meth c H locs cells slots Q (F0 m pc ls rest)) : W p l e R s m args below meth c H locs cells slots Q (F0 m pc ls (.float x :: .int i :: .null :: rest)) := by
  intro T hT X
  obtain ⟨t, st, q⟩ := k T hT X
  exact ⟨t, X.fastoreNull hexec (g := F0 m pc ls (.float x :: .int i :: .null :: rest)) rfl (rest := rest) rfl (by rw [hb]; exact hdg) t st, q⟩
theorem vx_dastoreN (hexec : p.tables.exec = Jvm.exec) (hb : c.code = cc) {x : UInt64} {i : Int32} (hdg : decode cc pc = .ok (.dastore, 1)) (k : vx_NoteN p l e R s m args below meth c H locs cells slots Q (F0 m pc ls rest)) : W p l e R s m args below meth c H locs cells slots Q (F0 m pc ls (.double x :: .int i :: .null :: rest)) := by
  intro T hT X
  obtain ⟨t, st, q⟩ := k T hT X
  exact ⟨t, X.dastoreNull hexec (g := F0 m pc ls (.double x :: .int i :: .null :: rest)) rfl (rest := rest) rfl (by rw [hb]; exact hdg) t st, q⟩
theorem vx_bastoreN (hexec : p.tables.exec = Jvm.exec) (hb : c.code = cc) {x : Int32} {i : Int32} (hdg : decode cc pc = .ok (.bastore, 1)) (k : vx_NoteN p l e R s m args below meth c H locs cells slots Q (F0 m pc ls rest)) : W p l e R s m args below meth c H locs cells slots Q (F0 m pc ls (.int x :: .int i :: .null :: rest)) := by
  intro T hT X
  obtain ⟨t, st, q⟩ := k T hT X
  exact ⟨t, X.bastoreNull hexec (g := F0 m pc ls (.int x :: .int i :: .null :: rest)) rfl (rest := rest) rfl (by rw [hb]; exact hdg) t st, q⟩
theorem vx_castoreN (hexec : p.tables.exec = Jvm.exec) (hb : c.code = cc) {x : Int32} {i : Int32} (hdg : decode cc pc = .ok (.castore, 1)) (k : vx_NoteN p l e R s m args below meth c H locs cells slots Q (F0 m pc ls rest)) : W p l e R s m args below meth c H locs cells slots Q (F0 m pc ls (.int x :: .int i :: .null :: rest)) := by
  intro T hT X
  obtain ⟨t, st, q⟩ := k T hT X
  exact ⟨t, X.castoreNull hexec (g := F0 m pc ls (.int x :: .int i :: .null :: rest)) rfl (rest := rest) rfl (by rw [hb]; exact hdg) t st, q⟩
theorem vx_sastoreN (hexec : p.tables.exec = Jvm.exec) (hb : c.code = cc) {x : Int32} {i : Int32} (hdg : decode cc pc = .ok (.sastore, 1)) (k : vx_NoteN p l e R s m args below meth c H locs cells slots Q (F0 m pc ls rest)) : W p l e R s m args below meth c H locs cells slots Q (F0 m pc ls (.int x :: .int i :: .null :: rest)) := by
  intro T hT X
  obtain ⟨t, st, q⟩ := k T hT X
  exact ⟨t, X.sastoreNull hexec (g := F0 m pc ls (.int x :: .int i :: .null :: rest)) rfl (rest := rest) rfl (by rw [hb]; exact hdg) t st, q⟩
theorem vx_invokeN {own C : String} {index maxL : Nat} {y : MethodName} {bytes : ByteArray} {ret : Option FieldType} (hexec : p.tables.exec = Jvm.exec) (hb : c.code = cc) (hown : s.vm.findClass own = some m.cls) (hlink : (Cond.methodLink own index y).before args s = true) (hinst : (Cond.instanceMethod y).before args s = true) (hcode : (Cond.code y bytes maxL ret).before args s = true) (hsel : (Cond.selects C y y).before args s = true)
    (hx : y.cls ≠ "java/lang/invoke/MethodHandle" ∧ y.cls ≠ "java/lang/invoke/VarHandle") {As : List Value} (hlen : (parseMethodDescriptor y.desc).map (fun d => d.parameters.length) = some As.length) (hdg : decode cc pc = .ok (.invokevirtual index, 3))
    (k : vx_NoteN p l e R s m args below meth c H locs cells slots Q (F0 m pc ls rest)) {st0 : List Value} (hst : st0 = As.reverse ++ .null :: rest) : W p l e R s m args below meth c H locs cells slots Q (F0 m pc ls st0) := by
  intro T hT X
  obtain ⟨r0, r, hn, hrm, hstR, hsigR⟩ := va_Decl.of hinst hcode
  obtain ⟨c2, r2, m2, q1, q2, q3, q4, kP, hkP, hkPi⟩ := Cond.selects_spec hsel
  cases hn.symm.trans q3
  have hl9 : As.length = r.sig.parameters.length := by
    rw [hsigR] at hlen
    exact (Option.some.inj hlen).symm
  obtain ⟨vm', X1, st1⟩ := X.invokevirtualNull hexec hown hlink hn hrm hstR hkP hkPi hx (g := F0 m pc ls st0) rfl (argsL := As) (rest := rest) hl9 hst (by rw [hb]; exact hdg)
  obtain ⟨t, st, q⟩ := k (T.setVm vm') hT X1
  exact ⟨t, st1 t st, q⟩
theorem vx_newarrayZ {atype : ArrayType} (hexec : p.tables.exec = Jvm.exec) (hb : c.code = cc) {n : Int32} (h0 : n < 0) (hdg : decode cc pc = .ok (.newarray atype, 2)) (k : ∀ tx : String, tx = toString n → vx_Note p l e R s m args below meth c H locs cells slots Q (F0 m pc ls rest) "java/lang/NegativeArraySizeException" tx) : W p l e R s m args below meth c H locs cells slots Q (F0 m pc ls (.int n :: rest)) := by
  intro T hT X
  obtain ⟨t, st, q⟩ := k _ rfl T hT X
  exact ⟨t, X.newarrayNegative hexec (g := F0 m pc ls (.int n :: rest)) rfl h0 (rest := rest) rfl (by rw [hb]; exact hdg) t st, q⟩
end
end VXM
/-! ===== END ===== -/
end
section
/-! names, fields, types: out of the printed names -/
def RX0 : String := "PetitionBoard$Citing"
def TX0 : u_T := fun k => match k with
  | _ => ("", "", "", false)
def tyX0 : Nat → FieldType := fun k => match k with
  | _ => .int
abbrev wsX00 : List Cond := u_ws RX0 TX0 0
theorem nmX0 : ∀ a, a < 0 → ∀ b, b < 0 → a ≠ b → (TX0 a).2.1 ≠ (TX0 b).2.1 := by decide +kernel
theorem tyX0_ok : ∀ k, k < 0 → parseFieldDescriptor (TX0 k).2.2.1 = some (tyX0 k) := by decide +kernel
abbrev cX0_init : ByteArray := prog_2_method_1_code
def yX0_init : MethodName := ⟨RX0, "<init>", "()V"⟩
abbrev cX0_citedAt : ByteArray := prog_2_method_2_code
def yX0_citedAt : MethodName := ⟨RX0, "citedAt", "(I)I"⟩
abbrev cX0_refersTo : ByteArray := prog_2_method_3_code
def yX0_refersTo : MethodName := ⟨RX0, "refersTo", "(I)Z"⟩
abbrev cX0_addCited : ByteArray := prog_2_method_4_code
def yX0_addCited : MethodName := ⟨RX0, "addCited", "(I)V"⟩
abbrev cX0_copyCited : ByteArray := prog_2_method_5_code
def yX0_copyCited : MethodName := ⟨RX0, "copyCited", "(LPetitionBoard$Citing;)V"⟩
def RX1 : String := "PetitionBoard$Command"
def TX1 : u_T := fun k => match k with
  | 0 => ("PetitionBoard$Command", "letter", "C", false)
  | 1 => ("PetitionBoard$Command", "first", "I", false)
  | 2 => ("PetitionBoard$Command", "second", "I", false)
  | 3 => ("PetitionBoard$Command", "third", "I", false)
  | 4 => ("PetitionBoard$Command", "fourth", "I", false)
  | _ => ("PetitionBoard$Command", "values", "I", false)
def tyX1 : Nat → FieldType := fun k => match k with
  | 0 => .char
  | 1 => .int
  | 2 => .int
  | 3 => .int
  | 4 => .int
  | _ => .int
abbrev wsX10 : List Cond := u_ws RX1 TX1 6
theorem nmX1 : ∀ a, a < 6 → ∀ b, b < 6 → a ≠ b → (TX1 a).2.1 ≠ (TX1 b).2.1 := by decide +kernel
theorem tyX1_ok : ∀ k, k < 6 → parseFieldDescriptor (TX1 k).2.2.1 = some (tyX1 k) := by decide +kernel
abbrev cX1_init : ByteArray := prog_3_method_1_code
def yX1_init : MethodName := ⟨RX1, "<init>", "()V"⟩
abbrev cX1_begin : ByteArray := prog_3_method_2_code
def yX1_begin : MethodName := ⟨RX1, "begin", "(C)V"⟩
abbrev cX1_add : ByteArray := prog_3_method_3_code
def yX1_add : MethodName := ⟨RX1, "add", "(I)V"⟩
def RX2 : String := "PetitionBoard$History"
def TX2 : u_T := fun k => match k with
  | 0 => ("PetitionBoard$History", "rows", "[LPetitionBoard$State;", true)
  | _ => ("PetitionBoard$History", "count", "I", false)
def tyX2 : Nat → FieldType := fun k => match k with
  | 0 => .array (.object "PetitionBoard$State")
  | _ => .int
abbrev wsX20 : List Cond := u_ws RX2 TX2 2
theorem nmX2 : ∀ a, a < 2 → ∀ b, b < 2 → a ≠ b → (TX2 a).2.1 ≠ (TX2 b).2.1 := by decide +kernel
theorem tyX2_ok : ∀ k, k < 2 → parseFieldDescriptor (TX2 k).2.2.1 = some (tyX2 k) := by decide +kernel
abbrev cX2_init : ByteArray := prog_4_method_1_code
def yX2_init : MethodName := ⟨RX2, "<init>", "()V"⟩
abbrev cX2_prepare : ByteArray := prog_4_method_2_code
def yX2_prepare : MethodName := ⟨RX2, "prepare", "(LPetitionBoard$State;)V"⟩
abbrev cX2_bringBackPrepared : ByteArray := prog_4_method_3_code
def yX2_bringBackPrepared : MethodName := ⟨RX2, "bringBackPrepared", "(LPetitionBoard$State;)V"⟩
abbrev cX2_keepPrepared : ByteArray := prog_4_method_4_code
def yX2_keepPrepared : MethodName := ⟨RX2, "keepPrepared", "()V"⟩
abbrev cX2_bringBackLatest : ByteArray := prog_4_method_5_code
def yX2_bringBackLatest : MethodName := ⟨RX2, "bringBackLatest", "(LPetitionBoard$State;)V"⟩
abbrev cX2_forget : ByteArray := prog_4_method_6_code
def yX2_forget : MethodName := ⟨RX2, "forget", "()V"⟩
def RX3 : String := "PetitionBoard$Line"
def TX3 : u_T := fun k => match k with
  | 0 => ("PetitionBoard$Line", "characters", "[C", true)
  | _ => ("PetitionBoard$Line", "length", "I", false)
def tyX3 : Nat → FieldType := fun k => match k with
  | 0 => .array .char
  | _ => .int
abbrev wsX30 : List Cond := u_ws RX3 TX3 2
theorem nmX3 : ∀ a, a < 2 → ∀ b, b < 2 → a ≠ b → (TX3 a).2.1 ≠ (TX3 b).2.1 := by decide +kernel
theorem tyX3_ok : ∀ k, k < 2 → parseFieldDescriptor (TX3 k).2.2.1 = some (tyX3 k) := by decide +kernel
abbrev cX3_init : ByteArray := prog_5_method_1_code
def yX3_init : MethodName := ⟨RX3, "<init>", "()V"⟩
abbrev cX3_clear : ByteArray := prog_5_method_2_code
def yX3_clear : MethodName := ⟨RX3, "clear", "()V"⟩
abbrev cX3_put : ByteArray := prog_5_method_3_code
def yX3_put : MethodName := ⟨RX3, "put", "(C)V"⟩
abbrev cX3_putMarked : ByteArray := prog_5_method_4_code
def yX3_putMarked : MethodName := ⟨RX3, "putMarked", "(CI)V"⟩
abbrev cX3_putNumber : ByteArray := prog_5_method_5_code
def yX3_putNumber : MethodName := ⟨RX3, "putNumber", "(I)V"⟩
abbrev cX3_at : ByteArray := prog_5_method_6_code
def yX3_at : MethodName := ⟨RX3, "at", "(I)C"⟩
def RX4 : String := "PetitionBoard$Petition"
def TX4 : u_T := fun k => match k with
  | 0 => ("PetitionBoard$Citing", "cited", "I", false)
  | 1 => ("PetitionBoard$Citing", "firstCited", "I", false)
  | 2 => ("PetitionBoard$Citing", "secondCited", "I", false)
  | 3 => ("PetitionBoard$Citing", "thirdCited", "I", false)
  | 4 => ("PetitionBoard$Petition", "number", "I", false)
  | 5 => ("PetitionBoard$Petition", "petitioner", "I", false)
  | 6 => ("PetitionBoard$Petition", "rank", "I", false)
  | 7 => ("PetitionBoard$Petition", "stone", "I", false)
  | 8 => ("PetitionBoard$Petition", "target", "I", false)
  | 9 => ("PetitionBoard$Petition", "urgency", "I", false)
  | 10 => ("PetitionBoard$Petition", "votersFor", "I", false)
  | _ => ("PetitionBoard$Petition", "votersAgainst", "I", false)
def tyX4 : Nat → FieldType := fun k => match k with
  | 0 => .int
  | 1 => .int
  | 2 => .int
  | 3 => .int
  | 4 => .int
  | 5 => .int
  | 6 => .int
  | 7 => .int
  | 8 => .int
  | 9 => .int
  | 10 => .int
  | _ => .int
abbrev wsX40 : List Cond := u_ws RX4 TX4 12
theorem nmX4 : ∀ a, a < 12 → ∀ b, b < 12 → a ≠ b → (TX4 a).2.1 ≠ (TX4 b).2.1 := by decide +kernel
theorem tyX4_ok : ∀ k, k < 12 → parseFieldDescriptor (TX4 k).2.2.1 = some (tyX4 k) := by decide +kernel
abbrev cX4_init : ByteArray := prog_6_method_1_code
def yX4_init : MethodName := ⟨RX4, "<init>", "()V"⟩
abbrev cX4_forgetVotesAndCitations : ByteArray := prog_6_method_2_code
def yX4_forgetVotesAndCitations : MethodName := ⟨RX4, "forgetVotesAndCitations", "()V"⟩
abbrev cX4_comesBefore : ByteArray := prog_6_method_3_code
def yX4_comesBefore : MethodName := ⟨RX4, "comesBefore", "(LPetitionBoard$Petition;)Z"⟩
abbrev cX4_hasVoteFor : ByteArray := prog_6_method_4_code
def yX4_hasVoteFor : MethodName := ⟨RX4, "hasVoteFor", "(I)Z"⟩
abbrev cX4_hasVoteAgainst : ByteArray := prog_6_method_5_code
def yX4_hasVoteAgainst : MethodName := ⟨RX4, "hasVoteAgainst", "(I)Z"⟩
abbrev cX4_addVote : ByteArray := prog_6_method_6_code
def yX4_addVote : MethodName := ⟨RX4, "addVote", "(IZ)V"⟩
abbrev cX4_countFor : ByteArray := prog_6_method_7_code
def yX4_countFor : MethodName := ⟨RX4, "countFor", "()I"⟩
abbrev cX4_countAgainst : ByteArray := prog_6_method_8_code
def yX4_countAgainst : MethodName := ⟨RX4, "countAgainst", "()I"⟩
abbrev cX4_countVotes : ByteArray := prog_6_method_9_code
def yX4_countVotes : MethodName := ⟨RX4, "countVotes", "()I"⟩
abbrev cX4_copyFrom : ByteArray := prog_6_method_10_code
def yX4_copyFrom : MethodName := ⟨RX4, "copyFrom", "(LPetitionBoard$Petition;)V"⟩
def RX5 : String := "PetitionBoard$Ruling"
def TX5 : u_T := fun k => match k with
  | 0 => ("PetitionBoard$Citing", "cited", "I", false)
  | 1 => ("PetitionBoard$Citing", "firstCited", "I", false)
  | 2 => ("PetitionBoard$Citing", "secondCited", "I", false)
  | 3 => ("PetitionBoard$Citing", "thirdCited", "I", false)
  | 4 => ("PetitionBoard$Ruling", "granted", "Z", false)
  | 5 => ("PetitionBoard$Ruling", "carriedOut", "Z", false)
  | _ => ("PetitionBoard$Ruling", "level", "I", false)
def tyX5 : Nat → FieldType := fun k => match k with
  | 0 => .int
  | 1 => .int
  | 2 => .int
  | 3 => .int
  | 4 => .boolean
  | 5 => .boolean
  | _ => .int
abbrev wsX50 : List Cond := u_ws RX5 TX5 7
theorem nmX5 : ∀ a, a < 7 → ∀ b, b < 7 → a ≠ b → (TX5 a).2.1 ≠ (TX5 b).2.1 := by decide +kernel
theorem tyX5_ok : ∀ k, k < 7 → parseFieldDescriptor (TX5 k).2.2.1 = some (tyX5 k) := by decide +kernel
abbrev cX5_init : ByteArray := prog_7_method_1_code
def yX5_init : MethodName := ⟨RX5, "<init>", "()V"⟩
abbrev cX5_copyFrom : ByteArray := prog_7_method_2_code
def yX5_copyFrom : MethodName := ⟨RX5, "copyFrom", "(LPetitionBoard$Ruling;)V"⟩
def RX6 : String := "PetitionBoard$State"
def TX6 : u_T := fun k => match k with
  | 0 => ("PetitionBoard$State", "stoneCell", "[I", true)
  | 1 => ("PetitionBoard$State", "stoneWeight", "[I", true)
  | 2 => ("PetitionBoard$State", "officerRank", "[I", true)
  | 3 => ("PetitionBoard$State", "pending", "[LPetitionBoard$Petition;", true)
  | 4 => ("PetitionBoard$State", "rulings", "[LPetitionBoard$Ruling;", true)
  | 5 => ("PetitionBoard$State", "stoneCount", "I", false)
  | 6 => ("PetitionBoard$State", "officerCount", "I", false)
  | 7 => ("PetitionBoard$State", "pendingCount", "I", false)
  | 8 => ("PetitionBoard$State", "rulingCount", "I", false)
  | 9 => ("PetitionBoard$State", "quorum", "I", false)
  | 10 => ("PetitionBoard$State", "filedCount", "I", false)
  | 11 => ("PetitionBoard$State", "vetoCount", "I", false)
  | 12 => ("PetitionBoard$State", "withdrawalCount", "I", false)
  | _ => ("PetitionBoard$State", "movedWeight", "I", false)
def tyX6 : Nat → FieldType := fun k => match k with
  | 0 => .array .int
  | 1 => .array .int
  | 2 => .array .int
  | 3 => .array (.object "PetitionBoard$Petition")
  | 4 => .array (.object "PetitionBoard$Ruling")
  | 5 => .int
  | 6 => .int
  | 7 => .int
  | 8 => .int
  | 9 => .int
  | 10 => .int
  | 11 => .int
  | 12 => .int
  | _ => .int
abbrev wsX60 : List Cond := u_ws RX6 TX6 14
theorem nmX6 : ∀ a, a < 14 → ∀ b, b < 14 → a ≠ b → (TX6 a).2.1 ≠ (TX6 b).2.1 := by decide +kernel
theorem tyX6_ok : ∀ k, k < 14 → parseFieldDescriptor (TX6 k).2.2.1 = some (tyX6 k) := by decide +kernel
abbrev cX6_init : ByteArray := prog_8_method_1_code
def yX6_init : MethodName := ⟨RX6, "<init>", "()V"⟩
abbrev cX6_copyFrom : ByteArray := prog_8_method_2_code
def yX6_copyFrom : MethodName := ⟨RX6, "copyFrom", "(LPetitionBoard$State;)V"⟩
abbrev cX6_hasStone : ByteArray := prog_8_method_3_code
def yX6_hasStone : MethodName := ⟨RX6, "hasStone", "(I)Z"⟩
abbrev cX6_hasOfficer : ByteArray := prog_8_method_4_code
def yX6_hasOfficer : MethodName := ⟨RX6, "hasOfficer", "(I)Z"⟩
abbrev cX6_findStoneIn : ByteArray := prog_8_method_5_code
def yX6_findStoneIn : MethodName := ⟨RX6, "findStoneIn", "(I)I"⟩
abbrev cX6_findPetition : ByteArray := prog_8_method_6_code
def yX6_findPetition : MethodName := ⟨RX6, "findPetition", "(I)LPetitionBoard$Petition;"⟩
abbrev cX6_findPetitionFor : ByteArray := prog_8_method_7_code
def yX6_findPetitionFor : MethodName := ⟨RX6, "findPetitionFor", "(I)LPetitionBoard$Petition;"⟩
abbrev cX6_findRuling : ByteArray := prog_8_method_8_code
def yX6_findRuling : MethodName := ⟨RX6, "findRuling", "(I)LPetitionBoard$Ruling;"⟩
abbrev cX6_appendStone : ByteArray := prog_8_method_9_code
def yX6_appendStone : MethodName := ⟨RX6, "appendStone", "(II)I"⟩
abbrev cX6_appendOfficer : ByteArray := prog_8_method_10_code
def yX6_appendOfficer : MethodName := ⟨RX6, "appendOfficer", "(I)I"⟩
abbrev cX6_enqueue : ByteArray := prog_8_method_11_code
def yX6_enqueue : MethodName := ⟨RX6, "enqueue", "(IIII)I"⟩
abbrev cX6_moveToItsPosition : ByteArray := prog_8_method_12_code
def yX6_moveToItsPosition : MethodName := ⟨RX6, "moveToItsPosition", "(LPetitionBoard$Petition;)V"⟩
abbrev cX6_dequeue : ByteArray := prog_8_method_13_code
def yX6_dequeue : MethodName := ⟨RX6, "dequeue", "(LPetitionBoard$Petition;)V"⟩
abbrev cX6_isWon : ByteArray := prog_8_method_14_code
def yX6_isWon : MethodName := ⟨RX6, "isWon", "(LPetitionBoard$Petition;)Z"⟩
abbrev cX6_rule : ByteArray := prog_8_method_15_code
def yX6_rule : MethodName := ⟨RX6, "rule", "(LPetitionBoard$Petition;)I"⟩
abbrev cX6_levelAbove : ByteArray := prog_8_method_16_code
def yX6_levelAbove : MethodName := ⟨RX6, "levelAbove", "(LPetitionBoard$Citing;)I"⟩
abbrev cX6_moveStone : ByteArray := prog_8_method_17_code
def yX6_moveStone : MethodName := ⟨RX6, "moveStone", "(II)V"⟩
abbrev cX6_restsOn : ByteArray := prog_8_method_18_code
def yX6_restsOn : MethodName := ⟨RX6, "restsOn", "(II)Z"⟩
abbrev cX6_countMarked : ByteArray := prog_8_method_19_code
def yX6_countMarked : MethodName := ⟨RX6, "countMarked", "(I)I"⟩
abbrev cX6_citedSet : ByteArray := prog_8_method_20_code
def yX6_citedSet : MethodName := ⟨RX6, "citedSet", "(I)I"⟩
def RX7 : String := "PetitionBoard$TextReader"
def TX7 : u_T := fun k => match k with
  | 0 => ("PetitionBoard$TextReader", "commands", "[LPetitionBoard$Command;", true)
  | 1 => ("PetitionBoard$TextReader", "count", "I", false)
  | _ => ("PetitionBoard$TextReader", "place", "I", false)
def tyX7 : Nat → FieldType := fun k => match k with
  | 0 => .array (.object "PetitionBoard$Command")
  | 1 => .int
  | _ => .int
abbrev wsX70 : List Cond := u_ws RX7 TX7 3
theorem nmX7 : ∀ a, a < 3 → ∀ b, b < 3 → a ≠ b → (TX7 a).2.1 ≠ (TX7 b).2.1 := by decide +kernel
theorem tyX7_ok : ∀ k, k < 3 → parseFieldDescriptor (TX7 k).2.2.1 = some (tyX7 k) := by decide +kernel
abbrev cX7_init : ByteArray := prog_9_method_1_code
def yX7_init : MethodName := ⟨RX7, "<init>", "()V"⟩
abbrev cX7_read : ByteArray := prog_9_method_2_code
def yX7_read : MethodName := ⟨RX7, "read", "(LPetitionBoard$Line;)Z"⟩
abbrev cX7_readCommand : ByteArray := prog_9_method_3_code
def yX7_readCommand : MethodName := ⟨RX7, "readCommand", "(LPetitionBoard$Line;LPetitionBoard$Command;)Z"⟩
abbrev cX7_readPart : ByteArray := prog_9_method_4_code
def yX7_readPart : MethodName := ⟨RX7, "readPart", "(LPetitionBoard$Line;LPetitionBoard$Command;C)Z"⟩
abbrev cX7_patternOf : ByteArray := prog_9_method_5_code
def yX7_patternOf : MethodName := ⟨RX7, "patternOf", "(C)Ljava/lang/String;"⟩
abbrev cX7_readSign : ByteArray := prog_9_method_6_code
def yX7_readSign : MethodName := ⟨RX7, "readSign", "(LPetitionBoard$Line;C)Z"⟩
abbrev cX7_readValue : ByteArray := prog_9_method_7_code
def yX7_readValue : MethodName := ⟨RX7, "readValue", "(LPetitionBoard$Line;LPetitionBoard$Command;Z)Z"⟩
abbrev cX7_isDigit : ByteArray := prog_9_method_8_code
def yX7_isDigit : MethodName := ⟨RX7, "isDigit", "(C)Z"⟩
def RX8 : String := "PetitionBoard"
def TX8 : u_T := fun k => match k with
  | 0 => ("PetitionBoard", "state", "LPetitionBoard$State;", true)
  | 1 => ("PetitionBoard", "snapshot", "LPetitionBoard$State;", true)
  | 2 => ("PetitionBoard", "history", "LPetitionBoard$History;", true)
  | 3 => ("PetitionBoard", "text", "LPetitionBoard$Line;", true)
  | 4 => ("PetitionBoard", "output", "LPetitionBoard$Line;", true)
  | 5 => ("PetitionBoard", "reader", "LPetitionBoard$TextReader;", true)
  | 6 => ("PetitionBoard", "influences", "[I", true)
  | 7 => ("PetitionBoard", "hasSnapshot", "Z", false)
  | 8 => ("PetitionBoard", "keptFault", "I", false)
  | 9 => ("PetitionBoard", "reason", "I", false)
  | 10 => ("PetitionBoard", "reasonDetail", "I", false)
  | 11 => ("PetitionBoard", "latestDenial", "I", false)
  | 12 => ("PetitionBoard", "latestDetail", "I", false)
  | 13 => ("PetitionBoard", "latestCause", "I", false)
  | _ => ("PetitionBoard", "latestCauseDetail", "I", false)
def tyX8 : Nat → FieldType := fun k => match k with
  | 0 => .object "PetitionBoard$State"
  | 1 => .object "PetitionBoard$State"
  | 2 => .object "PetitionBoard$History"
  | 3 => .object "PetitionBoard$Line"
  | 4 => .object "PetitionBoard$Line"
  | 5 => .object "PetitionBoard$TextReader"
  | 6 => .array .int
  | 7 => .boolean
  | 8 => .int
  | 9 => .int
  | 10 => .int
  | 11 => .int
  | 12 => .int
  | 13 => .int
  | _ => .int
abbrev wsX80 : List Cond := u_ws RX8 TX8 15
theorem nmX8 : ∀ a, a < 15 → ∀ b, b < 15 → a ≠ b → (TX8 a).2.1 ≠ (TX8 b).2.1 := by decide +kernel
theorem tyX8_ok : ∀ k, k < 15 → parseFieldDescriptor (TX8 k).2.2.1 = some (tyX8 k) := by decide +kernel
abbrev cX8_init : ByteArray := prog_1_method_1_code
def yX8_init : MethodName := ⟨RX8, "<init>", "()V"⟩
abbrev cX8_addStone : ByteArray := prog_1_method_2_code
def yX8_addStone : MethodName := ⟨RX8, "addStone", "(II)I"⟩
abbrev cX8_addOfficer : ByteArray := prog_1_method_3_code
def yX8_addOfficer : MethodName := ⟨RX8, "addOfficer", "(I)I"⟩
abbrev cX8_stoneCount : ByteArray := prog_1_method_4_code
def yX8_stoneCount : MethodName := ⟨RX8, "stoneCount", "()I"⟩
abbrev cX8_cellOf : ByteArray := prog_1_method_5_code
def yX8_cellOf : MethodName := ⟨RX8, "cellOf", "(I)I"⟩
abbrev cX8_weightOf : ByteArray := prog_1_method_6_code
def yX8_weightOf : MethodName := ⟨RX8, "weightOf", "(I)I"⟩
abbrev cX8_stoneIn : ByteArray := prog_1_method_7_code
def yX8_stoneIn : MethodName := ⟨RX8, "stoneIn", "(I)I"⟩
abbrev cX8_officerCount : ByteArray := prog_1_method_8_code
def yX8_officerCount : MethodName := ⟨RX8, "officerCount", "()I"⟩
abbrev cX8_rankOf : ByteArray := prog_1_method_9_code
def yX8_rankOf : MethodName := ⟨RX8, "rankOf", "(I)I"⟩
abbrev cX8_petitionsOf : ByteArray := prog_1_method_10_code
def yX8_petitionsOf : MethodName := ⟨RX8, "petitionsOf", "(I)I"⟩
abbrev cX8_file : ByteArray := prog_1_method_11_code
def yX8_file : MethodName := ⟨RX8, "file", "(IIII)I"⟩
abbrev cX8_vote : ByteArray := prog_1_method_12_code
def yX8_vote : MethodName := ⟨RX8, "vote", "(IIZ)I"⟩
abbrev cX8_cite : ByteArray := prog_1_method_13_code
def yX8_cite : MethodName := ⟨RX8, "cite", "(II)I"⟩
abbrev cX8_veto : ByteArray := prog_1_method_14_code
def yX8_veto : MethodName := ⟨RX8, "veto", "(II)I"⟩
abbrev cX8_withdraw : ByteArray := prog_1_method_15_code
def yX8_withdraw : MethodName := ⟨RX8, "withdraw", "(I)I"⟩
abbrev cX8_pendingCount : ByteArray := prog_1_method_16_code
def yX8_pendingCount : MethodName := ⟨RX8, "pendingCount", "()I"⟩
abbrev cX8_petitionAt : ByteArray := prog_1_method_17_code
def yX8_petitionAt : MethodName := ⟨RX8, "petitionAt", "(I)I"⟩
abbrev cX8_positionOf : ByteArray := prog_1_method_18_code
def yX8_positionOf : MethodName := ⟨RX8, "positionOf", "(I)I"⟩
abbrev cX8_stoneOf : ByteArray := prog_1_method_19_code
def yX8_stoneOf : MethodName := ⟨RX8, "stoneOf", "(I)I"⟩
abbrev cX8_targetOf : ByteArray := prog_1_method_20_code
def yX8_targetOf : MethodName := ⟨RX8, "targetOf", "(I)I"⟩
abbrev cX8_votesFor : ByteArray := prog_1_method_21_code
def yX8_votesFor : MethodName := ⟨RX8, "votesFor", "(I)I"⟩
abbrev cX8_votesAgainst : ByteArray := prog_1_method_22_code
def yX8_votesAgainst : MethodName := ⟨RX8, "votesAgainst", "(I)I"⟩
abbrev cX8_wouldBeGranted : ByteArray := prog_1_method_23_code
def yX8_wouldBeGranted : MethodName := ⟨RX8, "wouldBeGranted", "(I)Z"⟩
abbrev cX8_setQuorum : ByteArray := prog_1_method_24_code
def yX8_setQuorum : MethodName := ⟨RX8, "setQuorum", "(I)I"⟩
abbrev cX8_decide : ByteArray := prog_1_method_25_code
def yX8_decide : MethodName := ⟨RX8, "decide", "()I"⟩
abbrev cX8_quorum : ByteArray := prog_1_method_26_code
def yX8_quorum : MethodName := ⟨RX8, "quorum", "()I"⟩
abbrev cX8_rulingCount : ByteArray := prog_1_method_27_code
def yX8_rulingCount : MethodName := ⟨RX8, "rulingCount", "()I"⟩
abbrev cX8_isGranted : ByteArray := prog_1_method_28_code
def yX8_isGranted : MethodName := ⟨RX8, "isGranted", "(I)Z"⟩
abbrev cX8_isCarriedOut : ByteArray := prog_1_method_29_code
def yX8_isCarriedOut : MethodName := ⟨RX8, "isCarriedOut", "(I)Z"⟩
abbrev cX8_citationCount : ByteArray := prog_1_method_30_code
def yX8_citationCount : MethodName := ⟨RX8, "citationCount", "(I)I"⟩
abbrev cX8_citation : ByteArray := prog_1_method_31_code
def yX8_citation : MethodName := ⟨RX8, "citation", "(II)I"⟩
abbrev cX8_citedBy : ByteArray := prog_1_method_32_code
def yX8_citedBy : MethodName := ⟨RX8, "citedBy", "(I)I"⟩
abbrev cX8_depth : ByteArray := prog_1_method_33_code
def yX8_depth : MethodName := ⟨RX8, "depth", "(I)I"⟩
abbrev cX8_isBasedOn : ByteArray := prog_1_method_34_code
def yX8_isBasedOn : MethodName := ⟨RX8, "isBasedOn", "(II)Z"⟩
abbrev cX8_influence : ByteArray := prog_1_method_35_code
def yX8_influence : MethodName := ⟨RX8, "influence", "(I)I"⟩
abbrev cX8_influenceByMarking : ByteArray := prog_1_method_36_code
def yX8_influenceByMarking : MethodName := ⟨RX8, "influenceByMarking", "(I)I"⟩
abbrev cX8_rulingByInfluence : ByteArray := prog_1_method_37_code
def yX8_rulingByInfluence : MethodName := ⟨RX8, "rulingByInfluence", "(I)I"⟩
abbrev cX8_filedCount : ByteArray := prog_1_method_38_code
def yX8_filedCount : MethodName := ⟨RX8, "filedCount", "()I"⟩
abbrev cX8_vetoes : ByteArray := prog_1_method_39_code
def yX8_vetoes : MethodName := ⟨RX8, "vetoes", "()I"⟩
abbrev cX8_withdrawals : ByteArray := prog_1_method_40_code
def yX8_withdrawals : MethodName := ⟨RX8, "withdrawals", "()I"⟩
abbrev cX8_movedWeight : ByteArray := prog_1_method_41_code
def yX8_movedWeight : MethodName := ⟨RX8, "movedWeight", "()I"⟩
abbrev cX8_meanVotes : ByteArray := prog_1_method_42_code
def yX8_meanVotes : MethodName := ⟨RX8, "meanVotes", "()D"⟩
abbrev cX8_grantedShare : ByteArray := prog_1_method_43_code
def yX8_grantedShare : MethodName := ⟨RX8, "grantedShare", "()F"⟩
abbrev cX8_feed : ByteArray := prog_1_method_44_code
def yX8_feed : MethodName := ⟨RX8, "feed", "(C)I"⟩
abbrev cX8_execute : ByteArray := prog_1_method_45_code
def yX8_execute : MethodName := ⟨RX8, "execute", "()I"⟩
abbrev cX8_faultPosition : ByteArray := prog_1_method_46_code
def yX8_faultPosition : MethodName := ⟨RX8, "faultPosition", "()I"⟩
abbrev cX8_writePetition : ByteArray := prog_1_method_47_code
def yX8_writePetition : MethodName := ⟨RX8, "writePetition", "(I)I"⟩
abbrev cX8_writeRow : ByteArray := prog_1_method_48_code
def yX8_writeRow : MethodName := ⟨RX8, "writeRow", "(I)I"⟩
abbrev cX8_lineCharacter : ByteArray := prog_1_method_49_code
def yX8_lineCharacter : MethodName := ⟨RX8, "lineCharacter", "(I)C"⟩
abbrev cX8_denial : ByteArray := prog_1_method_50_code
def yX8_denial : MethodName := ⟨RX8, "denial", "()I"⟩
abbrev cX8_denialDetail : ByteArray := prog_1_method_51_code
def yX8_denialDetail : MethodName := ⟨RX8, "denialDetail", "()I"⟩
abbrev cX8_denialCause : ByteArray := prog_1_method_52_code
def yX8_denialCause : MethodName := ⟨RX8, "denialCause", "()I"⟩
abbrev cX8_denialCauseDetail : ByteArray := prog_1_method_53_code
def yX8_denialCauseDetail : MethodName := ⟨RX8, "denialCauseDetail", "()I"⟩
abbrev cX8_undo : ByteArray := prog_1_method_54_code
def yX8_undo : MethodName := ⟨RX8, "undo", "()I"⟩
abbrev cX8_undoCount : ByteArray := prog_1_method_55_code
def yX8_undoCount : MethodName := ⟨RX8, "undoCount", "()I"⟩
abbrev cX8_saveSnapshot : ByteArray := prog_1_method_56_code
def yX8_saveSnapshot : MethodName := ⟨RX8, "saveSnapshot", "()I"⟩
abbrev cX8_restoreSnapshot : ByteArray := prog_1_method_57_code
def yX8_restoreSnapshot : MethodName := ⟨RX8, "restoreSnapshot", "()I"⟩
abbrev cX8_placeStone : ByteArray := prog_1_method_58_code
def yX8_placeStone : MethodName := ⟨RX8, "placeStone", "(II)I"⟩
abbrev cX8_enlistOfficer : ByteArray := prog_1_method_59_code
def yX8_enlistOfficer : MethodName := ⟨RX8, "enlistOfficer", "(I)I"⟩
abbrev cX8_changeQuorum : ByteArray := prog_1_method_60_code
def yX8_changeQuorum : MethodName := ⟨RX8, "changeQuorum", "(I)I"⟩
abbrev cX8_lodgePetition : ByteArray := prog_1_method_61_code
def yX8_lodgePetition : MethodName := ⟨RX8, "lodgePetition", "(IIII)I"⟩
abbrev cX8_castVote : ByteArray := prog_1_method_62_code
def yX8_castVote : MethodName := ⟨RX8, "castVote", "(IIZ)I"⟩
abbrev cX8_citeRuling : ByteArray := prog_1_method_63_code
def yX8_citeRuling : MethodName := ⟨RX8, "citeRuling", "(II)I"⟩
abbrev cX8_vetoPetition : ByteArray := prog_1_method_64_code
def yX8_vetoPetition : MethodName := ⟨RX8, "vetoPetition", "(II)I"⟩
abbrev cX8_withdrawPetition : ByteArray := prog_1_method_65_code
def yX8_withdrawPetition : MethodName := ⟨RX8, "withdrawPetition", "(I)I"⟩
abbrev cX8_decideFirst : ByteArray := prog_1_method_66_code
def yX8_decideFirst : MethodName := ⟨RX8, "decideFirst", "()I"⟩
abbrev cX8_deny : ByteArray := prog_1_method_67_code
def yX8_deny : MethodName := ⟨RX8, "deny", "(II)I"⟩
abbrev cX8_conclude : ByteArray := prog_1_method_68_code
def yX8_conclude : MethodName := ⟨RX8, "conclude", "(I)I"⟩
abbrev cX8_runCommands : ByteArray := prog_1_method_69_code
def yX8_runCommands : MethodName := ⟨RX8, "runCommands", "()Z"⟩
abbrev cX8_attempt : ByteArray := prog_1_method_70_code
def yX8_attempt : MethodName := ⟨RX8, "attempt", "(LPetitionBoard$Command;)I"⟩
abbrev cX8_keepDenial : ByteArray := prog_1_method_71_code
def yX8_keepDenial : MethodName := ⟨RX8, "keepDenial", "(IIII)V"⟩
abbrev cX8_isCell : ByteArray := prog_1_method_72_code
def yX8_isCell : MethodName := ⟨RX8, "isCell", "(I)Z"⟩
abbrev cX8_requirePetition : ByteArray := prog_1_method_73_code
def yX8_requirePetition : MethodName := ⟨RX8, "requirePetition", "(I)LPetitionBoard$Petition;"⟩
abbrev cX8_requireRuling : ByteArray := prog_1_method_74_code
def yX8_requireRuling : MethodName := ⟨RX8, "requireRuling", "(I)LPetitionBoard$Ruling;"⟩
abbrev cX8_requireDenial : ByteArray := prog_1_method_75_code
def yX8_requireDenial : MethodName := ⟨RX8, "requireDenial", "()V"⟩
abbrev cX8_requireCause : ByteArray := prog_1_method_76_code
def yX8_requireCause : MethodName := ⟨RX8, "requireCause", "()V"⟩
abbrev cX8_rankByInfluence : ByteArray := prog_1_method_77_code
def yX8_rankByInfluence : MethodName := ⟨RX8, "rankByInfluence", "(I)I"⟩
def RX9 : String := "PetitionBoardModel"
def TX9 : u_T := fun k => match k with
  | 0 => ("PetitionBoardModel", "g", "[I", true)
  | 1 => ("PetitionBoardModel", "kept", "[I", true)
  | 2 => ("PetitionBoardModel", "saved", "[I", true)
  | 3 => ("PetitionBoardModel", "before", "[I", true)
  | 4 => ("PetitionBoardModel", "isSaved", "Z", false)
  | 5 => ("PetitionBoardModel", "changes", "I", false)
  | 6 => ("PetitionBoardModel", "isWithin", "Z", false)
  | 7 => ("PetitionBoardModel", "isDenied", "Z", false)
  | 8 => ("PetitionBoardModel", "code", "I", false)
  | 9 => ("PetitionBoardModel", "why", "I", false)
  | 10 => ("PetitionBoardModel", "detail", "I", false)
  | 11 => ("PetitionBoardModel", "cause", "I", false)
  | 12 => ("PetitionBoardModel", "causeDetail", "I", false)
  | 13 => ("PetitionBoardModel", "input", "[I", true)
  | 14 => ("PetitionBoardModel", "length", "I", false)
  | 15 => ("PetitionBoardModel", "fault", "I", false)
  | 16 => ("PetitionBoardModel", "signs", "[C", true)
  | 17 => ("PetitionBoardModel", "signMany", "I", false)
  | 18 => ("PetitionBoardModel", "deep", "[I", true)
  | 19 => ("PetitionBoardModel", "at", "I", false)
  | 20 => ("PetitionBoardModel", "told", "[I", true)
  | _ => ("PetitionBoardModel", "toldMany", "I", false)
def tyX9 : Nat → FieldType := fun k => match k with
  | 0 => .array .int
  | 1 => .array .int
  | 2 => .array .int
  | 3 => .array .int
  | 4 => .boolean
  | 5 => .int
  | 6 => .boolean
  | 7 => .boolean
  | 8 => .int
  | 9 => .int
  | 10 => .int
  | 11 => .int
  | 12 => .int
  | 13 => .array .int
  | 14 => .int
  | 15 => .int
  | 16 => .array .char
  | 17 => .int
  | 18 => .array .int
  | 19 => .int
  | 20 => .array .int
  | _ => .int
abbrev wsX90 : List Cond := u_ws RX9 TX9 22
theorem nmX9 : ∀ a, a < 22 → ∀ b, b < 22 → a ≠ b → (TX9 a).2.1 ≠ (TX9 b).2.1 := by decide +kernel
theorem tyX9_ok : ∀ k, k < 22 → parseFieldDescriptor (TX9 k).2.2.1 = some (tyX9 k) := by decide +kernel
abbrev cX9_init : ByteArray := prog_11_method_1_code
def yX9_init : MethodName := ⟨RX9, "<init>", "()V"⟩
abbrev cX9_thrown : ByteArray := prog_11_method_2_code
def yX9_thrown : MethodName := ⟨RX9, "thrown", "()I"⟩
abbrev cX9_fails : ByteArray := prog_11_method_3_code
def yX9_fails : MethodName := ⟨RX9, "fails", "(I)Z"⟩
abbrev cX9_denies : ByteArray := prog_11_method_4_code
def yX9_denies : MethodName := ⟨RX9, "denies", "(III)I"⟩
abbrev cX9_in : ByteArray := prog_11_method_5_code
def yX9_in : MethodName := ⟨RX9, "in", "(III)Z"⟩
abbrev cX9_copies : ByteArray := prog_11_method_6_code
def yX9_copies : MethodName := ⟨RX9, "copies", "([II[II)V"⟩
abbrev cX9_keeps : ByteArray := prog_11_method_7_code
def yX9_keeps : MethodName := ⟨RX9, "keeps", "([I)V"⟩
abbrev cX9_isCell : ByteArray := prog_11_method_8_code
def yX9_isCell : MethodName := ⟨RX9, "isCell", "(I)Z"⟩
abbrev cX9_isStone : ByteArray := prog_11_method_9_code
def yX9_isStone : MethodName := ⟨RX9, "isStone", "(I)Z"⟩
abbrev cX9_isOfficer : ByteArray := prog_11_method_10_code
def yX9_isOfficer : MethodName := ⟨RX9, "isOfficer", "(I)Z"⟩
abbrev cX9_cell : ByteArray := prog_11_method_11_code
def yX9_cell : MethodName := ⟨RX9, "cell", "(I)I"⟩
abbrev cX9_heavy : ByteArray := prog_11_method_12_code
def yX9_heavy : MethodName := ⟨RX9, "heavy", "(I)I"⟩
abbrev cX9_rank : ByteArray := prog_11_method_13_code
def yX9_rank : MethodName := ⟨RX9, "rank", "(I)I"⟩
abbrev cX9_within : ByteArray := prog_11_method_14_code
def yX9_within : MethodName := ⟨RX9, "within", "(I)I"⟩
abbrev cX9_addStone : ByteArray := prog_11_method_15_code
def yX9_addStone : MethodName := ⟨RX9, "addStone", "(II)I"⟩
abbrev cX9_addOfficer : ByteArray := prog_11_method_16_code
def yX9_addOfficer : MethodName := ⟨RX9, "addOfficer", "(I)I"⟩
abbrev cX9_stoneCount : ByteArray := prog_11_method_17_code
def yX9_stoneCount : MethodName := ⟨RX9, "stoneCount", "()I"⟩
abbrev cX9_cellOf : ByteArray := prog_11_method_18_code
def yX9_cellOf : MethodName := ⟨RX9, "cellOf", "(I)I"⟩
abbrev cX9_weightOf : ByteArray := prog_11_method_19_code
def yX9_weightOf : MethodName := ⟨RX9, "weightOf", "(I)I"⟩
abbrev cX9_stoneIn : ByteArray := prog_11_method_20_code
def yX9_stoneIn : MethodName := ⟨RX9, "stoneIn", "(I)I"⟩
abbrev cX9_officerCount : ByteArray := prog_11_method_21_code
def yX9_officerCount : MethodName := ⟨RX9, "officerCount", "()I"⟩
abbrev cX9_rankOf : ByteArray := prog_11_method_22_code
def yX9_rankOf : MethodName := ⟨RX9, "rankOf", "(I)I"⟩
abbrev cX9_petitionsOf : ByteArray := prog_11_method_23_code
def yX9_petitionsOf : MethodName := ⟨RX9, "petitionsOf", "(I)I"⟩
abbrev cX9_of : ByteArray := prog_11_method_24_code
def yX9_of : MethodName := ⟨RX9, "of", "(II)I"⟩
abbrev cX9_lays : ByteArray := prog_11_method_25_code
def yX9_lays : MethodName := ⟨RX9, "lays", "(III)V"⟩
abbrev cX9_placeOf : ByteArray := prog_11_method_26_code
def yX9_placeOf : MethodName := ⟨RX9, "placeOf", "(I)I"⟩
abbrev cX9_isNone : ByteArray := prog_11_method_27_code
def yX9_isNone : MethodName := ⟨RX9, "isNone", "(I)Z"⟩
abbrev cX9_about : ByteArray := prog_11_method_28_code
def yX9_about : MethodName := ⟨RX9, "about", "(I)I"⟩
abbrev cX9_file : ByteArray := prog_11_method_29_code
def yX9_file : MethodName := ⟨RX9, "file", "(IIII)I"⟩
abbrev cX9_bits : ByteArray := prog_11_method_30_code
def yX9_bits : MethodName := ⟨RX9, "bits", "(I)I"⟩
abbrev cX9_votes : ByteArray := prog_11_method_31_code
def yX9_votes : MethodName := ⟨RX9, "votes", "(I)I"⟩
abbrev cX9_vote : ByteArray := prog_11_method_32_code
def yX9_vote : MethodName := ⟨RX9, "vote", "(IIZ)I"⟩
abbrev cX9_isRuling : ByteArray := prog_11_method_33_code
def yX9_isRuling : MethodName := ⟨RX9, "isRuling", "(I)Z"⟩
abbrev cX9_cite : ByteArray := prog_11_method_34_code
def yX9_cite : MethodName := ⟨RX9, "cite", "(II)I"⟩
abbrev cX9_drops : ByteArray := prog_11_method_35_code
def yX9_drops : MethodName := ⟨RX9, "drops", "(I)V"⟩
abbrev cX9_veto : ByteArray := prog_11_method_36_code
def yX9_veto : MethodName := ⟨RX9, "veto", "(II)I"⟩
abbrev cX9_withdraw : ByteArray := prog_11_method_37_code
def yX9_withdraw : MethodName := ⟨RX9, "withdraw", "(I)I"⟩
abbrev cX9_pendingCount : ByteArray := prog_11_method_38_code
def yX9_pendingCount : MethodName := ⟨RX9, "pendingCount", "()I"⟩
abbrev cX9_isAhead : ByteArray := prog_11_method_39_code
def yX9_isAhead : MethodName := ⟨RX9, "isAhead", "(II)Z"⟩
abbrev cX9_ahead : ByteArray := prog_11_method_40_code
def yX9_ahead : MethodName := ⟨RX9, "ahead", "(I)I"⟩
abbrev cX9_queued : ByteArray := prog_11_method_41_code
def yX9_queued : MethodName := ⟨RX9, "queued", "(I)I"⟩
abbrev cX9_petitionAt : ByteArray := prog_11_method_42_code
def yX9_petitionAt : MethodName := ⟨RX9, "petitionAt", "(I)I"⟩
abbrev cX9_positionOf : ByteArray := prog_11_method_43_code
def yX9_positionOf : MethodName := ⟨RX9, "positionOf", "(I)I"⟩
abbrev cX9_stoneOf : ByteArray := prog_11_method_44_code
def yX9_stoneOf : MethodName := ⟨RX9, "stoneOf", "(I)I"⟩
abbrev cX9_targetOf : ByteArray := prog_11_method_45_code
def yX9_targetOf : MethodName := ⟨RX9, "targetOf", "(I)I"⟩
abbrev cX9_votesFor : ByteArray := prog_11_method_46_code
def yX9_votesFor : MethodName := ⟨RX9, "votesFor", "(I)I"⟩
abbrev cX9_votesAgainst : ByteArray := prog_11_method_47_code
def yX9_votesAgainst : MethodName := ⟨RX9, "votesAgainst", "(I)I"⟩
abbrev cX9_wins : ByteArray := prog_11_method_48_code
def yX9_wins : MethodName := ⟨RX9, "wins", "(I)Z"⟩
abbrev cX9_wouldBeGranted : ByteArray := prog_11_method_49_code
def yX9_wouldBeGranted : MethodName := ⟨RX9, "wouldBeGranted", "(I)Z"⟩
abbrev cX9_by : ByteArray := prog_11_method_50_code
def yX9_by : MethodName := ⟨RX9, "by", "(II)I"⟩
abbrev cX9_setQuorum : ByteArray := prog_11_method_51_code
def yX9_setQuorum : MethodName := ⟨RX9, "setQuorum", "(I)I"⟩
abbrev cX9_decide : ByteArray := prog_11_method_52_code
def yX9_decide : MethodName := ⟨RX9, "decide", "()I"⟩
abbrev cX9_quorum : ByteArray := prog_11_method_53_code
def yX9_quorum : MethodName := ⟨RX9, "quorum", "()I"⟩
abbrev cX9_rulingCount : ByteArray := prog_11_method_54_code
def yX9_rulingCount : MethodName := ⟨RX9, "rulingCount", "()I"⟩
abbrev cX9_isUnruled : ByteArray := prog_11_method_55_code
def yX9_isUnruled : MethodName := ⟨RX9, "isUnruled", "(I)Z"⟩
abbrev cX9_isGranted : ByteArray := prog_11_method_56_code
def yX9_isGranted : MethodName := ⟨RX9, "isGranted", "(I)Z"⟩
abbrev cX9_isCarriedOut : ByteArray := prog_11_method_57_code
def yX9_isCarriedOut : MethodName := ⟨RX9, "isCarriedOut", "(I)Z"⟩
abbrev cX9_citationCount : ByteArray := prog_11_method_58_code
def yX9_citationCount : MethodName := ⟨RX9, "citationCount", "(I)I"⟩
abbrev cX9_citation : ByteArray := prog_11_method_59_code
def yX9_citation : MethodName := ⟨RX9, "citation", "(II)I"⟩
abbrev cX9_names : ByteArray := prog_11_method_60_code
def yX9_names : MethodName := ⟨RX9, "names", "(II)Z"⟩
abbrev cX9_citedBy : ByteArray := prog_11_method_61_code
def yX9_citedBy : MethodName := ⟨RX9, "citedBy", "(I)I"⟩
abbrev cX9_depth : ByteArray := prog_11_method_62_code
def yX9_depth : MethodName := ⟨RX9, "depth", "(I)I"⟩
abbrev cX9_based : ByteArray := prog_11_method_63_code
def yX9_based : MethodName := ⟨RX9, "based", "(I)I"⟩
abbrev cX9_reaches : ByteArray := prog_11_method_64_code
def yX9_reaches : MethodName := ⟨RX9, "reaches", "(I)I"⟩
abbrev cX9_isBasedOn : ByteArray := prog_11_method_65_code
def yX9_isBasedOn : MethodName := ⟨RX9, "isBasedOn", "(II)Z"⟩
abbrev cX9_influence : ByteArray := prog_11_method_66_code
def yX9_influence : MethodName := ⟨RX9, "influence", "(I)I"⟩
abbrev cX9_influenceByMarking : ByteArray := prog_11_method_67_code
def yX9_influenceByMarking : MethodName := ⟨RX9, "influenceByMarking", "(I)I"⟩
abbrev cX9_rulingByInfluence : ByteArray := prog_11_method_68_code
def yX9_rulingByInfluence : MethodName := ⟨RX9, "rulingByInfluence", "(I)I"⟩
abbrev cX9_filedCount : ByteArray := prog_11_method_69_code
def yX9_filedCount : MethodName := ⟨RX9, "filedCount", "()I"⟩
abbrev cX9_vetoes : ByteArray := prog_11_method_70_code
def yX9_vetoes : MethodName := ⟨RX9, "vetoes", "()I"⟩
abbrev cX9_withdrawals : ByteArray := prog_11_method_71_code
def yX9_withdrawals : MethodName := ⟨RX9, "withdrawals", "()I"⟩
abbrev cX9_movedWeight : ByteArray := prog_11_method_72_code
def yX9_movedWeight : MethodName := ⟨RX9, "movedWeight", "()I"⟩
abbrev cX9_meanVotes : ByteArray := prog_11_method_73_code
def yX9_meanVotes : MethodName := ⟨RX9, "meanVotes", "()D"⟩
abbrev cX9_grantedShare : ByteArray := prog_11_method_74_code
def yX9_grantedShare : MethodName := ⟨RX9, "grantedShare", "()F"⟩
abbrev cX9_feed : ByteArray := prog_11_method_75_code
def yX9_feed : MethodName := ⟨RX9, "feed", "(C)I"⟩
abbrev cX9_here : ByteArray := prog_11_method_76_code
def yX9_here : MethodName := ⟨RX9, "here", "()I"⟩
abbrev cX9_skips : ByteArray := prog_11_method_77_code
def yX9_skips : MethodName := ⟨RX9, "skips", "(I)Z"⟩
abbrev cX9_isWord : ByteArray := prog_11_method_78_code
def yX9_isWord : MethodName := ⟨RX9, "isWord", "(Ljava/lang/String;)Z"⟩
abbrev cX9_figures : ByteArray := prog_11_method_79_code
def yX9_figures : MethodName := ⟨RX9, "figures", "(II)Z"⟩
abbrev cX9_commandHere : ByteArray := prog_11_method_80_code
def yX9_commandHere : MethodName := ⟨RX9, "commandHere", "()Z"⟩
abbrev cX9_isText : ByteArray := prog_11_method_81_code
def yX9_isText : MethodName := ⟨RX9, "isText", "()Z"⟩
abbrev cX9_carries : ByteArray := prog_11_method_82_code
def yX9_carries : MethodName := ⟨RX9, "carries", "(I)I"⟩
abbrev cX9_deniesText : ByteArray := prog_11_method_83_code
def yX9_deniesText : MethodName := ⟨RX9, "deniesText", "(I)I"⟩
abbrev cX9_execute : ByteArray := prog_11_method_84_code
def yX9_execute : MethodName := ⟨RX9, "execute", "()I"⟩
abbrev cX9_faultPosition : ByteArray := prog_11_method_85_code
def yX9_faultPosition : MethodName := ⟨RX9, "faultPosition", "()I"⟩
abbrev cX9_writes : ByteArray := prog_11_method_86_code
def yX9_writes : MethodName := ⟨RX9, "writes", "(I)V"⟩
abbrev cX9_writesNumber : ByteArray := prog_11_method_87_code
def yX9_writesNumber : MethodName := ⟨RX9, "writesNumber", "(I)V"⟩
abbrev cX9_writesBehind : ByteArray := prog_11_method_88_code
def yX9_writesBehind : MethodName := ⟨RX9, "writesBehind", "(II)V"⟩
abbrev cX9_writePetition : ByteArray := prog_11_method_89_code
def yX9_writePetition : MethodName := ⟨RX9, "writePetition", "(I)I"⟩
abbrev cX9_writeRow : ByteArray := prog_11_method_90_code
def yX9_writeRow : MethodName := ⟨RX9, "writeRow", "(I)I"⟩
abbrev cX9_lineCharacter : ByteArray := prog_11_method_91_code
def yX9_lineCharacter : MethodName := ⟨RX9, "lineCharacter", "(I)C"⟩
abbrev cX9_denial : ByteArray := prog_11_method_92_code
def yX9_denial : MethodName := ⟨RX9, "denial", "()I"⟩
abbrev cX9_denialDetail : ByteArray := prog_11_method_93_code
def yX9_denialDetail : MethodName := ⟨RX9, "denialDetail", "()I"⟩
abbrev cX9_denialCause : ByteArray := prog_11_method_94_code
def yX9_denialCause : MethodName := ⟨RX9, "denialCause", "()I"⟩
abbrev cX9_denialCauseDetail : ByteArray := prog_11_method_95_code
def yX9_denialCauseDetail : MethodName := ⟨RX9, "denialCauseDetail", "()I"⟩
abbrev cX9_undo : ByteArray := prog_11_method_96_code
def yX9_undo : MethodName := ⟨RX9, "undo", "()I"⟩
abbrev cX9_undoCount : ByteArray := prog_11_method_97_code
def yX9_undoCount : MethodName := ⟨RX9, "undoCount", "()I"⟩
abbrev cX9_saveSnapshot : ByteArray := prog_11_method_98_code
def yX9_saveSnapshot : MethodName := ⟨RX9, "saveSnapshot", "()I"⟩
abbrev cX9_restoreSnapshot : ByteArray := prog_11_method_99_code
def yX9_restoreSnapshot : MethodName := ⟨RX9, "restoreSnapshot", "()I"⟩
def RJx145de : String := "java/io/Serializable"
def TJx145de : u_T := fun k => match k with
  | _ => ("", "", "", false)
def tyJx145de : Nat → FieldType := fun k => match k with
  | _ => .int
abbrev wsJx145de0 : List Cond := u_ws RJx145de TJx145de 0
theorem nmJx145de : ∀ a, a < 0 → ∀ b, b < 0 → a ≠ b → (TJx145de a).2.1 ≠ (TJx145de b).2.1 := by decide +kernel
theorem tyJx145de_ok : ∀ k, k < 0 → parseFieldDescriptor (TJx145de k).2.2.1 = some (tyJx145de k) := by decide +kernel
def RJx00060 : String := "java/lang/ArrayIndexOutOfBoundsException"
def TJx00060 : u_T := fun k => match k with
  | 0 => ("java/lang/Throwable", "backtrace", "Ljava/lang/Object;", false)
  | 1 => ("java/lang/Throwable", "detailMessage", "Ljava/lang/String;", false)
  | 2 => ("java/lang/Throwable", "cause", "Ljava/lang/Throwable;", false)
  | 3 => ("java/lang/Throwable", "stackTrace", "[Ljava/lang/StackTraceElement;", false)
  | 4 => ("java/lang/Throwable", "depth", "I", false)
  | _ => ("java/lang/Throwable", "suppressedExceptions", "Ljava/util/List;", false)
def tyJx00060 : Nat → FieldType := fun k => match k with
  | 0 => .object "java/lang/Object"
  | 1 => .object "java/lang/String"
  | 2 => .object "java/lang/Throwable"
  | 3 => .array (.object "java/lang/StackTraceElement")
  | 4 => .int
  | _ => .object "java/util/List"
abbrev wsJx000600 : List Cond := u_ws RJx00060 TJx00060 6
theorem nmJx00060 : ∀ a, a < 6 → ∀ b, b < 6 → a ≠ b → (TJx00060 a).2.1 ≠ (TJx00060 b).2.1 := by decide +kernel
theorem tyJx00060_ok : ∀ k, k < 6 → parseFieldDescriptor (TJx00060 k).2.2.1 = some (tyJx00060 k) := by decide +kernel
abbrev cJx00060_init_a7421 : ByteArray := prog_14_method_2_code
def yJx00060_init_a7421 : MethodName := ⟨RJx00060, "<init>", "(Ljava/lang/String;)V"⟩
def RJx9f9b0 : String := "java/lang/CharSequence"
def TJx9f9b0 : u_T := fun k => match k with
  | _ => ("", "", "", false)
def tyJx9f9b0 : Nat → FieldType := fun k => match k with
  | _ => .int
abbrev wsJx9f9b00 : List Cond := u_ws RJx9f9b0 TJx9f9b0 0
theorem nmJx9f9b0 : ∀ a, a < 0 → ∀ b, b < 0 → a ≠ b → (TJx9f9b0 a).2.1 ≠ (TJx9f9b0 b).2.1 := by decide +kernel
theorem tyJx9f9b0_ok : ∀ k, k < 0 → parseFieldDescriptor (TJx9f9b0 k).2.2.1 = some (tyJx9f9b0 k) := by decide +kernel
def RJxb160c : String := "java/lang/Comparable"
def TJxb160c : u_T := fun k => match k with
  | _ => ("", "", "", false)
def tyJxb160c : Nat → FieldType := fun k => match k with
  | _ => .int
abbrev wsJxb160c0 : List Cond := u_ws RJxb160c TJxb160c 0
theorem nmJxb160c : ∀ a, a < 0 → ∀ b, b < 0 → a ≠ b → (TJxb160c a).2.1 ≠ (TJxb160c b).2.1 := by decide +kernel
theorem tyJxb160c_ok : ∀ k, k < 0 → parseFieldDescriptor (TJxb160c k).2.2.1 = some (tyJxb160c k) := by decide +kernel
def RJ6 : String := "java/lang/Integer"
def TJ6 : u_T := fun k => match k with
  | _ => ("", "", "", false)
def tyJ6 : Nat → FieldType := fun k => match k with
  | _ => .int
abbrev wsJ60 : List Cond := u_ws RJ6 TJ6 0
theorem nmJ6 : ∀ a, a < 0 → ∀ b, b < 0 → a ≠ b → (TJ6 a).2.1 ≠ (TJ6 b).2.1 := by decide +kernel
theorem tyJ6_ok : ∀ k, k < 0 → parseFieldDescriptor (TJ6 k).2.2.1 = some (tyJ6 k) := by decide +kernel
abbrev cJ6_bitCount_0f7a4 : ByteArray := prog_21_method_49_code
def yJ6_bitCount_0f7a4 : MethodName := ⟨RJ6, "bitCount", "(I)I"⟩
def RJ0 : String := "java/lang/String"
def TJ0 : u_T := fun k => match k with
  | 0 => ("java/lang/String", "value", "[B", true)
  | _ => ("java/lang/String", "coder", "B", true)
def tyJ0 : Nat → FieldType := fun k => match k with
  | 0 => .array .byte
  | _ => .byte
abbrev wsJ00 : List Cond := u_ws RJ0 TJ0 2
theorem nmJ0 : ∀ a, a < 2 → ∀ b, b < 2 → a ≠ b → (TJ0 a).2.1 ≠ (TJ0 b).2.1 := by decide +kernel
theorem tyJ0_ok : ∀ k, k < 2 → parseFieldDescriptor (TJ0 k).2.2.1 = some (tyJ0 k) := by decide +kernel
abbrev cJ0_length_8abf5 : ByteArray := prog_23_method_54_code
def yJ0_length_8abf5 : MethodName := ⟨RJ0, "length", "()I"⟩
abbrev cJ0_isEmpty_aae02 : ByteArray := prog_23_method_55_code
def yJ0_isEmpty_aae02 : MethodName := ⟨RJ0, "isEmpty", "()Z"⟩
abbrev cJ0_charAt_5068e : ByteArray := prog_23_method_56_code
def yJ0_charAt_5068e : MethodName := ⟨RJ0, "charAt", "(I)C"⟩
abbrev cJ0_coder_7d493 : ByteArray := prog_23_method_152_code
def yJ0_coder_7d493 : MethodName := ⟨RJ0, "coder", "()B"⟩
abbrev cJ0_isLatin1_aae02 : ByteArray := prog_23_method_154_code
def yJ0_isLatin1_aae02 : MethodName := ⟨RJ0, "isLatin1", "()Z"⟩
abbrev cJ0_checkIndex_df160 : ByteArray := prog_23_method_155_code
def yJ0_checkIndex_df160 : MethodName := ⟨RJ0, "checkIndex", "(II)V"⟩
def RJ1 : String := "java/lang/StringLatin1"
def TJ1 : u_T := fun k => match k with
  | _ => ("", "", "", false)
def tyJ1 : Nat → FieldType := fun k => match k with
  | _ => .int
abbrev wsJ10 : List Cond := u_ws RJ1 TJ1 0
theorem nmJ1 : ∀ a, a < 0 → ∀ b, b < 0 → a ≠ b → (TJ1 a).2.1 ≠ (TJ1 b).2.1 := by decide +kernel
theorem tyJ1_ok : ∀ k, k < 0 → parseFieldDescriptor (TJ1 k).2.2.1 = some (tyJ1 k) := by decide +kernel
abbrev cJ1_charAt_3b067 : ByteArray := prog_24_method_2_code
def yJ1_charAt_3b067 : MethodName := ⟨RJ1, "charAt", "([BI)C"⟩
def RJ2 : String := "java/lang/StringUTF16"
def TJ2 : u_T := fun k => match k with
  | _ => ("", "", "", false)
def tyJ2 : Nat → FieldType := fun k => match k with
  | _ => .int
abbrev wsJ20 : List Cond := u_ws RJ2 TJ2 0
theorem nmJ2 : ∀ a, a < 0 → ∀ b, b < 0 → a ≠ b → (TJ2 a).2.1 ≠ (TJ2 b).2.1 := by decide +kernel
theorem tyJ2_ok : ∀ k, k < 0 → parseFieldDescriptor (TJ2 k).2.2.1 = some (tyJ2 k) := by decide +kernel
abbrev cJ2_getChar_3b067 : ByteArray := prog_25_method_5_code
def yJ2_getChar_3b067 : MethodName := ⟨RJ2, "getChar", "([BI)C"⟩
abbrev cJ2_length_9d52b : ByteArray := prog_25_method_6_code
def yJ2_length_9d52b : MethodName := ⟨RJ2, "length", "([B)I"⟩
abbrev cJ2_charAt_3b067 : ByteArray := prog_25_method_83_code
def yJ2_charAt_3b067 : MethodName := ⟨RJ2, "charAt", "([BI)C"⟩
abbrev cJ2_checkIndex_2214a : ByteArray := prog_25_method_91_code
def yJ2_checkIndex_2214a : MethodName := ⟨RJ2, "checkIndex", "(I[B)V"⟩
def RJ10 : String := "java/lang/System"
def TJ10 : u_T := fun k => match k with
  | _ => ("", "", "", false)
def tyJ10 : Nat → FieldType := fun k => match k with
  | _ => .int
abbrev wsJ100 : List Cond := u_ws RJ10 TJ10 0
theorem nmJ10 : ∀ a, a < 0 → ∀ b, b < 0 → a ≠ b → (TJ10 a).2.1 ≠ (TJ10 b).2.1 := by decide +kernel
theorem tyJ10_ok : ∀ k, k < 0 → parseFieldDescriptor (TJ10 k).2.2.1 = some (tyJ10 k) := by decide +kernel
def RJxfd54e : String := "java/lang/constant/Constable"
def TJxfd54e : u_T := fun k => match k with
  | _ => ("", "", "", false)
def tyJxfd54e : Nat → FieldType := fun k => match k with
  | _ => .int
abbrev wsJxfd54e0 : List Cond := u_ws RJxfd54e TJxfd54e 0
theorem nmJxfd54e : ∀ a, a < 0 → ∀ b, b < 0 → a ≠ b → (TJxfd54e a).2.1 ≠ (TJxfd54e b).2.1 := by decide +kernel
theorem tyJxfd54e_ok : ∀ k, k < 0 → parseFieldDescriptor (TJxfd54e k).2.2.1 = some (tyJxfd54e k) := by decide +kernel
def RJx3cf43 : String := "java/lang/constant/ConstantDesc"
def TJx3cf43 : u_T := fun k => match k with
  | _ => ("", "", "", false)
def tyJx3cf43 : Nat → FieldType := fun k => match k with
  | _ => .int
abbrev wsJx3cf430 : List Cond := u_ws RJx3cf43 TJx3cf43 0
theorem nmJx3cf43 : ∀ a, a < 0 → ∀ b, b < 0 → a ≠ b → (TJx3cf43 a).2.1 ≠ (TJx3cf43 b).2.1 := by decide +kernel
theorem tyJx3cf43_ok : ∀ k, k < 0 → parseFieldDescriptor (TJx3cf43 k).2.2.1 = some (tyJx3cf43 k) := by decide +kernel
def RJ3 : String := "jdk/internal/util/Preconditions"
def TJ3 : u_T := fun k => match k with
  | _ => ("", "", "", false)
def tyJ3 : Nat → FieldType := fun k => match k with
  | _ => .int
abbrev wsJ30 : List Cond := u_ws RJ3 TJ3 0
theorem nmJ3 : ∀ a, a < 0 → ∀ b, b < 0 → a ≠ b → (TJ3 a).2.1 ≠ (TJ3 b).2.1 := by decide +kernel
theorem tyJ3_ok : ∀ k, k < 0 → parseFieldDescriptor (TJ3 k).2.2.1 = some (tyJ3 k) := by decide +kernel
abbrev cJ3_checkIndex_8e157 : ByteArray := prog_32_method_11_code
def yJ3_checkIndex_8e157 : MethodName := ⟨RJ3, "checkIndex", "(IILjava/util/function/BiFunction;)I"⟩
def RL : String := "PetitionBoardLaw"
abbrev cL_addStone : ByteArray := method_3_code
def yL_addStone : MethodName := ⟨RL, "addStone", "(LPetitionBoard;II[J)I"⟩
abbrev cL_addOfficer : ByteArray := method_4_code
def yL_addOfficer : MethodName := ⟨RL, "addOfficer", "(LPetitionBoard;I[J)I"⟩
abbrev cL_cellOf : ByteArray := method_5_code
def yL_cellOf : MethodName := ⟨RL, "cellOf", "(LPetitionBoard;I[J)I"⟩
abbrev cL_weightOf : ByteArray := method_6_code
def yL_weightOf : MethodName := ⟨RL, "weightOf", "(LPetitionBoard;I[J)I"⟩
abbrev cL_stoneIn : ByteArray := method_7_code
def yL_stoneIn : MethodName := ⟨RL, "stoneIn", "(LPetitionBoard;I[J)I"⟩
abbrev cL_rankOf : ByteArray := method_8_code
def yL_rankOf : MethodName := ⟨RL, "rankOf", "(LPetitionBoard;I[J)I"⟩
abbrev cL_petitionsOf : ByteArray := method_9_code
def yL_petitionsOf : MethodName := ⟨RL, "petitionsOf", "(LPetitionBoard;I[J)I"⟩
abbrev cL_file : ByteArray := method_10_code
def yL_file : MethodName := ⟨RL, "file", "(LPetitionBoard;IIII[J)I"⟩
abbrev cL_vote : ByteArray := method_11_code
def yL_vote : MethodName := ⟨RL, "vote", "(LPetitionBoard;IIZ[J)I"⟩
abbrev cL_cite : ByteArray := method_12_code
def yL_cite : MethodName := ⟨RL, "cite", "(LPetitionBoard;II[J)I"⟩
abbrev cL_veto : ByteArray := method_13_code
def yL_veto : MethodName := ⟨RL, "veto", "(LPetitionBoard;II[J)I"⟩
abbrev cL_withdraw : ByteArray := method_14_code
def yL_withdraw : MethodName := ⟨RL, "withdraw", "(LPetitionBoard;I[J)I"⟩
abbrev cL_petitionAt : ByteArray := method_15_code
def yL_petitionAt : MethodName := ⟨RL, "petitionAt", "(LPetitionBoard;I[J)I"⟩
abbrev cL_positionOf : ByteArray := method_16_code
def yL_positionOf : MethodName := ⟨RL, "positionOf", "(LPetitionBoard;I[J)I"⟩
abbrev cL_stoneOf : ByteArray := method_17_code
def yL_stoneOf : MethodName := ⟨RL, "stoneOf", "(LPetitionBoard;I[J)I"⟩
abbrev cL_targetOf : ByteArray := method_18_code
def yL_targetOf : MethodName := ⟨RL, "targetOf", "(LPetitionBoard;I[J)I"⟩
abbrev cL_votesFor : ByteArray := method_19_code
def yL_votesFor : MethodName := ⟨RL, "votesFor", "(LPetitionBoard;I[J)I"⟩
abbrev cL_votesAgainst : ByteArray := method_20_code
def yL_votesAgainst : MethodName := ⟨RL, "votesAgainst", "(LPetitionBoard;I[J)I"⟩
abbrev cL_wouldBeGranted : ByteArray := method_21_code
def yL_wouldBeGranted : MethodName := ⟨RL, "wouldBeGranted", "(LPetitionBoard;I[J)I"⟩
abbrev cL_setQuorum : ByteArray := method_22_code
def yL_setQuorum : MethodName := ⟨RL, "setQuorum", "(LPetitionBoard;I[J)I"⟩
abbrev cL_decide : ByteArray := method_23_code
def yL_decide : MethodName := ⟨RL, "decide", "(LPetitionBoard;[J)I"⟩
abbrev cL_isGranted : ByteArray := method_24_code
def yL_isGranted : MethodName := ⟨RL, "isGranted", "(LPetitionBoard;I[J)I"⟩
abbrev cL_isCarriedOut : ByteArray := method_25_code
def yL_isCarriedOut : MethodName := ⟨RL, "isCarriedOut", "(LPetitionBoard;I[J)I"⟩
abbrev cL_citationCount : ByteArray := method_26_code
def yL_citationCount : MethodName := ⟨RL, "citationCount", "(LPetitionBoard;I[J)I"⟩
abbrev cL_citation : ByteArray := method_27_code
def yL_citation : MethodName := ⟨RL, "citation", "(LPetitionBoard;II[J)I"⟩
abbrev cL_citedBy : ByteArray := method_28_code
def yL_citedBy : MethodName := ⟨RL, "citedBy", "(LPetitionBoard;I[J)I"⟩
abbrev cL_depth : ByteArray := method_29_code
def yL_depth : MethodName := ⟨RL, "depth", "(LPetitionBoard;I[J)I"⟩
abbrev cL_isBasedOn : ByteArray := method_30_code
def yL_isBasedOn : MethodName := ⟨RL, "isBasedOn", "(LPetitionBoard;II[J)I"⟩
abbrev cL_influence : ByteArray := method_31_code
def yL_influence : MethodName := ⟨RL, "influence", "(LPetitionBoard;I[J)I"⟩
abbrev cL_influenceByMarking : ByteArray := method_32_code
def yL_influenceByMarking : MethodName := ⟨RL, "influenceByMarking", "(LPetitionBoard;I[J)I"⟩
abbrev cL_rulingByInfluence : ByteArray := method_33_code
def yL_rulingByInfluence : MethodName := ⟨RL, "rulingByInfluence", "(LPetitionBoard;I[J)I"⟩
abbrev cL_meanVotes : ByteArray := method_34_code
def yL_meanVotes : MethodName := ⟨RL, "meanVotes", "(LPetitionBoard;[D)I"⟩
abbrev cL_grantedShare : ByteArray := method_35_code
def yL_grantedShare : MethodName := ⟨RL, "grantedShare", "(LPetitionBoard;[D)I"⟩
abbrev cL_feed : ByteArray := method_36_code
def yL_feed : MethodName := ⟨RL, "feed", "(LPetitionBoard;C[J)I"⟩
abbrev cL_execute : ByteArray := method_37_code
def yL_execute : MethodName := ⟨RL, "execute", "(LPetitionBoard;[J)I"⟩
abbrev cL_faultPosition : ByteArray := method_38_code
def yL_faultPosition : MethodName := ⟨RL, "faultPosition", "(LPetitionBoard;[J)I"⟩
abbrev cL_writePetition : ByteArray := method_39_code
def yL_writePetition : MethodName := ⟨RL, "writePetition", "(LPetitionBoard;I[J)I"⟩
abbrev cL_writeRow : ByteArray := method_40_code
def yL_writeRow : MethodName := ⟨RL, "writeRow", "(LPetitionBoard;I[J)I"⟩
abbrev cL_lineCharacter : ByteArray := method_41_code
def yL_lineCharacter : MethodName := ⟨RL, "lineCharacter", "(LPetitionBoard;I[J)I"⟩
abbrev cL_denial : ByteArray := method_42_code
def yL_denial : MethodName := ⟨RL, "denial", "(LPetitionBoard;[J)I"⟩
abbrev cL_denialDetail : ByteArray := method_43_code
def yL_denialDetail : MethodName := ⟨RL, "denialDetail", "(LPetitionBoard;[J)I"⟩
abbrev cL_denialCause : ByteArray := method_44_code
def yL_denialCause : MethodName := ⟨RL, "denialCause", "(LPetitionBoard;[J)I"⟩
abbrev cL_denialCauseDetail : ByteArray := method_45_code
def yL_denialCauseDetail : MethodName := ⟨RL, "denialCauseDetail", "(LPetitionBoard;[J)I"⟩
abbrev cL_undo : ByteArray := method_46_code
def yL_undo : MethodName := ⟨RL, "undo", "(LPetitionBoard;[J)I"⟩
abbrev cL_restoreSnapshot : ByteArray := method_47_code
def yL_restoreSnapshot : MethodName := ⟨RL, "restoreSnapshot", "(LPetitionBoard;[J)I"⟩
abbrev cL_law : ByteArray := code
def yL_law : MethodName := ⟨RL, "law", "([I)Z"⟩
/-- a method's instructions, checked against its bytes: place, instruction, length -/
abbrev dk_T : Type := List (Nat × Instr × Nat)
def dk_ok (c : ByteArray) (l : dk_T) : Bool := l.all fun q => decide (decode c q.1 = .ok q.2)
theorem dk {c : ByteArray} {l : dk_T} (h : dk_ok c l = true) (i : Nat) {pc n : Nat} {x : Instr} (hi : l[i]? = some (pc, x, n)) : decode c pc = .ok (x, n) := by
  unfold dk_ok at h
  have h1 : decide (decode c pc = .ok (x, n)) = true := List.all_eq_true.mp h (pc, x, n) (List.mem_of_getElem? hi)
  exact of_decide_eq_true h1
def lwG : List Cond := lw_tbl.filter goodWord
theorem wm {w : Cond} (i : Nat) (h : lw_tbl[i]? = some w) (hg : goodWord w = true) : w ∈ lwG := List.mem_filter.mpr ⟨List.mem_of_getElem? h, hg⟩
theorem lwG_good : GoodIn lwG lwG := fun w h => ⟨h, good_of_word (List.mem_filter.mp h).2⟩
theorem lwG_sub {ws : List Cond} (h : ∀ w ∈ ws, w ∈ lwG) : GoodIn lwG ws := fun w hw => lwG_good w (h w hw)
end
section
def iX0_init : dk_T := [(0, .aload_n 0, 1), (1, .invokespecial 1, 3), (4, .return_, 1)]
set_option maxRecDepth 100000 in
theorem kX0_init : dk_ok cX0_init iX0_init = true := by decide +kernel
def iX0_citedAt : dk_T := [(0, .iload_n 1, 1), (1, .ifCond .ne 10, 3), (4, .aload_n 0, 1), (5, .getfield 7, 3), (8, .goto 19, 3), (11, .iload_n 1, 1), (12, .iconst 1, 1), (13, .if_icmp .ne 10, 3), (16, .aload_n 0, 1), (17, .getfield 13, 3), (20, .goto 7, 3), (23, .aload_n 0, 1), (24, .getfield 16, 3), (27, .ireturn, 1)]
set_option maxRecDepth 100000 in
theorem kX0_citedAt : dk_ok cX0_citedAt iX0_citedAt = true := by decide +kernel
def iX0_refersTo : dk_T := [(0, .iconst 0, 1), (1, .istore_n 2, 1), (2, .iload_n 2, 1), (3, .aload_n 0, 1), (4, .getfield 19, 3), (7, .if_icmp .ge 20, 3), (10, .aload_n 0, 1), (11, .iload_n 2, 1), (12, .invokevirtual 22, 3), (15, .iload_n 1, 1), (16, .if_icmp .ne 5, 3), (19, .iconst 1, 1), (20, .ireturn, 1), (21, .iinc 2 1, 3), (24, .goto (-22), 3), (27, .iconst 0, 1), (28, .ireturn, 1)]
set_option maxRecDepth 100000 in
theorem kX0_refersTo : dk_ok cX0_refersTo iX0_refersTo = true := by decide +kernel
def iX0_addCited : dk_T := [(0, .aload_n 0, 1), (1, .getfield 19, 3), (4, .ifCond .ne 11, 3), (7, .aload_n 0, 1), (8, .iload_n 1, 1), (9, .putfield 7, 3), (12, .goto 24, 3), (15, .aload_n 0, 1), (16, .getfield 19, 3), (19, .iconst 1, 1), (20, .if_icmp .ne 11, 3), (23, .aload_n 0, 1), (24, .iload_n 1, 1), (25, .putfield 13, 3), (28, .goto 8, 3), (31, .aload_n 0, 1), (32, .iload_n 1, 1), (33, .putfield 16, 3), (36, .aload_n 0, 1), (37, .dup, 1), (38, .getfield 19, 3), (41, .iconst 1, 1), (42, .iadd, 1), (43, .putfield 19, 3), (46, .return_, 1)]
set_option maxRecDepth 100000 in
theorem kX0_addCited : dk_ok cX0_addCited iX0_addCited = true := by decide +kernel
def iX0_copyCited : dk_T := [(0, .aload_n 0, 1), (1, .aload_n 1, 1), (2, .getfield 19, 3), (5, .putfield 19, 3), (8, .aload_n 0, 1), (9, .aload_n 1, 1), (10, .getfield 7, 3), (13, .putfield 7, 3), (16, .aload_n 0, 1), (17, .aload_n 1, 1), (18, .getfield 13, 3), (21, .putfield 13, 3), (24, .aload_n 0, 1), (25, .aload_n 1, 1), (26, .getfield 16, 3), (29, .putfield 16, 3), (32, .return_, 1)]
set_option maxRecDepth 100000 in
theorem kX0_copyCited : dk_ok cX0_copyCited iX0_copyCited = true := by decide +kernel
def iX1_init : dk_T := [(0, .aload_n 0, 1), (1, .invokespecial 1, 3), (4, .return_, 1)]
set_option maxRecDepth 100000 in
theorem kX1_init : dk_ok cX1_init iX1_init = true := by decide +kernel
def iX1_begin : dk_T := [(0, .aload_n 0, 1), (1, .iload_n 1, 1), (2, .putfield 7, 3), (5, .aload_n 0, 1), (6, .iconst 0, 1), (7, .putfield 13, 3), (10, .return_, 1)]
set_option maxRecDepth 100000 in
theorem kX1_begin : dk_ok cX1_begin iX1_begin = true := by decide +kernel
def iX1_add : dk_T := [(0, .aload_n 0, 1), (1, .getfield 13, 3), (4, .ifCond .ne 11, 3), (7, .aload_n 0, 1), (8, .iload_n 1, 1), (9, .putfield 17, 3), (12, .goto 40, 3), (15, .aload_n 0, 1), (16, .getfield 13, 3), (19, .iconst 1, 1), (20, .if_icmp .ne 11, 3), (23, .aload_n 0, 1), (24, .iload_n 1, 1), (25, .putfield 20, 3), (28, .goto 24, 3), (31, .aload_n 0, 1), (32, .getfield 13, 3), (35, .iconst 2, 1), (36, .if_icmp .ne 11, 3), (39, .aload_n 0, 1), (40, .iload_n 1, 1), (41, .putfield 23, 3), (44, .goto 8, 3), (47, .aload_n 0, 1), (48, .iload_n 1, 1), (49, .putfield 26, 3), (52, .aload_n 0, 1), (53, .dup, 1), (54, .getfield 13, 3), (57, .iconst 1, 1), (58, .iadd, 1), (59, .putfield 13, 3), (62, .return_, 1)]
set_option maxRecDepth 100000 in
theorem kX1_add : dk_ok cX1_add iX1_add = true := by decide +kernel
def iX2_init : dk_T := [(0, .aload_n 0, 1), (1, .invokespecial 3, 3), (4, .aload_n 0, 1), (5, .bipush 9, 2), (7, .anewarray 9, 3), (10, .putfield 11, 3), (13, .iconst 0, 1), (14, .istore_n 1, 1), (15, .iload_n 1, 1), (16, .bipush 8, 2), (18, .if_icmp .gt 22, 3), (21, .aload_n 0, 1), (22, .getfield 11, 3), (25, .iload_n 1, 1), (26, .new 9, 3), (29, .dup, 1), (30, .invokespecial 17, 3), (33, .aastore, 1), (34, .iinc 1 1, 3), (37, .goto (-22), 3), (40, .return_, 1)]
set_option maxRecDepth 100000 in
theorem kX2_init : dk_ok cX2_init iX2_init = true := by decide +kernel
def iX2_prepare : dk_T := [(0, .aload_n 0, 1), (1, .getfield 11, 3), (4, .aload_n 0, 1), (5, .getfield 18, 3), (8, .aaload, 1), (9, .aload_n 1, 1), (10, .invokevirtual 22, 3), (13, .return_, 1)]
set_option maxRecDepth 100000 in
theorem kX2_prepare : dk_ok cX2_prepare iX2_prepare = true := by decide +kernel
def iX2_bringBackPrepared : dk_T := [(0, .aload_n 1, 1), (1, .aload_n 0, 1), (2, .getfield 11, 3), (5, .aload_n 0, 1), (6, .getfield 18, 3), (9, .aaload, 1), (10, .invokevirtual 22, 3), (13, .return_, 1)]
set_option maxRecDepth 100000 in
theorem kX2_bringBackPrepared : dk_ok cX2_bringBackPrepared iX2_bringBackPrepared = true := by decide +kernel
def iX2_keepPrepared : dk_T := [(0, .aload_n 0, 1), (1, .getfield 18, 3), (4, .bipush 8, 2), (6, .if_icmp .ge 14, 3), (9, .aload_n 0, 1), (10, .dup, 1), (11, .getfield 18, 3), (14, .iconst 1, 1), (15, .iadd, 1), (16, .putfield 18, 3), (19, .return_, 1), (20, .aload_n 0, 1), (21, .getfield 11, 3), (24, .iconst 0, 1), (25, .aaload, 1), (26, .astore_n 1, 1), (27, .iconst 0, 1), (28, .istore_n 2, 1), (29, .iload_n 2, 1), (30, .bipush 8, 2), (32, .if_icmp .ge 23, 3), (35, .aload_n 0, 1), (36, .getfield 11, 3), (39, .iload_n 2, 1), (40, .aload_n 0, 1), (41, .getfield 11, 3), (44, .iload_n 2, 1), (45, .iconst 1, 1), (46, .iadd, 1), (47, .aaload, 1), (48, .aastore, 1), (49, .iinc 2 1, 3), (52, .goto (-23), 3), (55, .aload_n 0, 1), (56, .getfield 11, 3), (59, .bipush 8, 2), (61, .aload_n 1, 1), (62, .aastore, 1), (63, .return_, 1)]
set_option maxRecDepth 100000 in
theorem kX2_keepPrepared : dk_ok cX2_keepPrepared iX2_keepPrepared = true := by decide +kernel
def iX2_bringBackLatest : dk_T := [(0, .aload_n 0, 1), (1, .getfield 18, 3), (4, .ifCond .le 26, 3), (7, .aload_n 0, 1), (8, .dup, 1), (9, .getfield 18, 3), (12, .iconst 1, 1), (13, .isub, 1), (14, .putfield 18, 3), (17, .aload_n 1, 1), (18, .aload_n 0, 1), (19, .getfield 11, 3), (22, .aload_n 0, 1), (23, .getfield 18, 3), (26, .aaload, 1), (27, .invokevirtual 22, 3), (30, .return_, 1)]
set_option maxRecDepth 100000 in
theorem kX2_bringBackLatest : dk_ok cX2_bringBackLatest iX2_bringBackLatest = true := by decide +kernel
def iX2_forget : dk_T := [(0, .aload_n 0, 1), (1, .iconst 0, 1), (2, .putfield 18, 3), (5, .return_, 1)]
set_option maxRecDepth 100000 in
theorem kX2_forget : dk_ok cX2_forget iX2_forget = true := by decide +kernel
def iX3_init : dk_T := [(0, .aload_n 0, 1), (1, .invokespecial 3, 3), (4, .aload_n 0, 1), (5, .bipush 60, 2), (7, .newarray .char, 2), (9, .putfield 9, 3), (12, .return_, 1)]
set_option maxRecDepth 100000 in
theorem kX3_init : dk_ok cX3_init iX3_init = true := by decide +kernel
def iX3_clear : dk_T := [(0, .aload_n 0, 1), (1, .iconst 0, 1), (2, .putfield 15, 3), (5, .return_, 1)]
set_option maxRecDepth 100000 in
theorem kX3_clear : dk_ok cX3_clear iX3_clear = true := by decide +kernel
def iX3_put : dk_T := [(0, .aload_n 0, 1), (1, .getfield 15, 3), (4, .bipush 60, 2), (6, .if_icmp .ge 23, 3), (9, .aload_n 0, 1), (10, .getfield 9, 3), (13, .aload_n 0, 1), (14, .getfield 15, 3), (17, .iload_n 1, 1), (18, .castore, 1), (19, .aload_n 0, 1), (20, .dup, 1), (21, .getfield 15, 3), (24, .iconst 1, 1), (25, .iadd, 1), (26, .putfield 15, 3), (29, .return_, 1)]
set_option maxRecDepth 100000 in
theorem kX3_put : dk_ok cX3_put iX3_put = true := by decide +kernel
def iX3_putMarked : dk_T := [(0, .aload_n 0, 1), (1, .iload_n 1, 1), (2, .invokevirtual 19, 3), (5, .aload_n 0, 1), (6, .iload_n 2, 1), (7, .invokevirtual 23, 3), (10, .return_, 1)]
set_option maxRecDepth 100000 in
theorem kX3_putMarked : dk_ok cX3_putMarked iX3_putMarked = true := by decide +kernel
def iX3_putNumber : dk_T := [(0, .iconst 1, 1), (1, .istore_n 2, 1), (2, .iload_n 1, 1), (3, .bipush 10, 2), (5, .idiv, 1), (6, .istore_n 3, 1), (7, .iload_n 3, 1), (8, .ifCond .le 14, 3), (11, .iinc 2 1, 3), (14, .iload_n 3, 1), (15, .bipush 10, 2), (17, .idiv, 1), (18, .istore_n 3, 1), (19, .goto (-12), 3), (22, .iload_n 2, 1), (23, .bipush 60, 2), (25, .aload_n 0, 1), (26, .getfield 15, 3), (29, .isub, 1), (30, .if_icmp .le 4, 3), (33, .return_, 1), (34, .iload_n 1, 1), (35, .istore_n 3, 1), (36, .aload_n 0, 1), (37, .getfield 15, 3), (40, .iload_n 2, 1), (41, .iadd, 1), (42, .iconst 1, 1), (43, .isub, 1), (44, .istore 4, 2), (46, .iload 4, 2), (48, .aload_n 0, 1), (49, .getfield 15, 3), (52, .if_icmp .lt 29, 3), (55, .aload_n 0, 1), (56, .getfield 9, 3), (59, .iload 4, 2), (61, .bipush 48, 2), (63, .iload_n 3, 1), (64, .bipush 10, 2), (66, .irem, 1), (67, .iadd, 1), (68, .i2c, 1), (69, .castore, 1), (70, .iload_n 3, 1), (71, .bipush 10, 2), (73, .idiv, 1), (74, .istore_n 3, 1), (75, .iinc 4 (-1), 3), (78, .goto (-32), 3), (81, .aload_n 0, 1), (82, .dup, 1), (83, .getfield 15, 3), (86, .iload_n 2, 1), (87, .iadd, 1), (88, .putfield 15, 3), (91, .return_, 1)]
set_option maxRecDepth 100000 in
theorem kX3_putNumber : dk_ok cX3_putNumber iX3_putNumber = true := by decide +kernel
def iX3_at : dk_T := [(0, .iload_n 1, 1), (1, .ifCond .lt 20, 3), (4, .iload_n 1, 1), (5, .aload_n 0, 1), (6, .getfield 15, 3), (9, .if_icmp .ge 12, 3), (12, .aload_n 0, 1), (13, .getfield 9, 3), (16, .iload_n 1, 1), (17, .caload, 1), (18, .goto 4, 3), (21, .iconst 0, 1), (22, .ireturn, 1)]
set_option maxRecDepth 100000 in
theorem kX3_at : dk_ok cX3_at iX3_at = true := by decide +kernel
def iX4_init : dk_T := [(0, .aload_n 0, 1), (1, .invokespecial 1, 3), (4, .return_, 1)]
set_option maxRecDepth 100000 in
theorem kX4_init : dk_ok cX4_init iX4_init = true := by decide +kernel
def iX4_forgetVotesAndCitations : dk_T := [(0, .aload_n 0, 1), (1, .iconst 0, 1), (2, .putfield 7, 3), (5, .aload_n 0, 1), (6, .iconst 0, 1), (7, .putfield 13, 3), (10, .aload_n 0, 1), (11, .iconst 0, 1), (12, .putfield 16, 3), (15, .return_, 1)]
set_option maxRecDepth 100000 in
theorem kX4_forgetVotesAndCitations : dk_ok cX4_forgetVotesAndCitations iX4_forgetVotesAndCitations = true := by decide +kernel
def iX4_comesBefore : dk_T := [(0, .aload_n 0, 1), (1, .getfield 19, 3), (4, .aload_n 1, 1), (5, .getfield 19, 3), (8, .if_icmp .eq 20, 3), (11, .aload_n 0, 1), (12, .getfield 19, 3), (15, .aload_n 1, 1), (16, .getfield 19, 3), (19, .if_icmp .le 7, 3), (22, .iconst 1, 1), (23, .goto 4, 3), (26, .iconst 0, 1), (27, .ireturn, 1), (28, .aload_n 0, 1), (29, .getfield 22, 3), (32, .aload_n 1, 1), (33, .getfield 22, 3), (36, .if_icmp .eq 20, 3), (39, .aload_n 0, 1), (40, .getfield 22, 3), (43, .aload_n 1, 1), (44, .getfield 22, 3), (47, .if_icmp .le 7, 3), (50, .iconst 1, 1), (51, .goto 4, 3), (54, .iconst 0, 1), (55, .ireturn, 1), (56, .aload_n 0, 1), (57, .getfield 25, 3), (60, .aload_n 1, 1), (61, .getfield 25, 3), (64, .if_icmp .ge 7, 3), (67, .iconst 1, 1), (68, .goto 4, 3), (71, .iconst 0, 1), (72, .ireturn, 1)]
set_option maxRecDepth 100000 in
theorem kX4_comesBefore : dk_ok cX4_comesBefore iX4_comesBefore = true := by decide +kernel
def iX4_hasVoteFor : dk_T := [(0, .aload_n 0, 1), (1, .getfield 7, 3), (4, .iload_n 1, 1), (5, .ishr, 1), (6, .iconst 1, 1), (7, .iand, 1), (8, .iconst 1, 1), (9, .if_icmp .ne 7, 3), (12, .iconst 1, 1), (13, .goto 4, 3), (16, .iconst 0, 1), (17, .ireturn, 1)]
set_option maxRecDepth 100000 in
theorem kX4_hasVoteFor : dk_ok cX4_hasVoteFor iX4_hasVoteFor = true := by decide +kernel
def iX4_hasVoteAgainst : dk_T := [(0, .aload_n 0, 1), (1, .getfield 13, 3), (4, .iload_n 1, 1), (5, .ishr, 1), (6, .iconst 1, 1), (7, .iand, 1), (8, .iconst 1, 1), (9, .if_icmp .ne 7, 3), (12, .iconst 1, 1), (13, .goto 4, 3), (16, .iconst 0, 1), (17, .ireturn, 1)]
set_option maxRecDepth 100000 in
theorem kX4_hasVoteAgainst : dk_ok cX4_hasVoteAgainst iX4_hasVoteAgainst = true := by decide +kernel
def iX4_addVote : dk_T := [(0, .iload_n 2, 1), (1, .ifCond .eq 18, 3), (4, .aload_n 0, 1), (5, .dup, 1), (6, .getfield 7, 3), (9, .iconst 1, 1), (10, .iload_n 1, 1), (11, .ishl, 1), (12, .ior, 1), (13, .putfield 7, 3), (16, .goto 15, 3), (19, .aload_n 0, 1), (20, .dup, 1), (21, .getfield 13, 3), (24, .iconst 1, 1), (25, .iload_n 1, 1), (26, .ishl, 1), (27, .ior, 1), (28, .putfield 13, 3), (31, .return_, 1)]
set_option maxRecDepth 100000 in
theorem kX4_addVote : dk_ok cX4_addVote iX4_addVote = true := by decide +kernel
def iX4_countFor : dk_T := [(0, .aload_n 0, 1), (1, .getfield 7, 3), (4, .invokestatic 28, 3), (7, .ireturn, 1)]
set_option maxRecDepth 100000 in
theorem kX4_countFor : dk_ok cX4_countFor iX4_countFor = true := by decide +kernel
def iX4_countAgainst : dk_T := [(0, .aload_n 0, 1), (1, .getfield 13, 3), (4, .invokestatic 28, 3), (7, .ireturn, 1)]
set_option maxRecDepth 100000 in
theorem kX4_countAgainst : dk_ok cX4_countAgainst iX4_countAgainst = true := by decide +kernel
def iX4_countVotes : dk_T := [(0, .aload_n 0, 1), (1, .invokevirtual 34, 3), (4, .aload_n 0, 1), (5, .invokevirtual 38, 3), (8, .iadd, 1), (9, .ireturn, 1)]
set_option maxRecDepth 100000 in
theorem kX4_countVotes : dk_ok cX4_countVotes iX4_countVotes = true := by decide +kernel
def iX4_copyFrom : dk_T := [(0, .aload_n 0, 1), (1, .aload_n 1, 1), (2, .invokevirtual 41, 3), (5, .aload_n 0, 1), (6, .aload_n 1, 1), (7, .getfield 25, 3), (10, .putfield 25, 3), (13, .aload_n 0, 1), (14, .aload_n 1, 1), (15, .getfield 45, 3), (18, .putfield 45, 3), (21, .aload_n 0, 1), (22, .aload_n 1, 1), (23, .getfield 19, 3), (26, .putfield 19, 3), (29, .aload_n 0, 1), (30, .aload_n 1, 1), (31, .getfield 48, 3), (34, .putfield 48, 3), (37, .aload_n 0, 1), (38, .aload_n 1, 1), (39, .getfield 51, 3), (42, .putfield 51, 3), (45, .aload_n 0, 1), (46, .aload_n 1, 1), (47, .getfield 22, 3), (50, .putfield 22, 3), (53, .aload_n 0, 1), (54, .aload_n 1, 1), (55, .getfield 7, 3), (58, .putfield 7, 3), (61, .aload_n 0, 1), (62, .aload_n 1, 1), (63, .getfield 13, 3), (66, .putfield 13, 3), (69, .return_, 1)]
set_option maxRecDepth 100000 in
theorem kX4_copyFrom : dk_ok cX4_copyFrom iX4_copyFrom = true := by decide +kernel
def iX5_init : dk_T := [(0, .aload_n 0, 1), (1, .invokespecial 1, 3), (4, .return_, 1)]
set_option maxRecDepth 100000 in
theorem kX5_init : dk_ok cX5_init iX5_init = true := by decide +kernel
def iX5_copyFrom : dk_T := [(0, .aload_n 0, 1), (1, .aload_n 1, 1), (2, .invokevirtual 7, 3), (5, .aload_n 0, 1), (6, .aload_n 1, 1), (7, .getfield 13, 3), (10, .putfield 13, 3), (13, .aload_n 0, 1), (14, .aload_n 1, 1), (15, .getfield 17, 3), (18, .putfield 17, 3), (21, .aload_n 0, 1), (22, .aload_n 1, 1), (23, .getfield 20, 3), (26, .putfield 20, 3), (29, .return_, 1)]
set_option maxRecDepth 100000 in
theorem kX5_copyFrom : dk_ok cX5_copyFrom iX5_copyFrom = true := by decide +kernel
def iX6_init : dk_T := [(0, .aload_n 0, 1), (1, .invokespecial 3, 3), (4, .aload_n 0, 1), (5, .bipush 10, 2), (7, .newarray .int, 2), (9, .putfield 9, 3), (12, .aload_n 0, 1), (13, .bipush 10, 2), (15, .newarray .int, 2), (17, .putfield 15, 3), (20, .aload_n 0, 1), (21, .bipush 6, 2), (23, .newarray .int, 2), (25, .putfield 18, 3), (28, .aload_n 0, 1), (29, .bipush 8, 2), (31, .anewarray 21, 3), (34, .putfield 23, 3), (37, .aload_n 0, 1), (38, .bipush 16, 2), (40, .anewarray 27, 3), (43, .putfield 29, 3), (46, .iconst 0, 1), (47, .istore_n 1, 1), (48, .iload_n 1, 1), (49, .bipush 8, 2), (51, .if_icmp .ge 22, 3), (54, .aload_n 0, 1), (55, .getfield 23, 3), (58, .iload_n 1, 1), (59, .new 21, 3), (62, .dup, 1), (63, .invokespecial 33, 3), (66, .aastore, 1), (67, .iinc 1 1, 3), (70, .goto (-22), 3), (73, .iconst 0, 1), (74, .istore_n 1, 1), (75, .iload_n 1, 1), (76, .bipush 16, 2), (78, .if_icmp .ge 22, 3), (81, .aload_n 0, 1), (82, .getfield 29, 3), (85, .iload_n 1, 1), (86, .new 27, 3), (89, .dup, 1), (90, .invokespecial 34, 3), (93, .aastore, 1), (94, .iinc 1 1, 3), (97, .goto (-22), 3), (100, .aload_n 0, 1), (101, .iconst 2, 1), (102, .putfield 35, 3), (105, .return_, 1)]
set_option maxRecDepth 100000 in
theorem kX6_init : dk_ok cX6_init iX6_init = true := by decide +kernel
def iX6_copyFrom_p0 : dk_T := [(0, .aload_n 1, 1), (1, .getfield 9, 3), (4, .iconst 0, 1), (5, .aload_n 0, 1), (6, .getfield 9, 3), (9, .iconst 0, 1), (10, .bipush 10, 2), (12, .invokestatic 39, 3), (15, .aload_n 1, 1), (16, .getfield 15, 3), (19, .iconst 0, 1), (20, .aload_n 0, 1), (21, .getfield 15, 3), (24, .iconst 0, 1), (25, .bipush 10, 2), (27, .invokestatic 39, 3), (30, .aload_n 1, 1), (31, .getfield 18, 3), (34, .iconst 0, 1), (35, .aload_n 0, 1), (36, .getfield 18, 3), (39, .iconst 0, 1), (40, .bipush 6, 2), (42, .invokestatic 39, 3), (45, .iconst 0, 1), (46, .istore_n 2, 1), (47, .iload_n 2, 1), (48, .aload_n 1, 1), (49, .getfield 45, 3), (52, .if_icmp .ge 24, 3), (55, .aload_n 0, 1), (56, .getfield 23, 3), (59, .iload_n 2, 1), (60, .aaload, 1), (61, .aload_n 1, 1), (62, .getfield 23, 3), (65, .iload_n 2, 1), (66, .aaload, 1), (67, .invokevirtual 48, 3), (70, .iinc 2 1, 3), (73, .goto (-26), 3), (76, .iconst 0, 1), (77, .istore_n 2, 1), (78, .iload_n 2, 1), (79, .aload_n 1, 1), (80, .getfield 52, 3), (83, .if_icmp .ge 24, 3), (86, .aload_n 0, 1), (87, .getfield 29, 3), (90, .iload_n 2, 1), (91, .aaload, 1), (92, .aload_n 1, 1), (93, .getfield 29, 3), (96, .iload_n 2, 1), (97, .aaload, 1), (98, .invokevirtual 55, 3), (101, .iinc 2 1, 3), (104, .goto (-26), 3), (107, .aload_n 0, 1), (108, .aload_n 1, 1)]
set_option maxRecDepth 100000 in
theorem kX6_copyFrom_p0 : dk_ok cX6_copyFrom iX6_copyFrom_p0 = true := by decide +kernel
def iX6_copyFrom_p1 : dk_T := [(109, .getfield 58, 3), (112, .putfield 58, 3), (115, .aload_n 0, 1), (116, .aload_n 1, 1), (117, .getfield 61, 3), (120, .putfield 61, 3), (123, .aload_n 0, 1), (124, .aload_n 1, 1), (125, .getfield 45, 3), (128, .putfield 45, 3), (131, .aload_n 0, 1), (132, .aload_n 1, 1), (133, .getfield 52, 3), (136, .putfield 52, 3), (139, .aload_n 0, 1), (140, .aload_n 1, 1), (141, .getfield 35, 3), (144, .putfield 35, 3), (147, .aload_n 0, 1), (148, .aload_n 1, 1), (149, .getfield 64, 3), (152, .putfield 64, 3), (155, .aload_n 0, 1), (156, .aload_n 1, 1), (157, .getfield 67, 3), (160, .putfield 67, 3), (163, .aload_n 0, 1), (164, .aload_n 1, 1), (165, .getfield 70, 3), (168, .putfield 70, 3), (171, .aload_n 0, 1), (172, .aload_n 1, 1), (173, .getfield 73, 3), (176, .putfield 73, 3), (179, .return_, 1)]
set_option maxRecDepth 100000 in
theorem kX6_copyFrom_p1 : dk_ok cX6_copyFrom iX6_copyFrom_p1 = true := by decide +kernel
def iX6_hasStone : dk_T := [(0, .iload_n 1, 1), (1, .ifCond .lt 15, 3), (4, .iload_n 1, 1), (5, .aload_n 0, 1), (6, .getfield 58, 3), (9, .if_icmp .ge 7, 3), (12, .iconst 1, 1), (13, .goto 4, 3), (16, .iconst 0, 1), (17, .ireturn, 1)]
set_option maxRecDepth 100000 in
theorem kX6_hasStone : dk_ok cX6_hasStone iX6_hasStone = true := by decide +kernel
def iX6_hasOfficer : dk_T := [(0, .iload_n 1, 1), (1, .ifCond .lt 15, 3), (4, .iload_n 1, 1), (5, .aload_n 0, 1), (6, .getfield 61, 3), (9, .if_icmp .ge 7, 3), (12, .iconst 1, 1), (13, .goto 4, 3), (16, .iconst 0, 1), (17, .ireturn, 1)]
set_option maxRecDepth 100000 in
theorem kX6_hasOfficer : dk_ok cX6_hasOfficer iX6_hasOfficer = true := by decide +kernel
def iX6_findStoneIn : dk_T := [(0, .iconst 0, 1), (1, .istore_n 2, 1), (2, .iload_n 2, 1), (3, .aload_n 0, 1), (4, .getfield 58, 3), (7, .if_icmp .ge 21, 3), (10, .aload_n 0, 1), (11, .getfield 9, 3), (14, .iload_n 2, 1), (15, .iaload, 1), (16, .iload_n 1, 1), (17, .if_icmp .ne 5, 3), (20, .iload_n 2, 1), (21, .ireturn, 1), (22, .iinc 2 1, 3), (25, .goto (-23), 3), (28, .iconst (-1), 1), (29, .ireturn, 1)]
set_option maxRecDepth 100000 in
theorem kX6_findStoneIn : dk_ok cX6_findStoneIn iX6_findStoneIn = true := by decide +kernel
def iX6_findPetition : dk_T := [(0, .iconst 0, 1), (1, .istore_n 2, 1), (2, .iload_n 2, 1), (3, .aload_n 0, 1), (4, .getfield 45, 3), (7, .if_icmp .ge 29, 3), (10, .aload_n 0, 1), (11, .getfield 23, 3), (14, .iload_n 2, 1), (15, .aaload, 1), (16, .getfield 76, 3), (19, .iload_n 1, 1), (20, .if_icmp .ne 10, 3), (23, .aload_n 0, 1), (24, .getfield 23, 3), (27, .iload_n 2, 1), (28, .aaload, 1), (29, .areturn, 1), (30, .iinc 2 1, 3), (33, .goto (-31), 3), (36, .aconst_null, 1), (37, .areturn, 1)]
set_option maxRecDepth 100000 in
theorem kX6_findPetition : dk_ok cX6_findPetition iX6_findPetition = true := by decide +kernel
def iX6_findPetitionFor : dk_T := [(0, .iconst 0, 1), (1, .istore_n 2, 1), (2, .iload_n 2, 1), (3, .aload_n 0, 1), (4, .getfield 45, 3), (7, .if_icmp .ge 29, 3), (10, .aload_n 0, 1), (11, .getfield 23, 3), (14, .iload_n 2, 1), (15, .aaload, 1), (16, .getfield 79, 3), (19, .iload_n 1, 1), (20, .if_icmp .ne 10, 3), (23, .aload_n 0, 1), (24, .getfield 23, 3), (27, .iload_n 2, 1), (28, .aaload, 1), (29, .areturn, 1), (30, .iinc 2 1, 3), (33, .goto (-31), 3), (36, .aconst_null, 1), (37, .areturn, 1)]
set_option maxRecDepth 100000 in
theorem kX6_findPetitionFor : dk_ok cX6_findPetitionFor iX6_findPetitionFor = true := by decide +kernel
def iX6_findRuling : dk_T := [(0, .iload_n 1, 1), (1, .ifCond .lt 11, 3), (4, .iload_n 1, 1), (5, .aload_n 0, 1), (6, .getfield 52, 3), (9, .if_icmp .lt 5, 3), (12, .aconst_null, 1), (13, .areturn, 1), (14, .aload_n 0, 1), (15, .getfield 29, 3), (18, .iload_n 1, 1), (19, .aaload, 1), (20, .areturn, 1)]
set_option maxRecDepth 100000 in
theorem kX6_findRuling : dk_ok cX6_findRuling iX6_findRuling = true := by decide +kernel
def iX6_appendStone : dk_T := [(0, .aload_n 0, 1), (1, .getfield 58, 3), (4, .istore_n 3, 1), (5, .aload_n 0, 1), (6, .getfield 9, 3), (9, .iload_n 3, 1), (10, .iload_n 1, 1), (11, .iastore, 1), (12, .aload_n 0, 1), (13, .getfield 15, 3), (16, .iload_n 3, 1), (17, .iload_n 2, 1), (18, .iastore, 1), (19, .aload_n 0, 1), (20, .dup, 1), (21, .getfield 58, 3), (24, .iconst 1, 1), (25, .iadd, 1), (26, .putfield 58, 3), (29, .iload_n 3, 1), (30, .ireturn, 1)]
set_option maxRecDepth 100000 in
theorem kX6_appendStone : dk_ok cX6_appendStone iX6_appendStone = true := by decide +kernel
def iX6_appendOfficer : dk_T := [(0, .aload_n 0, 1), (1, .getfield 61, 3), (4, .istore_n 2, 1), (5, .aload_n 0, 1), (6, .getfield 18, 3), (9, .iload_n 2, 1), (10, .iload_n 1, 1), (11, .iastore, 1), (12, .aload_n 0, 1), (13, .dup, 1), (14, .getfield 61, 3), (17, .iconst 1, 1), (18, .iadd, 1), (19, .putfield 61, 3), (22, .iload_n 2, 1), (23, .ireturn, 1)]
set_option maxRecDepth 100000 in
theorem kX6_appendOfficer : dk_ok cX6_appendOfficer iX6_appendOfficer = true := by decide +kernel
def iX6_enqueue : dk_T := [(0, .aload_n 0, 1), (1, .getfield 23, 3), (4, .aload_n 0, 1), (5, .getfield 45, 3), (8, .aaload, 1), (9, .astore 5, 2), (11, .aload 5, 2), (13, .aload_n 0, 1), (14, .getfield 64, 3), (17, .putfield 76, 3), (20, .aload 5, 2), (22, .iload_n 1, 1), (23, .putfield 82, 3), (26, .aload 5, 2), (28, .aload_n 0, 1), (29, .getfield 18, 3), (32, .iload_n 1, 1), (33, .iaload, 1), (34, .putfield 85, 3), (37, .aload 5, 2), (39, .iload_n 2, 1), (40, .putfield 79, 3), (43, .aload 5, 2), (45, .iload_n 3, 1), (46, .putfield 88, 3), (49, .aload 5, 2), (51, .iload 4, 2), (53, .putfield 91, 3), (56, .aload 5, 2), (58, .invokevirtual 94, 3), (61, .aload_n 0, 1), (62, .aload 5, 2), (64, .invokevirtual 97, 3), (67, .aload_n 0, 1), (68, .dup, 1), (69, .getfield 45, 3), (72, .iconst 1, 1), (73, .iadd, 1), (74, .putfield 45, 3), (77, .aload_n 0, 1), (78, .dup, 1), (79, .getfield 64, 3), (82, .iconst 1, 1), (83, .iadd, 1), (84, .putfield 64, 3), (87, .aload 5, 2), (89, .getfield 76, 3), (92, .ireturn, 1)]
set_option maxRecDepth 100000 in
theorem kX6_enqueue : dk_ok cX6_enqueue iX6_enqueue = true := by decide +kernel
def iX6_moveToItsPosition : dk_T := [(0, .aload_n 0, 1), (1, .getfield 45, 3), (4, .istore_n 2, 1), (5, .iload_n 2, 1), (6, .ifCond .le 38, 3), (9, .aload_n 1, 1), (10, .aload_n 0, 1), (11, .getfield 23, 3), (14, .iload_n 2, 1), (15, .iconst 1, 1), (16, .isub, 1), (17, .aaload, 1), (18, .invokevirtual 100, 3), (21, .ifCond .eq 23, 3), (24, .aload_n 0, 1), (25, .getfield 23, 3), (28, .iload_n 2, 1), (29, .aload_n 0, 1), (30, .getfield 23, 3), (33, .iload_n 2, 1), (34, .iconst 1, 1), (35, .isub, 1), (36, .aaload, 1), (37, .aastore, 1), (38, .iinc 2 (-1), 3), (41, .goto (-36), 3), (44, .aload_n 0, 1), (45, .getfield 23, 3), (48, .iload_n 2, 1), (49, .aload_n 1, 1), (50, .aastore, 1), (51, .return_, 1)]
set_option maxRecDepth 100000 in
theorem kX6_moveToItsPosition : dk_ok cX6_moveToItsPosition iX6_moveToItsPosition = true := by decide +kernel
def iX6_dequeue : dk_T := [(0, .iconst 0, 1), (1, .istore_n 2, 1), (2, .iconst 0, 1), (3, .istore_n 3, 1), (4, .iload_n 3, 1), (5, .aload_n 0, 1), (6, .getfield 45, 3), (9, .if_icmp .ge 34, 3), (12, .aload_n 0, 1), (13, .getfield 23, 3), (16, .iload_n 3, 1), (17, .aaload, 1), (18, .aload_n 1, 1), (19, .if_acmp .eq 18, 3), (22, .aload_n 0, 1), (23, .getfield 23, 3), (26, .iload_n 2, 1), (27, .aload_n 0, 1), (28, .getfield 23, 3), (31, .iload_n 3, 1), (32, .aaload, 1), (33, .aastore, 1), (34, .iinc 2 1, 3), (37, .iinc 3 1, 3), (40, .goto (-36), 3), (43, .iload_n 2, 1), (44, .aload_n 0, 1), (45, .getfield 45, 3), (48, .if_icmp .ge 15, 3), (51, .aload_n 0, 1), (52, .getfield 23, 3), (55, .iload_n 2, 1), (56, .aload_n 1, 1), (57, .aastore, 1), (58, .aload_n 0, 1), (59, .iload_n 2, 1), (60, .putfield 45, 3), (63, .return_, 1)]
set_option maxRecDepth 100000 in
theorem kX6_dequeue : dk_ok cX6_dequeue iX6_dequeue = true := by decide +kernel
def iX6_isWon : dk_T := [(0, .aload_n 1, 1), (1, .invokevirtual 104, 3), (4, .aload_n 1, 1), (5, .invokevirtual 108, 3), (8, .isub, 1), (9, .istore_n 2, 1), (10, .iconst 0, 1), (11, .istore_n 3, 1), (12, .iload_n 3, 1), (13, .aload_n 1, 1), (14, .getfield 111, 3), (17, .if_icmp .ge 41, 3), (20, .aload_n 0, 1), (21, .aload_n 1, 1), (22, .iload_n 3, 1), (23, .invokevirtual 114, 3), (26, .invokevirtual 118, 3), (29, .astore 4, 2), (31, .iload_n 2, 1), (32, .aload 4, 2), (34, .ifnull 15, 3), (37, .aload 4, 2), (39, .getfield 122, 3), (42, .ifCond .eq 7, 3), (45, .iconst 1, 1), (46, .goto 4, 3), (49, .iconst (-1), 1), (50, .iadd, 1), (51, .istore_n 2, 1), (52, .iinc 3 1, 3), (55, .goto (-43), 3), (58, .iload_n 2, 1), (59, .ifCond .le 7, 3), (62, .iconst 1, 1), (63, .goto 4, 3), (66, .iconst 0, 1), (67, .ireturn, 1)]
set_option maxRecDepth 100000 in
theorem kX6_isWon : dk_ok cX6_isWon iX6_isWon = true := by decide +kernel
def iX6_rule : dk_T := [(0, .aload_n 0, 1), (1, .getfield 29, 3), (4, .aload_n 0, 1), (5, .getfield 52, 3), (8, .aaload, 1), (9, .astore_n 2, 1), (10, .aload_n 2, 1), (11, .aload_n 1, 1), (12, .invokevirtual 126, 3), (15, .aload_n 2, 1), (16, .aload_n 0, 1), (17, .aload_n 1, 1), (18, .invokevirtual 130, 3), (21, .putfield 134, 3), (24, .aload_n 2, 1), (25, .aload_n 0, 1), (26, .aload_n 1, 1), (27, .invokevirtual 137, 3), (30, .putfield 122, 3), (33, .aload_n 2, 1), (34, .aload_n 2, 1), (35, .getfield 122, 3), (38, .ifCond .eq 19, 3), (41, .aload_n 0, 1), (42, .aload_n 1, 1), (43, .getfield 88, 3), (46, .invokevirtual 140, 3), (49, .iconst (-1), 1), (50, .if_icmp .ne 7, 3), (53, .iconst 1, 1), (54, .goto 4, 3), (57, .iconst 0, 1), (58, .putfield 143, 3), (61, .aload_n 2, 1), (62, .getfield 143, 3), (65, .ifCond .eq 15, 3), (68, .aload_n 0, 1), (69, .aload_n 1, 1), (70, .getfield 79, 3), (73, .aload_n 1, 1), (74, .getfield 88, 3), (77, .invokevirtual 146, 3), (80, .aload_n 0, 1), (81, .aload_n 1, 1), (82, .invokevirtual 150, 3), (85, .aload_n 0, 1), (86, .dup, 1), (87, .getfield 52, 3), (90, .iconst 1, 1), (91, .iadd, 1), (92, .putfield 52, 3), (95, .aload_n 0, 1), (96, .getfield 52, 3), (99, .iconst 1, 1), (100, .isub, 1), (101, .ireturn, 1)]
set_option maxRecDepth 100000 in
theorem kX6_rule : dk_ok cX6_rule iX6_rule = true := by decide +kernel
def iX6_levelAbove : dk_T := [(0, .iconst 0, 1), (1, .istore_n 2, 1), (2, .iconst 0, 1), (3, .istore_n 3, 1), (4, .iload_n 3, 1), (5, .aload_n 1, 1), (6, .getfield 153, 3), (9, .if_icmp .ge 42, 3), (12, .aload_n 0, 1), (13, .aload_n 1, 1), (14, .iload_n 3, 1), (15, .invokevirtual 156, 3), (18, .invokevirtual 118, 3), (21, .astore 4, 2), (23, .aload 4, 2), (25, .ifnull 20, 3), (28, .aload 4, 2), (30, .getfield 134, 3), (33, .iload_n 2, 1), (34, .if_icmp .lt 11, 3), (37, .aload 4, 2), (39, .getfield 134, 3), (42, .iconst 1, 1), (43, .iadd, 1), (44, .istore_n 2, 1), (45, .iinc 3 1, 3), (48, .goto (-44), 3), (51, .iload_n 2, 1), (52, .ireturn, 1)]
set_option maxRecDepth 100000 in
theorem kX6_levelAbove : dk_ok cX6_levelAbove iX6_levelAbove = true := by decide +kernel
def iX6_moveStone : dk_T := [(0, .aload_n 0, 1), (1, .iload_n 1, 1), (2, .invokevirtual 157, 3), (5, .ifCond .eq 25, 3), (8, .aload_n 0, 1), (9, .getfield 9, 3), (12, .iload_n 1, 1), (13, .iload_n 2, 1), (14, .iastore, 1), (15, .aload_n 0, 1), (16, .dup, 1), (17, .getfield 73, 3), (20, .aload_n 0, 1), (21, .getfield 15, 3), (24, .iload_n 1, 1), (25, .iaload, 1), (26, .iadd, 1), (27, .putfield 73, 3), (30, .return_, 1)]
set_option maxRecDepth 100000 in
theorem kX6_moveStone : dk_ok cX6_moveStone iX6_moveStone = true := by decide +kernel
def iX6_restsOn : dk_T := [(0, .aload_n 0, 1), (1, .iload_n 1, 1), (2, .invokevirtual 161, 3), (5, .istore_n 3, 1), (6, .iload_n 1, 1), (7, .iconst 1, 1), (8, .isub, 1), (9, .istore 4, 2), (11, .iload 4, 2), (13, .iload_n 2, 1), (14, .if_icmp .le 28, 3), (17, .iload_n 3, 1), (18, .iload 4, 2), (20, .ishr, 1), (21, .iconst 1, 1), (22, .iand, 1), (23, .iconst 1, 1), (24, .if_icmp .ne 12, 3), (27, .iload_n 3, 1), (28, .aload_n 0, 1), (29, .iload 4, 2), (31, .invokevirtual 161, 3), (34, .ior, 1), (35, .istore_n 3, 1), (36, .iinc 4 (-1), 3), (39, .goto (-28), 3), (42, .iload_n 3, 1), (43, .iload_n 2, 1), (44, .ishr, 1), (45, .iconst 1, 1), (46, .iand, 1), (47, .iconst 1, 1), (48, .if_icmp .ne 7, 3), (51, .iconst 1, 1), (52, .goto 4, 3), (55, .iconst 0, 1), (56, .ireturn, 1)]
set_option maxRecDepth 100000 in
theorem kX6_restsOn : dk_ok cX6_restsOn iX6_restsOn = true := by decide +kernel
def iX6_countMarked : dk_T := [(0, .iconst 1, 1), (1, .iload_n 1, 1), (2, .ishl, 1), (3, .istore_n 2, 1), (4, .iload_n 1, 1), (5, .iconst 1, 1), (6, .iadd, 1), (7, .istore_n 3, 1), (8, .iload_n 3, 1), (9, .aload_n 0, 1), (10, .getfield 52, 3), (13, .if_icmp .ge 25, 3), (16, .aload_n 0, 1), (17, .iload_n 3, 1), (18, .invokevirtual 161, 3), (21, .iload_n 2, 1), (22, .iand, 1), (23, .ifCond .eq 9, 3), (26, .iload_n 2, 1), (27, .iconst 1, 1), (28, .iload_n 3, 1), (29, .ishl, 1), (30, .ior, 1), (31, .istore_n 2, 1), (32, .iinc 3 1, 3), (35, .goto (-27), 3), (38, .iload_n 2, 1), (39, .invokestatic 164, 3), (42, .iconst 1, 1), (43, .isub, 1), (44, .ireturn, 1)]
set_option maxRecDepth 100000 in
theorem kX6_countMarked : dk_ok cX6_countMarked iX6_countMarked = true := by decide +kernel
def iX6_citedSet : dk_T := [(0, .iconst 0, 1), (1, .istore_n 2, 1), (2, .aload_n 0, 1), (3, .iload_n 1, 1), (4, .invokevirtual 118, 3), (7, .astore_n 3, 1), (8, .aload_n 3, 1), (9, .ifnull 32, 3), (12, .iconst 0, 1), (13, .istore 4, 2), (15, .iload 4, 2), (17, .aload_n 3, 1), (18, .getfield 169, 3), (21, .if_icmp .ge 20, 3), (24, .iload_n 2, 1), (25, .iconst 1, 1), (26, .aload_n 3, 1), (27, .iload 4, 2), (29, .invokevirtual 170, 3), (32, .ishl, 1), (33, .ior, 1), (34, .istore_n 2, 1), (35, .iinc 4 1, 3), (38, .goto (-23), 3), (41, .iload_n 2, 1), (42, .ireturn, 1)]
set_option maxRecDepth 100000 in
theorem kX6_citedSet : dk_ok cX6_citedSet iX6_citedSet = true := by decide +kernel
def iX7_init : dk_T := [(0, .aload_n 0, 1), (1, .invokespecial 3, 3), (4, .aload_n 0, 1), (5, .bipush 10, 2), (7, .anewarray 9, 3), (10, .putfield 11, 3), (13, .iconst 0, 1), (14, .istore_n 1, 1), (15, .iload_n 1, 1), (16, .bipush 10, 2), (18, .if_icmp .ge 22, 3), (21, .aload_n 0, 1), (22, .getfield 11, 3), (25, .iload_n 1, 1), (26, .new 9, 3), (29, .dup, 1), (30, .invokespecial 17, 3), (33, .aastore, 1), (34, .iinc 1 1, 3), (37, .goto (-22), 3), (40, .return_, 1)]
set_option maxRecDepth 100000 in
theorem kX7_init : dk_ok cX7_init iX7_init = true := by decide +kernel
def iX7_read : dk_T := [(0, .aload_n 0, 1), (1, .iconst 0, 1), (2, .putfield 18, 3), (5, .aload_n 0, 1), (6, .iconst 0, 1), (7, .putfield 22, 3), (10, .aload_n 0, 1), (11, .getfield 22, 3), (14, .bipush 10, 2), (16, .if_icmp .ge 57, 3), (19, .aload_n 0, 1), (20, .aload_n 1, 1), (21, .aload_n 0, 1), (22, .getfield 11, 3), (25, .aload_n 0, 1), (26, .getfield 22, 3), (29, .aaload, 1), (30, .invokevirtual 25, 3), (33, .ifCond .ne 5, 3), (36, .iconst 0, 1), (37, .ireturn, 1), (38, .aload_n 0, 1), (39, .dup, 1), (40, .getfield 22, 3), (43, .iconst 1, 1), (44, .iadd, 1), (45, .putfield 22, 3), (48, .aload_n 0, 1), (49, .getfield 18, 3), (52, .aload_n 1, 1), (53, .getfield 29, 3), (56, .if_icmp .ne 5, 3), (59, .iconst 1, 1), (60, .ireturn, 1), (61, .aload_n 0, 1), (62, .aload_n 1, 1), (63, .bipush 59, 2), (65, .invokevirtual 34, 3), (68, .ifCond .ne (-58), 3), (71, .iconst 0, 1), (72, .ireturn, 1), (73, .iconst 0, 1), (74, .ireturn, 1)]
set_option maxRecDepth 100000 in
theorem kX7_read : dk_ok cX7_read iX7_read = true := by decide +kernel
def iX7_readCommand : dk_T := [(0, .aload_n 1, 1), (1, .aload_n 0, 1), (2, .getfield 18, 3), (5, .invokevirtual 38, 3), (8, .istore_n 3, 1), (9, .iload_n 3, 1), (10, .invokestatic 42, 3), (13, .astore 4, 2), (15, .aload 4, 2), (17, .invokevirtual 46, 3), (20, .ifCond .eq 5, 3), (23, .iconst 0, 1), (24, .ireturn, 1), (25, .aload_n 2, 1), (26, .iload_n 3, 1), (27, .invokevirtual 52, 3), (30, .iconst 0, 1), (31, .istore 5, 2), (33, .iload 5, 2), (35, .aload 4, 2), (37, .invokevirtual 56, 3), (40, .if_icmp .ge 27, 3), (43, .aload_n 0, 1), (44, .aload_n 1, 1), (45, .aload_n 2, 1), (46, .aload 4, 2), (48, .iload 5, 2), (50, .invokevirtual 59, 3), (53, .invokevirtual 62, 3), (56, .ifCond .ne 5, 3), (59, .iconst 0, 1), (60, .ireturn, 1), (61, .iinc 5 1, 3), (64, .goto (-31), 3), (67, .iconst 1, 1), (68, .ireturn, 1)]
set_option maxRecDepth 100000 in
theorem kX7_readCommand : dk_ok cX7_readCommand iX7_readCommand = true := by decide +kernel
def iX7_readPart : dk_T := [(0, .iload_n 3, 1), (1, .bipush 68, 2), (3, .if_icmp .eq 9, 3), (6, .iload_n 3, 1), (7, .bipush 78, 2), (9, .if_icmp .ne 21, 3), (12, .aload_n 0, 1), (13, .aload_n 1, 1), (14, .aload_n 2, 1), (15, .iload_n 3, 1), (16, .bipush 78, 2), (18, .if_icmp .ne 7, 3), (21, .iconst 1, 1), (22, .goto 4, 3), (25, .iconst 0, 1), (26, .invokevirtual 66, 3), (29, .ireturn, 1), (30, .aload_n 0, 1), (31, .aload_n 1, 1), (32, .iload_n 3, 1), (33, .invokevirtual 34, 3), (36, .ireturn, 1)]
set_option maxRecDepth 100000 in
theorem kX7_readPart : dk_ok cX7_readPart iX7_readPart = true := by decide +kernel
def iX7_patternOf : dk_T := [(0, .iload_n 0, 1), (1, .tableswitch 137 99 121 #[125, 134, 137, 116, 137, 137, 137, 137, 137, 137, 137, 122, 110, 137, 113, 137, 107, 137, 137, 128, 131, 137, 119], 107), (108, .ldc 70, 2), (110, .areturn, 1), (111, .ldc 72, 2), (113, .areturn, 1), (114, .ldc 74, 2), (116, .areturn, 1), (117, .ldc 76, 2), (119, .areturn, 1), (120, .ldc 78, 2), (122, .areturn, 1), (123, .ldc 80, 2), (125, .areturn, 1), (126, .ldc 82, 2), (128, .areturn, 1), (129, .ldc 84, 2), (131, .areturn, 1), (132, .ldc 86, 2), (134, .areturn, 1), (135, .ldc 88, 2), (137, .areturn, 1), (138, .ldc 90, 2), (140, .areturn, 1)]
set_option maxRecDepth 100000 in
theorem kX7_patternOf : dk_ok cX7_patternOf iX7_patternOf = true := by decide +kernel
def iX7_readSign : dk_T := [(0, .aload_n 1, 1), (1, .aload_n 0, 1), (2, .getfield 18, 3), (5, .invokevirtual 38, 3), (8, .iload_n 2, 1), (9, .if_icmp .eq 5, 3), (12, .iconst 0, 1), (13, .ireturn, 1), (14, .aload_n 0, 1), (15, .dup, 1), (16, .getfield 18, 3), (19, .iconst 1, 1), (20, .iadd, 1), (21, .putfield 18, 3), (24, .iconst 1, 1), (25, .ireturn, 1)]
set_option maxRecDepth 100000 in
theorem kX7_readSign : dk_ok cX7_readSign iX7_readSign = true := by decide +kernel
def iX7_readValue : dk_T := [(0, .aload_n 1, 1), (1, .aload_n 0, 1), (2, .getfield 18, 3), (5, .invokevirtual 38, 3), (8, .invokestatic 92, 3), (11, .ifCond .ne 5, 3), (14, .iconst 0, 1), (15, .ireturn, 1), (16, .aload_n 1, 1), (17, .aload_n 0, 1), (18, .getfield 18, 3), (21, .invokevirtual 38, 3), (24, .bipush 48, 2), (26, .isub, 1), (27, .istore 4, 2), (29, .aload_n 0, 1), (30, .dup, 1), (31, .getfield 18, 3), (34, .iconst 1, 1), (35, .iadd, 1), (36, .putfield 18, 3), (39, .iload_n 3, 1), (40, .ifCond .eq 46, 3), (43, .aload_n 1, 1), (44, .aload_n 0, 1), (45, .getfield 18, 3), (48, .invokevirtual 38, 3), (51, .invokestatic 92, 3), (54, .ifCond .eq 32, 3), (57, .iload 4, 2), (59, .bipush 10, 2), (61, .imul, 1), (62, .aload_n 1, 1), (63, .aload_n 0, 1), (64, .getfield 18, 3), (67, .invokevirtual 38, 3), (70, .iadd, 1), (71, .bipush 48, 2), (73, .isub, 1), (74, .istore 4, 2), (76, .aload_n 0, 1), (77, .dup, 1), (78, .getfield 18, 3), (81, .iconst 1, 1), (82, .iadd, 1), (83, .putfield 18, 3), (86, .aload_n 2, 1), (87, .iload 4, 2), (89, .invokevirtual 96, 3), (92, .iconst 1, 1), (93, .ireturn, 1)]
set_option maxRecDepth 100000 in
theorem kX7_readValue : dk_ok cX7_readValue iX7_readValue = true := by decide +kernel
def iX7_isDigit : dk_T := [(0, .iload_n 0, 1), (1, .bipush 48, 2), (3, .if_icmp .lt 13, 3), (6, .iload_n 0, 1), (7, .bipush 57, 2), (9, .if_icmp .gt 7, 3), (12, .iconst 1, 1), (13, .goto 4, 3), (16, .iconst 0, 1), (17, .ireturn, 1)]
set_option maxRecDepth 100000 in
theorem kX7_isDigit : dk_ok cX7_isDigit iX7_isDigit = true := by decide +kernel
def iX8_init : dk_T := [(0, .aload_n 0, 1), (1, .invokespecial 3, 3), (4, .aload_n 0, 1), (5, .new 9, 3), (8, .dup, 1), (9, .invokespecial 11, 3), (12, .putfield 12, 3), (15, .aload_n 0, 1), (16, .new 9, 3), (19, .dup, 1), (20, .invokespecial 11, 3), (23, .putfield 16, 3), (26, .aload_n 0, 1), (27, .new 19, 3), (30, .dup, 1), (31, .invokespecial 21, 3), (34, .putfield 22, 3), (37, .aload_n 0, 1), (38, .new 26, 3), (41, .dup, 1), (42, .invokespecial 28, 3), (45, .putfield 29, 3), (48, .aload_n 0, 1), (49, .new 26, 3), (52, .dup, 1), (53, .invokespecial 28, 3), (56, .putfield 33, 3), (59, .aload_n 0, 1), (60, .new 36, 3), (63, .dup, 1), (64, .invokespecial 38, 3), (67, .putfield 39, 3), (70, .aload_n 0, 1), (71, .bipush 16, 2), (73, .newarray .int, 2), (75, .putfield 43, 3), (78, .aload_n 0, 1), (79, .iconst (-1), 1), (80, .putfield 47, 3), (83, .return_, 1)]
set_option maxRecDepth 100000 in
theorem kX8_init : dk_ok cX8_init iX8_init = true := by decide +kernel
def iX8_addStone : dk_T := [(0, .aload_n 0, 1), (1, .getfield 22, 3), (4, .aload_n 0, 1), (5, .getfield 12, 3), (8, .invokevirtual 51, 3), (11, .aload_n 0, 1), (12, .aload_n 0, 1), (13, .iload_n 1, 1), (14, .iload_n 2, 1), (15, .invokevirtual 55, 3), (18, .invokevirtual 59, 3), (21, .ireturn, 1)]
set_option maxRecDepth 100000 in
theorem kX8_addStone : dk_ok cX8_addStone iX8_addStone = true := by decide +kernel
def iX8_addOfficer : dk_T := [(0, .aload_n 0, 1), (1, .getfield 22, 3), (4, .aload_n 0, 1), (5, .getfield 12, 3), (8, .invokevirtual 51, 3), (11, .aload_n 0, 1), (12, .aload_n 0, 1), (13, .iload_n 1, 1), (14, .invokevirtual 63, 3), (17, .invokevirtual 59, 3), (20, .ireturn, 1)]
set_option maxRecDepth 100000 in
theorem kX8_addOfficer : dk_ok cX8_addOfficer iX8_addOfficer = true := by decide +kernel
def iX8_stoneCount : dk_T := [(0, .aload_n 0, 1), (1, .getfield 12, 3), (4, .getfield 66, 3), (7, .ireturn, 1)]
set_option maxRecDepth 100000 in
theorem kX8_stoneCount : dk_ok cX8_stoneCount iX8_stoneCount = true := by decide +kernel
def iX8_cellOf : dk_T := [(0, .aload_n 0, 1), (1, .getfield 12, 3), (4, .iload_n 1, 1), (5, .invokevirtual 69, 3), (8, .ifCond .ne 13, 3), (11, .new 73, 3), (14, .dup, 1), (15, .ldc 75, 2), (17, .invokespecial 77, 3), (20, .athrow, 1), (21, .aload_n 0, 1), (22, .getfield 12, 3), (25, .getfield 80, 3), (28, .iload_n 1, 1), (29, .iaload, 1), (30, .ireturn, 1)]
set_option maxRecDepth 100000 in
theorem kX8_cellOf : dk_ok cX8_cellOf iX8_cellOf = true := by decide +kernel
def iX8_weightOf : dk_T := [(0, .aload_n 0, 1), (1, .getfield 12, 3), (4, .iload_n 1, 1), (5, .invokevirtual 69, 3), (8, .ifCond .ne 13, 3), (11, .new 73, 3), (14, .dup, 1), (15, .ldc 75, 2), (17, .invokespecial 77, 3), (20, .athrow, 1), (21, .aload_n 0, 1), (22, .getfield 12, 3), (25, .getfield 83, 3), (28, .iload_n 1, 1), (29, .iaload, 1), (30, .ireturn, 1)]
set_option maxRecDepth 100000 in
theorem kX8_weightOf : dk_ok cX8_weightOf iX8_weightOf = true := by decide +kernel
def iX8_stoneIn : dk_T := [(0, .iload_n 1, 1), (1, .invokestatic 86, 3), (4, .ifCond .ne 13, 3), (7, .new 73, 3), (10, .dup, 1), (11, .ldc 89, 2), (13, .invokespecial 77, 3), (16, .athrow, 1), (17, .aload_n 0, 1), (18, .getfield 12, 3), (21, .iload_n 1, 1), (22, .invokevirtual 91, 3), (25, .istore_n 2, 1), (26, .iload_n 2, 1), (27, .iconst (-1), 1), (28, .if_icmp .ne 13, 3), (31, .new 94, 3), (34, .dup, 1), (35, .ldc 96, 2), (37, .invokespecial 98, 3), (40, .athrow, 1), (41, .iload_n 2, 1), (42, .ireturn, 1)]
set_option maxRecDepth 100000 in
theorem kX8_stoneIn : dk_ok cX8_stoneIn iX8_stoneIn = true := by decide +kernel
def iX8_officerCount : dk_T := [(0, .aload_n 0, 1), (1, .getfield 12, 3), (4, .getfield 99, 3), (7, .ireturn, 1)]
set_option maxRecDepth 100000 in
theorem kX8_officerCount : dk_ok cX8_officerCount iX8_officerCount = true := by decide +kernel
def iX8_rankOf : dk_T := [(0, .aload_n 0, 1), (1, .getfield 12, 3), (4, .iload_n 1, 1), (5, .invokevirtual 102, 3), (8, .ifCond .ne 13, 3), (11, .new 73, 3), (14, .dup, 1), (15, .ldc 105, 2), (17, .invokespecial 77, 3), (20, .athrow, 1), (21, .aload_n 0, 1), (22, .getfield 12, 3), (25, .getfield 107, 3), (28, .iload_n 1, 1), (29, .iaload, 1), (30, .ireturn, 1)]
set_option maxRecDepth 100000 in
theorem kX8_rankOf : dk_ok cX8_rankOf iX8_rankOf = true := by decide +kernel
def iX8_petitionsOf : dk_T := [(0, .aload_n 0, 1), (1, .getfield 12, 3), (4, .iload_n 1, 1), (5, .invokevirtual 102, 3), (8, .ifCond .ne 13, 3), (11, .new 73, 3), (14, .dup, 1), (15, .ldc 105, 2), (17, .invokespecial 77, 3), (20, .athrow, 1), (21, .iconst 0, 1), (22, .istore_n 2, 1), (23, .iconst 0, 1), (24, .istore_n 3, 1), (25, .iload_n 3, 1), (26, .aload_n 0, 1), (27, .getfield 12, 3), (30, .getfield 110, 3), (33, .if_icmp .ge 28, 3), (36, .aload_n 0, 1), (37, .getfield 12, 3), (40, .getfield 113, 3), (43, .iload_n 3, 1), (44, .aaload, 1), (45, .getfield 117, 3), (48, .iload_n 1, 1), (49, .if_icmp .ne 6, 3), (52, .iinc 2 1, 3), (55, .iinc 3 1, 3), (58, .goto (-33), 3), (61, .iload_n 2, 1), (62, .ireturn, 1)]
set_option maxRecDepth 100000 in
theorem kX8_petitionsOf : dk_ok cX8_petitionsOf iX8_petitionsOf = true := by decide +kernel
def iX8_file : dk_T := [(0, .aload_n 0, 1), (1, .getfield 22, 3), (4, .aload_n 0, 1), (5, .getfield 12, 3), (8, .invokevirtual 51, 3), (11, .aload_n 0, 1), (12, .aload_n 0, 1), (13, .iload_n 1, 1), (14, .iload_n 2, 1), (15, .iload_n 3, 1), (16, .iload 4, 2), (18, .invokevirtual 122, 3), (21, .invokevirtual 59, 3), (24, .ireturn, 1)]
set_option maxRecDepth 100000 in
theorem kX8_file : dk_ok cX8_file iX8_file = true := by decide +kernel
def iX8_vote : dk_T := [(0, .aload_n 0, 1), (1, .getfield 22, 3), (4, .aload_n 0, 1), (5, .getfield 12, 3), (8, .invokevirtual 51, 3), (11, .aload_n 0, 1), (12, .aload_n 0, 1), (13, .iload_n 1, 1), (14, .iload_n 2, 1), (15, .iload_n 3, 1), (16, .invokevirtual 126, 3), (19, .invokevirtual 59, 3), (22, .ireturn, 1)]
set_option maxRecDepth 100000 in
theorem kX8_vote : dk_ok cX8_vote iX8_vote = true := by decide +kernel
def iX8_cite : dk_T := [(0, .aload_n 0, 1), (1, .getfield 22, 3), (4, .aload_n 0, 1), (5, .getfield 12, 3), (8, .invokevirtual 51, 3), (11, .aload_n 0, 1), (12, .aload_n 0, 1), (13, .iload_n 1, 1), (14, .iload_n 2, 1), (15, .invokevirtual 130, 3), (18, .invokevirtual 59, 3), (21, .ireturn, 1)]
set_option maxRecDepth 100000 in
theorem kX8_cite : dk_ok cX8_cite iX8_cite = true := by decide +kernel
def iX8_veto : dk_T := [(0, .aload_n 0, 1), (1, .getfield 22, 3), (4, .aload_n 0, 1), (5, .getfield 12, 3), (8, .invokevirtual 51, 3), (11, .aload_n 0, 1), (12, .aload_n 0, 1), (13, .iload_n 1, 1), (14, .iload_n 2, 1), (15, .invokevirtual 133, 3), (18, .invokevirtual 59, 3), (21, .ireturn, 1)]
set_option maxRecDepth 100000 in
theorem kX8_veto : dk_ok cX8_veto iX8_veto = true := by decide +kernel
def iX8_withdraw : dk_T := [(0, .aload_n 0, 1), (1, .getfield 22, 3), (4, .aload_n 0, 1), (5, .getfield 12, 3), (8, .invokevirtual 51, 3), (11, .aload_n 0, 1), (12, .aload_n 0, 1), (13, .iload_n 1, 1), (14, .invokevirtual 136, 3), (17, .invokevirtual 59, 3), (20, .ireturn, 1)]
set_option maxRecDepth 100000 in
theorem kX8_withdraw : dk_ok cX8_withdraw iX8_withdraw = true := by decide +kernel
def iX8_pendingCount : dk_T := [(0, .aload_n 0, 1), (1, .getfield 12, 3), (4, .getfield 110, 3), (7, .ireturn, 1)]
set_option maxRecDepth 100000 in
theorem kX8_pendingCount : dk_ok cX8_pendingCount iX8_pendingCount = true := by decide +kernel
def iX8_petitionAt : dk_T := [(0, .iload_n 1, 1), (1, .ifCond .lt 14, 3), (4, .iload_n 1, 1), (5, .aload_n 0, 1), (6, .getfield 12, 3), (9, .getfield 110, 3), (12, .if_icmp .lt 13, 3), (15, .new 94, 3), (18, .dup, 1), (19, .ldc 139, 2), (21, .invokespecial 98, 3), (24, .athrow, 1), (25, .aload_n 0, 1), (26, .getfield 12, 3), (29, .getfield 113, 3), (32, .iload_n 1, 1), (33, .aaload, 1), (34, .getfield 141, 3), (37, .ireturn, 1)]
set_option maxRecDepth 100000 in
theorem kX8_petitionAt : dk_ok cX8_petitionAt iX8_petitionAt = true := by decide +kernel
def iX8_positionOf : dk_T := [(0, .aload_n 0, 1), (1, .iload_n 1, 1), (2, .invokevirtual 144, 3), (5, .astore_n 2, 1), (6, .iconst 0, 1), (7, .istore_n 3, 1), (8, .iconst 0, 1), (9, .istore 4, 2), (11, .iload 4, 2), (13, .aload_n 0, 1), (14, .getfield 12, 3), (17, .getfield 110, 3), (20, .if_icmp .ge 29, 3), (23, .aload_n 0, 1), (24, .getfield 12, 3), (27, .getfield 113, 3), (30, .iload 4, 2), (32, .aaload, 1), (33, .aload_n 2, 1), (34, .invokevirtual 148, 3), (37, .ifCond .eq 6, 3), (40, .iinc 3 1, 3), (43, .iinc 4 1, 3), (46, .goto (-35), 3), (49, .iload_n 3, 1), (50, .ireturn, 1)]
set_option maxRecDepth 100000 in
theorem kX8_positionOf : dk_ok cX8_positionOf iX8_positionOf = true := by decide +kernel
def iX8_stoneOf : dk_T := [(0, .aload_n 0, 1), (1, .iload_n 1, 1), (2, .invokevirtual 144, 3), (5, .getfield 152, 3), (8, .ireturn, 1)]
set_option maxRecDepth 100000 in
theorem kX8_stoneOf : dk_ok cX8_stoneOf iX8_stoneOf = true := by decide +kernel
def iX8_targetOf : dk_T := [(0, .aload_n 0, 1), (1, .iload_n 1, 1), (2, .invokevirtual 144, 3), (5, .getfield 155, 3), (8, .ireturn, 1)]
set_option maxRecDepth 100000 in
theorem kX8_targetOf : dk_ok cX8_targetOf iX8_targetOf = true := by decide +kernel
def iX8_votesFor : dk_T := [(0, .aload_n 0, 1), (1, .iload_n 1, 1), (2, .invokevirtual 144, 3), (5, .invokevirtual 158, 3), (8, .ireturn, 1)]
set_option maxRecDepth 100000 in
theorem kX8_votesFor : dk_ok cX8_votesFor iX8_votesFor = true := by decide +kernel
def iX8_votesAgainst : dk_T := [(0, .aload_n 0, 1), (1, .iload_n 1, 1), (2, .invokevirtual 144, 3), (5, .invokevirtual 162, 3), (8, .ireturn, 1)]
set_option maxRecDepth 100000 in
theorem kX8_votesAgainst : dk_ok cX8_votesAgainst iX8_votesAgainst = true := by decide +kernel
def iX8_wouldBeGranted : dk_T := [(0, .aload_n 0, 1), (1, .getfield 12, 3), (4, .aload_n 0, 1), (5, .iload_n 1, 1), (6, .invokevirtual 144, 3), (9, .invokevirtual 165, 3), (12, .ireturn, 1)]
set_option maxRecDepth 100000 in
theorem kX8_wouldBeGranted : dk_ok cX8_wouldBeGranted iX8_wouldBeGranted = true := by decide +kernel
def iX8_setQuorum : dk_T := [(0, .aload_n 0, 1), (1, .getfield 22, 3), (4, .aload_n 0, 1), (5, .getfield 12, 3), (8, .invokevirtual 51, 3), (11, .aload_n 0, 1), (12, .aload_n 0, 1), (13, .iload_n 1, 1), (14, .invokevirtual 168, 3), (17, .invokevirtual 59, 3), (20, .ireturn, 1)]
set_option maxRecDepth 100000 in
theorem kX8_setQuorum : dk_ok cX8_setQuorum iX8_setQuorum = true := by decide +kernel
def iX8_decide : dk_T := [(0, .aload_n 0, 1), (1, .getfield 22, 3), (4, .aload_n 0, 1), (5, .getfield 12, 3), (8, .invokevirtual 51, 3), (11, .aload_n 0, 1), (12, .aload_n 0, 1), (13, .invokevirtual 171, 3), (16, .invokevirtual 59, 3), (19, .ireturn, 1)]
set_option maxRecDepth 100000 in
theorem kX8_decide : dk_ok cX8_decide iX8_decide = true := by decide +kernel
def iX8_quorum : dk_T := [(0, .aload_n 0, 1), (1, .getfield 12, 3), (4, .getfield 174, 3), (7, .ireturn, 1)]
set_option maxRecDepth 100000 in
theorem kX8_quorum : dk_ok cX8_quorum iX8_quorum = true := by decide +kernel
def iX8_rulingCount : dk_T := [(0, .aload_n 0, 1), (1, .getfield 12, 3), (4, .getfield 177, 3), (7, .ireturn, 1)]
set_option maxRecDepth 100000 in
theorem kX8_rulingCount : dk_ok cX8_rulingCount iX8_rulingCount = true := by decide +kernel
def iX8_isGranted : dk_T := [(0, .aload_n 0, 1), (1, .iload_n 1, 1), (2, .invokevirtual 180, 3), (5, .getfield 184, 3), (8, .ireturn, 1)]
set_option maxRecDepth 100000 in
theorem kX8_isGranted : dk_ok cX8_isGranted iX8_isGranted = true := by decide +kernel
def iX8_isCarriedOut : dk_T := [(0, .aload_n 0, 1), (1, .iload_n 1, 1), (2, .invokevirtual 180, 3), (5, .getfield 190, 3), (8, .ireturn, 1)]
set_option maxRecDepth 100000 in
theorem kX8_isCarriedOut : dk_ok cX8_isCarriedOut iX8_isCarriedOut = true := by decide +kernel
def iX8_citationCount : dk_T := [(0, .aload_n 0, 1), (1, .iload_n 1, 1), (2, .invokevirtual 180, 3), (5, .getfield 193, 3), (8, .ireturn, 1)]
set_option maxRecDepth 100000 in
theorem kX8_citationCount : dk_ok cX8_citationCount iX8_citationCount = true := by decide +kernel
def iX8_citation : dk_T := [(0, .aload_n 0, 1), (1, .iload_n 1, 1), (2, .invokevirtual 180, 3), (5, .astore_n 3, 1), (6, .iload_n 2, 1), (7, .ifCond .lt 11, 3), (10, .iload_n 2, 1), (11, .aload_n 3, 1), (12, .getfield 193, 3), (15, .if_icmp .lt 13, 3), (18, .new 94, 3), (21, .dup, 1), (22, .ldc 139, 2), (24, .invokespecial 98, 3), (27, .athrow, 1), (28, .aload_n 3, 1), (29, .iload_n 2, 1), (30, .invokevirtual 196, 3), (33, .ireturn, 1)]
set_option maxRecDepth 100000 in
theorem kX8_citation : dk_ok cX8_citation iX8_citation = true := by decide +kernel
def iX8_citedBy : dk_T := [(0, .aload_n 0, 1), (1, .iload_n 1, 1), (2, .invokevirtual 180, 3), (5, .pop, 1), (6, .iconst 0, 1), (7, .istore_n 2, 1), (8, .iload_n 1, 1), (9, .iconst 1, 1), (10, .iadd, 1), (11, .istore_n 3, 1), (12, .iload_n 3, 1), (13, .aload_n 0, 1), (14, .getfield 12, 3), (17, .getfield 177, 3), (20, .if_icmp .ge 28, 3), (23, .aload_n 0, 1), (24, .getfield 12, 3), (27, .getfield 199, 3), (30, .iload_n 3, 1), (31, .aaload, 1), (32, .iload_n 1, 1), (33, .invokevirtual 203, 3), (36, .ifCond .eq 6, 3), (39, .iinc 2 1, 3), (42, .iinc 3 1, 3), (45, .goto (-33), 3), (48, .iload_n 2, 1), (49, .ireturn, 1)]
set_option maxRecDepth 100000 in
theorem kX8_citedBy : dk_ok cX8_citedBy iX8_citedBy = true := by decide +kernel
def iX8_depth : dk_T := [(0, .aload_n 0, 1), (1, .iload_n 1, 1), (2, .invokevirtual 180, 3), (5, .getfield 206, 3), (8, .ireturn, 1)]
set_option maxRecDepth 100000 in
theorem kX8_depth : dk_ok cX8_depth iX8_depth = true := by decide +kernel
def iX8_isBasedOn : dk_T := [(0, .aload_n 0, 1), (1, .iload_n 1, 1), (2, .invokevirtual 180, 3), (5, .pop, 1), (6, .aload_n 0, 1), (7, .iload_n 2, 1), (8, .invokevirtual 180, 3), (11, .pop, 1), (12, .aload_n 0, 1), (13, .getfield 12, 3), (16, .iload_n 1, 1), (17, .iload_n 2, 1), (18, .invokevirtual 209, 3), (21, .ireturn, 1)]
set_option maxRecDepth 100000 in
theorem kX8_isBasedOn : dk_ok cX8_isBasedOn iX8_isBasedOn = true := by decide +kernel
def iX8_influence : dk_T := [(0, .aload_n 0, 1), (1, .iload_n 1, 1), (2, .invokevirtual 180, 3), (5, .pop, 1), (6, .iconst 0, 1), (7, .istore_n 2, 1), (8, .iconst 0, 1), (9, .istore_n 3, 1), (10, .iload_n 3, 1), (11, .aload_n 0, 1), (12, .getfield 12, 3), (15, .getfield 177, 3), (18, .if_icmp .ge 24, 3), (21, .aload_n 0, 1), (22, .getfield 12, 3), (25, .iload_n 3, 1), (26, .iload_n 1, 1), (27, .invokevirtual 209, 3), (30, .ifCond .eq 6, 3), (33, .iinc 2 1, 3), (36, .iinc 3 1, 3), (39, .goto (-29), 3), (42, .iload_n 2, 1), (43, .ireturn, 1)]
set_option maxRecDepth 100000 in
theorem kX8_influence : dk_ok cX8_influence iX8_influence = true := by decide +kernel
def iX8_influenceByMarking : dk_T := [(0, .aload_n 0, 1), (1, .iload_n 1, 1), (2, .invokevirtual 180, 3), (5, .pop, 1), (6, .aload_n 0, 1), (7, .getfield 12, 3), (10, .iload_n 1, 1), (11, .invokevirtual 213, 3), (14, .ireturn, 1)]
set_option maxRecDepth 100000 in
theorem kX8_influenceByMarking : dk_ok cX8_influenceByMarking iX8_influenceByMarking = true := by decide +kernel
def iX8_rulingByInfluence : dk_T := [(0, .iload_n 1, 1), (1, .ifCond .lt 14, 3), (4, .iload_n 1, 1), (5, .aload_n 0, 1), (6, .getfield 12, 3), (9, .getfield 177, 3), (12, .if_icmp .lt 13, 3), (15, .new 94, 3), (18, .dup, 1), (19, .ldc 216, 2), (21, .invokespecial 98, 3), (24, .athrow, 1), (25, .iconst 0, 1), (26, .istore_n 2, 1), (27, .iload_n 2, 1), (28, .aload_n 0, 1), (29, .getfield 12, 3), (32, .getfield 177, 3), (35, .if_icmp .ge 23, 3), (38, .aload_n 0, 1), (39, .getfield 43, 3), (42, .iload_n 2, 1), (43, .aload_n 0, 1), (44, .getfield 12, 3), (47, .iload_n 2, 1), (48, .invokevirtual 213, 3), (51, .iastore, 1), (52, .iinc 2 1, 3), (55, .goto (-28), 3), (58, .iconst (-1), 1), (59, .istore_n 2, 1), (60, .iconst 0, 1), (61, .istore_n 3, 1), (62, .iload_n 3, 1), (63, .aload_n 0, 1), (64, .getfield 12, 3), (67, .getfield 177, 3), (70, .if_icmp .ge 20, 3), (73, .aload_n 0, 1), (74, .iload_n 3, 1), (75, .invokevirtual 218, 3), (78, .iload_n 1, 1), (79, .if_icmp .ne 5, 3), (82, .iload_n 3, 1), (83, .istore_n 2, 1), (84, .iinc 3 1, 3), (87, .goto (-25), 3), (90, .iload_n 2, 1), (91, .ireturn, 1)]
set_option maxRecDepth 100000 in
theorem kX8_rulingByInfluence : dk_ok cX8_rulingByInfluence iX8_rulingByInfluence = true := by decide +kernel
def iX8_filedCount : dk_T := [(0, .aload_n 0, 1), (1, .getfield 12, 3), (4, .getfield 221, 3), (7, .ireturn, 1)]
set_option maxRecDepth 100000 in
theorem kX8_filedCount : dk_ok cX8_filedCount iX8_filedCount = true := by decide +kernel
def iX8_vetoes : dk_T := [(0, .aload_n 0, 1), (1, .getfield 12, 3), (4, .getfield 224, 3), (7, .ireturn, 1)]
set_option maxRecDepth 100000 in
theorem kX8_vetoes : dk_ok cX8_vetoes iX8_vetoes = true := by decide +kernel
def iX8_withdrawals : dk_T := [(0, .aload_n 0, 1), (1, .getfield 12, 3), (4, .getfield 227, 3), (7, .ireturn, 1)]
set_option maxRecDepth 100000 in
theorem kX8_withdrawals : dk_ok cX8_withdrawals iX8_withdrawals = true := by decide +kernel
def iX8_movedWeight : dk_T := [(0, .aload_n 0, 1), (1, .getfield 12, 3), (4, .getfield 230, 3), (7, .ireturn, 1)]
set_option maxRecDepth 100000 in
theorem kX8_movedWeight : dk_ok cX8_movedWeight iX8_movedWeight = true := by decide +kernel
def iX8_meanVotes : dk_T := [(0, .aload_n 0, 1), (1, .getfield 12, 3), (4, .getfield 110, 3), (7, .ifCond .ne 13, 3), (10, .new 233, 3), (13, .dup, 1), (14, .ldc 235, 2), (16, .invokespecial 237, 3), (19, .athrow, 1), (20, .iconst 0, 1), (21, .istore_n 1, 1), (22, .iconst 0, 1), (23, .istore_n 2, 1), (24, .iload_n 2, 1), (25, .aload_n 0, 1), (26, .getfield 12, 3), (29, .getfield 110, 3), (32, .if_icmp .ge 24, 3), (35, .iload_n 1, 1), (36, .aload_n 0, 1), (37, .getfield 12, 3), (40, .getfield 113, 3), (43, .iload_n 2, 1), (44, .aaload, 1), (45, .invokevirtual 238, 3), (48, .iadd, 1), (49, .istore_n 1, 1), (50, .iinc 2 1, 3), (53, .goto (-29), 3), (56, .iload_n 1, 1), (57, .i2d, 1), (58, .aload_n 0, 1), (59, .getfield 12, 3), (62, .getfield 110, 3), (65, .i2d, 1), (66, .ddiv, 1), (67, .dreturn, 1)]
set_option maxRecDepth 100000 in
theorem kX8_meanVotes : dk_ok cX8_meanVotes iX8_meanVotes = true := by decide +kernel
def iX8_grantedShare : dk_T := [(0, .aload_n 0, 1), (1, .getfield 12, 3), (4, .getfield 177, 3), (7, .ifCond .ne 13, 3), (10, .new 233, 3), (13, .dup, 1), (14, .ldc 241, 2), (16, .invokespecial 237, 3), (19, .athrow, 1), (20, .iconst 0, 1), (21, .istore_n 1, 1), (22, .iconst 0, 1), (23, .istore_n 2, 1), (24, .iload_n 2, 1), (25, .aload_n 0, 1), (26, .getfield 12, 3), (29, .getfield 177, 3), (32, .if_icmp .ge 27, 3), (35, .aload_n 0, 1), (36, .getfield 12, 3), (39, .getfield 199, 3), (42, .iload_n 2, 1), (43, .aaload, 1), (44, .getfield 184, 3), (47, .ifCond .eq 6, 3), (50, .iinc 1 1, 3), (53, .iinc 2 1, 3), (56, .goto (-32), 3), (59, .iload_n 1, 1), (60, .i2f, 1), (61, .aload_n 0, 1), (62, .getfield 12, 3), (65, .getfield 177, 3), (68, .i2f, 1), (69, .fdiv, 1), (70, .freturn, 1)]
set_option maxRecDepth 100000 in
theorem kX8_grantedShare : dk_ok cX8_grantedShare iX8_grantedShare = true := by decide +kernel
def iX8_feed : dk_T := [(0, .aload_n 0, 1), (1, .getfield 29, 3), (4, .getfield 243, 3), (7, .bipush 60, 2), (9, .if_icmp .lt 13, 3), (12, .new 246, 3), (15, .dup, 1), (16, .ldc 248, 2), (18, .invokespecial 250, 3), (21, .athrow, 1), (22, .aload_n 0, 1), (23, .getfield 29, 3), (26, .iload_n 1, 1), (27, .invokevirtual 251, 3), (30, .aload_n 0, 1), (31, .getfield 29, 3), (34, .getfield 243, 3), (37, .ireturn, 1)]
set_option maxRecDepth 100000 in
theorem kX8_feed : dk_ok cX8_feed iX8_feed = true := by decide +kernel
def iX8_execute : dk_T := [(0, .aload_n 0, 1), (1, .getfield 39, 3), (4, .aload_n 0, 1), (5, .getfield 29, 3), (8, .invokevirtual 255, 3), (11, .istore_n 1, 1), (12, .aload_n 0, 1), (13, .getfield 29, 3), (16, .invokevirtual 259, 3), (19, .iload_n 1, 1), (20, .ifCond .ne 25, 3), (23, .aload_n 0, 1), (24, .aload_n 0, 1), (25, .getfield 39, 3), (28, .getfield 262, 3), (31, .putfield 47, 3), (34, .new 265, 3), (37, .dup, 1), (38, .ldc_w 267, 3), (41, .invokespecial 269, 3), (44, .athrow, 1), (45, .aload_n 0, 1), (46, .getfield 22, 3), (49, .aload_n 0, 1), (50, .getfield 12, 3), (53, .invokevirtual 51, 3), (56, .aload_n 0, 1), (57, .invokevirtual 270, 3), (60, .ifCond .ne 25, 3), (63, .aload_n 0, 1), (64, .getfield 22, 3), (67, .aload_n 0, 1), (68, .getfield 12, 3), (71, .invokevirtual 274, 3), (74, .new 277, 3), (77, .dup, 1), (78, .ldc_w 279, 3), (81, .invokespecial 281, 3), (84, .athrow, 1), (85, .aload_n 0, 1), (86, .getfield 22, 3), (89, .invokevirtual 282, 3), (92, .aload_n 0, 1), (93, .getfield 39, 3), (96, .getfield 285, 3), (99, .ireturn, 1)]
set_option maxRecDepth 100000 in
theorem kX8_execute : dk_ok cX8_execute iX8_execute = true := by decide +kernel
def iX8_faultPosition : dk_T := [(0, .aload_n 0, 1), (1, .getfield 47, 3), (4, .iconst (-1), 1), (5, .if_icmp .ne 14, 3), (8, .new 94, 3), (11, .dup, 1), (12, .ldc_w 288, 3), (15, .invokespecial 98, 3), (18, .athrow, 1), (19, .aload_n 0, 1), (20, .getfield 47, 3), (23, .ireturn, 1)]
set_option maxRecDepth 100000 in
theorem kX8_faultPosition : dk_ok cX8_faultPosition iX8_faultPosition = true := by decide +kernel
def iX8_writePetition_p0 : dk_T := [(0, .aload_n 0, 1), (1, .iload_n 1, 1), (2, .invokevirtual 144, 3), (5, .astore_n 2, 1), (6, .aload_n 0, 1), (7, .getfield 33, 3), (10, .invokevirtual 259, 3), (13, .aload_n 0, 1), (14, .getfield 33, 3), (17, .bipush 35, 2), (19, .aload_n 2, 1), (20, .getfield 141, 3), (23, .invokevirtual 290, 3), (26, .aload_n 0, 1), (27, .getfield 33, 3), (30, .bipush 58, 2), (32, .aload_n 2, 1), (33, .getfield 152, 3), (36, .invokevirtual 290, 3), (39, .aload_n 0, 1), (40, .getfield 33, 3), (43, .bipush 62, 2), (45, .aload_n 2, 1), (46, .getfield 155, 3), (49, .invokevirtual 290, 3), (52, .aload_n 0, 1), (53, .getfield 33, 3), (56, .bipush 64, 2), (58, .aload_n 2, 1), (59, .getfield 117, 3), (62, .invokevirtual 290, 3), (65, .aload_n 0, 1), (66, .getfield 33, 3), (69, .bipush 33, 2), (71, .aload_n 2, 1), (72, .getfield 294, 3), (75, .invokevirtual 290, 3), (78, .aload_n 0, 1), (79, .getfield 33, 3), (82, .bipush 43, 2), (84, .aload_n 2, 1), (85, .invokevirtual 158, 3), (88, .invokevirtual 290, 3), (91, .aload_n 0, 1), (92, .getfield 33, 3), (95, .bipush 45, 2), (97, .aload_n 2, 1), (98, .invokevirtual 162, 3), (101, .invokevirtual 290, 3), (104, .iconst 0, 1), (105, .istore_n 3, 1), (106, .iload_n 3, 1), (107, .aload_n 2, 1), (108, .getfield 297, 3), (111, .if_icmp .ge 23, 3), (114, .aload_n 0, 1), (115, .getfield 33, 3), (118, .bipush 94, 2), (120, .aload_n 2, 1), (121, .iload_n 3, 1)]
set_option maxRecDepth 100000 in
theorem kX8_writePetition_p0 : dk_ok cX8_writePetition iX8_writePetition_p0 = true := by decide +kernel
def iX8_writePetition_p1 : dk_T := [(122, .invokevirtual 298, 3), (125, .invokevirtual 290, 3), (128, .iinc 3 1, 3), (131, .goto (-25), 3), (134, .aload_n 0, 1), (135, .getfield 33, 3), (138, .getfield 243, 3), (141, .ireturn, 1)]
set_option maxRecDepth 100000 in
theorem kX8_writePetition_p1 : dk_ok cX8_writePetition iX8_writePetition_p1 = true := by decide +kernel
def iX8_writeRow : dk_T := [(0, .iload_n 1, 1), (1, .ifCond .lt 8, 3), (4, .iload_n 1, 1), (5, .iconst 5, 1), (6, .if_icmp .lt 14, 3), (9, .new 73, 3), (12, .dup, 1), (13, .ldc_w 299, 3), (16, .invokespecial 77, 3), (19, .athrow, 1), (20, .aload_n 0, 1), (21, .getfield 33, 3), (24, .invokevirtual 259, 3), (27, .iconst 5, 1), (28, .iload_n 1, 1), (29, .imul, 1), (30, .istore_n 2, 1), (31, .iload_n 2, 1), (32, .iconst 5, 1), (33, .iload_n 1, 1), (34, .imul, 1), (35, .iconst 5, 1), (36, .iadd, 1), (37, .if_icmp .ge 43, 3), (40, .aload_n 0, 1), (41, .getfield 12, 3), (44, .iload_n 2, 1), (45, .invokevirtual 91, 3), (48, .istore_n 3, 1), (49, .iload_n 3, 1), (50, .iconst (-1), 1), (51, .if_icmp .ne 15, 3), (54, .aload_n 0, 1), (55, .getfield 33, 3), (58, .bipush 46, 2), (60, .invokevirtual 251, 3), (63, .goto 11, 3), (66, .aload_n 0, 1), (67, .getfield 33, 3), (70, .iload_n 3, 1), (71, .invokevirtual 301, 3), (74, .iinc 2 1, 3), (77, .goto (-46), 3), (80, .aload_n 0, 1), (81, .getfield 33, 3), (84, .getfield 243, 3), (87, .ireturn, 1)]
set_option maxRecDepth 100000 in
theorem kX8_writeRow : dk_ok cX8_writeRow iX8_writeRow = true := by decide +kernel
def iX8_lineCharacter : dk_T := [(0, .iload_n 1, 1), (1, .ifCond .lt 14, 3), (4, .iload_n 1, 1), (5, .aload_n 0, 1), (6, .getfield 33, 3), (9, .getfield 243, 3), (12, .if_icmp .lt 14, 3), (15, .new 73, 3), (18, .dup, 1), (19, .ldc_w 305, 3), (22, .invokespecial 77, 3), (25, .athrow, 1), (26, .aload_n 0, 1), (27, .getfield 33, 3), (30, .iload_n 1, 1), (31, .invokevirtual 307, 3), (34, .ireturn, 1)]
set_option maxRecDepth 100000 in
theorem kX8_lineCharacter : dk_ok cX8_lineCharacter iX8_lineCharacter = true := by decide +kernel
def iX8_denial : dk_T := [(0, .aload_n 0, 1), (1, .invokevirtual 311, 3), (4, .aload_n 0, 1), (5, .getfield 314, 3), (8, .ireturn, 1)]
set_option maxRecDepth 100000 in
theorem kX8_denial : dk_ok cX8_denial iX8_denial = true := by decide +kernel
def iX8_denialDetail : dk_T := [(0, .aload_n 0, 1), (1, .invokevirtual 311, 3), (4, .aload_n 0, 1), (5, .getfield 317, 3), (8, .ireturn, 1)]
set_option maxRecDepth 100000 in
theorem kX8_denialDetail : dk_ok cX8_denialDetail iX8_denialDetail = true := by decide +kernel
def iX8_denialCause : dk_T := [(0, .aload_n 0, 1), (1, .invokevirtual 320, 3), (4, .aload_n 0, 1), (5, .getfield 323, 3), (8, .ireturn, 1)]
set_option maxRecDepth 100000 in
theorem kX8_denialCause : dk_ok cX8_denialCause iX8_denialCause = true := by decide +kernel
def iX8_denialCauseDetail : dk_T := [(0, .aload_n 0, 1), (1, .invokevirtual 320, 3), (4, .aload_n 0, 1), (5, .getfield 326, 3), (8, .ireturn, 1)]
set_option maxRecDepth 100000 in
theorem kX8_denialCauseDetail : dk_ok cX8_denialCauseDetail iX8_denialCauseDetail = true := by decide +kernel
def iX8_undo : dk_T := [(0, .aload_n 0, 1), (1, .getfield 22, 3), (4, .getfield 329, 3), (7, .ifCond .ne 14, 3), (10, .new 246, 3), (13, .dup, 1), (14, .ldc_w 330, 3), (17, .invokespecial 250, 3), (20, .athrow, 1), (21, .aload_n 0, 1), (22, .getfield 22, 3), (25, .aload_n 0, 1), (26, .getfield 12, 3), (29, .invokevirtual 332, 3), (32, .aload_n 0, 1), (33, .getfield 22, 3), (36, .getfield 329, 3), (39, .ireturn, 1)]
set_option maxRecDepth 100000 in
theorem kX8_undo : dk_ok cX8_undo iX8_undo = true := by decide +kernel
def iX8_undoCount : dk_T := [(0, .aload_n 0, 1), (1, .getfield 22, 3), (4, .getfield 329, 3), (7, .ireturn, 1)]
set_option maxRecDepth 100000 in
theorem kX8_undoCount : dk_ok cX8_undoCount iX8_undoCount = true := by decide +kernel
def iX8_saveSnapshot : dk_T := [(0, .aload_n 0, 1), (1, .getfield 16, 3), (4, .aload_n 0, 1), (5, .getfield 12, 3), (8, .invokevirtual 335, 3), (11, .aload_n 0, 1), (12, .iconst 1, 1), (13, .putfield 338, 3), (16, .aload_n 0, 1), (17, .getfield 12, 3), (20, .getfield 110, 3), (23, .ireturn, 1)]
set_option maxRecDepth 100000 in
theorem kX8_saveSnapshot : dk_ok cX8_saveSnapshot iX8_saveSnapshot = true := by decide +kernel
def iX8_restoreSnapshot : dk_T := [(0, .aload_n 0, 1), (1, .getfield 338, 3), (4, .ifCond .ne 14, 3), (7, .new 246, 3), (10, .dup, 1), (11, .ldc_w 341, 3), (14, .invokespecial 250, 3), (17, .athrow, 1), (18, .aload_n 0, 1), (19, .getfield 12, 3), (22, .aload_n 0, 1), (23, .getfield 16, 3), (26, .invokevirtual 335, 3), (29, .aload_n 0, 1), (30, .getfield 22, 3), (33, .invokevirtual 343, 3), (36, .aload_n 0, 1), (37, .getfield 12, 3), (40, .getfield 110, 3), (43, .ireturn, 1)]
set_option maxRecDepth 100000 in
theorem kX8_restoreSnapshot : dk_ok cX8_restoreSnapshot iX8_restoreSnapshot = true := by decide +kernel
def iX8_placeStone : dk_T := [(0, .iload_n 1, 1), (1, .invokestatic 86, 3), (4, .ifCond .ne 5, 3), (7, .iconst (-1), 1), (8, .ireturn, 1), (9, .iload_n 2, 1), (10, .iconst 1, 1), (11, .if_icmp .lt 9, 3), (14, .iload_n 2, 1), (15, .bipush 9, 2), (17, .if_icmp .le 6, 3), (20, .bipush (-2), 2), (22, .ireturn, 1), (23, .aload_n 0, 1), (24, .getfield 12, 3), (27, .iload_n 1, 1), (28, .invokevirtual 91, 3), (31, .istore_n 3, 1), (32, .iload_n 3, 1), (33, .iconst (-1), 1), (34, .if_icmp .eq 10, 3), (37, .aload_n 0, 1), (38, .iconst 2, 1), (39, .iload_n 3, 1), (40, .invokevirtual 346, 3), (43, .ireturn, 1), (44, .aload_n 0, 1), (45, .getfield 12, 3), (48, .getfield 66, 3), (51, .bipush 10, 2), (53, .if_icmp .lt 11, 3), (56, .aload_n 0, 1), (57, .iconst 1, 1), (58, .bipush 10, 2), (60, .invokevirtual 346, 3), (63, .ireturn, 1), (64, .aload_n 0, 1), (65, .getfield 12, 3), (68, .iload_n 1, 1), (69, .iload_n 2, 1), (70, .invokevirtual 349, 3), (73, .ireturn, 1)]
set_option maxRecDepth 100000 in
theorem kX8_placeStone : dk_ok cX8_placeStone iX8_placeStone = true := by decide +kernel
def iX8_enlistOfficer : dk_T := [(0, .iload_n 1, 1), (1, .iconst 1, 1), (2, .if_icmp .lt 9, 3), (5, .iload_n 1, 1), (6, .bipush 9, 2), (8, .if_icmp .le 6, 3), (11, .bipush (-2), 2), (13, .ireturn, 1), (14, .aload_n 0, 1), (15, .getfield 12, 3), (18, .getfield 99, 3), (21, .bipush 6, 2), (23, .if_icmp .lt 11, 3), (26, .aload_n 0, 1), (27, .iconst 1, 1), (28, .bipush 6, 2), (30, .invokevirtual 346, 3), (33, .ireturn, 1), (34, .aload_n 0, 1), (35, .getfield 12, 3), (38, .iload_n 1, 1), (39, .invokevirtual 352, 3), (42, .ireturn, 1)]
set_option maxRecDepth 100000 in
theorem kX8_enlistOfficer : dk_ok cX8_enlistOfficer iX8_enlistOfficer = true := by decide +kernel
def iX8_changeQuorum : dk_T := [(0, .iload_n 1, 1), (1, .iconst 1, 1), (2, .if_icmp .lt 8, 3), (5, .iload_n 1, 1), (6, .iconst 5, 1), (7, .if_icmp .le 6, 3), (10, .bipush (-2), 2), (12, .ireturn, 1), (13, .iload_n 1, 1), (14, .aload_n 0, 1), (15, .getfield 12, 3), (18, .getfield 174, 3), (21, .if_icmp .ne 11, 3), (24, .aload_n 0, 1), (25, .bipush 11, 2), (27, .iload_n 1, 1), (28, .invokevirtual 346, 3), (31, .ireturn, 1), (32, .aload_n 0, 1), (33, .getfield 12, 3), (36, .getfield 174, 3), (39, .istore_n 2, 1), (40, .aload_n 0, 1), (41, .getfield 12, 3), (44, .iload_n 1, 1), (45, .putfield 174, 3), (48, .iload_n 2, 1), (49, .ireturn, 1)]
set_option maxRecDepth 100000 in
theorem kX8_changeQuorum : dk_ok cX8_changeQuorum iX8_changeQuorum = true := by decide +kernel
def iX8_lodgePetition_p0 : dk_T := [(0, .aload_n 0, 1), (1, .getfield 12, 3), (4, .iload_n 1, 1), (5, .invokevirtual 102, 3), (8, .ifCond .eq 21, 3), (11, .aload_n 0, 1), (12, .getfield 12, 3), (15, .iload_n 2, 1), (16, .invokevirtual 69, 3), (19, .ifCond .eq 10, 3), (22, .iload_n 3, 1), (23, .invokestatic 86, 3), (26, .ifCond .ne 5, 3), (29, .iconst (-1), 1), (30, .ireturn, 1), (31, .iload 4, 2), (33, .ifCond .lt 10, 3), (36, .iload 4, 2), (38, .bipush 9, 2), (40, .if_icmp .le 6, 3), (43, .bipush (-2), 2), (45, .ireturn, 1), (46, .aload_n 0, 1), (47, .getfield 12, 3), (50, .iload_n 2, 1), (51, .invokevirtual 355, 3), (54, .astore 5, 2), (56, .aload 5, 2), (58, .ifnull 14, 3), (61, .aload_n 0, 1), (62, .iconst 3, 1), (63, .aload 5, 2), (65, .getfield 141, 3), (68, .invokevirtual 346, 3), (71, .ireturn, 1), (72, .aload_n 0, 1), (73, .getfield 12, 3), (76, .getfield 80, 3), (79, .iload_n 2, 1), (80, .iaload, 1), (81, .iload_n 3, 1), (82, .if_icmp .ne 10, 3), (85, .aload_n 0, 1), (86, .iconst 4, 1), (87, .iload_n 3, 1), (88, .invokevirtual 346, 3), (91, .ireturn, 1), (92, .aload_n 0, 1), (93, .getfield 12, 3), (96, .getfield 110, 3), (99, .bipush 8, 2), (101, .if_icmp .lt 11, 3), (104, .aload_n 0, 1), (105, .iconst 1, 1), (106, .bipush 8, 2), (108, .invokevirtual 346, 3), (111, .ireturn, 1), (112, .aload_n 0, 1), (113, .getfield 12, 3), (116, .iload_n 1, 1)]
set_option maxRecDepth 100000 in
theorem kX8_lodgePetition_p0 : dk_ok cX8_lodgePetition iX8_lodgePetition_p0 = true := by decide +kernel
def iX8_lodgePetition_p1 : dk_T := [(117, .iload_n 2, 1), (118, .iload_n 3, 1), (119, .iload 4, 2), (121, .invokevirtual 358, 3), (124, .ireturn, 1)]
set_option maxRecDepth 100000 in
theorem kX8_lodgePetition_p1 : dk_ok cX8_lodgePetition iX8_lodgePetition_p1 = true := by decide +kernel
def iX8_castVote : dk_T := [(0, .aload_n 0, 1), (1, .getfield 12, 3), (4, .iload_n 1, 1), (5, .invokevirtual 102, 3), (8, .ifCond .ne 5, 3), (11, .iconst (-1), 1), (12, .ireturn, 1), (13, .aload_n 0, 1), (14, .getfield 12, 3), (17, .iload_n 2, 1), (18, .invokevirtual 361, 3), (21, .astore 4, 2), (23, .aload 4, 2), (25, .ifnonnull 6, 3), (28, .bipush (-3), 2), (30, .ireturn, 1), (31, .aload 4, 2), (33, .getfield 117, 3), (36, .iload_n 1, 1), (37, .if_icmp .ne 11, 3), (40, .aload_n 0, 1), (41, .bipush 6, 2), (43, .iload_n 1, 1), (44, .invokevirtual 346, 3), (47, .ireturn, 1), (48, .aload 4, 2), (50, .iload_n 1, 1), (51, .invokevirtual 364, 3), (54, .ifCond .eq 10, 3), (57, .aload_n 0, 1), (58, .iconst 5, 1), (59, .iconst 1, 1), (60, .invokevirtual 346, 3), (63, .ireturn, 1), (64, .aload 4, 2), (66, .iload_n 1, 1), (67, .invokevirtual 367, 3), (70, .ifCond .eq 10, 3), (73, .aload_n 0, 1), (74, .iconst 5, 1), (75, .iconst 0, 1), (76, .invokevirtual 346, 3), (79, .ireturn, 1), (80, .aload 4, 2), (82, .iload_n 1, 1), (83, .iload_n 3, 1), (84, .invokevirtual 370, 3), (87, .aload 4, 2), (89, .invokevirtual 238, 3), (92, .ireturn, 1)]
set_option maxRecDepth 100000 in
theorem kX8_castVote : dk_ok cX8_castVote iX8_castVote = true := by decide +kernel
def iX8_citeRuling : dk_T := [(0, .aload_n 0, 1), (1, .getfield 12, 3), (4, .iload_n 1, 1), (5, .invokevirtual 361, 3), (8, .astore_n 3, 1), (9, .aload_n 3, 1), (10, .ifnull 14, 3), (13, .aload_n 0, 1), (14, .getfield 12, 3), (17, .iload_n 2, 1), (18, .invokevirtual 374, 3), (21, .ifnonnull 6, 3), (24, .bipush (-3), 2), (26, .ireturn, 1), (27, .aload_n 3, 1), (28, .iload_n 2, 1), (29, .invokevirtual 377, 3), (32, .ifCond .eq 11, 3), (35, .aload_n 0, 1), (36, .bipush 7, 2), (38, .iload_n 2, 1), (39, .invokevirtual 346, 3), (42, .ireturn, 1), (43, .aload_n 3, 1), (44, .getfield 297, 3), (47, .iconst 3, 1), (48, .if_icmp .lt 10, 3), (51, .aload_n 0, 1), (52, .iconst 1, 1), (53, .iconst 3, 1), (54, .invokevirtual 346, 3), (57, .ireturn, 1), (58, .aload_n 3, 1), (59, .iload_n 2, 1), (60, .invokevirtual 378, 3), (63, .aload_n 3, 1), (64, .getfield 297, 3), (67, .ireturn, 1)]
set_option maxRecDepth 100000 in
theorem kX8_citeRuling : dk_ok cX8_citeRuling iX8_citeRuling = true := by decide +kernel
def iX8_vetoPetition : dk_T := [(0, .aload_n 0, 1), (1, .getfield 12, 3), (4, .iload_n 1, 1), (5, .invokevirtual 102, 3), (8, .ifCond .ne 5, 3), (11, .iconst (-1), 1), (12, .ireturn, 1), (13, .aload_n 0, 1), (14, .getfield 12, 3), (17, .iload_n 2, 1), (18, .invokevirtual 361, 3), (21, .astore_n 3, 1), (22, .aload_n 3, 1), (23, .ifnonnull 6, 3), (26, .bipush (-3), 2), (28, .ireturn, 1), (29, .aload_n 0, 1), (30, .getfield 12, 3), (33, .getfield 107, 3), (36, .iload_n 1, 1), (37, .iaload, 1), (38, .aload_n 3, 1), (39, .getfield 381, 3), (42, .if_icmp .gt 14, 3), (45, .aload_n 0, 1), (46, .bipush 8, 2), (48, .aload_n 3, 1), (49, .getfield 381, 3), (52, .invokevirtual 346, 3), (55, .ireturn, 1), (56, .aload_n 0, 1), (57, .getfield 12, 3), (60, .aload_n 3, 1), (61, .invokevirtual 384, 3), (64, .aload_n 0, 1), (65, .getfield 12, 3), (68, .dup, 1), (69, .getfield 224, 3), (72, .iconst 1, 1), (73, .iadd, 1), (74, .putfield 224, 3), (77, .aload_n 0, 1), (78, .getfield 12, 3), (81, .getfield 110, 3), (84, .ireturn, 1)]
set_option maxRecDepth 100000 in
theorem kX8_vetoPetition : dk_ok cX8_vetoPetition iX8_vetoPetition = true := by decide +kernel
def iX8_withdrawPetition : dk_T := [(0, .aload_n 0, 1), (1, .getfield 12, 3), (4, .iload_n 1, 1), (5, .invokevirtual 361, 3), (8, .astore_n 2, 1), (9, .aload_n 2, 1), (10, .ifnonnull 6, 3), (13, .bipush (-3), 2), (15, .ireturn, 1), (16, .aload_n 0, 1), (17, .getfield 12, 3), (20, .aload_n 2, 1), (21, .invokevirtual 384, 3), (24, .aload_n 0, 1), (25, .getfield 12, 3), (28, .dup, 1), (29, .getfield 227, 3), (32, .iconst 1, 1), (33, .iadd, 1), (34, .putfield 227, 3), (37, .aload_n 0, 1), (38, .getfield 12, 3), (41, .getfield 110, 3), (44, .ireturn, 1)]
set_option maxRecDepth 100000 in
theorem kX8_withdrawPetition : dk_ok cX8_withdrawPetition iX8_withdrawPetition = true := by decide +kernel
def iX8_decideFirst : dk_T := [(0, .aload_n 0, 1), (1, .getfield 12, 3), (4, .getfield 110, 3), (7, .ifCond .ne 17, 3), (10, .aload_n 0, 1), (11, .bipush 9, 2), (13, .aload_n 0, 1), (14, .getfield 12, 3), (17, .getfield 177, 3), (20, .invokevirtual 346, 3), (23, .ireturn, 1), (24, .aload_n 0, 1), (25, .getfield 12, 3), (28, .getfield 113, 3), (31, .iconst 0, 1), (32, .aaload, 1), (33, .astore_n 1, 1), (34, .aload_n 1, 1), (35, .invokevirtual 238, 3), (38, .aload_n 0, 1), (39, .getfield 12, 3), (42, .getfield 174, 3), (45, .if_icmp .ge 14, 3), (48, .aload_n 0, 1), (49, .bipush 10, 2), (51, .aload_n 1, 1), (52, .invokevirtual 238, 3), (55, .invokevirtual 346, 3), (58, .ireturn, 1), (59, .aload_n 0, 1), (60, .getfield 12, 3), (63, .getfield 177, 3), (66, .bipush 16, 2), (68, .if_icmp .lt 11, 3), (71, .aload_n 0, 1), (72, .iconst 1, 1), (73, .bipush 16, 2), (75, .invokevirtual 346, 3), (78, .ireturn, 1), (79, .aload_n 0, 1), (80, .getfield 12, 3), (83, .aload_n 1, 1), (84, .invokevirtual 388, 3), (87, .ireturn, 1)]
set_option maxRecDepth 100000 in
theorem kX8_decideFirst : dk_ok cX8_decideFirst iX8_decideFirst = true := by decide +kernel
def iX8_deny : dk_T := [(0, .aload_n 0, 1), (1, .iload_n 1, 1), (2, .putfield 392, 3), (5, .aload_n 0, 1), (6, .iload_n 2, 1), (7, .putfield 395, 3), (10, .bipush (-4), 2), (12, .ireturn, 1)]
set_option maxRecDepth 100000 in
theorem kX8_deny : dk_ok cX8_deny iX8_deny = true := by decide +kernel
def iX8_conclude : dk_T := [(0, .iload_n 1, 1), (1, .iconst (-1), 1), (2, .if_icmp .ne 14, 3), (5, .new 73, 3), (8, .dup, 1), (9, .ldc_w 398, 3), (12, .invokespecial 77, 3), (15, .athrow, 1), (16, .iload_n 1, 1), (17, .bipush (-2), 2), (19, .if_icmp .ne 14, 3), (22, .new 265, 3), (25, .dup, 1), (26, .ldc_w 400, 3), (29, .invokespecial 269, 3), (32, .athrow, 1), (33, .iload_n 1, 1), (34, .bipush (-3), 2), (36, .if_icmp .ne 14, 3), (39, .new 94, 3), (42, .dup, 1), (43, .ldc_w 402, 3), (46, .invokespecial 98, 3), (49, .athrow, 1), (50, .iload_n 1, 1), (51, .bipush (-4), 2), (53, .if_icmp .ne 28, 3), (56, .aload_n 0, 1), (57, .aload_n 0, 1), (58, .getfield 392, 3), (61, .aload_n 0, 1), (62, .getfield 395, 3), (65, .iconst 0, 1), (66, .iconst 0, 1), (67, .invokevirtual 404, 3), (70, .new 277, 3), (73, .dup, 1), (74, .ldc_w 408, 3), (77, .invokespecial 281, 3), (80, .athrow, 1), (81, .aload_n 0, 1), (82, .getfield 22, 3), (85, .invokevirtual 282, 3), (88, .iload_n 1, 1), (89, .ireturn, 1)]
set_option maxRecDepth 100000 in
theorem kX8_conclude : dk_ok cX8_conclude iX8_conclude = true := by decide +kernel
def iX8_runCommands : dk_T := [(0, .iconst 0, 1), (1, .istore_n 1, 1), (2, .iload_n 1, 1), (3, .aload_n 0, 1), (4, .getfield 39, 3), (7, .getfield 285, 3), (10, .if_icmp .ge 62, 3), (13, .aload_n 0, 1), (14, .aload_n 0, 1), (15, .getfield 39, 3), (18, .getfield 410, 3), (21, .iload_n 1, 1), (22, .aaload, 1), (23, .invokevirtual 414, 3), (26, .istore_n 2, 1), (27, .iload_n 2, 1), (28, .bipush (-4), 2), (30, .if_icmp .ne 20, 3), (33, .aload_n 0, 1), (34, .bipush 12, 2), (36, .iload_n 1, 1), (37, .aload_n 0, 1), (38, .getfield 392, 3), (41, .aload_n 0, 1), (42, .getfield 395, 3), (45, .invokevirtual 404, 3), (48, .iconst 0, 1), (49, .ireturn, 1), (50, .iload_n 2, 1), (51, .ifCond .ge 15, 3), (54, .aload_n 0, 1), (55, .bipush 12, 2), (57, .iload_n 1, 1), (58, .bipush 13, 2), (60, .iconst 0, 1), (61, .invokevirtual 404, 3), (64, .iconst 0, 1), (65, .ireturn, 1), (66, .iinc 1 1, 3), (69, .goto (-67), 3), (72, .iconst 1, 1), (73, .ireturn, 1)]
set_option maxRecDepth 100000 in
theorem kX8_runCommands : dk_ok cX8_runCommands iX8_runCommands = true := by decide +kernel
def iX8_attempt_p0 : dk_T := [(0, .aload_n 1, 1), (1, .getfield 418, 3), (4, .tableswitch 223 99 121 #[188, 223, 223, 139, 223, 223, 223, 223, 223, 223, 223, 174, 121, 223, 130, 223, 108, 223, 223, 201, 214, 223, 160], 108), (112, .aload_n 0, 1), (113, .aload_n 1, 1), (114, .getfield 424, 3), (117, .aload_n 1, 1), (118, .getfield 427, 3), (121, .invokevirtual 55, 3), (124, .ireturn, 1), (125, .aload_n 0, 1), (126, .aload_n 1, 1), (127, .getfield 424, 3), (130, .invokevirtual 63, 3), (133, .ireturn, 1), (134, .aload_n 0, 1), (135, .aload_n 1, 1), (136, .getfield 424, 3), (139, .invokevirtual 168, 3), (142, .ireturn, 1), (143, .aload_n 0, 1), (144, .aload_n 1, 1), (145, .getfield 424, 3), (148, .aload_n 1, 1), (149, .getfield 427, 3), (152, .aload_n 1, 1), (153, .getfield 430, 3), (156, .aload_n 1, 1), (157, .getfield 433, 3), (160, .invokevirtual 122, 3), (163, .ireturn, 1), (164, .aload_n 0, 1), (165, .aload_n 1, 1), (166, .getfield 424, 3), (169, .aload_n 1, 1), (170, .getfield 427, 3), (173, .iconst 1, 1), (174, .invokevirtual 126, 3), (177, .ireturn, 1), (178, .aload_n 0, 1), (179, .aload_n 1, 1), (180, .getfield 424, 3), (183, .aload_n 1, 1), (184, .getfield 427, 3), (187, .iconst 0, 1), (188, .invokevirtual 126, 3), (191, .ireturn, 1), (192, .aload_n 0, 1), (193, .aload_n 1, 1), (194, .getfield 424, 3), (197, .aload_n 1, 1), (198, .getfield 427, 3), (201, .invokevirtual 130, 3), (204, .ireturn, 1), (205, .aload_n 0, 1), (206, .aload_n 1, 1), (207, .getfield 424, 3), (210, .aload_n 1, 1), (211, .getfield 427, 3), (214, .invokevirtual 133, 3)]
set_option maxRecDepth 100000 in
theorem kX8_attempt_p0 : dk_ok cX8_attempt iX8_attempt_p0 = true := by decide +kernel
def iX8_attempt_p1 : dk_T := [(217, .ireturn, 1), (218, .aload_n 0, 1), (219, .aload_n 1, 1), (220, .getfield 424, 3), (223, .invokevirtual 136, 3), (226, .ireturn, 1), (227, .aload_n 0, 1), (228, .invokevirtual 171, 3), (231, .ireturn, 1)]
set_option maxRecDepth 100000 in
theorem kX8_attempt_p1 : dk_ok cX8_attempt iX8_attempt_p1 = true := by decide +kernel
def iX8_keepDenial : dk_T := [(0, .aload_n 0, 1), (1, .iload_n 1, 1), (2, .putfield 314, 3), (5, .aload_n 0, 1), (6, .iload_n 2, 1), (7, .putfield 317, 3), (10, .aload_n 0, 1), (11, .iload_n 3, 1), (12, .putfield 323, 3), (15, .aload_n 0, 1), (16, .iload 4, 2), (18, .putfield 326, 3), (21, .return_, 1)]
set_option maxRecDepth 100000 in
theorem kX8_keepDenial : dk_ok cX8_keepDenial iX8_keepDenial = true := by decide +kernel
def iX8_isCell : dk_T := [(0, .iload_n 0, 1), (1, .ifCond .lt 13, 3), (4, .iload_n 0, 1), (5, .bipush 25, 2), (7, .if_icmp .ge 7, 3), (10, .iconst 1, 1), (11, .goto 4, 3), (14, .iconst 0, 1), (15, .ireturn, 1)]
set_option maxRecDepth 100000 in
theorem kX8_isCell : dk_ok cX8_isCell iX8_isCell = true := by decide +kernel
def iX8_requirePetition : dk_T := [(0, .aload_n 0, 1), (1, .getfield 12, 3), (4, .iload_n 1, 1), (5, .invokevirtual 361, 3), (8, .astore_n 2, 1), (9, .aload_n 2, 1), (10, .ifnonnull 14, 3), (13, .new 94, 3), (16, .dup, 1), (17, .ldc_w 436, 3), (20, .invokespecial 98, 3), (23, .athrow, 1), (24, .aload_n 2, 1), (25, .areturn, 1)]
set_option maxRecDepth 100000 in
theorem kX8_requirePetition : dk_ok cX8_requirePetition iX8_requirePetition = true := by decide +kernel
def iX8_requireRuling : dk_T := [(0, .aload_n 0, 1), (1, .getfield 12, 3), (4, .iload_n 1, 1), (5, .invokevirtual 374, 3), (8, .astore_n 2, 1), (9, .aload_n 2, 1), (10, .ifnonnull 14, 3), (13, .new 73, 3), (16, .dup, 1), (17, .ldc_w 438, 3), (20, .invokespecial 77, 3), (23, .athrow, 1), (24, .aload_n 2, 1), (25, .areturn, 1)]
set_option maxRecDepth 100000 in
theorem kX8_requireRuling : dk_ok cX8_requireRuling iX8_requireRuling = true := by decide +kernel
def iX8_requireDenial : dk_T := [(0, .aload_n 0, 1), (1, .getfield 314, 3), (4, .ifCond .ne 14, 3), (7, .new 94, 3), (10, .dup, 1), (11, .ldc_w 440, 3), (14, .invokespecial 98, 3), (17, .athrow, 1), (18, .return_, 1)]
set_option maxRecDepth 100000 in
theorem kX8_requireDenial : dk_ok cX8_requireDenial iX8_requireDenial = true := by decide +kernel
def iX8_requireCause : dk_T := [(0, .aload_n 0, 1), (1, .getfield 323, 3), (4, .ifCond .ne 14, 3), (7, .new 94, 3), (10, .dup, 1), (11, .ldc_w 442, 3), (14, .invokespecial 98, 3), (17, .athrow, 1), (18, .return_, 1)]
set_option maxRecDepth 100000 in
theorem kX8_requireCause : dk_ok cX8_requireCause iX8_requireCause = true := by decide +kernel
def iX8_rankByInfluence : dk_T := [(0, .iconst 0, 1), (1, .istore_n 2, 1), (2, .iconst 0, 1), (3, .istore_n 3, 1), (4, .iload_n 3, 1), (5, .aload_n 0, 1), (6, .getfield 12, 3), (9, .getfield 177, 3), (12, .if_icmp .ge 71, 3), (15, .aload_n 0, 1), (16, .getfield 43, 3), (19, .iload_n 3, 1), (20, .iaload, 1), (21, .aload_n 0, 1), (22, .getfield 43, 3), (25, .iload_n 1, 1), (26, .iaload, 1), (27, .if_icmp .le 7, 3), (30, .iconst 1, 1), (31, .goto 4, 3), (34, .iconst 0, 1), (35, .istore 4, 2), (37, .aload_n 0, 1), (38, .getfield 43, 3), (41, .iload_n 3, 1), (42, .iaload, 1), (43, .aload_n 0, 1), (44, .getfield 43, 3), (47, .iload_n 1, 1), (48, .iaload, 1), (49, .if_icmp .ne 12, 3), (52, .iload_n 3, 1), (53, .iload_n 1, 1), (54, .if_icmp .ge 7, 3), (57, .iconst 1, 1), (58, .goto 4, 3), (61, .iconst 0, 1), (62, .istore 5, 2), (64, .iload 4, 2), (66, .ifCond .ne 8, 3), (69, .iload 5, 2), (71, .ifCond .eq 6, 3), (74, .iinc 2 1, 3), (77, .iinc 3 1, 3), (80, .goto (-76), 3), (83, .iload_n 2, 1), (84, .ireturn, 1)]
set_option maxRecDepth 100000 in
theorem kX8_rankByInfluence : dk_ok cX8_rankByInfluence iX8_rankByInfluence = true := by decide +kernel
def iX9_init : dk_T := [(0, .aload_n 0, 1), (1, .invokespecial 1, 3), (4, .aload_n 0, 1), (5, .sipush 219, 3), (8, .newarray .int, 2), (10, .putfield 7, 3), (13, .aload_n 0, 1), (14, .sipush 1752, 3), (17, .newarray .int, 2), (19, .putfield 13, 3), (22, .aload_n 0, 1), (23, .sipush 219, 3), (26, .newarray .int, 2), (28, .putfield 16, 3), (31, .aload_n 0, 1), (32, .sipush 219, 3), (35, .newarray .int, 2), (37, .putfield 19, 3), (40, .aload_n 0, 1), (41, .bipush 60, 2), (43, .newarray .int, 2), (45, .putfield 22, 3), (48, .aload_n 0, 1), (49, .iconst (-1), 1), (50, .putfield 25, 3), (53, .aload_n 0, 1), (54, .bipush 60, 2), (56, .newarray .char, 2), (58, .putfield 29, 3), (61, .aload_n 0, 1), (62, .bipush 16, 2), (64, .newarray .int, 2), (66, .putfield 33, 3), (69, .aload_n 0, 1), (70, .sipush 155, 3), (73, .newarray .int, 2), (75, .putfield 36, 3), (78, .aload_n 0, 1), (79, .getfield 7, 3), (82, .iconst 2, 1), (83, .iconst 2, 1), (84, .iastore, 1), (85, .return_, 1)]
set_option maxRecDepth 100000 in
theorem kX9_init : dk_ok cX9_init iX9_init = true := by decide +kernel
def iX9_thrown : dk_T := [(0, .aload_n 0, 1), (1, .getfield 39, 3), (4, .ireturn, 1)]
set_option maxRecDepth 100000 in
theorem kX9_thrown : dk_ok cX9_thrown iX9_thrown = true := by decide +kernel
def iX9_fails : dk_T := [(0, .aload_n 0, 1), (1, .iload_n 1, 1), (2, .putfield 39, 3), (5, .aload_n 0, 1), (6, .iconst 0, 1), (7, .putfield 42, 3), (10, .iload_n 1, 1), (11, .ifCond .le 7, 3), (14, .iconst 1, 1), (15, .goto 4, 3), (18, .iconst 0, 1), (19, .ireturn, 1)]
set_option maxRecDepth 100000 in
theorem kX9_fails : dk_ok cX9_fails iX9_fails = true := by decide +kernel
def iX9_denies : dk_T := [(0, .aload_n 0, 1), (1, .iload_n 1, 1), (2, .putfield 39, 3), (5, .aload_n 0, 1), (6, .iconst 1, 1), (7, .putfield 42, 3), (10, .aload_n 0, 1), (11, .iload_n 2, 1), (12, .putfield 46, 3), (15, .aload_n 0, 1), (16, .iload_n 3, 1), (17, .putfield 49, 3), (20, .aload_n 0, 1), (21, .iconst 0, 1), (22, .putfield 52, 3), (25, .aload_n 0, 1), (26, .iconst 0, 1), (27, .putfield 55, 3), (30, .iconst 0, 1), (31, .ireturn, 1)]
set_option maxRecDepth 100000 in
theorem kX9_denies : dk_ok cX9_denies iX9_denies = true := by decide +kernel
def iX9_in : dk_T := [(0, .iload_n 0, 1), (1, .iload_n 1, 1), (2, .if_icmp .lt 12, 3), (5, .iload_n 0, 1), (6, .iload_n 2, 1), (7, .if_icmp .gt 7, 3), (10, .iconst 1, 1), (11, .goto 4, 3), (14, .iconst 0, 1), (15, .ireturn, 1)]
set_option maxRecDepth 100000 in
theorem kX9_in : dk_ok cX9_in iX9_in = true := by decide +kernel
def iX9_copies : dk_T := [(0, .iconst 0, 1), (1, .istore 4, 2), (3, .iload 4, 2), (5, .sipush 219, 3), (8, .if_icmp .ge 21, 3), (11, .aload_n 2, 1), (12, .iload_n 3, 1), (13, .iload 4, 2), (15, .iadd, 1), (16, .aload_n 0, 1), (17, .iload_n 1, 1), (18, .iload 4, 2), (20, .iadd, 1), (21, .iaload, 1), (22, .iastore, 1), (23, .iinc 4 1, 3), (26, .goto (-23), 3), (29, .return_, 1)]
set_option maxRecDepth 100000 in
theorem kX9_copies : dk_ok cX9_copies iX9_copies = true := by decide +kernel
def iX9_keeps : dk_T := [(0, .aload_n 0, 1), (1, .iconst 0, 1), (2, .putfield 39, 3), (5, .aload_n 0, 1), (6, .getfield 58, 3), (9, .ifCond .eq 4, 3), (12, .return_, 1), (13, .aload_n 0, 1), (14, .getfield 61, 3), (17, .bipush 8, 2), (19, .if_icmp .ne 44, 3), (22, .iconst 0, 1), (23, .istore_n 2, 1), (24, .iload_n 2, 1), (25, .sipush 1533, 3), (28, .if_icmp .ge 25, 3), (31, .aload_n 0, 1), (32, .getfield 13, 3), (35, .iload_n 2, 1), (36, .aload_n 0, 1), (37, .getfield 13, 3), (40, .iload_n 2, 1), (41, .sipush 219, 3), (44, .iadd, 1), (45, .iaload, 1), (46, .iastore, 1), (47, .iinc 2 1, 3), (50, .goto (-26), 3), (53, .aload_n 0, 1), (54, .dup, 1), (55, .getfield 61, 3), (58, .iconst 1, 1), (59, .isub, 1), (60, .putfield 61, 3), (63, .aload_n 1, 1), (64, .iconst 0, 1), (65, .aload_n 0, 1), (66, .getfield 13, 3), (69, .sipush 219, 3), (72, .aload_n 0, 1), (73, .getfield 61, 3), (76, .imul, 1), (77, .invokestatic 64, 3), (80, .aload_n 0, 1), (81, .dup, 1), (82, .getfield 61, 3), (85, .iconst 1, 1), (86, .iadd, 1), (87, .putfield 61, 3), (90, .return_, 1)]
set_option maxRecDepth 100000 in
theorem kX9_keeps : dk_ok cX9_keeps iX9_keeps = true := by decide +kernel
def iX9_isCell : dk_T := [(0, .iload_n 0, 1), (1, .iconst 0, 1), (2, .bipush 24, 2), (4, .invokestatic 68, 3), (7, .ireturn, 1)]
set_option maxRecDepth 100000 in
theorem kX9_isCell : dk_ok cX9_isCell iX9_isCell = true := by decide +kernel
def iX9_isStone : dk_T := [(0, .iload_n 1, 1), (1, .iconst 0, 1), (2, .aload_n 0, 1), (3, .getfield 7, 3), (6, .iconst 0, 1), (7, .iaload, 1), (8, .iconst 1, 1), (9, .isub, 1), (10, .invokestatic 68, 3), (13, .ireturn, 1)]
set_option maxRecDepth 100000 in
theorem kX9_isStone : dk_ok cX9_isStone iX9_isStone = true := by decide +kernel
def iX9_isOfficer : dk_T := [(0, .iload_n 1, 1), (1, .iconst 0, 1), (2, .aload_n 0, 1), (3, .getfield 7, 3), (6, .iconst 1, 1), (7, .iaload, 1), (8, .iconst 1, 1), (9, .isub, 1), (10, .invokestatic 68, 3), (13, .ireturn, 1)]
set_option maxRecDepth 100000 in
theorem kX9_isOfficer : dk_ok cX9_isOfficer iX9_isOfficer = true := by decide +kernel
def iX9_cell : dk_T := [(0, .aload_n 0, 1), (1, .getfield 7, 3), (4, .bipush 9, 2), (6, .iconst 2, 1), (7, .iload_n 1, 1), (8, .imul, 1), (9, .iadd, 1), (10, .iaload, 1), (11, .ireturn, 1)]
set_option maxRecDepth 100000 in
theorem kX9_cell : dk_ok cX9_cell iX9_cell = true := by decide +kernel
def iX9_heavy : dk_T := [(0, .aload_n 0, 1), (1, .getfield 7, 3), (4, .bipush 9, 2), (6, .iconst 2, 1), (7, .iload_n 1, 1), (8, .imul, 1), (9, .iadd, 1), (10, .iconst 1, 1), (11, .iadd, 1), (12, .iaload, 1), (13, .ireturn, 1)]
set_option maxRecDepth 100000 in
theorem kX9_heavy : dk_ok cX9_heavy iX9_heavy = true := by decide +kernel
def iX9_rank : dk_T := [(0, .aload_n 0, 1), (1, .getfield 7, 3), (4, .bipush 29, 2), (6, .iload_n 1, 1), (7, .iadd, 1), (8, .iaload, 1), (9, .ireturn, 1)]
set_option maxRecDepth 100000 in
theorem kX9_rank : dk_ok cX9_rank iX9_rank = true := by decide +kernel
def iX9_within : dk_T := [(0, .iconst 0, 1), (1, .istore_n 2, 1), (2, .iload_n 2, 1), (3, .aload_n 0, 1), (4, .getfield 7, 3), (7, .iconst 0, 1), (8, .iaload, 1), (9, .if_icmp .ge 20, 3), (12, .aload_n 0, 1), (13, .iload_n 2, 1), (14, .invokevirtual 72, 3), (17, .iload_n 1, 1), (18, .if_icmp .ne 5, 3), (21, .iload_n 2, 1), (22, .ireturn, 1), (23, .iinc 2 1, 3), (26, .goto (-24), 3), (29, .iconst (-1), 1), (30, .ireturn, 1)]
set_option maxRecDepth 100000 in
theorem kX9_within : dk_ok cX9_within iX9_within = true := by decide +kernel
def iX9_addStone_p0 : dk_T := [(0, .aload_n 0, 1), (1, .iload_n 1, 1), (2, .invokestatic 76, 3), (5, .ifCond .ne 7, 3), (8, .iconst 1, 1), (9, .goto 18, 3), (12, .iload_n 2, 1), (13, .iconst 1, 1), (14, .bipush 9, 2), (16, .invokestatic 68, 3), (19, .ifCond .eq 7, 3), (22, .iconst 0, 1), (23, .goto 4, 3), (26, .iconst 2, 1), (27, .invokevirtual 80, 3), (30, .ifCond .eq 5, 3), (33, .iconst 0, 1), (34, .ireturn, 1), (35, .aload_n 0, 1), (36, .iload_n 1, 1), (37, .invokevirtual 83, 3), (40, .ifCond .lt 15, 3), (43, .aload_n 0, 1), (44, .iconst 3, 1), (45, .iconst 2, 1), (46, .aload_n 0, 1), (47, .iload_n 1, 1), (48, .invokevirtual 83, 3), (51, .invokevirtual 86, 3), (54, .ireturn, 1), (55, .aload_n 0, 1), (56, .getfield 7, 3), (59, .iconst 0, 1), (60, .iaload, 1), (61, .bipush 10, 2), (63, .if_icmp .ne 12, 3), (66, .aload_n 0, 1), (67, .iconst 3, 1), (68, .iconst 1, 1), (69, .bipush 10, 2), (71, .invokevirtual 86, 3), (74, .ireturn, 1), (75, .aload_n 0, 1), (76, .aload_n 0, 1), (77, .getfield 7, 3), (80, .invokevirtual 90, 3), (83, .aload_n 0, 1), (84, .getfield 7, 3), (87, .iconst 0, 1), (88, .iaload, 1), (89, .istore_n 3, 1), (90, .aload_n 0, 1), (91, .getfield 7, 3), (94, .iconst 0, 1), (95, .dup2, 1), (96, .iaload, 1), (97, .iconst 1, 1), (98, .iadd, 1), (99, .iastore, 1), (100, .aload_n 0, 1)]
set_option maxRecDepth 100000 in
theorem kX9_addStone_p0 : dk_ok cX9_addStone iX9_addStone_p0 = true := by decide +kernel
def iX9_addStone_p1 : dk_T := [(101, .getfield 7, 3), (104, .bipush 9, 2), (106, .iconst 2, 1), (107, .iload_n 3, 1), (108, .imul, 1), (109, .iadd, 1), (110, .iload_n 1, 1), (111, .iastore, 1), (112, .aload_n 0, 1), (113, .getfield 7, 3), (116, .bipush 9, 2), (118, .iconst 2, 1), (119, .iload_n 3, 1), (120, .imul, 1), (121, .iadd, 1), (122, .iconst 1, 1), (123, .iadd, 1), (124, .iload_n 2, 1), (125, .iastore, 1), (126, .iload_n 3, 1), (127, .ireturn, 1)]
set_option maxRecDepth 100000 in
theorem kX9_addStone_p1 : dk_ok cX9_addStone iX9_addStone_p1 = true := by decide +kernel
def iX9_addOfficer : dk_T := [(0, .aload_n 0, 1), (1, .iload_n 1, 1), (2, .iconst 1, 1), (3, .bipush 9, 2), (5, .invokestatic 68, 3), (8, .ifCond .eq 7, 3), (11, .iconst 0, 1), (12, .goto 4, 3), (15, .iconst 1, 1), (16, .invokevirtual 80, 3), (19, .ifCond .eq 5, 3), (22, .iconst 0, 1), (23, .ireturn, 1), (24, .aload_n 0, 1), (25, .getfield 7, 3), (28, .iconst 1, 1), (29, .iaload, 1), (30, .bipush 6, 2), (32, .if_icmp .ne 12, 3), (35, .aload_n 0, 1), (36, .iconst 2, 1), (37, .iconst 1, 1), (38, .bipush 6, 2), (40, .invokevirtual 86, 3), (43, .ireturn, 1), (44, .aload_n 0, 1), (45, .aload_n 0, 1), (46, .getfield 7, 3), (49, .invokevirtual 90, 3), (52, .aload_n 0, 1), (53, .getfield 7, 3), (56, .bipush 29, 2), (58, .aload_n 0, 1), (59, .getfield 7, 3), (62, .iconst 1, 1), (63, .iaload, 1), (64, .iadd, 1), (65, .iload_n 1, 1), (66, .iastore, 1), (67, .aload_n 0, 1), (68, .getfield 7, 3), (71, .iconst 1, 1), (72, .dup2, 1), (73, .iaload, 1), (74, .iconst 1, 1), (75, .iadd, 1), (76, .iastore, 1), (77, .aload_n 0, 1), (78, .getfield 7, 3), (81, .iconst 1, 1), (82, .iaload, 1), (83, .iconst 1, 1), (84, .isub, 1), (85, .ireturn, 1)]
set_option maxRecDepth 100000 in
theorem kX9_addOfficer : dk_ok cX9_addOfficer iX9_addOfficer = true := by decide +kernel
def iX9_stoneCount : dk_T := [(0, .aload_n 0, 1), (1, .iconst 0, 1), (2, .putfield 39, 3), (5, .aload_n 0, 1), (6, .getfield 7, 3), (9, .iconst 0, 1), (10, .iaload, 1), (11, .ireturn, 1)]
set_option maxRecDepth 100000 in
theorem kX9_stoneCount : dk_ok cX9_stoneCount iX9_stoneCount = true := by decide +kernel
def iX9_cellOf : dk_T := [(0, .aload_n 0, 1), (1, .aload_n 0, 1), (2, .iload_n 1, 1), (3, .invokevirtual 94, 3), (6, .ifCond .eq 7, 3), (9, .iconst 0, 1), (10, .goto 4, 3), (13, .iconst 1, 1), (14, .invokevirtual 80, 3), (17, .ifCond .eq 7, 3), (20, .iconst 0, 1), (21, .goto 8, 3), (24, .aload_n 0, 1), (25, .iload_n 1, 1), (26, .invokevirtual 72, 3), (29, .ireturn, 1)]
set_option maxRecDepth 100000 in
theorem kX9_cellOf : dk_ok cX9_cellOf iX9_cellOf = true := by decide +kernel
def iX9_weightOf : dk_T := [(0, .aload_n 0, 1), (1, .aload_n 0, 1), (2, .iload_n 1, 1), (3, .invokevirtual 94, 3), (6, .ifCond .eq 7, 3), (9, .iconst 0, 1), (10, .goto 4, 3), (13, .iconst 1, 1), (14, .invokevirtual 80, 3), (17, .ifCond .eq 7, 3), (20, .iconst 0, 1), (21, .goto 8, 3), (24, .aload_n 0, 1), (25, .iload_n 1, 1), (26, .invokevirtual 97, 3), (29, .ireturn, 1)]
set_option maxRecDepth 100000 in
theorem kX9_weightOf : dk_ok cX9_weightOf iX9_weightOf = true := by decide +kernel
def iX9_stoneIn : dk_T := [(0, .aload_n 0, 1), (1, .iload_n 1, 1), (2, .invokestatic 76, 3), (5, .ifCond .ne 7, 3), (8, .iconst 1, 1), (9, .goto 16, 3), (12, .aload_n 0, 1), (13, .iload_n 1, 1), (14, .invokevirtual 83, 3), (17, .ifCond .ge 7, 3), (20, .iconst 2, 1), (21, .goto 4, 3), (24, .iconst 0, 1), (25, .invokevirtual 80, 3), (28, .ifCond .eq 7, 3), (31, .iconst 0, 1), (32, .goto 8, 3), (35, .aload_n 0, 1), (36, .iload_n 1, 1), (37, .invokevirtual 83, 3), (40, .ireturn, 1)]
set_option maxRecDepth 100000 in
theorem kX9_stoneIn : dk_ok cX9_stoneIn iX9_stoneIn = true := by decide +kernel
def iX9_officerCount : dk_T := [(0, .aload_n 0, 1), (1, .iconst 0, 1), (2, .putfield 39, 3), (5, .aload_n 0, 1), (6, .getfield 7, 3), (9, .iconst 1, 1), (10, .iaload, 1), (11, .ireturn, 1)]
set_option maxRecDepth 100000 in
theorem kX9_officerCount : dk_ok cX9_officerCount iX9_officerCount = true := by decide +kernel
def iX9_rankOf : dk_T := [(0, .aload_n 0, 1), (1, .aload_n 0, 1), (2, .iload_n 1, 1), (3, .invokevirtual 100, 3), (6, .ifCond .eq 7, 3), (9, .iconst 0, 1), (10, .goto 4, 3), (13, .iconst 1, 1), (14, .invokevirtual 80, 3), (17, .ifCond .eq 7, 3), (20, .iconst 0, 1), (21, .goto 8, 3), (24, .aload_n 0, 1), (25, .iload_n 1, 1), (26, .invokevirtual 103, 3), (29, .ireturn, 1)]
set_option maxRecDepth 100000 in
theorem kX9_rankOf : dk_ok cX9_rankOf iX9_rankOf = true := by decide +kernel
def iX9_petitionsOf : dk_T := [(0, .aload_n 0, 1), (1, .aload_n 0, 1), (2, .iload_n 1, 1), (3, .invokevirtual 100, 3), (6, .ifCond .eq 7, 3), (9, .iconst 0, 1), (10, .goto 4, 3), (13, .iconst 1, 1), (14, .invokevirtual 80, 3), (17, .ifCond .eq 5, 3), (20, .iconst 0, 1), (21, .ireturn, 1), (22, .iconst 0, 1), (23, .istore_n 2, 1), (24, .iconst 0, 1), (25, .istore_n 3, 1), (26, .iload_n 3, 1), (27, .aload_n 0, 1), (28, .getfield 7, 3), (31, .iconst 3, 1), (32, .iaload, 1), (33, .if_icmp .ge 27, 3), (36, .iload_n 2, 1), (37, .aload_n 0, 1), (38, .iload_n 3, 1), (39, .iconst 1, 1), (40, .invokevirtual 106, 3), (43, .iload_n 1, 1), (44, .if_icmp .ne 7, 3), (47, .iconst 1, 1), (48, .goto 4, 3), (51, .iconst 0, 1), (52, .iadd, 1), (53, .istore_n 2, 1), (54, .iinc 3 1, 3), (57, .goto (-31), 3), (60, .iload_n 2, 1), (61, .ireturn, 1)]
set_option maxRecDepth 100000 in
theorem kX9_petitionsOf : dk_ok cX9_petitionsOf iX9_petitionsOf = true := by decide +kernel
def iX9_of : dk_T := [(0, .aload_n 0, 1), (1, .getfield 7, 3), (4, .bipush 35, 2), (6, .bipush 11, 2), (8, .iload_n 1, 1), (9, .imul, 1), (10, .iadd, 1), (11, .iload_n 2, 1), (12, .iadd, 1), (13, .iaload, 1), (14, .ireturn, 1)]
set_option maxRecDepth 100000 in
theorem kX9_of : dk_ok cX9_of iX9_of = true := by decide +kernel
def iX9_lays : dk_T := [(0, .aload_n 0, 1), (1, .getfield 7, 3), (4, .bipush 35, 2), (6, .bipush 11, 2), (8, .iload_n 1, 1), (9, .imul, 1), (10, .iadd, 1), (11, .iload_n 2, 1), (12, .iadd, 1), (13, .iload_n 3, 1), (14, .iastore, 1), (15, .return_, 1)]
set_option maxRecDepth 100000 in
theorem kX9_lays : dk_ok cX9_lays iX9_lays = true := by decide +kernel
def iX9_placeOf : dk_T := [(0, .iconst 0, 1), (1, .istore_n 2, 1), (2, .iload_n 2, 1), (3, .aload_n 0, 1), (4, .getfield 7, 3), (7, .iconst 3, 1), (8, .iaload, 1), (9, .if_icmp .ge 21, 3), (12, .aload_n 0, 1), (13, .iload_n 2, 1), (14, .iconst 0, 1), (15, .invokevirtual 106, 3), (18, .iload_n 1, 1), (19, .if_icmp .ne 5, 3), (22, .iload_n 2, 1), (23, .ireturn, 1), (24, .iinc 2 1, 3), (27, .goto (-25), 3), (30, .iconst (-1), 1), (31, .ireturn, 1)]
set_option maxRecDepth 100000 in
theorem kX9_placeOf : dk_ok cX9_placeOf iX9_placeOf = true := by decide +kernel
def iX9_isNone : dk_T := [(0, .aload_n 0, 1), (1, .aload_n 0, 1), (2, .iload_n 1, 1), (3, .invokevirtual 110, 3), (6, .ifCond .ge 7, 3), (9, .iconst 1, 1), (10, .goto 4, 3), (13, .iconst 0, 1), (14, .invokevirtual 80, 3), (17, .ireturn, 1)]
set_option maxRecDepth 100000 in
theorem kX9_isNone : dk_ok cX9_isNone iX9_isNone = true := by decide +kernel
def iX9_about : dk_T := [(0, .iconst 0, 1), (1, .istore_n 2, 1), (2, .iload_n 2, 1), (3, .aload_n 0, 1), (4, .getfield 7, 3), (7, .iconst 3, 1), (8, .iaload, 1), (9, .if_icmp .ge 21, 3), (12, .aload_n 0, 1), (13, .iload_n 2, 1), (14, .iconst 2, 1), (15, .invokevirtual 106, 3), (18, .iload_n 1, 1), (19, .if_icmp .ne 5, 3), (22, .iload_n 2, 1), (23, .ireturn, 1), (24, .iinc 2 1, 3), (27, .goto (-25), 3), (30, .iconst (-1), 1), (31, .ireturn, 1)]
set_option maxRecDepth 100000 in
theorem kX9_about : dk_ok cX9_about iX9_about = true := by decide +kernel
def iX9_file_p0 : dk_T := [(0, .aload_n 0, 1), (1, .aload_n 0, 1), (2, .iload_n 1, 1), (3, .invokevirtual 100, 3), (6, .ifCond .eq 18, 3), (9, .aload_n 0, 1), (10, .iload_n 2, 1), (11, .invokevirtual 94, 3), (14, .ifCond .eq 10, 3), (17, .iload_n 3, 1), (18, .invokestatic 76, 3), (21, .ifCond .ne 7, 3), (24, .iconst 1, 1), (25, .goto 19, 3), (28, .iload 4, 2), (30, .iconst 0, 1), (31, .bipush 9, 2), (33, .invokestatic 68, 3), (36, .ifCond .eq 7, 3), (39, .iconst 0, 1), (40, .goto 4, 3), (43, .iconst 2, 1), (44, .invokevirtual 80, 3), (47, .ifCond .eq 5, 3), (50, .iconst 0, 1), (51, .ireturn, 1), (52, .aload_n 0, 1), (53, .iload_n 2, 1), (54, .invokevirtual 113, 3), (57, .ifCond .lt 20, 3), (60, .aload_n 0, 1), (61, .iconst 3, 1), (62, .iconst 3, 1), (63, .aload_n 0, 1), (64, .aload_n 0, 1), (65, .iload_n 2, 1), (66, .invokevirtual 113, 3), (69, .iconst 0, 1), (70, .invokevirtual 106, 3), (73, .invokevirtual 86, 3), (76, .ireturn, 1), (77, .aload_n 0, 1), (78, .iload_n 2, 1), (79, .invokevirtual 72, 3), (82, .iload_n 3, 1), (83, .if_icmp .ne 11, 3), (86, .aload_n 0, 1), (87, .iconst 3, 1), (88, .iconst 4, 1), (89, .iload_n 3, 1), (90, .invokevirtual 86, 3), (93, .ireturn, 1), (94, .aload_n 0, 1), (95, .getfield 7, 3), (98, .iconst 3, 1), (99, .iaload, 1), (100, .bipush 8, 2), (102, .if_icmp .ne 12, 3), (105, .aload_n 0, 1), (106, .iconst 3, 1)]
set_option maxRecDepth 100000 in
theorem kX9_file_p0 : dk_ok cX9_file iX9_file_p0 = true := by decide +kernel
def iX9_file_p1 : dk_T := [(107, .iconst 1, 1), (108, .bipush 8, 2), (110, .invokevirtual 86, 3), (113, .ireturn, 1), (114, .aload_n 0, 1), (115, .aload_n 0, 1), (116, .getfield 7, 3), (119, .invokevirtual 90, 3), (122, .aload_n 0, 1), (123, .getfield 7, 3), (126, .iconst 3, 1), (127, .iaload, 1), (128, .istore 5, 2), (130, .aload_n 0, 1), (131, .getfield 7, 3), (134, .iconst 3, 1), (135, .dup2, 1), (136, .iaload, 1), (137, .iconst 1, 1), (138, .iadd, 1), (139, .iastore, 1), (140, .iconst 0, 1), (141, .istore 6, 2), (143, .iload 6, 2), (145, .bipush 11, 2), (147, .if_icmp .ge 18, 3), (150, .aload_n 0, 1), (151, .iload 5, 2), (153, .iload 6, 2), (155, .iconst 0, 1), (156, .invokevirtual 116, 3), (159, .iinc 6 1, 3), (162, .goto (-19), 3), (165, .aload_n 0, 1), (166, .iload 5, 2), (168, .iconst 0, 1), (169, .aload_n 0, 1), (170, .getfield 7, 3), (173, .iconst 4, 1), (174, .iaload, 1), (175, .invokevirtual 116, 3), (178, .aload_n 0, 1), (179, .iload 5, 2), (181, .iconst 1, 1), (182, .iload_n 1, 1), (183, .invokevirtual 116, 3), (186, .aload_n 0, 1), (187, .iload 5, 2), (189, .iconst 2, 1), (190, .iload_n 2, 1), (191, .invokevirtual 116, 3), (194, .aload_n 0, 1), (195, .iload 5, 2), (197, .iconst 3, 1), (198, .iload_n 3, 1), (199, .invokevirtual 116, 3), (202, .aload_n 0, 1), (203, .iload 5, 2), (205, .iconst 4, 1), (206, .iload 4, 2)]
set_option maxRecDepth 100000 in
theorem kX9_file_p1 : dk_ok cX9_file iX9_file_p1 = true := by decide +kernel
def iX9_file_p2 : dk_T := [(208, .invokevirtual 116, 3), (211, .aload_n 0, 1), (212, .getfield 7, 3), (215, .iconst 4, 1), (216, .dup2, 1), (217, .iaload, 1), (218, .iconst 1, 1), (219, .iadd, 1), (220, .iastore, 1), (221, .aload_n 0, 1), (222, .getfield 7, 3), (225, .iconst 4, 1), (226, .iaload, 1), (227, .iconst 1, 1), (228, .isub, 1), (229, .ireturn, 1)]
set_option maxRecDepth 100000 in
theorem kX9_file_p2 : dk_ok cX9_file iX9_file_p2 = true := by decide +kernel
def iX9_bits : dk_T := [(0, .iconst 0, 1), (1, .istore_n 1, 1), (2, .iconst 0, 1), (3, .istore_n 2, 1), (4, .iload_n 2, 1), (5, .bipush 6, 2), (7, .if_icmp .ge 17, 3), (10, .iload_n 1, 1), (11, .iload_n 0, 1), (12, .iload_n 2, 1), (13, .ishr, 1), (14, .iconst 1, 1), (15, .iand, 1), (16, .iadd, 1), (17, .istore_n 1, 1), (18, .iinc 2 1, 3), (21, .goto (-17), 3), (24, .iload_n 1, 1), (25, .ireturn, 1)]
set_option maxRecDepth 100000 in
theorem kX9_bits : dk_ok cX9_bits iX9_bits = true := by decide +kernel
def iX9_votes : dk_T := [(0, .aload_n 0, 1), (1, .iload_n 1, 1), (2, .iconst 5, 1), (3, .invokevirtual 106, 3), (6, .invokestatic 120, 3), (9, .aload_n 0, 1), (10, .iload_n 1, 1), (11, .bipush 6, 2), (13, .invokevirtual 106, 3), (16, .invokestatic 120, 3), (19, .iadd, 1), (20, .ireturn, 1)]
set_option maxRecDepth 100000 in
theorem kX9_votes : dk_ok cX9_votes iX9_votes = true := by decide +kernel
def iX9_vote_p0 : dk_T := [(0, .aload_n 0, 1), (1, .iload_n 2, 1), (2, .invokevirtual 110, 3), (5, .istore 4, 2), (7, .aload_n 0, 1), (8, .aload_n 0, 1), (9, .iload_n 1, 1), (10, .invokevirtual 100, 3), (13, .ifCond .ne 7, 3), (16, .iconst 1, 1), (17, .goto 13, 3), (20, .iload 4, 2), (22, .ifCond .ge 7, 3), (25, .iconst 2, 1), (26, .goto 4, 3), (29, .iconst 0, 1), (30, .invokevirtual 80, 3), (33, .ifCond .eq 5, 3), (36, .iconst 0, 1), (37, .ireturn, 1), (38, .aload_n 0, 1), (39, .iload 4, 2), (41, .iconst 1, 1), (42, .invokevirtual 106, 3), (45, .iload_n 1, 1), (46, .if_icmp .ne 12, 3), (49, .aload_n 0, 1), (50, .iconst 3, 1), (51, .bipush 6, 2), (53, .iload_n 1, 1), (54, .invokevirtual 86, 3), (57, .ireturn, 1), (58, .aload_n 0, 1), (59, .iload 4, 2), (61, .iconst 5, 1), (62, .invokevirtual 106, 3), (65, .iload_n 1, 1), (66, .ishr, 1), (67, .iconst 1, 1), (68, .iand, 1), (69, .iconst 1, 1), (70, .if_icmp .ne 11, 3), (73, .aload_n 0, 1), (74, .iconst 3, 1), (75, .iconst 5, 1), (76, .iconst 1, 1), (77, .invokevirtual 86, 3), (80, .ireturn, 1), (81, .aload_n 0, 1), (82, .iload 4, 2), (84, .bipush 6, 2), (86, .invokevirtual 106, 3), (89, .iload_n 1, 1), (90, .ishr, 1), (91, .iconst 1, 1), (92, .iand, 1), (93, .iconst 1, 1), (94, .if_icmp .ne 11, 3), (97, .aload_n 0, 1), (98, .iconst 3, 1)]
set_option maxRecDepth 100000 in
theorem kX9_vote_p0 : dk_ok cX9_vote iX9_vote_p0 = true := by decide +kernel
def iX9_vote_p1 : dk_T := [(99, .iconst 5, 1), (100, .iconst 0, 1), (101, .invokevirtual 86, 3), (104, .ireturn, 1), (105, .aload_n 0, 1), (106, .aload_n 0, 1), (107, .getfield 7, 3), (110, .invokevirtual 90, 3), (113, .iload_n 3, 1), (114, .ifCond .eq 7, 3), (117, .iconst 5, 1), (118, .goto 5, 3), (121, .bipush 6, 2), (123, .istore 5, 2), (125, .aload_n 0, 1), (126, .iload 4, 2), (128, .iload 5, 2), (130, .aload_n 0, 1), (131, .iload 4, 2), (133, .iload 5, 2), (135, .invokevirtual 106, 3), (138, .iconst 1, 1), (139, .iload_n 1, 1), (140, .ishl, 1), (141, .ior, 1), (142, .invokevirtual 116, 3), (145, .aload_n 0, 1), (146, .iload 4, 2), (148, .invokevirtual 123, 3), (151, .ireturn, 1)]
set_option maxRecDepth 100000 in
theorem kX9_vote_p1 : dk_ok cX9_vote iX9_vote_p1 = true := by decide +kernel
def iX9_isRuling : dk_T := [(0, .iload_n 1, 1), (1, .iconst 0, 1), (2, .aload_n 0, 1), (3, .getfield 7, 3), (6, .iconst 5, 1), (7, .iaload, 1), (8, .iconst 1, 1), (9, .isub, 1), (10, .invokestatic 68, 3), (13, .ireturn, 1)]
set_option maxRecDepth 100000 in
theorem kX9_isRuling : dk_ok cX9_isRuling iX9_isRuling = true := by decide +kernel
def iX9_cite_p0 : dk_T := [(0, .aload_n 0, 1), (1, .iload_n 1, 1), (2, .invokevirtual 110, 3), (5, .istore_n 3, 1), (6, .aload_n 0, 1), (7, .iload_n 3, 1), (8, .ifCond .lt 11, 3), (11, .aload_n 0, 1), (12, .iload_n 2, 1), (13, .invokevirtual 126, 3), (16, .ifCond .ne 7, 3), (19, .iconst 1, 1), (20, .goto 4, 3), (23, .iconst 0, 1), (24, .invokevirtual 80, 3), (27, .ifCond .eq 5, 3), (30, .iconst 0, 1), (31, .ireturn, 1), (32, .aload_n 0, 1), (33, .iload_n 3, 1), (34, .bipush 7, 2), (36, .invokevirtual 106, 3), (39, .istore 4, 2), (41, .iconst 0, 1), (42, .istore 5, 2), (44, .iload 5, 2), (46, .iload 4, 2), (48, .if_icmp .ge 32, 3), (51, .aload_n 0, 1), (52, .iload_n 3, 1), (53, .bipush 8, 2), (55, .iload 5, 2), (57, .iadd, 1), (58, .invokevirtual 106, 3), (61, .iload_n 2, 1), (62, .if_icmp .ne 12, 3), (65, .aload_n 0, 1), (66, .iconst 2, 1), (67, .bipush 7, 2), (69, .iload_n 2, 1), (70, .invokevirtual 86, 3), (73, .ireturn, 1), (74, .iinc 5 1, 3), (77, .goto (-33), 3), (80, .iload 4, 2), (82, .iconst 3, 1), (83, .if_icmp .ne 11, 3), (86, .aload_n 0, 1), (87, .iconst 2, 1), (88, .iconst 1, 1), (89, .iconst 3, 1), (90, .invokevirtual 86, 3), (93, .ireturn, 1), (94, .aload_n 0, 1), (95, .aload_n 0, 1), (96, .getfield 7, 3), (99, .invokevirtual 90, 3), (102, .aload_n 0, 1), (103, .iload_n 3, 1), (104, .bipush 8, 2)]
set_option maxRecDepth 100000 in
theorem kX9_cite_p0 : dk_ok cX9_cite iX9_cite_p0 = true := by decide +kernel
def iX9_cite_p1 : dk_T := [(106, .iload 4, 2), (108, .iadd, 1), (109, .iload_n 2, 1), (110, .invokevirtual 116, 3), (113, .aload_n 0, 1), (114, .iload_n 3, 1), (115, .bipush 7, 2), (117, .iload 4, 2), (119, .iconst 1, 1), (120, .iadd, 1), (121, .invokevirtual 116, 3), (124, .iload 4, 2), (126, .iconst 1, 1), (127, .iadd, 1), (128, .ireturn, 1)]
set_option maxRecDepth 100000 in
theorem kX9_cite_p1 : dk_ok cX9_cite iX9_cite_p1 = true := by decide +kernel
def iX9_drops : dk_T := [(0, .aload_n 0, 1), (1, .getfield 7, 3), (4, .iconst 3, 1), (5, .dup2, 1), (6, .iaload, 1), (7, .iconst 1, 1), (8, .isub, 1), (9, .iastore, 1), (10, .bipush 35, 2), (12, .bipush 11, 2), (14, .iload_n 1, 1), (15, .imul, 1), (16, .iadd, 1), (17, .istore_n 2, 1), (18, .iload_n 2, 1), (19, .bipush 35, 2), (21, .bipush 11, 2), (23, .aload_n 0, 1), (24, .getfield 7, 3), (27, .iconst 3, 1), (28, .iaload, 1), (29, .imul, 1), (30, .iadd, 1), (31, .if_icmp .ge 24, 3), (34, .aload_n 0, 1), (35, .getfield 7, 3), (38, .iload_n 2, 1), (39, .aload_n 0, 1), (40, .getfield 7, 3), (43, .iload_n 2, 1), (44, .bipush 11, 2), (46, .iadd, 1), (47, .iaload, 1), (48, .iastore, 1), (49, .iinc 2 1, 3), (52, .goto (-34), 3), (55, .iconst 0, 1), (56, .istore_n 2, 1), (57, .iload_n 2, 1), (58, .bipush 11, 2), (60, .if_icmp .ge 21, 3), (63, .aload_n 0, 1), (64, .aload_n 0, 1), (65, .getfield 7, 3), (68, .iconst 3, 1), (69, .iaload, 1), (70, .iload_n 2, 1), (71, .iconst 0, 1), (72, .invokevirtual 116, 3), (75, .iinc 2 1, 3), (78, .goto (-21), 3), (81, .return_, 1)]
set_option maxRecDepth 100000 in
theorem kX9_drops : dk_ok cX9_drops iX9_drops = true := by decide +kernel
def iX9_veto : dk_T := [(0, .aload_n 0, 1), (1, .iload_n 2, 1), (2, .invokevirtual 110, 3), (5, .istore_n 3, 1), (6, .aload_n 0, 1), (7, .aload_n 0, 1), (8, .iload_n 1, 1), (9, .invokevirtual 100, 3), (12, .ifCond .ne 7, 3), (15, .iconst 1, 1), (16, .goto 12, 3), (19, .iload_n 3, 1), (20, .ifCond .ge 7, 3), (23, .iconst 2, 1), (24, .goto 4, 3), (27, .iconst 0, 1), (28, .invokevirtual 80, 3), (31, .ifCond .eq 5, 3), (34, .iconst 0, 1), (35, .ireturn, 1), (36, .aload_n 0, 1), (37, .aload_n 0, 1), (38, .iload_n 3, 1), (39, .iconst 1, 1), (40, .invokevirtual 106, 3), (43, .invokevirtual 103, 3), (46, .istore 4, 2), (48, .aload_n 0, 1), (49, .iload_n 1, 1), (50, .invokevirtual 103, 3), (53, .iload 4, 2), (55, .if_icmp .gt 13, 3), (58, .aload_n 0, 1), (59, .iconst 3, 1), (60, .bipush 8, 2), (62, .iload 4, 2), (64, .invokevirtual 86, 3), (67, .ireturn, 1), (68, .aload_n 0, 1), (69, .aload_n 0, 1), (70, .getfield 7, 3), (73, .invokevirtual 90, 3), (76, .aload_n 0, 1), (77, .iload_n 3, 1), (78, .invokevirtual 129, 3), (81, .aload_n 0, 1), (82, .getfield 7, 3), (85, .bipush 6, 2), (87, .dup2, 1), (88, .iaload, 1), (89, .iconst 1, 1), (90, .iadd, 1), (91, .iastore, 1), (92, .aload_n 0, 1), (93, .getfield 7, 3), (96, .iconst 3, 1), (97, .iaload, 1), (98, .ireturn, 1)]
set_option maxRecDepth 100000 in
theorem kX9_veto : dk_ok cX9_veto iX9_veto = true := by decide +kernel
def iX9_withdraw : dk_T := [(0, .aload_n 0, 1), (1, .iload_n 1, 1), (2, .invokevirtual 133, 3), (5, .ifCond .eq 5, 3), (8, .iconst 0, 1), (9, .ireturn, 1), (10, .aload_n 0, 1), (11, .aload_n 0, 1), (12, .getfield 7, 3), (15, .invokevirtual 90, 3), (18, .aload_n 0, 1), (19, .aload_n 0, 1), (20, .iload_n 1, 1), (21, .invokevirtual 110, 3), (24, .invokevirtual 129, 3), (27, .aload_n 0, 1), (28, .getfield 7, 3), (31, .bipush 7, 2), (33, .dup2, 1), (34, .iaload, 1), (35, .iconst 1, 1), (36, .iadd, 1), (37, .iastore, 1), (38, .aload_n 0, 1), (39, .getfield 7, 3), (42, .iconst 3, 1), (43, .iaload, 1), (44, .ireturn, 1)]
set_option maxRecDepth 100000 in
theorem kX9_withdraw : dk_ok cX9_withdraw iX9_withdraw = true := by decide +kernel
def iX9_pendingCount : dk_T := [(0, .aload_n 0, 1), (1, .iconst 0, 1), (2, .putfield 39, 3), (5, .aload_n 0, 1), (6, .getfield 7, 3), (9, .iconst 3, 1), (10, .iaload, 1), (11, .ireturn, 1)]
set_option maxRecDepth 100000 in
theorem kX9_pendingCount : dk_ok cX9_pendingCount iX9_pendingCount = true := by decide +kernel
def iX9_isAhead : dk_T := [(0, .aload_n 0, 1), (1, .aload_n 0, 1), (2, .iload_n 1, 1), (3, .iconst 1, 1), (4, .invokevirtual 106, 3), (7, .invokevirtual 103, 3), (10, .aload_n 0, 1), (11, .aload_n 0, 1), (12, .iload_n 2, 1), (13, .iconst 1, 1), (14, .invokevirtual 106, 3), (17, .invokevirtual 103, 3), (20, .isub, 1), (21, .istore_n 3, 1), (22, .iload_n 3, 1), (23, .ifCond .eq 13, 3), (26, .iload_n 3, 1), (27, .ifCond .le 7, 3), (30, .iconst 1, 1), (31, .goto 4, 3), (34, .iconst 0, 1), (35, .ireturn, 1), (36, .aload_n 0, 1), (37, .iload_n 1, 1), (38, .iconst 4, 1), (39, .invokevirtual 106, 3), (42, .aload_n 0, 1), (43, .iload_n 2, 1), (44, .iconst 4, 1), (45, .invokevirtual 106, 3), (48, .isub, 1), (49, .istore 4, 2), (51, .iload 4, 2), (53, .ifCond .gt 23, 3), (56, .iload 4, 2), (58, .ifCond .ne 22, 3), (61, .aload_n 0, 1), (62, .iload_n 1, 1), (63, .iconst 0, 1), (64, .invokevirtual 106, 3), (67, .aload_n 0, 1), (68, .iload_n 2, 1), (69, .iconst 0, 1), (70, .invokevirtual 106, 3), (73, .if_icmp .ge 7, 3), (76, .iconst 1, 1), (77, .goto 4, 3), (80, .iconst 0, 1), (81, .ireturn, 1)]
set_option maxRecDepth 100000 in
theorem kX9_isAhead : dk_ok cX9_isAhead iX9_isAhead = true := by decide +kernel
def iX9_ahead : dk_T := [(0, .iconst 0, 1), (1, .istore_n 2, 1), (2, .iconst 0, 1), (3, .istore_n 3, 1), (4, .iload_n 3, 1), (5, .aload_n 0, 1), (6, .getfield 7, 3), (9, .iconst 3, 1), (10, .iaload, 1), (11, .if_icmp .ge 26, 3), (14, .iload_n 2, 1), (15, .aload_n 0, 1), (16, .iload_n 3, 1), (17, .iload_n 1, 1), (18, .invokevirtual 136, 3), (21, .ifCond .eq 7, 3), (24, .iconst 1, 1), (25, .goto 4, 3), (28, .iconst 0, 1), (29, .iadd, 1), (30, .istore_n 2, 1), (31, .iinc 3 1, 3), (34, .goto (-30), 3), (37, .iload_n 2, 1), (38, .ireturn, 1)]
set_option maxRecDepth 100000 in
theorem kX9_ahead : dk_ok cX9_ahead iX9_ahead = true := by decide +kernel
def iX9_queued : dk_T := [(0, .iconst 0, 1), (1, .istore_n 2, 1), (2, .iload_n 2, 1), (3, .aload_n 0, 1), (4, .getfield 7, 3), (7, .iconst 3, 1), (8, .iaload, 1), (9, .if_icmp .ge 20, 3), (12, .aload_n 0, 1), (13, .iload_n 2, 1), (14, .invokevirtual 140, 3), (17, .iload_n 1, 1), (18, .if_icmp .ne 5, 3), (21, .iload_n 2, 1), (22, .ireturn, 1), (23, .iinc 2 1, 3), (26, .goto (-24), 3), (29, .iconst (-1), 1), (30, .ireturn, 1)]
set_option maxRecDepth 100000 in
theorem kX9_queued : dk_ok cX9_queued iX9_queued = true := by decide +kernel
def iX9_petitionAt : dk_T := [(0, .aload_n 0, 1), (1, .aload_n 0, 1), (2, .iload_n 1, 1), (3, .invokevirtual 143, 3), (6, .ifCond .ge 7, 3), (9, .iconst 1, 1), (10, .goto 4, 3), (13, .iconst 0, 1), (14, .invokevirtual 80, 3), (17, .ifCond .eq 7, 3), (20, .iconst 0, 1), (21, .goto 13, 3), (24, .aload_n 0, 1), (25, .aload_n 0, 1), (26, .iload_n 1, 1), (27, .invokevirtual 143, 3), (30, .iconst 0, 1), (31, .invokevirtual 106, 3), (34, .ireturn, 1)]
set_option maxRecDepth 100000 in
theorem kX9_petitionAt : dk_ok cX9_petitionAt iX9_petitionAt = true := by decide +kernel
def iX9_positionOf : dk_T := [(0, .aload_n 0, 1), (1, .iload_n 1, 1), (2, .invokevirtual 133, 3), (5, .ifCond .eq 7, 3), (8, .iconst 0, 1), (9, .goto 12, 3), (12, .aload_n 0, 1), (13, .aload_n 0, 1), (14, .iload_n 1, 1), (15, .invokevirtual 110, 3), (18, .invokevirtual 140, 3), (21, .ireturn, 1)]
set_option maxRecDepth 100000 in
theorem kX9_positionOf : dk_ok cX9_positionOf iX9_positionOf = true := by decide +kernel
def iX9_stoneOf : dk_T := [(0, .aload_n 0, 1), (1, .iload_n 1, 1), (2, .invokevirtual 133, 3), (5, .ifCond .eq 7, 3), (8, .iconst 0, 1), (9, .goto 13, 3), (12, .aload_n 0, 1), (13, .aload_n 0, 1), (14, .iload_n 1, 1), (15, .invokevirtual 110, 3), (18, .iconst 2, 1), (19, .invokevirtual 106, 3), (22, .ireturn, 1)]
set_option maxRecDepth 100000 in
theorem kX9_stoneOf : dk_ok cX9_stoneOf iX9_stoneOf = true := by decide +kernel
def iX9_targetOf : dk_T := [(0, .aload_n 0, 1), (1, .iload_n 1, 1), (2, .invokevirtual 133, 3), (5, .ifCond .eq 7, 3), (8, .iconst 0, 1), (9, .goto 13, 3), (12, .aload_n 0, 1), (13, .aload_n 0, 1), (14, .iload_n 1, 1), (15, .invokevirtual 110, 3), (18, .iconst 3, 1), (19, .invokevirtual 106, 3), (22, .ireturn, 1)]
set_option maxRecDepth 100000 in
theorem kX9_targetOf : dk_ok cX9_targetOf iX9_targetOf = true := by decide +kernel
def iX9_votesFor : dk_T := [(0, .aload_n 0, 1), (1, .iload_n 1, 1), (2, .invokevirtual 133, 3), (5, .ifCond .eq 7, 3), (8, .iconst 0, 1), (9, .goto 16, 3), (12, .aload_n 0, 1), (13, .aload_n 0, 1), (14, .iload_n 1, 1), (15, .invokevirtual 110, 3), (18, .iconst 5, 1), (19, .invokevirtual 106, 3), (22, .invokestatic 120, 3), (25, .ireturn, 1)]
set_option maxRecDepth 100000 in
theorem kX9_votesFor : dk_ok cX9_votesFor iX9_votesFor = true := by decide +kernel
def iX9_votesAgainst : dk_T := [(0, .aload_n 0, 1), (1, .iload_n 1, 1), (2, .invokevirtual 133, 3), (5, .ifCond .eq 7, 3), (8, .iconst 0, 1), (9, .goto 17, 3), (12, .aload_n 0, 1), (13, .aload_n 0, 1), (14, .iload_n 1, 1), (15, .invokevirtual 110, 3), (18, .bipush 6, 2), (20, .invokevirtual 106, 3), (23, .invokestatic 120, 3), (26, .ireturn, 1)]
set_option maxRecDepth 100000 in
theorem kX9_votesAgainst : dk_ok cX9_votesAgainst iX9_votesAgainst = true := by decide +kernel
def iX9_wins : dk_T := [(0, .aload_n 0, 1), (1, .iload_n 1, 1), (2, .iconst 5, 1), (3, .invokevirtual 106, 3), (6, .invokestatic 120, 3), (9, .aload_n 0, 1), (10, .iload_n 1, 1), (11, .bipush 6, 2), (13, .invokevirtual 106, 3), (16, .invokestatic 120, 3), (19, .isub, 1), (20, .istore_n 2, 1), (21, .iconst 0, 1), (22, .istore_n 3, 1), (23, .iload_n 3, 1), (24, .aload_n 0, 1), (25, .iload_n 1, 1), (26, .bipush 7, 2), (28, .invokevirtual 106, 3), (31, .if_icmp .ge 35, 3), (34, .iload_n 2, 1), (35, .aload_n 0, 1), (36, .aload_n 0, 1), (37, .iload_n 1, 1), (38, .bipush 8, 2), (40, .iload_n 3, 1), (41, .iadd, 1), (42, .invokevirtual 106, 3), (45, .iconst 0, 1), (46, .invokevirtual 146, 3), (49, .iconst 1, 1), (50, .if_icmp .ne 7, 3), (53, .iconst 1, 1), (54, .goto 4, 3), (57, .iconst (-1), 1), (58, .iadd, 1), (59, .istore_n 2, 1), (60, .iinc 3 1, 3), (63, .goto (-40), 3), (66, .iload_n 2, 1), (67, .ifCond .le 7, 3), (70, .iconst 1, 1), (71, .goto 4, 3), (74, .iconst 0, 1), (75, .ireturn, 1)]
set_option maxRecDepth 100000 in
theorem kX9_wins : dk_ok cX9_wins iX9_wins = true := by decide +kernel
def iX9_wouldBeGranted : dk_T := [(0, .aload_n 0, 1), (1, .iload_n 1, 1), (2, .invokevirtual 133, 3), (5, .ifCond .ne 19, 3), (8, .aload_n 0, 1), (9, .aload_n 0, 1), (10, .iload_n 1, 1), (11, .invokevirtual 110, 3), (14, .invokevirtual 149, 3), (17, .ifCond .eq 7, 3), (20, .iconst 1, 1), (21, .goto 4, 3), (24, .iconst 0, 1), (25, .ireturn, 1)]
set_option maxRecDepth 100000 in
theorem kX9_wouldBeGranted : dk_ok cX9_wouldBeGranted iX9_wouldBeGranted = true := by decide +kernel
def iX9_by : dk_T := [(0, .aload_n 0, 1), (1, .getfield 7, 3), (4, .bipush 123, 2), (6, .bipush 6, 2), (8, .iload_n 1, 1), (9, .imul, 1), (10, .iadd, 1), (11, .iload_n 2, 1), (12, .iadd, 1), (13, .iaload, 1), (14, .ireturn, 1)]
set_option maxRecDepth 100000 in
theorem kX9_by : dk_ok cX9_by iX9_by = true := by decide +kernel
def iX9_setQuorum : dk_T := [(0, .aload_n 0, 1), (1, .iload_n 1, 1), (2, .iconst 1, 1), (3, .iconst 5, 1), (4, .invokestatic 68, 3), (7, .ifCond .eq 7, 3), (10, .iconst 0, 1), (11, .goto 4, 3), (14, .iconst 1, 1), (15, .invokevirtual 80, 3), (18, .ifCond .eq 5, 3), (21, .iconst 0, 1), (22, .ireturn, 1), (23, .aload_n 0, 1), (24, .getfield 7, 3), (27, .iconst 2, 1), (28, .iaload, 1), (29, .istore_n 2, 1), (30, .iload_n 2, 1), (31, .iload_n 1, 1), (32, .if_icmp .ne 12, 3), (35, .aload_n 0, 1), (36, .iconst 2, 1), (37, .bipush 11, 2), (39, .iload_n 1, 1), (40, .invokevirtual 86, 3), (43, .ireturn, 1), (44, .aload_n 0, 1), (45, .aload_n 0, 1), (46, .getfield 7, 3), (49, .invokevirtual 90, 3), (52, .aload_n 0, 1), (53, .getfield 7, 3), (56, .iconst 2, 1), (57, .iload_n 1, 1), (58, .iastore, 1), (59, .iload_n 2, 1), (60, .ireturn, 1)]
set_option maxRecDepth 100000 in
theorem kX9_setQuorum : dk_ok cX9_setQuorum iX9_setQuorum = true := by decide +kernel
def iX9_decide_p0 : dk_T := [(0, .aload_n 0, 1), (1, .iconst 0, 1), (2, .invokevirtual 143, 3), (5, .istore_n 1, 1), (6, .iload_n 1, 1), (7, .ifCond .ge 17, 3), (10, .aload_n 0, 1), (11, .iconst 1, 1), (12, .bipush 9, 2), (14, .aload_n 0, 1), (15, .getfield 7, 3), (18, .iconst 5, 1), (19, .iaload, 1), (20, .invokevirtual 86, 3), (23, .ireturn, 1), (24, .aload_n 0, 1), (25, .iload_n 1, 1), (26, .invokevirtual 123, 3), (29, .aload_n 0, 1), (30, .getfield 7, 3), (33, .iconst 2, 1), (34, .iaload, 1), (35, .if_icmp .ge 16, 3), (38, .aload_n 0, 1), (39, .iconst 1, 1), (40, .bipush 10, 2), (42, .aload_n 0, 1), (43, .iload_n 1, 1), (44, .invokevirtual 123, 3), (47, .invokevirtual 86, 3), (50, .ireturn, 1), (51, .aload_n 0, 1), (52, .getfield 7, 3), (55, .iconst 5, 1), (56, .iaload, 1), (57, .bipush 16, 2), (59, .if_icmp .ne 12, 3), (62, .aload_n 0, 1), (63, .iconst 1, 1), (64, .iconst 1, 1), (65, .bipush 16, 2), (67, .invokevirtual 86, 3), (70, .ireturn, 1), (71, .aload_n 0, 1), (72, .aload_n 0, 1), (73, .getfield 7, 3), (76, .invokevirtual 90, 3), (79, .aload_n 0, 1), (80, .iload_n 1, 1), (81, .iconst 2, 1), (82, .invokevirtual 106, 3), (85, .istore_n 2, 1), (86, .aload_n 0, 1), (87, .iload_n 1, 1), (88, .invokevirtual 149, 3), (91, .istore_n 3, 1), (92, .iload_n 3, 1), (93, .ifCond .eq 20, 3), (96, .aload_n 0, 1), (97, .aload_n 0, 1)]
set_option maxRecDepth 100000 in
theorem kX9_decide_p0 : dk_ok cX9_decide iX9_decide_p0 = true := by decide +kernel
def iX9_decide_p1 : dk_T := [(98, .iload_n 1, 1), (99, .iconst 3, 1), (100, .invokevirtual 106, 3), (103, .invokevirtual 83, 3), (106, .ifCond .ge 7, 3), (109, .iconst 1, 1), (110, .goto 4, 3), (113, .iconst 0, 1), (114, .istore 4, 2), (116, .bipush 123, 2), (118, .bipush 6, 2), (120, .aload_n 0, 1), (121, .getfield 7, 3), (124, .iconst 5, 1), (125, .iaload, 1), (126, .imul, 1), (127, .iadd, 1), (128, .istore 5, 2), (130, .aload_n 0, 1), (131, .getfield 7, 3), (134, .iload 5, 2), (136, .iconst 0, 1), (137, .iadd, 1), (138, .iload_n 3, 1), (139, .ifCond .eq 7, 3), (142, .iconst 1, 1), (143, .goto 4, 3), (146, .iconst 0, 1), (147, .iastore, 1), (148, .aload_n 0, 1), (149, .getfield 7, 3), (152, .iload 5, 2), (154, .iconst 1, 1), (155, .iadd, 1), (156, .iload 4, 2), (158, .ifCond .eq 7, 3), (161, .iconst 1, 1), (162, .goto 4, 3), (165, .iconst 0, 1), (166, .iastore, 1), (167, .iconst 0, 1), (168, .istore 6, 2), (170, .iload 6, 2), (172, .iconst 4, 1), (173, .if_icmp .ge 31, 3), (176, .aload_n 0, 1), (177, .getfield 7, 3), (180, .iload 5, 2), (182, .iconst 2, 1), (183, .iadd, 1), (184, .iload 6, 2), (186, .iadd, 1), (187, .aload_n 0, 1), (188, .iload_n 1, 1), (189, .bipush 7, 2), (191, .iload 6, 2), (193, .iadd, 1), (194, .invokevirtual 106, 3), (197, .iastore, 1), (198, .iinc 6 1, 3)]
set_option maxRecDepth 100000 in
theorem kX9_decide_p1 : dk_ok cX9_decide iX9_decide_p1 = true := by decide +kernel
def iX9_decide_p2 : dk_T := [(201, .goto (-31), 3), (204, .iload 4, 2), (206, .ifCond .eq 35, 3), (209, .aload_n 0, 1), (210, .getfield 7, 3), (213, .bipush 9, 2), (215, .iconst 2, 1), (216, .iload_n 2, 1), (217, .imul, 1), (218, .iadd, 1), (219, .aload_n 0, 1), (220, .iload_n 1, 1), (221, .iconst 3, 1), (222, .invokevirtual 106, 3), (225, .iastore, 1), (226, .aload_n 0, 1), (227, .getfield 7, 3), (230, .bipush 8, 2), (232, .dup2, 1), (233, .iaload, 1), (234, .aload_n 0, 1), (235, .iload_n 2, 1), (236, .invokevirtual 97, 3), (239, .iadd, 1), (240, .iastore, 1), (241, .aload_n 0, 1), (242, .iload_n 1, 1), (243, .invokevirtual 129, 3), (246, .aload_n 0, 1), (247, .getfield 7, 3), (250, .iconst 5, 1), (251, .dup2, 1), (252, .iaload, 1), (253, .iconst 1, 1), (254, .iadd, 1), (255, .iastore, 1), (256, .aload_n 0, 1), (257, .getfield 7, 3), (260, .iconst 5, 1), (261, .iaload, 1), (262, .iconst 1, 1), (263, .isub, 1), (264, .ireturn, 1)]
set_option maxRecDepth 100000 in
theorem kX9_decide_p2 : dk_ok cX9_decide iX9_decide_p2 = true := by decide +kernel
def iX9_quorum : dk_T := [(0, .aload_n 0, 1), (1, .iconst 0, 1), (2, .putfield 39, 3), (5, .aload_n 0, 1), (6, .getfield 7, 3), (9, .iconst 2, 1), (10, .iaload, 1), (11, .ireturn, 1)]
set_option maxRecDepth 100000 in
theorem kX9_quorum : dk_ok cX9_quorum iX9_quorum = true := by decide +kernel
def iX9_rulingCount : dk_T := [(0, .aload_n 0, 1), (1, .iconst 0, 1), (2, .putfield 39, 3), (5, .aload_n 0, 1), (6, .getfield 7, 3), (9, .iconst 5, 1), (10, .iaload, 1), (11, .ireturn, 1)]
set_option maxRecDepth 100000 in
theorem kX9_rulingCount : dk_ok cX9_rulingCount iX9_rulingCount = true := by decide +kernel
def iX9_isUnruled : dk_T := [(0, .aload_n 0, 1), (1, .aload_n 0, 1), (2, .iload_n 1, 1), (3, .invokevirtual 126, 3), (6, .ifCond .eq 7, 3), (9, .iconst 0, 1), (10, .goto 4, 3), (13, .iconst 1, 1), (14, .invokevirtual 80, 3), (17, .ireturn, 1)]
set_option maxRecDepth 100000 in
theorem kX9_isUnruled : dk_ok cX9_isUnruled iX9_isUnruled = true := by decide +kernel
def iX9_isGranted : dk_T := [(0, .aload_n 0, 1), (1, .iload_n 1, 1), (2, .invokevirtual 152, 3), (5, .ifCond .ne 17, 3), (8, .aload_n 0, 1), (9, .iload_n 1, 1), (10, .iconst 0, 1), (11, .invokevirtual 146, 3), (14, .iconst 1, 1), (15, .if_icmp .ne 7, 3), (18, .iconst 1, 1), (19, .goto 4, 3), (22, .iconst 0, 1), (23, .ireturn, 1)]
set_option maxRecDepth 100000 in
theorem kX9_isGranted : dk_ok cX9_isGranted iX9_isGranted = true := by decide +kernel
def iX9_isCarriedOut : dk_T := [(0, .aload_n 0, 1), (1, .iload_n 1, 1), (2, .invokevirtual 152, 3), (5, .ifCond .ne 17, 3), (8, .aload_n 0, 1), (9, .iload_n 1, 1), (10, .iconst 1, 1), (11, .invokevirtual 146, 3), (14, .iconst 1, 1), (15, .if_icmp .ne 7, 3), (18, .iconst 1, 1), (19, .goto 4, 3), (22, .iconst 0, 1), (23, .ireturn, 1)]
set_option maxRecDepth 100000 in
theorem kX9_isCarriedOut : dk_ok cX9_isCarriedOut iX9_isCarriedOut = true := by decide +kernel
def iX9_citationCount : dk_T := [(0, .aload_n 0, 1), (1, .iload_n 1, 1), (2, .invokevirtual 152, 3), (5, .ifCond .eq 7, 3), (8, .iconst 0, 1), (9, .goto 9, 3), (12, .aload_n 0, 1), (13, .iload_n 1, 1), (14, .iconst 2, 1), (15, .invokevirtual 146, 3), (18, .ireturn, 1)]
set_option maxRecDepth 100000 in
theorem kX9_citationCount : dk_ok cX9_citationCount iX9_citationCount = true := by decide +kernel
def iX9_citation : dk_T := [(0, .aload_n 0, 1), (1, .aload_n 0, 1), (2, .iload_n 1, 1), (3, .invokevirtual 126, 3), (6, .ifCond .ne 7, 3), (9, .iconst 1, 1), (10, .goto 24, 3), (13, .iload_n 2, 1), (14, .iconst 0, 1), (15, .aload_n 0, 1), (16, .iload_n 1, 1), (17, .iconst 2, 1), (18, .invokevirtual 146, 3), (21, .iconst 1, 1), (22, .isub, 1), (23, .invokestatic 68, 3), (26, .ifCond .eq 7, 3), (29, .iconst 0, 1), (30, .goto 4, 3), (33, .iconst 2, 1), (34, .invokevirtual 80, 3), (37, .ifCond .eq 7, 3), (40, .iconst 0, 1), (41, .goto 11, 3), (44, .aload_n 0, 1), (45, .iload_n 1, 1), (46, .iconst 3, 1), (47, .iload_n 2, 1), (48, .iadd, 1), (49, .invokevirtual 146, 3), (52, .ireturn, 1)]
set_option maxRecDepth 100000 in
theorem kX9_citation : dk_ok cX9_citation iX9_citation = true := by decide +kernel
def iX9_names : dk_T := [(0, .iconst 0, 1), (1, .istore_n 3, 1), (2, .iload_n 3, 1), (3, .aload_n 0, 1), (4, .iload_n 1, 1), (5, .iconst 2, 1), (6, .invokevirtual 146, 3), (9, .if_icmp .ge 23, 3), (12, .aload_n 0, 1), (13, .iload_n 1, 1), (14, .iconst 3, 1), (15, .iload_n 3, 1), (16, .iadd, 1), (17, .invokevirtual 146, 3), (20, .iload_n 2, 1), (21, .if_icmp .ne 5, 3), (24, .iconst 1, 1), (25, .ireturn, 1), (26, .iinc 3 1, 3), (29, .goto (-27), 3), (32, .iconst 0, 1), (33, .ireturn, 1)]
set_option maxRecDepth 100000 in
theorem kX9_names : dk_ok cX9_names iX9_names = true := by decide +kernel
def iX9_citedBy : dk_T := [(0, .aload_n 0, 1), (1, .iload_n 1, 1), (2, .invokevirtual 152, 3), (5, .ifCond .eq 5, 3), (8, .iconst 0, 1), (9, .ireturn, 1), (10, .iconst 0, 1), (11, .istore_n 2, 1), (12, .iconst 0, 1), (13, .istore_n 3, 1), (14, .iload_n 3, 1), (15, .aload_n 0, 1), (16, .getfield 7, 3), (19, .iconst 5, 1), (20, .iaload, 1), (21, .if_icmp .ge 26, 3), (24, .iload_n 2, 1), (25, .aload_n 0, 1), (26, .iload_n 3, 1), (27, .iload_n 1, 1), (28, .invokevirtual 155, 3), (31, .ifCond .eq 7, 3), (34, .iconst 1, 1), (35, .goto 4, 3), (38, .iconst 0, 1), (39, .iadd, 1), (40, .istore_n 2, 1), (41, .iinc 3 1, 3), (44, .goto (-30), 3), (47, .iload_n 2, 1), (48, .ireturn, 1)]
set_option maxRecDepth 100000 in
theorem kX9_citedBy : dk_ok cX9_citedBy iX9_citedBy = true := by decide +kernel
def iX9_depth : dk_T := [(0, .aload_n 0, 1), (1, .iload_n 1, 1), (2, .invokevirtual 152, 3), (5, .ifCond .eq 5, 3), (8, .iconst 0, 1), (9, .ireturn, 1), (10, .iconst 0, 1), (11, .istore_n 2, 1), (12, .iload_n 2, 1), (13, .iload_n 1, 1), (14, .if_icmp .gt 67, 3), (17, .aload_n 0, 1), (18, .getfield 33, 3), (21, .iload_n 2, 1), (22, .iconst 0, 1), (23, .iastore, 1), (24, .iconst 0, 1), (25, .istore_n 3, 1), (26, .iload_n 3, 1), (27, .iload_n 2, 1), (28, .if_icmp .ge 47, 3), (31, .aload_n 0, 1), (32, .iload_n 2, 1), (33, .iload_n 3, 1), (34, .invokevirtual 155, 3), (37, .ifCond .eq 32, 3), (40, .aload_n 0, 1), (41, .getfield 33, 3), (44, .iload_n 3, 1), (45, .iaload, 1), (46, .aload_n 0, 1), (47, .getfield 33, 3), (50, .iload_n 2, 1), (51, .iaload, 1), (52, .if_icmp .lt 17, 3), (55, .aload_n 0, 1), (56, .getfield 33, 3), (59, .iload_n 2, 1), (60, .aload_n 0, 1), (61, .getfield 33, 3), (64, .iload_n 3, 1), (65, .iaload, 1), (66, .iconst 1, 1), (67, .iadd, 1), (68, .iastore, 1), (69, .iinc 3 1, 3), (72, .goto (-46), 3), (75, .iinc 2 1, 3), (78, .goto (-66), 3), (81, .aload_n 0, 1), (82, .getfield 33, 3), (85, .iload_n 1, 1), (86, .iaload, 1), (87, .ireturn, 1)]
set_option maxRecDepth 100000 in
theorem kX9_depth : dk_ok cX9_depth iX9_depth = true := by decide +kernel
def iX9_based : dk_T := [(0, .iconst 1, 1), (1, .iload_n 1, 1), (2, .ishl, 1), (3, .istore_n 2, 1), (4, .iload_n 1, 1), (5, .iconst 1, 1), (6, .iadd, 1), (7, .istore_n 3, 1), (8, .iload_n 3, 1), (9, .aload_n 0, 1), (10, .getfield 7, 3), (13, .iconst 5, 1), (14, .iaload, 1), (15, .if_icmp .ge 50, 3), (18, .iload_n 1, 1), (19, .istore 4, 2), (21, .iload 4, 2), (23, .iload_n 3, 1), (24, .if_icmp .ge 35, 3), (27, .iload_n 2, 1), (28, .iload 4, 2), (30, .ishr, 1), (31, .iconst 1, 1), (32, .iand, 1), (33, .iconst 1, 1), (34, .if_icmp .ne 19, 3), (37, .aload_n 0, 1), (38, .iload_n 3, 1), (39, .iload 4, 2), (41, .invokevirtual 155, 3), (44, .ifCond .eq 9, 3), (47, .iload_n 2, 1), (48, .iconst 1, 1), (49, .iload_n 3, 1), (50, .ishl, 1), (51, .ior, 1), (52, .istore_n 2, 1), (53, .iinc 4 1, 3), (56, .goto (-35), 3), (59, .iinc 3 1, 3), (62, .goto (-54), 3), (65, .iload_n 2, 1), (66, .iconst 1, 1), (67, .iload_n 1, 1), (68, .ishl, 1), (69, .iconst (-1), 1), (70, .ixor, 1), (71, .iand, 1), (72, .ireturn, 1)]
set_option maxRecDepth 100000 in
theorem kX9_based : dk_ok cX9_based iX9_based = true := by decide +kernel
def iX9_reaches : dk_T := [(0, .iconst 0, 1), (1, .istore_n 2, 1), (2, .iconst 0, 1), (3, .istore_n 3, 1), (4, .iload_n 3, 1), (5, .aload_n 0, 1), (6, .getfield 7, 3), (9, .iconst 5, 1), (10, .iaload, 1), (11, .if_icmp .ge 21, 3), (14, .iload_n 2, 1), (15, .aload_n 0, 1), (16, .iload_n 1, 1), (17, .invokevirtual 158, 3), (20, .iload_n 3, 1), (21, .ishr, 1), (22, .iconst 1, 1), (23, .iand, 1), (24, .iadd, 1), (25, .istore_n 2, 1), (26, .iinc 3 1, 3), (29, .goto (-25), 3), (32, .iload_n 2, 1), (33, .ireturn, 1)]
set_option maxRecDepth 100000 in
theorem kX9_reaches : dk_ok cX9_reaches iX9_reaches = true := by decide +kernel
def iX9_isBasedOn : dk_T := [(0, .aload_n 0, 1), (1, .aload_n 0, 1), (2, .iload_n 1, 1), (3, .invokevirtual 126, 3), (6, .ifCond .eq 15, 3), (9, .aload_n 0, 1), (10, .iload_n 2, 1), (11, .invokevirtual 126, 3), (14, .ifCond .eq 7, 3), (17, .iconst 0, 1), (18, .goto 4, 3), (21, .iconst 1, 1), (22, .invokevirtual 80, 3), (25, .ifCond .ne 20, 3), (28, .aload_n 0, 1), (29, .iload_n 2, 1), (30, .invokevirtual 158, 3), (33, .iload_n 1, 1), (34, .ishr, 1), (35, .iconst 1, 1), (36, .iand, 1), (37, .iconst 1, 1), (38, .if_icmp .ne 7, 3), (41, .iconst 1, 1), (42, .goto 4, 3), (45, .iconst 0, 1), (46, .ireturn, 1)]
set_option maxRecDepth 100000 in
theorem kX9_isBasedOn : dk_ok cX9_isBasedOn iX9_isBasedOn = true := by decide +kernel
def iX9_influence : dk_T := [(0, .aload_n 0, 1), (1, .iload_n 1, 1), (2, .invokevirtual 152, 3), (5, .ifCond .eq 7, 3), (8, .iconst 0, 1), (9, .goto 8, 3), (12, .aload_n 0, 1), (13, .iload_n 1, 1), (14, .invokevirtual 161, 3), (17, .ireturn, 1)]
set_option maxRecDepth 100000 in
theorem kX9_influence : dk_ok cX9_influence iX9_influence = true := by decide +kernel
def iX9_influenceByMarking : dk_T := [(0, .aload_n 0, 1), (1, .iload_n 1, 1), (2, .invokevirtual 152, 3), (5, .ifCond .eq 7, 3), (8, .iconst 0, 1), (9, .goto 8, 3), (12, .aload_n 0, 1), (13, .iload_n 1, 1), (14, .invokevirtual 161, 3), (17, .ireturn, 1)]
set_option maxRecDepth 100000 in
theorem kX9_influenceByMarking : dk_ok cX9_influenceByMarking iX9_influenceByMarking = true := by decide +kernel
def iX9_rulingByInfluence : dk_T := [(0, .iconst 0, 1), (1, .istore_n 2, 1), (2, .iload_n 2, 1), (3, .aload_n 0, 1), (4, .getfield 7, 3), (7, .iconst 5, 1), (8, .iaload, 1), (9, .if_icmp .ge 88, 3), (12, .iconst 0, 1), (13, .istore_n 3, 1), (14, .iconst 0, 1), (15, .istore 4, 2), (17, .iload 4, 2), (19, .aload_n 0, 1), (20, .getfield 7, 3), (23, .iconst 5, 1), (24, .iaload, 1), (25, .if_icmp .ge 51, 3), (28, .iload_n 3, 1), (29, .aload_n 0, 1), (30, .iload 4, 2), (32, .invokevirtual 161, 3), (35, .aload_n 0, 1), (36, .iload_n 2, 1), (37, .invokevirtual 161, 3), (40, .if_icmp .gt 23, 3), (43, .aload_n 0, 1), (44, .iload 4, 2), (46, .invokevirtual 161, 3), (49, .aload_n 0, 1), (50, .iload_n 2, 1), (51, .invokevirtual 161, 3), (54, .if_icmp .ne 13, 3), (57, .iload 4, 2), (59, .iload_n 2, 1), (60, .if_icmp .ge 7, 3), (63, .iconst 1, 1), (64, .goto 4, 3), (67, .iconst 0, 1), (68, .iadd, 1), (69, .istore_n 3, 1), (70, .iinc 4 1, 3), (73, .goto (-56), 3), (76, .iload_n 3, 1), (77, .iload_n 1, 1), (78, .if_icmp .eq 6, 3), (81, .goto 10, 3), (84, .aload_n 0, 1), (85, .iconst 0, 1), (86, .putfield 39, 3), (89, .iload_n 2, 1), (90, .ireturn, 1), (91, .iinc 2 1, 3), (94, .goto (-92), 3), (97, .aload_n 0, 1), (98, .iconst 1, 1), (99, .putfield 39, 3), (102, .iconst 0, 1), (103, .ireturn, 1)]
set_option maxRecDepth 100000 in
theorem kX9_rulingByInfluence : dk_ok cX9_rulingByInfluence iX9_rulingByInfluence = true := by decide +kernel
def iX9_filedCount : dk_T := [(0, .aload_n 0, 1), (1, .iconst 0, 1), (2, .putfield 39, 3), (5, .aload_n 0, 1), (6, .getfield 7, 3), (9, .iconst 4, 1), (10, .iaload, 1), (11, .ireturn, 1)]
set_option maxRecDepth 100000 in
theorem kX9_filedCount : dk_ok cX9_filedCount iX9_filedCount = true := by decide +kernel
def iX9_vetoes : dk_T := [(0, .aload_n 0, 1), (1, .iconst 0, 1), (2, .putfield 39, 3), (5, .aload_n 0, 1), (6, .getfield 7, 3), (9, .bipush 6, 2), (11, .iaload, 1), (12, .ireturn, 1)]
set_option maxRecDepth 100000 in
theorem kX9_vetoes : dk_ok cX9_vetoes iX9_vetoes = true := by decide +kernel
def iX9_withdrawals : dk_T := [(0, .aload_n 0, 1), (1, .iconst 0, 1), (2, .putfield 39, 3), (5, .aload_n 0, 1), (6, .getfield 7, 3), (9, .bipush 7, 2), (11, .iaload, 1), (12, .ireturn, 1)]
set_option maxRecDepth 100000 in
theorem kX9_withdrawals : dk_ok cX9_withdrawals iX9_withdrawals = true := by decide +kernel
def iX9_movedWeight : dk_T := [(0, .aload_n 0, 1), (1, .iconst 0, 1), (2, .putfield 39, 3), (5, .aload_n 0, 1), (6, .getfield 7, 3), (9, .bipush 8, 2), (11, .iaload, 1), (12, .ireturn, 1)]
set_option maxRecDepth 100000 in
theorem kX9_movedWeight : dk_ok cX9_movedWeight iX9_movedWeight = true := by decide +kernel
def iX9_meanVotes : dk_T := [(0, .aload_n 0, 1), (1, .aload_n 0, 1), (2, .getfield 7, 3), (5, .iconst 3, 1), (6, .iaload, 1), (7, .ifCond .ne 7, 3), (10, .iconst 1, 1), (11, .goto 4, 3), (14, .iconst 0, 1), (15, .invokevirtual 80, 3), (18, .ifCond .eq 5, 3), (21, .dconst 0, 1), (22, .dreturn, 1), (23, .iconst 0, 1), (24, .istore_n 1, 1), (25, .iconst 0, 1), (26, .istore_n 2, 1), (27, .iload_n 2, 1), (28, .aload_n 0, 1), (29, .getfield 7, 3), (32, .iconst 3, 1), (33, .iaload, 1), (34, .if_icmp .ge 17, 3), (37, .iload_n 1, 1), (38, .aload_n 0, 1), (39, .iload_n 2, 1), (40, .invokevirtual 123, 3), (43, .iadd, 1), (44, .istore_n 1, 1), (45, .iinc 2 1, 3), (48, .goto (-21), 3), (51, .iload_n 1, 1), (52, .i2d, 1), (53, .aload_n 0, 1), (54, .getfield 7, 3), (57, .iconst 3, 1), (58, .iaload, 1), (59, .i2d, 1), (60, .ddiv, 1), (61, .dreturn, 1)]
set_option maxRecDepth 100000 in
theorem kX9_meanVotes : dk_ok cX9_meanVotes iX9_meanVotes = true := by decide +kernel
def iX9_grantedShare : dk_T := [(0, .aload_n 0, 1), (1, .aload_n 0, 1), (2, .getfield 7, 3), (5, .iconst 5, 1), (6, .iaload, 1), (7, .ifCond .ne 7, 3), (10, .iconst 1, 1), (11, .goto 4, 3), (14, .iconst 0, 1), (15, .invokevirtual 80, 3), (18, .ifCond .eq 5, 3), (21, .fconst 0, 1), (22, .freturn, 1), (23, .iconst 0, 1), (24, .istore_n 1, 1), (25, .iconst 0, 1), (26, .istore_n 2, 1), (27, .iload_n 2, 1), (28, .aload_n 0, 1), (29, .getfield 7, 3), (32, .iconst 5, 1), (33, .iaload, 1), (34, .if_icmp .ge 18, 3), (37, .iload_n 1, 1), (38, .aload_n 0, 1), (39, .iload_n 2, 1), (40, .iconst 0, 1), (41, .invokevirtual 146, 3), (44, .iadd, 1), (45, .istore_n 1, 1), (46, .iinc 2 1, 3), (49, .goto (-22), 3), (52, .iload_n 1, 1), (53, .i2f, 1), (54, .aload_n 0, 1), (55, .getfield 7, 3), (58, .iconst 5, 1), (59, .iaload, 1), (60, .i2f, 1), (61, .fdiv, 1), (62, .freturn, 1)]
set_option maxRecDepth 100000 in
theorem kX9_grantedShare : dk_ok cX9_grantedShare iX9_grantedShare = true := by decide +kernel
def iX9_feed : dk_T := [(0, .aload_n 0, 1), (1, .aload_n 0, 1), (2, .getfield 164, 3), (5, .bipush 60, 2), (7, .if_icmp .ne 7, 3), (10, .iconst 1, 1), (11, .goto 4, 3), (14, .iconst 0, 1), (15, .invokevirtual 80, 3), (18, .ifCond .eq 5, 3), (21, .iconst 0, 1), (22, .ireturn, 1), (23, .aload_n 0, 1), (24, .getfield 22, 3), (27, .aload_n 0, 1), (28, .getfield 164, 3), (31, .iload_n 1, 1), (32, .iastore, 1), (33, .aload_n 0, 1), (34, .dup, 1), (35, .getfield 164, 3), (38, .iconst 1, 1), (39, .iadd, 1), (40, .putfield 164, 3), (43, .aload_n 0, 1), (44, .getfield 164, 3), (47, .ireturn, 1)]
set_option maxRecDepth 100000 in
theorem kX9_feed : dk_ok cX9_feed iX9_feed = true := by decide +kernel
def iX9_here : dk_T := [(0, .aload_n 0, 1), (1, .getfield 167, 3), (4, .aload_n 0, 1), (5, .getfield 164, 3), (8, .if_icmp .ge 15, 3), (11, .aload_n 0, 1), (12, .getfield 22, 3), (15, .aload_n 0, 1), (16, .getfield 167, 3), (19, .iaload, 1), (20, .goto 4, 3), (23, .iconst (-1), 1), (24, .ireturn, 1)]
set_option maxRecDepth 100000 in
theorem kX9_here : dk_ok cX9_here iX9_here = true := by decide +kernel
def iX9_skips : dk_T := [(0, .aload_n 0, 1), (1, .invokevirtual 170, 3), (4, .iload_n 1, 1), (5, .if_icmp .eq 5, 3), (8, .iconst 0, 1), (9, .ireturn, 1), (10, .aload_n 0, 1), (11, .dup, 1), (12, .getfield 167, 3), (15, .iconst 1, 1), (16, .iadd, 1), (17, .putfield 167, 3), (20, .iconst 1, 1), (21, .ireturn, 1)]
set_option maxRecDepth 100000 in
theorem kX9_skips : dk_ok cX9_skips iX9_skips = true := by decide +kernel
def iX9_isWord : dk_T := [(0, .aload_n 0, 1), (1, .getfield 36, 3), (4, .iconst 5, 1), (5, .aload_n 0, 1), (6, .getfield 174, 3), (9, .imul, 1), (10, .aload_n 1, 1), (11, .iconst 0, 1), (12, .invokevirtual 177, 3), (15, .iastore, 1), (16, .iconst 0, 1), (17, .istore_n 2, 1), (18, .iload_n 2, 1), (19, .aload_n 1, 1), (20, .invokevirtual 183, 3), (23, .if_icmp .ge 23, 3), (26, .aload_n 0, 1), (27, .aload_n 1, 1), (28, .iload_n 2, 1), (29, .invokevirtual 177, 3), (32, .invokevirtual 185, 3), (35, .ifCond .ne 5, 3), (38, .iconst 0, 1), (39, .ireturn, 1), (40, .iinc 2 1, 3), (43, .goto (-25), 3), (46, .iconst 1, 1), (47, .ireturn, 1)]
set_option maxRecDepth 100000 in
theorem kX9_isWord : dk_ok cX9_isWord iX9_isWord = true := by decide +kernel
def iX9_figures : dk_T := [(0, .aload_n 0, 1), (1, .bipush 32, 2), (3, .invokevirtual 185, 3), (6, .ifCond .eq 17, 3), (9, .aload_n 0, 1), (10, .invokevirtual 170, 3), (13, .bipush 48, 2), (15, .bipush 57, 2), (17, .invokestatic 68, 3), (20, .ifCond .ne 5, 3), (23, .iconst 0, 1), (24, .ireturn, 1), (25, .aload_n 0, 1), (26, .getfield 36, 3), (29, .iload_n 1, 1), (30, .iconst 0, 1), (31, .iastore, 1), (32, .iconst 0, 1), (33, .istore_n 3, 1), (34, .iload_n 3, 1), (35, .iload_n 2, 1), (36, .if_icmp .ge 56, 3), (39, .aload_n 0, 1), (40, .invokevirtual 170, 3), (43, .bipush 48, 2), (45, .bipush 57, 2), (47, .invokestatic 68, 3), (50, .ifCond .eq 42, 3), (53, .aload_n 0, 1), (54, .getfield 36, 3), (57, .iload_n 1, 1), (58, .bipush 10, 2), (60, .aload_n 0, 1), (61, .getfield 36, 3), (64, .iload_n 1, 1), (65, .iaload, 1), (66, .imul, 1), (67, .aload_n 0, 1), (68, .invokevirtual 170, 3), (71, .iadd, 1), (72, .bipush 48, 2), (74, .isub, 1), (75, .iastore, 1), (76, .aload_n 0, 1), (77, .dup, 1), (78, .getfield 167, 3), (81, .iconst 1, 1), (82, .iadd, 1), (83, .putfield 167, 3), (86, .iinc 3 1, 3), (89, .goto (-55), 3), (92, .iconst 1, 1), (93, .ireturn, 1)]
set_option maxRecDepth 100000 in
theorem kX9_figures : dk_ok cX9_figures iX9_figures = true := by decide +kernel
def iX9_commandHere_p0 : dk_T := [(0, .iconst 5, 1), (1, .aload_n 0, 1), (2, .getfield 174, 3), (5, .imul, 1), (6, .iconst 1, 1), (7, .iadd, 1), (8, .istore_n 1, 1), (9, .aload_n 0, 1), (10, .invokevirtual 170, 3), (13, .tableswitch 418 99 121 #[317, 411, 418, 190, 418, 418, 418, 418, 418, 418, 418, 282, 142, 418, 166, 418, 107, 418, 418, 352, 387, 418, 247], 107), (120, .aload_n 0, 1), (121, .ldc 188, 2), (123, .invokevirtual 190, 3), (126, .ifCond .eq 27, 3), (129, .aload_n 0, 1), (130, .iload_n 1, 1), (131, .iconst 2, 1), (132, .invokevirtual 194, 3), (135, .ifCond .eq 18, 3), (138, .aload_n 0, 1), (139, .iload_n 1, 1), (140, .iconst 1, 1), (141, .iadd, 1), (142, .iconst 1, 1), (143, .invokevirtual 194, 3), (146, .ifCond .eq 7, 3), (149, .iconst 1, 1), (150, .goto 4, 3), (153, .iconst 0, 1), (154, .ireturn, 1), (155, .aload_n 0, 1), (156, .ldc 197, 2), (158, .invokevirtual 190, 3), (161, .ifCond .eq 16, 3), (164, .aload_n 0, 1), (165, .iload_n 1, 1), (166, .iconst 1, 1), (167, .invokevirtual 194, 3), (170, .ifCond .eq 7, 3), (173, .iconst 1, 1), (174, .goto 4, 3), (177, .iconst 0, 1), (178, .ireturn, 1), (179, .aload_n 0, 1), (180, .ldc 199, 2), (182, .invokevirtual 190, 3), (185, .ifCond .eq 16, 3), (188, .aload_n 0, 1), (189, .iload_n 1, 1), (190, .iconst 1, 1), (191, .invokevirtual 194, 3), (194, .ifCond .eq 7, 3), (197, .iconst 1, 1), (198, .goto 4, 3), (201, .iconst 0, 1), (202, .ireturn, 1), (203, .aload_n 0, 1), (204, .ldc 201, 2), (206, .invokevirtual 190, 3), (209, .ifCond .eq 49, 3)]
set_option maxRecDepth 100000 in
theorem kX9_commandHere_p0 : dk_ok cX9_commandHere iX9_commandHere_p0 = true := by decide +kernel
def iX9_commandHere_p1 : dk_T := [(212, .aload_n 0, 1), (213, .iload_n 1, 1), (214, .iconst 1, 1), (215, .invokevirtual 194, 3), (218, .ifCond .eq 40, 3), (221, .aload_n 0, 1), (222, .iload_n 1, 1), (223, .iconst 1, 1), (224, .iadd, 1), (225, .iconst 1, 1), (226, .invokevirtual 194, 3), (229, .ifCond .eq 29, 3), (232, .aload_n 0, 1), (233, .iload_n 1, 1), (234, .iconst 2, 1), (235, .iadd, 1), (236, .iconst 2, 1), (237, .invokevirtual 194, 3), (240, .ifCond .eq 18, 3), (243, .aload_n 0, 1), (244, .iload_n 1, 1), (245, .iconst 3, 1), (246, .iadd, 1), (247, .iconst 1, 1), (248, .invokevirtual 194, 3), (251, .ifCond .eq 7, 3), (254, .iconst 1, 1), (255, .goto 4, 3), (258, .iconst 0, 1), (259, .ireturn, 1), (260, .aload_n 0, 1), (261, .ldc 203, 2), (263, .invokevirtual 190, 3), (266, .ifCond .eq 27, 3), (269, .aload_n 0, 1), (270, .iload_n 1, 1), (271, .iconst 1, 1), (272, .invokevirtual 194, 3), (275, .ifCond .eq 18, 3), (278, .aload_n 0, 1), (279, .iload_n 1, 1), (280, .iconst 1, 1), (281, .iadd, 1), (282, .iconst 2, 1), (283, .invokevirtual 194, 3), (286, .ifCond .eq 7, 3), (289, .iconst 1, 1), (290, .goto 4, 3), (293, .iconst 0, 1), (294, .ireturn, 1), (295, .aload_n 0, 1), (296, .ldc 205, 2), (298, .invokevirtual 190, 3), (301, .ifCond .eq 27, 3), (304, .aload_n 0, 1), (305, .iload_n 1, 1), (306, .iconst 1, 1), (307, .invokevirtual 194, 3), (310, .ifCond .eq 18, 3), (313, .aload_n 0, 1)]
set_option maxRecDepth 100000 in
theorem kX9_commandHere_p1 : dk_ok cX9_commandHere iX9_commandHere_p1 = true := by decide +kernel
def iX9_commandHere_p2 : dk_T := [(314, .iload_n 1, 1), (315, .iconst 1, 1), (316, .iadd, 1), (317, .iconst 2, 1), (318, .invokevirtual 194, 3), (321, .ifCond .eq 7, 3), (324, .iconst 1, 1), (325, .goto 4, 3), (328, .iconst 0, 1), (329, .ireturn, 1), (330, .aload_n 0, 1), (331, .ldc 207, 2), (333, .invokevirtual 190, 3), (336, .ifCond .eq 27, 3), (339, .aload_n 0, 1), (340, .iload_n 1, 1), (341, .iconst 2, 1), (342, .invokevirtual 194, 3), (345, .ifCond .eq 18, 3), (348, .aload_n 0, 1), (349, .iload_n 1, 1), (350, .iconst 1, 1), (351, .iadd, 1), (352, .iconst 2, 1), (353, .invokevirtual 194, 3), (356, .ifCond .eq 7, 3), (359, .iconst 1, 1), (360, .goto 4, 3), (363, .iconst 0, 1), (364, .ireturn, 1), (365, .aload_n 0, 1), (366, .ldc 209, 2), (368, .invokevirtual 190, 3), (371, .ifCond .eq 27, 3), (374, .aload_n 0, 1), (375, .iload_n 1, 1), (376, .iconst 1, 1), (377, .invokevirtual 194, 3), (380, .ifCond .eq 18, 3), (383, .aload_n 0, 1), (384, .iload_n 1, 1), (385, .iconst 1, 1), (386, .iadd, 1), (387, .iconst 2, 1), (388, .invokevirtual 194, 3), (391, .ifCond .eq 7, 3), (394, .iconst 1, 1), (395, .goto 4, 3), (398, .iconst 0, 1), (399, .ireturn, 1), (400, .aload_n 0, 1), (401, .ldc 211, 2), (403, .invokevirtual 190, 3), (406, .ifCond .eq 16, 3), (409, .aload_n 0, 1), (410, .iload_n 1, 1), (411, .iconst 2, 1), (412, .invokevirtual 194, 3), (415, .ifCond .eq 7, 3), (418, .iconst 1, 1)]
set_option maxRecDepth 100000 in
theorem kX9_commandHere_p2 : dk_ok cX9_commandHere iX9_commandHere_p2 = true := by decide +kernel
def iX9_commandHere_p3 : dk_T := [(419, .goto 4, 3), (422, .iconst 0, 1), (423, .ireturn, 1), (424, .aload_n 0, 1), (425, .ldc 213, 2), (427, .invokevirtual 190, 3), (430, .ireturn, 1), (431, .iconst 0, 1), (432, .ireturn, 1)]
set_option maxRecDepth 100000 in
theorem kX9_commandHere_p3 : dk_ok cX9_commandHere iX9_commandHere_p3 = true := by decide +kernel
def iX9_isText : dk_T := [(0, .aload_n 0, 1), (1, .iconst 0, 1), (2, .putfield 167, 3), (5, .aload_n 0, 1), (6, .iconst 0, 1), (7, .putfield 174, 3), (10, .aload_n 0, 1), (11, .invokevirtual 215, 3), (14, .ifCond .ne 5, 3), (17, .iconst 0, 1), (18, .ireturn, 1), (19, .aload_n 0, 1), (20, .dup, 1), (21, .getfield 174, 3), (24, .iconst 1, 1), (25, .iadd, 1), (26, .putfield 174, 3), (29, .aload_n 0, 1), (30, .bipush 59, 2), (32, .invokevirtual 185, 3), (35, .ifCond .ne (-25), 3), (38, .aload_n 0, 1), (39, .getfield 167, 3), (42, .aload_n 0, 1), (43, .getfield 164, 3), (46, .if_icmp .ne 7, 3), (49, .iconst 1, 1), (50, .goto 4, 3), (53, .iconst 0, 1), (54, .ireturn, 1)]
set_option maxRecDepth 100000 in
theorem kX9_isText : dk_ok cX9_isText iX9_isText = true := by decide +kernel
def iX9_carries_p0 : dk_T := [(0, .aload_n 0, 1), (1, .getfield 36, 3), (4, .iload_n 1, 1), (5, .iconst 1, 1), (6, .iadd, 1), (7, .iaload, 1), (8, .istore_n 2, 1), (9, .aload_n 0, 1), (10, .getfield 36, 3), (13, .iload_n 1, 1), (14, .iconst 2, 1), (15, .iadd, 1), (16, .iaload, 1), (17, .istore_n 3, 1), (18, .aload_n 0, 1), (19, .getfield 36, 3), (22, .iload_n 1, 1), (23, .iaload, 1), (24, .tableswitch 186 99 121 #[166, 186, 186, 127, 186, 186, 186, 186, 186, 186, 186, 158, 115, 186, 121, 186, 108, 186, 186, 173, 180, 186, 150], 108), (132, .aload_n 0, 1), (133, .iload_n 2, 1), (134, .iload_n 3, 1), (135, .invokevirtual 219, 3), (138, .ireturn, 1), (139, .aload_n 0, 1), (140, .iload_n 2, 1), (141, .invokevirtual 222, 3), (144, .ireturn, 1), (145, .aload_n 0, 1), (146, .iload_n 2, 1), (147, .invokevirtual 225, 3), (150, .ireturn, 1), (151, .aload_n 0, 1), (152, .iload_n 2, 1), (153, .iload_n 3, 1), (154, .aload_n 0, 1), (155, .getfield 36, 3), (158, .iload_n 1, 1), (159, .iconst 3, 1), (160, .iadd, 1), (161, .iaload, 1), (162, .aload_n 0, 1), (163, .getfield 36, 3), (166, .iload_n 1, 1), (167, .iconst 4, 1), (168, .iadd, 1), (169, .iaload, 1), (170, .invokevirtual 228, 3), (173, .ireturn, 1), (174, .aload_n 0, 1), (175, .iload_n 2, 1), (176, .iload_n 3, 1), (177, .iconst 1, 1), (178, .invokevirtual 231, 3), (181, .ireturn, 1), (182, .aload_n 0, 1), (183, .iload_n 2, 1), (184, .iload_n 3, 1), (185, .iconst 0, 1), (186, .invokevirtual 231, 3)]
set_option maxRecDepth 100000 in
theorem kX9_carries_p0 : dk_ok cX9_carries iX9_carries_p0 = true := by decide +kernel
def iX9_carries_p1 : dk_T := [(189, .ireturn, 1), (190, .aload_n 0, 1), (191, .iload_n 2, 1), (192, .iload_n 3, 1), (193, .invokevirtual 235, 3), (196, .ireturn, 1), (197, .aload_n 0, 1), (198, .iload_n 2, 1), (199, .iload_n 3, 1), (200, .invokevirtual 237, 3), (203, .ireturn, 1), (204, .aload_n 0, 1), (205, .iload_n 2, 1), (206, .invokevirtual 239, 3), (209, .ireturn, 1), (210, .aload_n 0, 1), (211, .invokevirtual 241, 3), (214, .ireturn, 1)]
set_option maxRecDepth 100000 in
theorem kX9_carries_p1 : dk_ok cX9_carries iX9_carries_p1 = true := by decide +kernel
def iX9_deniesText : dk_T := [(0, .aload_n 0, 1), (1, .getfield 42, 3), (4, .ifCond .eq 10, 3), (7, .aload_n 0, 1), (8, .getfield 46, 3), (11, .goto 5, 3), (14, .bipush 13, 2), (16, .istore_n 2, 1), (17, .aload_n 0, 1), (18, .getfield 42, 3), (21, .ifCond .eq 10, 3), (24, .aload_n 0, 1), (25, .getfield 49, 3), (28, .goto 4, 3), (31, .iconst 0, 1), (32, .istore_n 3, 1), (33, .aload_n 0, 1), (34, .iconst 2, 1), (35, .bipush 12, 2), (37, .iload_n 1, 1), (38, .invokevirtual 86, 3), (41, .pop, 1), (42, .aload_n 0, 1), (43, .iload_n 2, 1), (44, .putfield 52, 3), (47, .aload_n 0, 1), (48, .iload_n 3, 1), (49, .putfield 55, 3), (52, .iconst 0, 1), (53, .ireturn, 1)]
set_option maxRecDepth 100000 in
theorem kX9_deniesText : dk_ok cX9_deniesText iX9_deniesText = true := by decide +kernel
def iX9_execute_p0 : dk_T := [(0, .aload_n 0, 1), (1, .invokevirtual 243, 3), (4, .istore_n 1, 1), (5, .iload_n 1, 1), (6, .ifCond .ne 11, 3), (9, .aload_n 0, 1), (10, .aload_n 0, 1), (11, .getfield 167, 3), (14, .putfield 25, 3), (17, .aload_n 0, 1), (18, .iconst 0, 1), (19, .putfield 164, 3), (22, .aload_n 0, 1), (23, .iload_n 1, 1), (24, .ifCond .eq 7, 3), (27, .iconst 0, 1), (28, .goto 4, 3), (31, .iconst 1, 1), (32, .invokevirtual 80, 3), (35, .ifCond .eq 5, 3), (38, .iconst 0, 1), (39, .ireturn, 1), (40, .aload_n 0, 1), (41, .getfield 7, 3), (44, .iconst 0, 1), (45, .aload_n 0, 1), (46, .getfield 19, 3), (49, .iconst 0, 1), (50, .invokestatic 64, 3), (53, .aload_n 0, 1), (54, .iconst 1, 1), (55, .putfield 58, 3), (58, .iconst 0, 1), (59, .istore_n 2, 1), (60, .iconst 0, 1), (61, .istore_n 3, 1), (62, .iload_n 2, 1), (63, .aload_n 0, 1), (64, .getfield 174, 3), (67, .if_icmp .ge 31, 3), (70, .aload_n 0, 1), (71, .getfield 39, 3), (74, .ifCond .ne 24, 3), (77, .aload_n 0, 1), (78, .iconst 5, 1), (79, .iload_n 2, 1), (80, .imul, 1), (81, .invokevirtual 246, 3), (84, .istore_n 3, 1), (85, .aload_n 0, 1), (86, .getfield 39, 3), (89, .ifCond .ne (-27), 3), (92, .iinc 2 1, 3), (95, .goto (-33), 3), (98, .aload_n 0, 1), (99, .iconst 0, 1), (100, .putfield 58, 3), (103, .aload_n 0, 1), (104, .getfield 39, 3), (107, .ifCond .le 32, 3)]
set_option maxRecDepth 100000 in
theorem kX9_execute_p0 : dk_ok cX9_execute iX9_execute_p0 = true := by decide +kernel
def iX9_execute_p1 : dk_T := [(110, .aload_n 0, 1), (111, .getfield 19, 3), (114, .iconst 0, 1), (115, .aload_n 0, 1), (116, .getfield 7, 3), (119, .iconst 0, 1), (120, .invokestatic 64, 3), (123, .aload_n 0, 1), (124, .iload_n 2, 1), (125, .invokevirtual 249, 3), (128, .iload_n 3, 1), (129, .ifCond .le 7, 3), (132, .iconst 0, 1), (133, .goto 4, 3), (136, .iload_n 3, 1), (137, .iadd, 1), (138, .ireturn, 1), (139, .aload_n 0, 1), (140, .aload_n 0, 1), (141, .getfield 19, 3), (144, .invokevirtual 90, 3), (147, .aload_n 0, 1), (148, .getfield 174, 3), (151, .ireturn, 1)]
set_option maxRecDepth 100000 in
theorem kX9_execute_p1 : dk_ok cX9_execute iX9_execute_p1 = true := by decide +kernel
def iX9_faultPosition : dk_T := [(0, .aload_n 0, 1), (1, .aload_n 0, 1), (2, .getfield 25, 3), (5, .ifCond .ge 7, 3), (8, .iconst 1, 1), (9, .goto 4, 3), (12, .iconst 0, 1), (13, .invokevirtual 80, 3), (16, .ifCond .eq 7, 3), (19, .iconst 0, 1), (20, .goto 7, 3), (23, .aload_n 0, 1), (24, .getfield 25, 3), (27, .ireturn, 1)]
set_option maxRecDepth 100000 in
theorem kX9_faultPosition : dk_ok cX9_faultPosition iX9_faultPosition = true := by decide +kernel
def iX9_writes : dk_T := [(0, .aload_n 0, 1), (1, .getfield 29, 3), (4, .aload_n 0, 1), (5, .getfield 252, 3), (8, .iload_n 1, 1), (9, .i2c, 1), (10, .castore, 1), (11, .aload_n 0, 1), (12, .dup, 1), (13, .getfield 252, 3), (16, .iconst 1, 1), (17, .iadd, 1), (18, .putfield 252, 3), (21, .return_, 1)]
set_option maxRecDepth 100000 in
theorem kX9_writes : dk_ok cX9_writes iX9_writes = true := by decide +kernel
def iX9_writesNumber : dk_T := [(0, .iload_n 1, 1), (1, .bipush 9, 2), (3, .if_icmp .le 11, 3), (6, .aload_n 0, 1), (7, .iload_n 1, 1), (8, .bipush 10, 2), (10, .idiv, 1), (11, .invokevirtual 255, 3), (14, .aload_n 0, 1), (15, .bipush 48, 2), (17, .iload_n 1, 1), (18, .bipush 10, 2), (20, .irem, 1), (21, .iadd, 1), (22, .invokevirtual 258, 3), (25, .return_, 1)]
set_option maxRecDepth 100000 in
theorem kX9_writesNumber : dk_ok cX9_writesNumber iX9_writesNumber = true := by decide +kernel
def iX9_writesBehind : dk_T := [(0, .aload_n 0, 1), (1, .iload_n 1, 1), (2, .invokevirtual 258, 3), (5, .aload_n 0, 1), (6, .iload_n 2, 1), (7, .invokevirtual 255, 3), (10, .return_, 1)]
set_option maxRecDepth 100000 in
theorem kX9_writesBehind : dk_ok cX9_writesBehind iX9_writesBehind = true := by decide +kernel
def iX9_writePetition_p0 : dk_T := [(0, .aload_n 0, 1), (1, .iload_n 1, 1), (2, .invokevirtual 133, 3), (5, .ifCond .eq 5, 3), (8, .iconst 0, 1), (9, .ireturn, 1), (10, .aload_n 0, 1), (11, .iload_n 1, 1), (12, .invokevirtual 110, 3), (15, .istore_n 2, 1), (16, .aload_n 0, 1), (17, .iconst 0, 1), (18, .putfield 252, 3), (21, .aload_n 0, 1), (22, .bipush 35, 2), (24, .iload_n 1, 1), (25, .invokevirtual 261, 3), (28, .aload_n 0, 1), (29, .bipush 58, 2), (31, .aload_n 0, 1), (32, .iload_n 2, 1), (33, .iconst 2, 1), (34, .invokevirtual 106, 3), (37, .invokevirtual 261, 3), (40, .aload_n 0, 1), (41, .bipush 62, 2), (43, .aload_n 0, 1), (44, .iload_n 2, 1), (45, .iconst 3, 1), (46, .invokevirtual 106, 3), (49, .invokevirtual 261, 3), (52, .aload_n 0, 1), (53, .bipush 64, 2), (55, .aload_n 0, 1), (56, .iload_n 2, 1), (57, .iconst 1, 1), (58, .invokevirtual 106, 3), (61, .invokevirtual 261, 3), (64, .aload_n 0, 1), (65, .bipush 33, 2), (67, .aload_n 0, 1), (68, .iload_n 2, 1), (69, .iconst 4, 1), (70, .invokevirtual 106, 3), (73, .invokevirtual 261, 3), (76, .aload_n 0, 1), (77, .bipush 43, 2), (79, .aload_n 0, 1), (80, .iload_n 2, 1), (81, .iconst 5, 1), (82, .invokevirtual 106, 3), (85, .invokestatic 120, 3), (88, .invokevirtual 261, 3), (91, .aload_n 0, 1), (92, .bipush 45, 2), (94, .aload_n 0, 1), (95, .iload_n 2, 1), (96, .bipush 6, 2), (98, .invokevirtual 106, 3), (101, .invokestatic 120, 3)]
set_option maxRecDepth 100000 in
theorem kX9_writePetition_p0 : dk_ok cX9_writePetition iX9_writePetition_p0 = true := by decide +kernel
def iX9_writePetition_p1 : dk_T := [(104, .invokevirtual 261, 3), (107, .iconst 0, 1), (108, .istore_n 3, 1), (109, .iload_n 3, 1), (110, .aload_n 0, 1), (111, .iload_n 2, 1), (112, .bipush 7, 2), (114, .invokevirtual 106, 3), (117, .if_icmp .ge 24, 3), (120, .aload_n 0, 1), (121, .bipush 94, 2), (123, .aload_n 0, 1), (124, .iload_n 2, 1), (125, .bipush 8, 2), (127, .iload_n 3, 1), (128, .iadd, 1), (129, .invokevirtual 106, 3), (132, .invokevirtual 261, 3), (135, .iinc 3 1, 3), (138, .goto (-29), 3), (141, .aload_n 0, 1), (142, .getfield 252, 3), (145, .ireturn, 1)]
set_option maxRecDepth 100000 in
theorem kX9_writePetition_p1 : dk_ok cX9_writePetition iX9_writePetition_p1 = true := by decide +kernel
def iX9_writeRow : dk_T := [(0, .aload_n 0, 1), (1, .iload_n 1, 1), (2, .iconst 0, 1), (3, .iconst 4, 1), (4, .invokestatic 68, 3), (7, .ifCond .eq 7, 3), (10, .iconst 0, 1), (11, .goto 4, 3), (14, .iconst 1, 1), (15, .invokevirtual 80, 3), (18, .ifCond .eq 5, 3), (21, .iconst 0, 1), (22, .ireturn, 1), (23, .aload_n 0, 1), (24, .iconst 0, 1), (25, .putfield 252, 3), (28, .iconst 5, 1), (29, .iload_n 1, 1), (30, .imul, 1), (31, .istore_n 2, 1), (32, .iload_n 2, 1), (33, .iconst 5, 1), (34, .iload_n 1, 1), (35, .imul, 1), (36, .iconst 5, 1), (37, .iadd, 1), (38, .if_icmp .ge 34, 3), (41, .aload_n 0, 1), (42, .aload_n 0, 1), (43, .iload_n 2, 1), (44, .invokevirtual 83, 3), (47, .ifCond .ge 8, 3), (50, .bipush 46, 2), (52, .goto 11, 3), (55, .bipush 48, 2), (57, .aload_n 0, 1), (58, .iload_n 2, 1), (59, .invokevirtual 83, 3), (62, .iadd, 1), (63, .invokevirtual 258, 3), (66, .iinc 2 1, 3), (69, .goto (-37), 3), (72, .aload_n 0, 1), (73, .getfield 252, 3), (76, .ireturn, 1)]
set_option maxRecDepth 100000 in
theorem kX9_writeRow : dk_ok cX9_writeRow iX9_writeRow = true := by decide +kernel
def iX9_lineCharacter : dk_T := [(0, .aload_n 0, 1), (1, .iload_n 1, 1), (2, .iconst 0, 1), (3, .aload_n 0, 1), (4, .getfield 252, 3), (7, .iconst 1, 1), (8, .isub, 1), (9, .invokestatic 68, 3), (12, .ifCond .eq 7, 3), (15, .iconst 0, 1), (16, .goto 4, 3), (19, .iconst 1, 1), (20, .invokevirtual 80, 3), (23, .ifCond .eq 8, 3), (26, .bipush 32, 2), (28, .goto 9, 3), (31, .aload_n 0, 1), (32, .getfield 29, 3), (35, .iload_n 1, 1), (36, .caload, 1), (37, .ireturn, 1)]
set_option maxRecDepth 100000 in
theorem kX9_lineCharacter : dk_ok cX9_lineCharacter iX9_lineCharacter = true := by decide +kernel
def iX9_denial : dk_T := [(0, .aload_n 0, 1), (1, .aload_n 0, 1), (2, .getfield 46, 3), (5, .ifCond .ne 7, 3), (8, .iconst 1, 1), (9, .goto 4, 3), (12, .iconst 0, 1), (13, .invokevirtual 80, 3), (16, .ifCond .eq 7, 3), (19, .iconst 0, 1), (20, .goto 7, 3), (23, .aload_n 0, 1), (24, .getfield 46, 3), (27, .ireturn, 1)]
set_option maxRecDepth 100000 in
theorem kX9_denial : dk_ok cX9_denial iX9_denial = true := by decide +kernel
def iX9_denialDetail : dk_T := [(0, .aload_n 0, 1), (1, .aload_n 0, 1), (2, .getfield 46, 3), (5, .ifCond .ne 7, 3), (8, .iconst 1, 1), (9, .goto 4, 3), (12, .iconst 0, 1), (13, .invokevirtual 80, 3), (16, .ifCond .eq 7, 3), (19, .iconst 0, 1), (20, .goto 7, 3), (23, .aload_n 0, 1), (24, .getfield 49, 3), (27, .ireturn, 1)]
set_option maxRecDepth 100000 in
theorem kX9_denialDetail : dk_ok cX9_denialDetail iX9_denialDetail = true := by decide +kernel
def iX9_denialCause : dk_T := [(0, .aload_n 0, 1), (1, .aload_n 0, 1), (2, .getfield 52, 3), (5, .ifCond .ne 7, 3), (8, .iconst 1, 1), (9, .goto 4, 3), (12, .iconst 0, 1), (13, .invokevirtual 80, 3), (16, .ifCond .eq 7, 3), (19, .iconst 0, 1), (20, .goto 7, 3), (23, .aload_n 0, 1), (24, .getfield 52, 3), (27, .ireturn, 1)]
set_option maxRecDepth 100000 in
theorem kX9_denialCause : dk_ok cX9_denialCause iX9_denialCause = true := by decide +kernel
def iX9_denialCauseDetail : dk_T := [(0, .aload_n 0, 1), (1, .aload_n 0, 1), (2, .getfield 52, 3), (5, .ifCond .ne 7, 3), (8, .iconst 1, 1), (9, .goto 4, 3), (12, .iconst 0, 1), (13, .invokevirtual 80, 3), (16, .ifCond .eq 7, 3), (19, .iconst 0, 1), (20, .goto 7, 3), (23, .aload_n 0, 1), (24, .getfield 55, 3), (27, .ireturn, 1)]
set_option maxRecDepth 100000 in
theorem kX9_denialCauseDetail : dk_ok cX9_denialCauseDetail iX9_denialCauseDetail = true := by decide +kernel
def iX9_undo : dk_T := [(0, .aload_n 0, 1), (1, .aload_n 0, 1), (2, .getfield 61, 3), (5, .ifCond .ne 7, 3), (8, .iconst 1, 1), (9, .goto 4, 3), (12, .iconst 0, 1), (13, .invokevirtual 80, 3), (16, .ifCond .eq 5, 3), (19, .iconst 0, 1), (20, .ireturn, 1), (21, .aload_n 0, 1), (22, .dup, 1), (23, .getfield 61, 3), (26, .iconst 1, 1), (27, .isub, 1), (28, .putfield 61, 3), (31, .aload_n 0, 1), (32, .getfield 13, 3), (35, .sipush 219, 3), (38, .aload_n 0, 1), (39, .getfield 61, 3), (42, .imul, 1), (43, .aload_n 0, 1), (44, .getfield 7, 3), (47, .iconst 0, 1), (48, .invokestatic 64, 3), (51, .aload_n 0, 1), (52, .getfield 61, 3), (55, .ireturn, 1)]
set_option maxRecDepth 100000 in
theorem kX9_undo : dk_ok cX9_undo iX9_undo = true := by decide +kernel
def iX9_undoCount : dk_T := [(0, .aload_n 0, 1), (1, .iconst 0, 1), (2, .putfield 39, 3), (5, .aload_n 0, 1), (6, .getfield 61, 3), (9, .ireturn, 1)]
set_option maxRecDepth 100000 in
theorem kX9_undoCount : dk_ok cX9_undoCount iX9_undoCount = true := by decide +kernel
def iX9_saveSnapshot : dk_T := [(0, .aload_n 0, 1), (1, .iconst 0, 1), (2, .putfield 39, 3), (5, .aload_n 0, 1), (6, .iconst 1, 1), (7, .putfield 265, 3), (10, .aload_n 0, 1), (11, .getfield 7, 3), (14, .iconst 0, 1), (15, .aload_n 0, 1), (16, .getfield 16, 3), (19, .iconst 0, 1), (20, .invokestatic 64, 3), (23, .aload_n 0, 1), (24, .getfield 7, 3), (27, .iconst 3, 1), (28, .iaload, 1), (29, .ireturn, 1)]
set_option maxRecDepth 100000 in
theorem kX9_saveSnapshot : dk_ok cX9_saveSnapshot iX9_saveSnapshot = true := by decide +kernel
def iX9_restoreSnapshot : dk_T := [(0, .aload_n 0, 1), (1, .aload_n 0, 1), (2, .getfield 265, 3), (5, .ifCond .eq 7, 3), (8, .iconst 0, 1), (9, .goto 4, 3), (12, .iconst 1, 1), (13, .invokevirtual 80, 3), (16, .ifCond .eq 5, 3), (19, .iconst 0, 1), (20, .ireturn, 1), (21, .aload_n 0, 1), (22, .getfield 16, 3), (25, .iconst 0, 1), (26, .aload_n 0, 1), (27, .getfield 7, 3), (30, .iconst 0, 1), (31, .invokestatic 64, 3), (34, .aload_n 0, 1), (35, .iconst 0, 1), (36, .putfield 61, 3), (39, .aload_n 0, 1), (40, .getfield 7, 3), (43, .iconst 3, 1), (44, .iaload, 1), (45, .ireturn, 1)]
set_option maxRecDepth 100000 in
theorem kX9_restoreSnapshot : dk_ok cX9_restoreSnapshot iX9_restoreSnapshot = true := by decide +kernel
def iJx00060_init_a7421 : dk_T := [(0, .aload_n 0, 1), (1, .aload_n 1, 1), (2, .invokespecial 7, 3), (5, .return_, 1)]
set_option maxRecDepth 100000 in
theorem kJx00060_init_a7421 : dk_ok cJx00060_init_a7421 iJx00060_init_a7421 = true := by decide +kernel
def iJ6_bitCount_0f7a4 : dk_T := [(0, .iload_n 0, 1), (1, .iload_n 0, 1), (2, .iconst 1, 1), (3, .iushr, 1), (4, .ldc_w 265, 3), (7, .iand, 1), (8, .isub, 1), (9, .istore_n 0, 1), (10, .iload_n 0, 1), (11, .ldc_w 266, 3), (14, .iand, 1), (15, .iload_n 0, 1), (16, .iconst 2, 1), (17, .iushr, 1), (18, .ldc_w 266, 3), (21, .iand, 1), (22, .iadd, 1), (23, .istore_n 0, 1), (24, .iload_n 0, 1), (25, .iload_n 0, 1), (26, .iconst 4, 1), (27, .iushr, 1), (28, .iadd, 1), (29, .ldc_w 267, 3), (32, .iand, 1), (33, .istore_n 0, 1), (34, .iload_n 0, 1), (35, .iload_n 0, 1), (36, .bipush 8, 2), (38, .iushr, 1), (39, .iadd, 1), (40, .istore_n 0, 1), (41, .iload_n 0, 1), (42, .iload_n 0, 1), (43, .bipush 16, 2), (45, .iushr, 1), (46, .iadd, 1), (47, .istore_n 0, 1), (48, .iload_n 0, 1), (49, .bipush 63, 2), (51, .iand, 1), (52, .ireturn, 1)]
set_option maxRecDepth 100000 in
theorem kJ6_bitCount_0f7a4 : dk_ok cJ6_bitCount_0f7a4 iJ6_bitCount_0f7a4 = true := by decide +kernel
def iJ0_length_8abf5 : dk_T := [(0, .aload_n 0, 1), (1, .getfield 9, 3), (4, .arraylength, 1), (5, .aload_n 0, 1), (6, .invokevirtual 335, 3), (9, .ishr, 1), (10, .ireturn, 1)]
set_option maxRecDepth 100000 in
theorem kJ0_length_8abf5 : dk_ok cJ0_length_8abf5 iJ0_length_8abf5 = true := by decide +kernel
def iJ0_isEmpty_aae02 : dk_T := [(0, .aload_n 0, 1), (1, .getfield 9, 3), (4, .arraylength, 1), (5, .ifCond .ne 7, 3), (8, .iconst 1, 1), (9, .goto 4, 3), (12, .iconst 0, 1), (13, .ireturn, 1)]
set_option maxRecDepth 100000 in
theorem kJ0_isEmpty_aae02 : dk_ok cJ0_isEmpty_aae02 iJ0_isEmpty_aae02 = true := by decide +kernel
def iJ0_charAt_5068e : dk_T := [(0, .aload_n 0, 1), (1, .invokevirtual 492, 3), (4, .ifCond .eq 12, 3), (7, .aload_n 0, 1), (8, .getfield 9, 3), (11, .iload_n 1, 1), (12, .invokestatic 495, 3), (15, .ireturn, 1), (16, .aload_n 0, 1), (17, .getfield 9, 3), (20, .iload_n 1, 1), (21, .invokestatic 498, 3), (24, .ireturn, 1)]
set_option maxRecDepth 100000 in
theorem kJ0_charAt_5068e : dk_ok cJ0_charAt_5068e iJ0_charAt_5068e = true := by decide +kernel
def iJ0_coder_7d493 : dk_T := [(0, .getstatic 38, 3), (3, .ifCond .eq 10, 3), (6, .aload_n 0, 1), (7, .getfield 15, 3), (10, .goto 4, 3), (13, .iconst 1, 1), (14, .ireturn, 1)]
set_option maxRecDepth 100000 in
theorem kJ0_coder_7d493 : dk_ok cJ0_coder_7d493 iJ0_coder_7d493 = true := by decide +kernel
def iJ0_isLatin1_aae02 : dk_T := [(0, .getstatic 38, 3), (3, .ifCond .eq 14, 3), (6, .aload_n 0, 1), (7, .getfield 15, 3), (10, .ifCond .ne 7, 3), (13, .iconst 1, 1), (14, .goto 4, 3), (17, .iconst 0, 1), (18, .ireturn, 1)]
set_option maxRecDepth 100000 in
theorem kJ0_isLatin1_aae02 : dk_ok cJ0_isLatin1_aae02 iJ0_isLatin1_aae02 = true := by decide +kernel
def iJ0_checkIndex_df160 : dk_T := [(0, .iload_n 0, 1), (1, .iload_n 1, 1), (2, .getstatic 1053, 3), (5, .invokestatic 1059, 3), (8, .pop, 1), (9, .return_, 1)]
set_option maxRecDepth 100000 in
theorem kJ0_checkIndex_df160 : dk_ok cJ0_checkIndex_df160 iJ0_checkIndex_df160 = true := by decide +kernel
def iJ1_charAt_3b067 : dk_T := [(0, .iload_n 1, 1), (1, .aload_n 0, 1), (2, .arraylength, 1), (3, .invokestatic 9, 3), (6, .aload_n 0, 1), (7, .iload_n 1, 1), (8, .baload, 1), (9, .sipush 255, 3), (12, .iand, 1), (13, .i2c, 1), (14, .ireturn, 1)]
set_option maxRecDepth 100000 in
theorem kJ1_charAt_3b067 : dk_ok cJ1_charAt_3b067 iJ1_charAt_3b067 = true := by decide +kernel
def iJ2_getChar_3b067 : dk_T := [(0, .getstatic 44, 3), (3, .ifCond .ne 25, 3), (6, .iload_n 1, 1), (7, .ifCond .lt 11, 3), (10, .iload_n 1, 1), (11, .aload_n 0, 1), (12, .invokestatic 48, 3), (15, .if_icmp .lt 13, 3), (18, .new 52, 3), (21, .dup, 1), (22, .ldc 54, 2), (24, .invokespecial 56, 3), (27, .athrow, 1), (28, .iload_n 1, 1), (29, .iconst 1, 1), (30, .ishl, 1), (31, .istore_n 1, 1), (32, .aload_n 0, 1), (33, .iload_n 1, 1), (34, .iinc 1 1, 3), (37, .baload, 1), (38, .sipush 255, 3), (41, .iand, 1), (42, .getstatic 59, 3), (45, .ishl, 1), (46, .aload_n 0, 1), (47, .iload_n 1, 1), (48, .baload, 1), (49, .sipush 255, 3), (52, .iand, 1), (53, .getstatic 63, 3), (56, .ishl, 1), (57, .ior, 1), (58, .i2c, 1), (59, .ireturn, 1)]
set_option maxRecDepth 100000 in
theorem kJ2_getChar_3b067 : dk_ok cJ2_getChar_3b067 iJ2_getChar_3b067 = true := by decide +kernel
def iJ2_length_9d52b : dk_T := [(0, .aload_n 0, 1), (1, .arraylength, 1), (2, .iconst 1, 1), (3, .ishr, 1), (4, .ireturn, 1)]
set_option maxRecDepth 100000 in
theorem kJ2_length_9d52b : dk_ok cJ2_length_9d52b iJ2_length_9d52b = true := by decide +kernel
def iJ2_charAt_3b067 : dk_T := [(0, .iload_n 1, 1), (1, .aload_n 0, 1), (2, .invokestatic 67, 3), (5, .aload_n 0, 1), (6, .iload_n 1, 1), (7, .invokestatic 71, 3), (10, .ireturn, 1)]
set_option maxRecDepth 100000 in
theorem kJ2_charAt_3b067 : dk_ok cJ2_charAt_3b067 iJ2_charAt_3b067 = true := by decide +kernel
def iJ2_checkIndex_2214a : dk_T := [(0, .iload_n 0, 1), (1, .aload_n 1, 1), (2, .invokestatic 48, 3), (5, .invokestatic 414, 3), (8, .return_, 1)]
set_option maxRecDepth 100000 in
theorem kJ2_checkIndex_2214a : dk_ok cJ2_checkIndex_2214a iJ2_checkIndex_2214a = true := by decide +kernel
def iJ3_checkIndex_8e157 : dk_T := [(0, .iload_n 0, 1), (1, .ifCond .lt 8, 3), (4, .iload_n 0, 1), (5, .iload_n 1, 1), (6, .if_icmp .lt 10, 3), (9, .aload_n 2, 1), (10, .iload_n 0, 1), (11, .iload_n 1, 1), (12, .invokestatic 95, 3), (15, .athrow, 1), (16, .iload_n 0, 1), (17, .ireturn, 1)]
set_option maxRecDepth 100000 in
theorem kJ3_checkIndex_8e157 : dk_ok cJ3_checkIndex_8e157 iJ3_checkIndex_8e157 = true := by decide +kernel
def iL_addStone : dk_T := [(0, .aload_n 3, 1), (1, .iconst 0, 1), (2, .aload_n 0, 1), (3, .iload_n 1, 1), (4, .iload_n 2, 1), (5, .invokevirtual 7, 3), (8, .i2l, 1), (9, .lastore, 1), (10, .goto 15, 3), (13, .astore 4, 2), (15, .iconst 1, 1), (16, .ireturn, 1), (17, .astore 4, 2), (19, .iconst 2, 1), (20, .ireturn, 1), (21, .astore 4, 2), (23, .iconst 3, 1), (24, .ireturn, 1), (25, .iconst 0, 1), (26, .ireturn, 1)]
set_option maxRecDepth 100000 in
theorem kL_addStone : dk_ok cL_addStone iL_addStone = true := by decide +kernel
def iL_addOfficer : dk_T := [(0, .aload_n 2, 1), (1, .iconst 0, 1), (2, .aload_n 0, 1), (3, .iload_n 1, 1), (4, .invokevirtual 19, 3), (7, .i2l, 1), (8, .lastore, 1), (9, .goto 9, 3), (12, .astore_n 3, 1), (13, .iconst 1, 1), (14, .ireturn, 1), (15, .astore_n 3, 1), (16, .iconst 2, 1), (17, .ireturn, 1), (18, .iconst 0, 1), (19, .ireturn, 1)]
set_option maxRecDepth 100000 in
theorem kL_addOfficer : dk_ok cL_addOfficer iL_addOfficer = true := by decide +kernel
def iL_cellOf : dk_T := [(0, .aload_n 2, 1), (1, .iconst 0, 1), (2, .aload_n 0, 1), (3, .iload_n 1, 1), (4, .invokevirtual 23, 3), (7, .i2l, 1), (8, .lastore, 1), (9, .goto 6, 3), (12, .astore_n 3, 1), (13, .iconst 1, 1), (14, .ireturn, 1), (15, .iconst 0, 1), (16, .ireturn, 1)]
set_option maxRecDepth 100000 in
theorem kL_cellOf : dk_ok cL_cellOf iL_cellOf = true := by decide +kernel
def iL_weightOf : dk_T := [(0, .aload_n 2, 1), (1, .iconst 0, 1), (2, .aload_n 0, 1), (3, .iload_n 1, 1), (4, .invokevirtual 26, 3), (7, .i2l, 1), (8, .lastore, 1), (9, .goto 6, 3), (12, .astore_n 3, 1), (13, .iconst 1, 1), (14, .ireturn, 1), (15, .iconst 0, 1), (16, .ireturn, 1)]
set_option maxRecDepth 100000 in
theorem kL_weightOf : dk_ok cL_weightOf iL_weightOf = true := by decide +kernel
def iL_stoneIn : dk_T := [(0, .aload_n 2, 1), (1, .iconst 0, 1), (2, .aload_n 0, 1), (3, .iload_n 1, 1), (4, .invokevirtual 29, 3), (7, .i2l, 1), (8, .lastore, 1), (9, .goto 9, 3), (12, .astore_n 3, 1), (13, .iconst 1, 1), (14, .ireturn, 1), (15, .astore_n 3, 1), (16, .iconst 2, 1), (17, .ireturn, 1), (18, .iconst 0, 1), (19, .ireturn, 1)]
set_option maxRecDepth 100000 in
theorem kL_stoneIn : dk_ok cL_stoneIn iL_stoneIn = true := by decide +kernel
def iL_rankOf : dk_T := [(0, .aload_n 2, 1), (1, .iconst 0, 1), (2, .aload_n 0, 1), (3, .iload_n 1, 1), (4, .invokevirtual 34, 3), (7, .i2l, 1), (8, .lastore, 1), (9, .goto 6, 3), (12, .astore_n 3, 1), (13, .iconst 1, 1), (14, .ireturn, 1), (15, .iconst 0, 1), (16, .ireturn, 1)]
set_option maxRecDepth 100000 in
theorem kL_rankOf : dk_ok cL_rankOf iL_rankOf = true := by decide +kernel
def iL_petitionsOf : dk_T := [(0, .aload_n 2, 1), (1, .iconst 0, 1), (2, .aload_n 0, 1), (3, .iload_n 1, 1), (4, .invokevirtual 37, 3), (7, .i2l, 1), (8, .lastore, 1), (9, .goto 6, 3), (12, .astore_n 3, 1), (13, .iconst 1, 1), (14, .ireturn, 1), (15, .iconst 0, 1), (16, .ireturn, 1)]
set_option maxRecDepth 100000 in
theorem kL_petitionsOf : dk_ok cL_petitionsOf iL_petitionsOf = true := by decide +kernel
def iL_file : dk_T := [(0, .aload 5, 2), (2, .iconst 0, 1), (3, .aload_n 0, 1), (4, .iload_n 1, 1), (5, .iload_n 2, 1), (6, .iload_n 3, 1), (7, .iload 4, 2), (9, .invokevirtual 40, 3), (12, .i2l, 1), (13, .lastore, 1), (14, .goto 15, 3), (17, .astore 6, 2), (19, .iconst 1, 1), (20, .ireturn, 1), (21, .astore 6, 2), (23, .iconst 2, 1), (24, .ireturn, 1), (25, .astore 6, 2), (27, .iconst 3, 1), (28, .ireturn, 1), (29, .iconst 0, 1), (30, .ireturn, 1)]
set_option maxRecDepth 100000 in
theorem kL_file : dk_ok cL_file iL_file = true := by decide +kernel
def iL_vote : dk_T := [(0, .aload 4, 2), (2, .iconst 0, 1), (3, .aload_n 0, 1), (4, .iload_n 1, 1), (5, .iload_n 2, 1), (6, .iload_n 3, 1), (7, .invokevirtual 44, 3), (10, .i2l, 1), (11, .lastore, 1), (12, .goto 15, 3), (15, .astore 5, 2), (17, .iconst 1, 1), (18, .ireturn, 1), (19, .astore 5, 2), (21, .iconst 2, 1), (22, .ireturn, 1), (23, .astore 5, 2), (25, .iconst 3, 1), (26, .ireturn, 1), (27, .iconst 0, 1), (28, .ireturn, 1)]
set_option maxRecDepth 100000 in
theorem kL_vote : dk_ok cL_vote iL_vote = true := by decide +kernel
def iL_cite : dk_T := [(0, .aload_n 3, 1), (1, .iconst 0, 1), (2, .aload_n 0, 1), (3, .iload_n 1, 1), (4, .iload_n 2, 1), (5, .invokevirtual 48, 3), (8, .i2l, 1), (9, .lastore, 1), (10, .goto 11, 3), (13, .astore 4, 2), (15, .iconst 1, 1), (16, .ireturn, 1), (17, .astore 4, 2), (19, .iconst 2, 1), (20, .ireturn, 1), (21, .iconst 0, 1), (22, .ireturn, 1)]
set_option maxRecDepth 100000 in
theorem kL_cite : dk_ok cL_cite iL_cite = true := by decide +kernel
def iL_veto : dk_T := [(0, .aload_n 3, 1), (1, .iconst 0, 1), (2, .aload_n 0, 1), (3, .iload_n 1, 1), (4, .iload_n 2, 1), (5, .invokevirtual 51, 3), (8, .i2l, 1), (9, .lastore, 1), (10, .goto 15, 3), (13, .astore 4, 2), (15, .iconst 1, 1), (16, .ireturn, 1), (17, .astore 4, 2), (19, .iconst 2, 1), (20, .ireturn, 1), (21, .astore 4, 2), (23, .iconst 3, 1), (24, .ireturn, 1), (25, .iconst 0, 1), (26, .ireturn, 1)]
set_option maxRecDepth 100000 in
theorem kL_veto : dk_ok cL_veto iL_veto = true := by decide +kernel
def iL_withdraw : dk_T := [(0, .aload_n 2, 1), (1, .iconst 0, 1), (2, .aload_n 0, 1), (3, .iload_n 1, 1), (4, .invokevirtual 54, 3), (7, .i2l, 1), (8, .lastore, 1), (9, .goto 6, 3), (12, .astore_n 3, 1), (13, .iconst 1, 1), (14, .ireturn, 1), (15, .iconst 0, 1), (16, .ireturn, 1)]
set_option maxRecDepth 100000 in
theorem kL_withdraw : dk_ok cL_withdraw iL_withdraw = true := by decide +kernel
def iL_petitionAt : dk_T := [(0, .aload_n 2, 1), (1, .iconst 0, 1), (2, .aload_n 0, 1), (3, .iload_n 1, 1), (4, .invokevirtual 57, 3), (7, .i2l, 1), (8, .lastore, 1), (9, .goto 6, 3), (12, .astore_n 3, 1), (13, .iconst 1, 1), (14, .ireturn, 1), (15, .iconst 0, 1), (16, .ireturn, 1)]
set_option maxRecDepth 100000 in
theorem kL_petitionAt : dk_ok cL_petitionAt iL_petitionAt = true := by decide +kernel
def iL_positionOf : dk_T := [(0, .aload_n 2, 1), (1, .iconst 0, 1), (2, .aload_n 0, 1), (3, .iload_n 1, 1), (4, .invokevirtual 60, 3), (7, .i2l, 1), (8, .lastore, 1), (9, .goto 6, 3), (12, .astore_n 3, 1), (13, .iconst 1, 1), (14, .ireturn, 1), (15, .iconst 0, 1), (16, .ireturn, 1)]
set_option maxRecDepth 100000 in
theorem kL_positionOf : dk_ok cL_positionOf iL_positionOf = true := by decide +kernel
def iL_stoneOf : dk_T := [(0, .aload_n 2, 1), (1, .iconst 0, 1), (2, .aload_n 0, 1), (3, .iload_n 1, 1), (4, .invokevirtual 63, 3), (7, .i2l, 1), (8, .lastore, 1), (9, .goto 6, 3), (12, .astore_n 3, 1), (13, .iconst 1, 1), (14, .ireturn, 1), (15, .iconst 0, 1), (16, .ireturn, 1)]
set_option maxRecDepth 100000 in
theorem kL_stoneOf : dk_ok cL_stoneOf iL_stoneOf = true := by decide +kernel
def iL_targetOf : dk_T := [(0, .aload_n 2, 1), (1, .iconst 0, 1), (2, .aload_n 0, 1), (3, .iload_n 1, 1), (4, .invokevirtual 66, 3), (7, .i2l, 1), (8, .lastore, 1), (9, .goto 6, 3), (12, .astore_n 3, 1), (13, .iconst 1, 1), (14, .ireturn, 1), (15, .iconst 0, 1), (16, .ireturn, 1)]
set_option maxRecDepth 100000 in
theorem kL_targetOf : dk_ok cL_targetOf iL_targetOf = true := by decide +kernel
def iL_votesFor : dk_T := [(0, .aload_n 2, 1), (1, .iconst 0, 1), (2, .aload_n 0, 1), (3, .iload_n 1, 1), (4, .invokevirtual 69, 3), (7, .i2l, 1), (8, .lastore, 1), (9, .goto 6, 3), (12, .astore_n 3, 1), (13, .iconst 1, 1), (14, .ireturn, 1), (15, .iconst 0, 1), (16, .ireturn, 1)]
set_option maxRecDepth 100000 in
theorem kL_votesFor : dk_ok cL_votesFor iL_votesFor = true := by decide +kernel
def iL_votesAgainst : dk_T := [(0, .aload_n 2, 1), (1, .iconst 0, 1), (2, .aload_n 0, 1), (3, .iload_n 1, 1), (4, .invokevirtual 72, 3), (7, .i2l, 1), (8, .lastore, 1), (9, .goto 6, 3), (12, .astore_n 3, 1), (13, .iconst 1, 1), (14, .ireturn, 1), (15, .iconst 0, 1), (16, .ireturn, 1)]
set_option maxRecDepth 100000 in
theorem kL_votesAgainst : dk_ok cL_votesAgainst iL_votesAgainst = true := by decide +kernel
def iL_wouldBeGranted : dk_T := [(0, .aload_n 2, 1), (1, .iconst 0, 1), (2, .aload_n 0, 1), (3, .iload_n 1, 1), (4, .invokevirtual 75, 3), (7, .ifCond .eq 7, 3), (10, .lconst 1, 1), (11, .goto 4, 3), (14, .lconst 0, 1), (15, .lastore, 1), (16, .goto 6, 3), (19, .astore_n 3, 1), (20, .iconst 1, 1), (21, .ireturn, 1), (22, .iconst 0, 1), (23, .ireturn, 1)]
set_option maxRecDepth 100000 in
theorem kL_wouldBeGranted : dk_ok cL_wouldBeGranted iL_wouldBeGranted = true := by decide +kernel
def iL_setQuorum : dk_T := [(0, .aload_n 2, 1), (1, .iconst 0, 1), (2, .aload_n 0, 1), (3, .iload_n 1, 1), (4, .invokevirtual 79, 3), (7, .i2l, 1), (8, .lastore, 1), (9, .goto 9, 3), (12, .astore_n 3, 1), (13, .iconst 1, 1), (14, .ireturn, 1), (15, .astore_n 3, 1), (16, .iconst 2, 1), (17, .ireturn, 1), (18, .iconst 0, 1), (19, .ireturn, 1)]
set_option maxRecDepth 100000 in
theorem kL_setQuorum : dk_ok cL_setQuorum iL_setQuorum = true := by decide +kernel
def iL_decide : dk_T := [(0, .aload_n 1, 1), (1, .iconst 0, 1), (2, .aload_n 0, 1), (3, .invokevirtual 82, 3), (6, .i2l, 1), (7, .lastore, 1), (8, .goto 6, 3), (11, .astore_n 2, 1), (12, .iconst 1, 1), (13, .ireturn, 1), (14, .iconst 0, 1), (15, .ireturn, 1)]
set_option maxRecDepth 100000 in
theorem kL_decide : dk_ok cL_decide iL_decide = true := by decide +kernel
def iL_isGranted : dk_T := [(0, .aload_n 2, 1), (1, .iconst 0, 1), (2, .aload_n 0, 1), (3, .iload_n 1, 1), (4, .invokevirtual 86, 3), (7, .ifCond .eq 7, 3), (10, .lconst 1, 1), (11, .goto 4, 3), (14, .lconst 0, 1), (15, .lastore, 1), (16, .goto 6, 3), (19, .astore_n 3, 1), (20, .iconst 1, 1), (21, .ireturn, 1), (22, .iconst 0, 1), (23, .ireturn, 1)]
set_option maxRecDepth 100000 in
theorem kL_isGranted : dk_ok cL_isGranted iL_isGranted = true := by decide +kernel
def iL_isCarriedOut : dk_T := [(0, .aload_n 2, 1), (1, .iconst 0, 1), (2, .aload_n 0, 1), (3, .iload_n 1, 1), (4, .invokevirtual 89, 3), (7, .ifCond .eq 7, 3), (10, .lconst 1, 1), (11, .goto 4, 3), (14, .lconst 0, 1), (15, .lastore, 1), (16, .goto 6, 3), (19, .astore_n 3, 1), (20, .iconst 1, 1), (21, .ireturn, 1), (22, .iconst 0, 1), (23, .ireturn, 1)]
set_option maxRecDepth 100000 in
theorem kL_isCarriedOut : dk_ok cL_isCarriedOut iL_isCarriedOut = true := by decide +kernel
def iL_citationCount : dk_T := [(0, .aload_n 2, 1), (1, .iconst 0, 1), (2, .aload_n 0, 1), (3, .iload_n 1, 1), (4, .invokevirtual 92, 3), (7, .i2l, 1), (8, .lastore, 1), (9, .goto 6, 3), (12, .astore_n 3, 1), (13, .iconst 1, 1), (14, .ireturn, 1), (15, .iconst 0, 1), (16, .ireturn, 1)]
set_option maxRecDepth 100000 in
theorem kL_citationCount : dk_ok cL_citationCount iL_citationCount = true := by decide +kernel
def iL_citation : dk_T := [(0, .aload_n 3, 1), (1, .iconst 0, 1), (2, .aload_n 0, 1), (3, .iload_n 1, 1), (4, .iload_n 2, 1), (5, .invokevirtual 95, 3), (8, .i2l, 1), (9, .lastore, 1), (10, .goto 11, 3), (13, .astore 4, 2), (15, .iconst 1, 1), (16, .ireturn, 1), (17, .astore 4, 2), (19, .iconst 2, 1), (20, .ireturn, 1), (21, .iconst 0, 1), (22, .ireturn, 1)]
set_option maxRecDepth 100000 in
theorem kL_citation : dk_ok cL_citation iL_citation = true := by decide +kernel
def iL_citedBy : dk_T := [(0, .aload_n 2, 1), (1, .iconst 0, 1), (2, .aload_n 0, 1), (3, .iload_n 1, 1), (4, .invokevirtual 98, 3), (7, .i2l, 1), (8, .lastore, 1), (9, .goto 6, 3), (12, .astore_n 3, 1), (13, .iconst 1, 1), (14, .ireturn, 1), (15, .iconst 0, 1), (16, .ireturn, 1)]
set_option maxRecDepth 100000 in
theorem kL_citedBy : dk_ok cL_citedBy iL_citedBy = true := by decide +kernel
def iL_depth : dk_T := [(0, .aload_n 2, 1), (1, .iconst 0, 1), (2, .aload_n 0, 1), (3, .iload_n 1, 1), (4, .invokevirtual 101, 3), (7, .i2l, 1), (8, .lastore, 1), (9, .goto 6, 3), (12, .astore_n 3, 1), (13, .iconst 1, 1), (14, .ireturn, 1), (15, .iconst 0, 1), (16, .ireturn, 1)]
set_option maxRecDepth 100000 in
theorem kL_depth : dk_ok cL_depth iL_depth = true := by decide +kernel
def iL_isBasedOn : dk_T := [(0, .aload_n 3, 1), (1, .iconst 0, 1), (2, .aload_n 0, 1), (3, .iload_n 1, 1), (4, .iload_n 2, 1), (5, .invokevirtual 104, 3), (8, .ifCond .eq 7, 3), (11, .lconst 1, 1), (12, .goto 4, 3), (15, .lconst 0, 1), (16, .lastore, 1), (17, .goto 7, 3), (20, .astore 4, 2), (22, .iconst 1, 1), (23, .ireturn, 1), (24, .iconst 0, 1), (25, .ireturn, 1)]
set_option maxRecDepth 100000 in
theorem kL_isBasedOn : dk_ok cL_isBasedOn iL_isBasedOn = true := by decide +kernel
def iL_influence : dk_T := [(0, .aload_n 2, 1), (1, .iconst 0, 1), (2, .aload_n 0, 1), (3, .iload_n 1, 1), (4, .invokevirtual 108, 3), (7, .i2l, 1), (8, .lastore, 1), (9, .goto 6, 3), (12, .astore_n 3, 1), (13, .iconst 1, 1), (14, .ireturn, 1), (15, .iconst 0, 1), (16, .ireturn, 1)]
set_option maxRecDepth 100000 in
theorem kL_influence : dk_ok cL_influence iL_influence = true := by decide +kernel
def iL_influenceByMarking : dk_T := [(0, .aload_n 2, 1), (1, .iconst 0, 1), (2, .aload_n 0, 1), (3, .iload_n 1, 1), (4, .invokevirtual 111, 3), (7, .i2l, 1), (8, .lastore, 1), (9, .goto 6, 3), (12, .astore_n 3, 1), (13, .iconst 1, 1), (14, .ireturn, 1), (15, .iconst 0, 1), (16, .ireturn, 1)]
set_option maxRecDepth 100000 in
theorem kL_influenceByMarking : dk_ok cL_influenceByMarking iL_influenceByMarking = true := by decide +kernel
def iL_rulingByInfluence : dk_T := [(0, .aload_n 2, 1), (1, .iconst 0, 1), (2, .aload_n 0, 1), (3, .iload_n 1, 1), (4, .invokevirtual 114, 3), (7, .i2l, 1), (8, .lastore, 1), (9, .goto 6, 3), (12, .astore_n 3, 1), (13, .iconst 1, 1), (14, .ireturn, 1), (15, .iconst 0, 1), (16, .ireturn, 1)]
set_option maxRecDepth 100000 in
theorem kL_rulingByInfluence : dk_ok cL_rulingByInfluence iL_rulingByInfluence = true := by decide +kernel
def iL_meanVotes : dk_T := [(0, .aload_n 1, 1), (1, .iconst 0, 1), (2, .aload_n 0, 1), (3, .invokevirtual 117, 3), (6, .dastore, 1), (7, .goto 6, 3), (10, .astore_n 2, 1), (11, .iconst 1, 1), (12, .ireturn, 1), (13, .iconst 0, 1), (14, .ireturn, 1)]
set_option maxRecDepth 100000 in
theorem kL_meanVotes : dk_ok cL_meanVotes iL_meanVotes = true := by decide +kernel
def iL_grantedShare : dk_T := [(0, .aload_n 1, 1), (1, .iconst 0, 1), (2, .aload_n 0, 1), (3, .invokevirtual 123, 3), (6, .f2d, 1), (7, .dastore, 1), (8, .goto 6, 3), (11, .astore_n 2, 1), (12, .iconst 1, 1), (13, .ireturn, 1), (14, .iconst 0, 1), (15, .ireturn, 1)]
set_option maxRecDepth 100000 in
theorem kL_grantedShare : dk_ok cL_grantedShare iL_grantedShare = true := by decide +kernel
def iL_feed : dk_T := [(0, .aload_n 2, 1), (1, .iconst 0, 1), (2, .aload_n 0, 1), (3, .iload_n 1, 1), (4, .invokevirtual 127, 3), (7, .i2l, 1), (8, .lastore, 1), (9, .goto 6, 3), (12, .astore_n 3, 1), (13, .iconst 1, 1), (14, .ireturn, 1), (15, .iconst 0, 1), (16, .ireturn, 1)]
set_option maxRecDepth 100000 in
theorem kL_feed : dk_ok cL_feed iL_feed = true := by decide +kernel
def iL_execute : dk_T := [(0, .aload_n 1, 1), (1, .iconst 0, 1), (2, .aload_n 0, 1), (3, .invokevirtual 133, 3), (6, .i2l, 1), (7, .lastore, 1), (8, .goto 9, 3), (11, .astore_n 2, 1), (12, .iconst 1, 1), (13, .ireturn, 1), (14, .astore_n 2, 1), (15, .iconst 2, 1), (16, .ireturn, 1), (17, .iconst 0, 1), (18, .ireturn, 1)]
set_option maxRecDepth 100000 in
theorem kL_execute : dk_ok cL_execute iL_execute = true := by decide +kernel
def iL_faultPosition : dk_T := [(0, .aload_n 1, 1), (1, .iconst 0, 1), (2, .aload_n 0, 1), (3, .invokevirtual 136, 3), (6, .i2l, 1), (7, .lastore, 1), (8, .goto 6, 3), (11, .astore_n 2, 1), (12, .iconst 1, 1), (13, .ireturn, 1), (14, .iconst 0, 1), (15, .ireturn, 1)]
set_option maxRecDepth 100000 in
theorem kL_faultPosition : dk_ok cL_faultPosition iL_faultPosition = true := by decide +kernel
def iL_writePetition : dk_T := [(0, .aload_n 2, 1), (1, .iconst 0, 1), (2, .aload_n 0, 1), (3, .iload_n 1, 1), (4, .invokevirtual 139, 3), (7, .i2l, 1), (8, .lastore, 1), (9, .goto 6, 3), (12, .astore_n 3, 1), (13, .iconst 1, 1), (14, .ireturn, 1), (15, .iconst 0, 1), (16, .ireturn, 1)]
set_option maxRecDepth 100000 in
theorem kL_writePetition : dk_ok cL_writePetition iL_writePetition = true := by decide +kernel
def iL_writeRow : dk_T := [(0, .aload_n 2, 1), (1, .iconst 0, 1), (2, .aload_n 0, 1), (3, .iload_n 1, 1), (4, .invokevirtual 142, 3), (7, .i2l, 1), (8, .lastore, 1), (9, .goto 6, 3), (12, .astore_n 3, 1), (13, .iconst 1, 1), (14, .ireturn, 1), (15, .iconst 0, 1), (16, .ireturn, 1)]
set_option maxRecDepth 100000 in
theorem kL_writeRow : dk_ok cL_writeRow iL_writeRow = true := by decide +kernel
def iL_lineCharacter : dk_T := [(0, .aload_n 2, 1), (1, .iconst 0, 1), (2, .aload_n 0, 1), (3, .iload_n 1, 1), (4, .invokevirtual 145, 3), (7, .i2l, 1), (8, .lastore, 1), (9, .goto 6, 3), (12, .astore_n 3, 1), (13, .iconst 1, 1), (14, .ireturn, 1), (15, .iconst 0, 1), (16, .ireturn, 1)]
set_option maxRecDepth 100000 in
theorem kL_lineCharacter : dk_ok cL_lineCharacter iL_lineCharacter = true := by decide +kernel
def iL_denial : dk_T := [(0, .aload_n 1, 1), (1, .iconst 0, 1), (2, .aload_n 0, 1), (3, .invokevirtual 149, 3), (6, .i2l, 1), (7, .lastore, 1), (8, .goto 6, 3), (11, .astore_n 2, 1), (12, .iconst 1, 1), (13, .ireturn, 1), (14, .iconst 0, 1), (15, .ireturn, 1)]
set_option maxRecDepth 100000 in
theorem kL_denial : dk_ok cL_denial iL_denial = true := by decide +kernel
def iL_denialDetail : dk_T := [(0, .aload_n 1, 1), (1, .iconst 0, 1), (2, .aload_n 0, 1), (3, .invokevirtual 152, 3), (6, .i2l, 1), (7, .lastore, 1), (8, .goto 6, 3), (11, .astore_n 2, 1), (12, .iconst 1, 1), (13, .ireturn, 1), (14, .iconst 0, 1), (15, .ireturn, 1)]
set_option maxRecDepth 100000 in
theorem kL_denialDetail : dk_ok cL_denialDetail iL_denialDetail = true := by decide +kernel
def iL_denialCause : dk_T := [(0, .aload_n 1, 1), (1, .iconst 0, 1), (2, .aload_n 0, 1), (3, .invokevirtual 155, 3), (6, .i2l, 1), (7, .lastore, 1), (8, .goto 6, 3), (11, .astore_n 2, 1), (12, .iconst 1, 1), (13, .ireturn, 1), (14, .iconst 0, 1), (15, .ireturn, 1)]
set_option maxRecDepth 100000 in
theorem kL_denialCause : dk_ok cL_denialCause iL_denialCause = true := by decide +kernel
def iL_denialCauseDetail : dk_T := [(0, .aload_n 1, 1), (1, .iconst 0, 1), (2, .aload_n 0, 1), (3, .invokevirtual 158, 3), (6, .i2l, 1), (7, .lastore, 1), (8, .goto 6, 3), (11, .astore_n 2, 1), (12, .iconst 1, 1), (13, .ireturn, 1), (14, .iconst 0, 1), (15, .ireturn, 1)]
set_option maxRecDepth 100000 in
theorem kL_denialCauseDetail : dk_ok cL_denialCauseDetail iL_denialCauseDetail = true := by decide +kernel
def iL_undo : dk_T := [(0, .aload_n 1, 1), (1, .iconst 0, 1), (2, .aload_n 0, 1), (3, .invokevirtual 161, 3), (6, .i2l, 1), (7, .lastore, 1), (8, .goto 6, 3), (11, .astore_n 2, 1), (12, .iconst 1, 1), (13, .ireturn, 1), (14, .iconst 0, 1), (15, .ireturn, 1)]
set_option maxRecDepth 100000 in
theorem kL_undo : dk_ok cL_undo iL_undo = true := by decide +kernel
def iL_restoreSnapshot : dk_T := [(0, .aload_n 1, 1), (1, .iconst 0, 1), (2, .aload_n 0, 1), (3, .invokevirtual 164, 3), (6, .i2l, 1), (7, .lastore, 1), (8, .goto 6, 3), (11, .astore_n 2, 1), (12, .iconst 1, 1), (13, .ireturn, 1), (14, .iconst 0, 1), (15, .ireturn, 1)]
set_option maxRecDepth 100000 in
theorem kL_restoreSnapshot : dk_ok cL_restoreSnapshot iL_restoreSnapshot = true := by decide +kernel
end
section
def iL_law_p0 : dk_T := [(0, .new 8, 3), (3, .dup, 1), (4, .invokespecial 167, 3), (7, .astore_n 1, 1), (8, .new 168, 3), (11, .dup, 1), (12, .invokespecial 170, 3), (15, .astore_n 2, 1), (16, .iconst 1, 1), (17, .newarray .long, 2), (19, .astore_n 3, 1), (20, .iconst 1, 1), (21, .newarray .double, 2), (23, .astore 4, 2), (25, .iconst 0, 1), (26, .istore 5, 2), (28, .iload 5, 2), (30, .aload_n 0, 1), (31, .arraylength, 1), (32, .iconst 5, 1), (33, .isub, 1), (34, .if_icmp .gt 2996, 3), (37, .aload_n 0, 1), (38, .iload 5, 2), (40, .iaload, 1), (41, .bipush 63, 2), (43, .iand, 1), (44, .tableswitch 2980 0 55 #[240, 308, 364, 377, 433, 489, 545, 558, 614, 670, 762, 858, 926, 994, 1050, 1063, 1119, 1175, 1231, 1287, 1343, 1399, 1462, 1518, 1562, 1575, 1588, 1651, 1714, 1770, 1838, 1894, 1950, 2025, 2081, 2137, 2193, 2206, 2219, 2232, 2245, 2310, 2376, 2434, 2478, 2522, 2578, 2634, 2690, 2734, 2778, 2822, 2866, 2910, 2923, 2936], 240), (284, .aload_n 1, 1), (285, .aload_n 0, 1), (286, .iload 5, 2), (288, .iconst 1, 1), (289, .iadd, 1), (290, .iaload, 1), (291, .aload_n 0, 1), (292, .iload 5, 2), (294, .iconst 2, 1), (295, .iadd, 1), (296, .iaload, 1), (297, .aload_n 3, 1), (298, .invokestatic 171, 3), (301, .istore 6, 2), (303, .aload_n 2, 1), (304, .aload_n 0, 1), (305, .iload 5, 2), (307, .iconst 1, 1), (308, .iadd, 1), (309, .iaload, 1), (310, .aload_n 0, 1), (311, .iload 5, 2), (313, .iconst 2, 1), (314, .iadd, 1), (315, .iaload, 1), (316, .invokevirtual 176, 3), (319, .istore 7, 2), (321, .aload_n 2, 1), (322, .invokevirtual 177, 3), (325, .iload 6, 2), (327, .if_icmp .eq 5, 3), (330, .iconst 0, 1)]
set_option maxRecDepth 100000 in
theorem kL_law_p0 : dk_ok cL_law iL_law_p0 = true := by decide +kernel
def iL_law_p1 : dk_T := [(331, .ireturn, 1), (332, .iload 6, 2), (334, .ifCond .ne 15, 3), (337, .aload_n 3, 1), (338, .iconst 0, 1), (339, .laload, 1), (340, .iload 7, 2), (342, .i2l, 1), (343, .lcmp, 1), (344, .ifCond .eq 5, 3), (347, .iconst 0, 1), (348, .ireturn, 1), (349, .goto 2675, 3), (352, .aload_n 1, 1), (353, .aload_n 0, 1), (354, .iload 5, 2), (356, .iconst 1, 1), (357, .iadd, 1), (358, .iaload, 1), (359, .aload_n 3, 1), (360, .invokestatic 180, 3), (363, .istore 6, 2), (365, .aload_n 2, 1), (366, .aload_n 0, 1), (367, .iload 5, 2), (369, .iconst 1, 1), (370, .iadd, 1), (371, .iaload, 1), (372, .invokevirtual 183, 3), (375, .istore 7, 2), (377, .aload_n 2, 1), (378, .invokevirtual 177, 3), (381, .iload 6, 2), (383, .if_icmp .eq 5, 3), (386, .iconst 0, 1), (387, .ireturn, 1), (388, .iload 6, 2), (390, .ifCond .ne 15, 3), (393, .aload_n 3, 1), (394, .iconst 0, 1), (395, .laload, 1), (396, .iload 7, 2), (398, .i2l, 1), (399, .lcmp, 1), (400, .ifCond .eq 5, 3), (403, .iconst 0, 1), (404, .ireturn, 1), (405, .goto 2619, 3), (408, .aload_n 1, 1), (409, .invokevirtual 184, 3), (412, .aload_n 2, 1), (413, .invokevirtual 187, 3), (416, .if_icmp .eq 2608, 3), (419, .iconst 0, 1), (420, .ireturn, 1), (421, .aload_n 1, 1), (422, .aload_n 0, 1), (423, .iload 5, 2), (425, .iconst 1, 1), (426, .iadd, 1)]
set_option maxRecDepth 100000 in
theorem kL_law_p1 : dk_ok cL_law iL_law_p1 = true := by decide +kernel
def iL_law_p2 : dk_T := [(427, .iaload, 1), (428, .aload_n 3, 1), (429, .invokestatic 188, 3), (432, .istore 6, 2), (434, .aload_n 2, 1), (435, .aload_n 0, 1), (436, .iload 5, 2), (438, .iconst 1, 1), (439, .iadd, 1), (440, .iaload, 1), (441, .invokevirtual 190, 3), (444, .istore 7, 2), (446, .aload_n 2, 1), (447, .invokevirtual 177, 3), (450, .iload 6, 2), (452, .if_icmp .eq 5, 3), (455, .iconst 0, 1), (456, .ireturn, 1), (457, .iload 6, 2), (459, .ifCond .ne 15, 3), (462, .aload_n 3, 1), (463, .iconst 0, 1), (464, .laload, 1), (465, .iload 7, 2), (467, .i2l, 1), (468, .lcmp, 1), (469, .ifCond .eq 5, 3), (472, .iconst 0, 1), (473, .ireturn, 1), (474, .goto 2550, 3), (477, .aload_n 1, 1), (478, .aload_n 0, 1), (479, .iload 5, 2), (481, .iconst 1, 1), (482, .iadd, 1), (483, .iaload, 1), (484, .aload_n 3, 1), (485, .invokestatic 191, 3), (488, .istore 6, 2), (490, .aload_n 2, 1), (491, .aload_n 0, 1), (492, .iload 5, 2), (494, .iconst 1, 1), (495, .iadd, 1), (496, .iaload, 1), (497, .invokevirtual 193, 3), (500, .istore 7, 2), (502, .aload_n 2, 1), (503, .invokevirtual 177, 3), (506, .iload 6, 2), (508, .if_icmp .eq 5, 3), (511, .iconst 0, 1), (512, .ireturn, 1), (513, .iload 6, 2), (515, .ifCond .ne 15, 3), (518, .aload_n 3, 1), (519, .iconst 0, 1), (520, .laload, 1), (521, .iload 7, 2), (523, .i2l, 1)]
set_option maxRecDepth 100000 in
theorem kL_law_p2 : dk_ok cL_law iL_law_p2 = true := by decide +kernel
def iL_law_p3 : dk_T := [(524, .lcmp, 1), (525, .ifCond .eq 5, 3), (528, .iconst 0, 1), (529, .ireturn, 1), (530, .goto 2494, 3), (533, .aload_n 1, 1), (534, .aload_n 0, 1), (535, .iload 5, 2), (537, .iconst 1, 1), (538, .iadd, 1), (539, .iaload, 1), (540, .aload_n 3, 1), (541, .invokestatic 194, 3), (544, .istore 6, 2), (546, .aload_n 2, 1), (547, .aload_n 0, 1), (548, .iload 5, 2), (550, .iconst 1, 1), (551, .iadd, 1), (552, .iaload, 1), (553, .invokevirtual 196, 3), (556, .istore 7, 2), (558, .aload_n 2, 1), (559, .invokevirtual 177, 3), (562, .iload 6, 2), (564, .if_icmp .eq 5, 3), (567, .iconst 0, 1), (568, .ireturn, 1), (569, .iload 6, 2), (571, .ifCond .ne 15, 3), (574, .aload_n 3, 1), (575, .iconst 0, 1), (576, .laload, 1), (577, .iload 7, 2), (579, .i2l, 1), (580, .lcmp, 1), (581, .ifCond .eq 5, 3), (584, .iconst 0, 1), (585, .ireturn, 1), (586, .goto 2438, 3), (589, .aload_n 1, 1), (590, .invokevirtual 197, 3), (593, .aload_n 2, 1), (594, .invokevirtual 200, 3), (597, .if_icmp .eq 2427, 3), (600, .iconst 0, 1), (601, .ireturn, 1), (602, .aload_n 1, 1), (603, .aload_n 0, 1), (604, .iload 5, 2), (606, .iconst 1, 1), (607, .iadd, 1), (608, .iaload, 1), (609, .aload_n 3, 1), (610, .invokestatic 201, 3), (613, .istore 6, 2), (615, .aload_n 2, 1), (616, .aload_n 0, 1), (617, .iload 5, 2), (619, .iconst 1, 1)]
set_option maxRecDepth 100000 in
theorem kL_law_p3 : dk_ok cL_law iL_law_p3 = true := by decide +kernel
def iL_law_p4 : dk_T := [(620, .iadd, 1), (621, .iaload, 1), (622, .invokevirtual 203, 3), (625, .istore 7, 2), (627, .aload_n 2, 1), (628, .invokevirtual 177, 3), (631, .iload 6, 2), (633, .if_icmp .eq 5, 3), (636, .iconst 0, 1), (637, .ireturn, 1), (638, .iload 6, 2), (640, .ifCond .ne 15, 3), (643, .aload_n 3, 1), (644, .iconst 0, 1), (645, .laload, 1), (646, .iload 7, 2), (648, .i2l, 1), (649, .lcmp, 1), (650, .ifCond .eq 5, 3), (653, .iconst 0, 1), (654, .ireturn, 1), (655, .goto 2369, 3), (658, .aload_n 1, 1), (659, .aload_n 0, 1), (660, .iload 5, 2), (662, .iconst 1, 1), (663, .iadd, 1), (664, .iaload, 1), (665, .aload_n 3, 1), (666, .invokestatic 204, 3), (669, .istore 6, 2), (671, .aload_n 2, 1), (672, .aload_n 0, 1), (673, .iload 5, 2), (675, .iconst 1, 1), (676, .iadd, 1), (677, .iaload, 1), (678, .invokevirtual 206, 3), (681, .istore 7, 2), (683, .aload_n 2, 1), (684, .invokevirtual 177, 3), (687, .iload 6, 2), (689, .if_icmp .eq 5, 3), (692, .iconst 0, 1), (693, .ireturn, 1), (694, .iload 6, 2), (696, .ifCond .ne 15, 3), (699, .aload_n 3, 1), (700, .iconst 0, 1), (701, .laload, 1), (702, .iload 7, 2), (704, .i2l, 1), (705, .lcmp, 1), (706, .ifCond .eq 5, 3), (709, .iconst 0, 1), (710, .ireturn, 1), (711, .goto 2313, 3), (714, .aload_n 1, 1), (715, .aload_n 0, 1), (716, .iload 5, 2)]
set_option maxRecDepth 100000 in
theorem kL_law_p4 : dk_ok cL_law iL_law_p4 = true := by decide +kernel
def iL_law_p5 : dk_T := [(718, .iconst 1, 1), (719, .iadd, 1), (720, .iaload, 1), (721, .aload_n 0, 1), (722, .iload 5, 2), (724, .iconst 2, 1), (725, .iadd, 1), (726, .iaload, 1), (727, .aload_n 0, 1), (728, .iload 5, 2), (730, .iconst 3, 1), (731, .iadd, 1), (732, .iaload, 1), (733, .aload_n 0, 1), (734, .iload 5, 2), (736, .iconst 4, 1), (737, .iadd, 1), (738, .iaload, 1), (739, .aload_n 3, 1), (740, .invokestatic 207, 3), (743, .istore 6, 2), (745, .aload_n 2, 1), (746, .aload_n 0, 1), (747, .iload 5, 2), (749, .iconst 1, 1), (750, .iadd, 1), (751, .iaload, 1), (752, .aload_n 0, 1), (753, .iload 5, 2), (755, .iconst 2, 1), (756, .iadd, 1), (757, .iaload, 1), (758, .aload_n 0, 1), (759, .iload 5, 2), (761, .iconst 3, 1), (762, .iadd, 1), (763, .iaload, 1), (764, .aload_n 0, 1), (765, .iload 5, 2), (767, .iconst 4, 1), (768, .iadd, 1), (769, .iaload, 1), (770, .invokevirtual 210, 3), (773, .istore 7, 2), (775, .aload_n 2, 1), (776, .invokevirtual 177, 3), (779, .iload 6, 2), (781, .if_icmp .eq 5, 3), (784, .iconst 0, 1), (785, .ireturn, 1), (786, .iload 6, 2), (788, .ifCond .ne 15, 3), (791, .aload_n 3, 1), (792, .iconst 0, 1), (793, .laload, 1), (794, .iload 7, 2), (796, .i2l, 1), (797, .lcmp, 1), (798, .ifCond .eq 5, 3), (801, .iconst 0, 1)]
set_option maxRecDepth 100000 in
theorem kL_law_p5 : dk_ok cL_law iL_law_p5 = true := by decide +kernel
def iL_law_p6 : dk_T := [(802, .ireturn, 1), (803, .goto 2221, 3), (806, .aload_n 1, 1), (807, .aload_n 0, 1), (808, .iload 5, 2), (810, .iconst 1, 1), (811, .iadd, 1), (812, .iaload, 1), (813, .aload_n 0, 1), (814, .iload 5, 2), (816, .iconst 2, 1), (817, .iadd, 1), (818, .iaload, 1), (819, .aload_n 0, 1), (820, .iload 5, 2), (822, .iconst 3, 1), (823, .iadd, 1), (824, .iaload, 1), (825, .ifCond .eq 7, 3), (828, .iconst 1, 1), (829, .goto 4, 3), (832, .iconst 0, 1), (833, .aload_n 3, 1), (834, .invokestatic 211, 3), (837, .istore 6, 2), (839, .aload_n 2, 1), (840, .aload_n 0, 1), (841, .iload 5, 2), (843, .iconst 1, 1), (844, .iadd, 1), (845, .iaload, 1), (846, .aload_n 0, 1), (847, .iload 5, 2), (849, .iconst 2, 1), (850, .iadd, 1), (851, .iaload, 1), (852, .aload_n 0, 1), (853, .iload 5, 2), (855, .iconst 3, 1), (856, .iadd, 1), (857, .iaload, 1), (858, .ifCond .eq 7, 3), (861, .iconst 1, 1), (862, .goto 4, 3), (865, .iconst 0, 1), (866, .invokevirtual 214, 3), (869, .istore 7, 2), (871, .aload_n 2, 1), (872, .invokevirtual 177, 3), (875, .iload 6, 2), (877, .if_icmp .eq 5, 3), (880, .iconst 0, 1), (881, .ireturn, 1), (882, .iload 6, 2), (884, .ifCond .ne 15, 3), (887, .aload_n 3, 1), (888, .iconst 0, 1), (889, .laload, 1), (890, .iload 7, 2), (892, .i2l, 1)]
set_option maxRecDepth 100000 in
theorem kL_law_p6 : dk_ok cL_law iL_law_p6 = true := by decide +kernel
def iL_law_p7 : dk_T := [(893, .lcmp, 1), (894, .ifCond .eq 5, 3), (897, .iconst 0, 1), (898, .ireturn, 1), (899, .goto 2125, 3), (902, .aload_n 1, 1), (903, .aload_n 0, 1), (904, .iload 5, 2), (906, .iconst 1, 1), (907, .iadd, 1), (908, .iaload, 1), (909, .aload_n 0, 1), (910, .iload 5, 2), (912, .iconst 2, 1), (913, .iadd, 1), (914, .iaload, 1), (915, .aload_n 3, 1), (916, .invokestatic 215, 3), (919, .istore 6, 2), (921, .aload_n 2, 1), (922, .aload_n 0, 1), (923, .iload 5, 2), (925, .iconst 1, 1), (926, .iadd, 1), (927, .iaload, 1), (928, .aload_n 0, 1), (929, .iload 5, 2), (931, .iconst 2, 1), (932, .iadd, 1), (933, .iaload, 1), (934, .invokevirtual 217, 3), (937, .istore 7, 2), (939, .aload_n 2, 1), (940, .invokevirtual 177, 3), (943, .iload 6, 2), (945, .if_icmp .eq 5, 3), (948, .iconst 0, 1), (949, .ireturn, 1), (950, .iload 6, 2), (952, .ifCond .ne 15, 3), (955, .aload_n 3, 1), (956, .iconst 0, 1), (957, .laload, 1), (958, .iload 7, 2), (960, .i2l, 1), (961, .lcmp, 1), (962, .ifCond .eq 5, 3), (965, .iconst 0, 1), (966, .ireturn, 1), (967, .goto 2057, 3), (970, .aload_n 1, 1), (971, .aload_n 0, 1), (972, .iload 5, 2), (974, .iconst 1, 1), (975, .iadd, 1), (976, .iaload, 1), (977, .aload_n 0, 1), (978, .iload 5, 2), (980, .iconst 2, 1), (981, .iadd, 1)]
set_option maxRecDepth 100000 in
theorem kL_law_p7 : dk_ok cL_law iL_law_p7 = true := by decide +kernel
def iL_law_p8 : dk_T := [(982, .iaload, 1), (983, .aload_n 3, 1), (984, .invokestatic 218, 3), (987, .istore 6, 2), (989, .aload_n 2, 1), (990, .aload_n 0, 1), (991, .iload 5, 2), (993, .iconst 1, 1), (994, .iadd, 1), (995, .iaload, 1), (996, .aload_n 0, 1), (997, .iload 5, 2), (999, .iconst 2, 1), (1000, .iadd, 1), (1001, .iaload, 1), (1002, .invokevirtual 220, 3), (1005, .istore 7, 2), (1007, .aload_n 2, 1), (1008, .invokevirtual 177, 3), (1011, .iload 6, 2), (1013, .if_icmp .eq 5, 3), (1016, .iconst 0, 1), (1017, .ireturn, 1), (1018, .iload 6, 2), (1020, .ifCond .ne 15, 3), (1023, .aload_n 3, 1), (1024, .iconst 0, 1), (1025, .laload, 1), (1026, .iload 7, 2), (1028, .i2l, 1), (1029, .lcmp, 1), (1030, .ifCond .eq 5, 3), (1033, .iconst 0, 1), (1034, .ireturn, 1), (1035, .goto 1989, 3), (1038, .aload_n 1, 1), (1039, .aload_n 0, 1), (1040, .iload 5, 2), (1042, .iconst 1, 1), (1043, .iadd, 1), (1044, .iaload, 1), (1045, .aload_n 3, 1), (1046, .invokestatic 221, 3), (1049, .istore 6, 2), (1051, .aload_n 2, 1), (1052, .aload_n 0, 1), (1053, .iload 5, 2), (1055, .iconst 1, 1), (1056, .iadd, 1), (1057, .iaload, 1), (1058, .invokevirtual 223, 3), (1061, .istore 7, 2), (1063, .aload_n 2, 1), (1064, .invokevirtual 177, 3), (1067, .iload 6, 2), (1069, .if_icmp .eq 5, 3), (1072, .iconst 0, 1), (1073, .ireturn, 1), (1074, .iload 6, 2), (1076, .ifCond .ne 15, 3)]
set_option maxRecDepth 100000 in
theorem kL_law_p8 : dk_ok cL_law iL_law_p8 = true := by decide +kernel
def iL_law_p9 : dk_T := [(1079, .aload_n 3, 1), (1080, .iconst 0, 1), (1081, .laload, 1), (1082, .iload 7, 2), (1084, .i2l, 1), (1085, .lcmp, 1), (1086, .ifCond .eq 5, 3), (1089, .iconst 0, 1), (1090, .ireturn, 1), (1091, .goto 1933, 3), (1094, .aload_n 1, 1), (1095, .invokevirtual 224, 3), (1098, .aload_n 2, 1), (1099, .invokevirtual 227, 3), (1102, .if_icmp .eq 1922, 3), (1105, .iconst 0, 1), (1106, .ireturn, 1), (1107, .aload_n 1, 1), (1108, .aload_n 0, 1), (1109, .iload 5, 2), (1111, .iconst 1, 1), (1112, .iadd, 1), (1113, .iaload, 1), (1114, .aload_n 3, 1), (1115, .invokestatic 228, 3), (1118, .istore 6, 2), (1120, .aload_n 2, 1), (1121, .aload_n 0, 1), (1122, .iload 5, 2), (1124, .iconst 1, 1), (1125, .iadd, 1), (1126, .iaload, 1), (1127, .invokevirtual 230, 3), (1130, .istore 7, 2), (1132, .aload_n 2, 1), (1133, .invokevirtual 177, 3), (1136, .iload 6, 2), (1138, .if_icmp .eq 5, 3), (1141, .iconst 0, 1), (1142, .ireturn, 1), (1143, .iload 6, 2), (1145, .ifCond .ne 15, 3), (1148, .aload_n 3, 1), (1149, .iconst 0, 1), (1150, .laload, 1), (1151, .iload 7, 2), (1153, .i2l, 1), (1154, .lcmp, 1), (1155, .ifCond .eq 5, 3), (1158, .iconst 0, 1), (1159, .ireturn, 1), (1160, .goto 1864, 3), (1163, .aload_n 1, 1), (1164, .aload_n 0, 1), (1165, .iload 5, 2), (1167, .iconst 1, 1), (1168, .iadd, 1), (1169, .iaload, 1), (1170, .aload_n 3, 1), (1171, .invokestatic 231, 3)]
set_option maxRecDepth 100000 in
theorem kL_law_p9 : dk_ok cL_law iL_law_p9 = true := by decide +kernel
def iL_law_p10 : dk_T := [(1174, .istore 6, 2), (1176, .aload_n 2, 1), (1177, .aload_n 0, 1), (1178, .iload 5, 2), (1180, .iconst 1, 1), (1181, .iadd, 1), (1182, .iaload, 1), (1183, .invokevirtual 233, 3), (1186, .istore 7, 2), (1188, .aload_n 2, 1), (1189, .invokevirtual 177, 3), (1192, .iload 6, 2), (1194, .if_icmp .eq 5, 3), (1197, .iconst 0, 1), (1198, .ireturn, 1), (1199, .iload 6, 2), (1201, .ifCond .ne 15, 3), (1204, .aload_n 3, 1), (1205, .iconst 0, 1), (1206, .laload, 1), (1207, .iload 7, 2), (1209, .i2l, 1), (1210, .lcmp, 1), (1211, .ifCond .eq 5, 3), (1214, .iconst 0, 1), (1215, .ireturn, 1), (1216, .goto 1808, 3), (1219, .aload_n 1, 1), (1220, .aload_n 0, 1), (1221, .iload 5, 2), (1223, .iconst 1, 1), (1224, .iadd, 1), (1225, .iaload, 1), (1226, .aload_n 3, 1), (1227, .invokestatic 234, 3), (1230, .istore 6, 2), (1232, .aload_n 2, 1), (1233, .aload_n 0, 1), (1234, .iload 5, 2), (1236, .iconst 1, 1), (1237, .iadd, 1), (1238, .iaload, 1), (1239, .invokevirtual 236, 3), (1242, .istore 7, 2), (1244, .aload_n 2, 1), (1245, .invokevirtual 177, 3), (1248, .iload 6, 2), (1250, .if_icmp .eq 5, 3), (1253, .iconst 0, 1), (1254, .ireturn, 1), (1255, .iload 6, 2), (1257, .ifCond .ne 15, 3), (1260, .aload_n 3, 1), (1261, .iconst 0, 1), (1262, .laload, 1), (1263, .iload 7, 2), (1265, .i2l, 1), (1266, .lcmp, 1), (1267, .ifCond .eq 5, 3), (1270, .iconst 0, 1)]
set_option maxRecDepth 100000 in
theorem kL_law_p10 : dk_ok cL_law iL_law_p10 = true := by decide +kernel
def iL_law_p11 : dk_T := [(1271, .ireturn, 1), (1272, .goto 1752, 3), (1275, .aload_n 1, 1), (1276, .aload_n 0, 1), (1277, .iload 5, 2), (1279, .iconst 1, 1), (1280, .iadd, 1), (1281, .iaload, 1), (1282, .aload_n 3, 1), (1283, .invokestatic 237, 3), (1286, .istore 6, 2), (1288, .aload_n 2, 1), (1289, .aload_n 0, 1), (1290, .iload 5, 2), (1292, .iconst 1, 1), (1293, .iadd, 1), (1294, .iaload, 1), (1295, .invokevirtual 239, 3), (1298, .istore 7, 2), (1300, .aload_n 2, 1), (1301, .invokevirtual 177, 3), (1304, .iload 6, 2), (1306, .if_icmp .eq 5, 3), (1309, .iconst 0, 1), (1310, .ireturn, 1), (1311, .iload 6, 2), (1313, .ifCond .ne 15, 3), (1316, .aload_n 3, 1), (1317, .iconst 0, 1), (1318, .laload, 1), (1319, .iload 7, 2), (1321, .i2l, 1), (1322, .lcmp, 1), (1323, .ifCond .eq 5, 3), (1326, .iconst 0, 1), (1327, .ireturn, 1), (1328, .goto 1696, 3), (1331, .aload_n 1, 1), (1332, .aload_n 0, 1), (1333, .iload 5, 2), (1335, .iconst 1, 1), (1336, .iadd, 1), (1337, .iaload, 1), (1338, .aload_n 3, 1), (1339, .invokestatic 240, 3), (1342, .istore 6, 2), (1344, .aload_n 2, 1), (1345, .aload_n 0, 1), (1346, .iload 5, 2), (1348, .iconst 1, 1), (1349, .iadd, 1), (1350, .iaload, 1), (1351, .invokevirtual 242, 3), (1354, .istore 7, 2), (1356, .aload_n 2, 1), (1357, .invokevirtual 177, 3), (1360, .iload 6, 2), (1362, .if_icmp .eq 5, 3), (1365, .iconst 0, 1), (1366, .ireturn, 1)]
set_option maxRecDepth 100000 in
theorem kL_law_p11 : dk_ok cL_law iL_law_p11 = true := by decide +kernel
def iL_law_p12 : dk_T := [(1367, .iload 6, 2), (1369, .ifCond .ne 15, 3), (1372, .aload_n 3, 1), (1373, .iconst 0, 1), (1374, .laload, 1), (1375, .iload 7, 2), (1377, .i2l, 1), (1378, .lcmp, 1), (1379, .ifCond .eq 5, 3), (1382, .iconst 0, 1), (1383, .ireturn, 1), (1384, .goto 1640, 3), (1387, .aload_n 1, 1), (1388, .aload_n 0, 1), (1389, .iload 5, 2), (1391, .iconst 1, 1), (1392, .iadd, 1), (1393, .iaload, 1), (1394, .aload_n 3, 1), (1395, .invokestatic 243, 3), (1398, .istore 6, 2), (1400, .aload_n 2, 1), (1401, .aload_n 0, 1), (1402, .iload 5, 2), (1404, .iconst 1, 1), (1405, .iadd, 1), (1406, .iaload, 1), (1407, .invokevirtual 245, 3), (1410, .istore 7, 2), (1412, .aload_n 2, 1), (1413, .invokevirtual 177, 3), (1416, .iload 6, 2), (1418, .if_icmp .eq 5, 3), (1421, .iconst 0, 1), (1422, .ireturn, 1), (1423, .iload 6, 2), (1425, .ifCond .ne 15, 3), (1428, .aload_n 3, 1), (1429, .iconst 0, 1), (1430, .laload, 1), (1431, .iload 7, 2), (1433, .i2l, 1), (1434, .lcmp, 1), (1435, .ifCond .eq 5, 3), (1438, .iconst 0, 1), (1439, .ireturn, 1), (1440, .goto 1584, 3), (1443, .aload_n 1, 1), (1444, .aload_n 0, 1), (1445, .iload 5, 2), (1447, .iconst 1, 1), (1448, .iadd, 1), (1449, .iaload, 1), (1450, .aload_n 3, 1), (1451, .invokestatic 246, 3), (1454, .istore 6, 2), (1456, .aload_n 2, 1), (1457, .aload_n 0, 1), (1458, .iload 5, 2), (1460, .iconst 1, 1)]
set_option maxRecDepth 100000 in
theorem kL_law_p12 : dk_ok cL_law iL_law_p12 = true := by decide +kernel
def iL_law_p13 : dk_T := [(1461, .iadd, 1), (1462, .iaload, 1), (1463, .invokevirtual 248, 3), (1466, .istore 7, 2), (1468, .aload_n 2, 1), (1469, .invokevirtual 177, 3), (1472, .iload 6, 2), (1474, .if_icmp .eq 5, 3), (1477, .iconst 0, 1), (1478, .ireturn, 1), (1479, .iload 6, 2), (1481, .ifCond .ne 22, 3), (1484, .aload_n 3, 1), (1485, .iconst 0, 1), (1486, .laload, 1), (1487, .iload 7, 2), (1489, .ifCond .eq 7, 3), (1492, .lconst 1, 1), (1493, .goto 4, 3), (1496, .lconst 0, 1), (1497, .lcmp, 1), (1498, .ifCond .eq 5, 3), (1501, .iconst 0, 1), (1502, .ireturn, 1), (1503, .goto 1521, 3), (1506, .aload_n 1, 1), (1507, .aload_n 0, 1), (1508, .iload 5, 2), (1510, .iconst 1, 1), (1511, .iadd, 1), (1512, .iaload, 1), (1513, .aload_n 3, 1), (1514, .invokestatic 249, 3), (1517, .istore 6, 2), (1519, .aload_n 2, 1), (1520, .aload_n 0, 1), (1521, .iload 5, 2), (1523, .iconst 1, 1), (1524, .iadd, 1), (1525, .iaload, 1), (1526, .invokevirtual 251, 3), (1529, .istore 7, 2), (1531, .aload_n 2, 1), (1532, .invokevirtual 177, 3), (1535, .iload 6, 2), (1537, .if_icmp .eq 5, 3), (1540, .iconst 0, 1), (1541, .ireturn, 1), (1542, .iload 6, 2), (1544, .ifCond .ne 15, 3), (1547, .aload_n 3, 1), (1548, .iconst 0, 1), (1549, .laload, 1), (1550, .iload 7, 2), (1552, .i2l, 1), (1553, .lcmp, 1), (1554, .ifCond .eq 5, 3), (1557, .iconst 0, 1), (1558, .ireturn, 1), (1559, .goto 1465, 3)]
set_option maxRecDepth 100000 in
theorem kL_law_p13 : dk_ok cL_law iL_law_p13 = true := by decide +kernel
def iL_law_p14 : dk_T := [(1562, .aload_n 1, 1), (1563, .aload_n 3, 1), (1564, .invokestatic 252, 3), (1567, .istore 6, 2), (1569, .aload_n 2, 1), (1570, .invokevirtual 255, 3), (1573, .istore 7, 2), (1575, .aload_n 2, 1), (1576, .invokevirtual 177, 3), (1579, .iload 6, 2), (1581, .if_icmp .eq 5, 3), (1584, .iconst 0, 1), (1585, .ireturn, 1), (1586, .iload 6, 2), (1588, .ifCond .ne 15, 3), (1591, .aload_n 3, 1), (1592, .iconst 0, 1), (1593, .laload, 1), (1594, .iload 7, 2), (1596, .i2l, 1), (1597, .lcmp, 1), (1598, .ifCond .eq 5, 3), (1601, .iconst 0, 1), (1602, .ireturn, 1), (1603, .goto 1421, 3), (1606, .aload_n 1, 1), (1607, .invokevirtual 256, 3), (1610, .aload_n 2, 1), (1611, .invokevirtual 259, 3), (1614, .if_icmp .eq 1410, 3), (1617, .iconst 0, 1), (1618, .ireturn, 1), (1619, .aload_n 1, 1), (1620, .invokevirtual 260, 3), (1623, .aload_n 2, 1), (1624, .invokevirtual 263, 3), (1627, .if_icmp .eq 1397, 3), (1630, .iconst 0, 1), (1631, .ireturn, 1), (1632, .aload_n 1, 1), (1633, .aload_n 0, 1), (1634, .iload 5, 2), (1636, .iconst 1, 1), (1637, .iadd, 1), (1638, .iaload, 1), (1639, .aload_n 3, 1), (1640, .invokestatic 264, 3), (1643, .istore 6, 2), (1645, .aload_n 2, 1), (1646, .aload_n 0, 1), (1647, .iload 5, 2), (1649, .iconst 1, 1), (1650, .iadd, 1), (1651, .iaload, 1), (1652, .invokevirtual 266, 3), (1655, .istore 7, 2), (1657, .aload_n 2, 1), (1658, .invokevirtual 177, 3), (1661, .iload 6, 2), (1663, .if_icmp .eq 5, 3)]
set_option maxRecDepth 100000 in
theorem kL_law_p14 : dk_ok cL_law iL_law_p14 = true := by decide +kernel
def iL_law_p15 : dk_T := [(1666, .iconst 0, 1), (1667, .ireturn, 1), (1668, .iload 6, 2), (1670, .ifCond .ne 22, 3), (1673, .aload_n 3, 1), (1674, .iconst 0, 1), (1675, .laload, 1), (1676, .iload 7, 2), (1678, .ifCond .eq 7, 3), (1681, .lconst 1, 1), (1682, .goto 4, 3), (1685, .lconst 0, 1), (1686, .lcmp, 1), (1687, .ifCond .eq 5, 3), (1690, .iconst 0, 1), (1691, .ireturn, 1), (1692, .goto 1332, 3), (1695, .aload_n 1, 1), (1696, .aload_n 0, 1), (1697, .iload 5, 2), (1699, .iconst 1, 1), (1700, .iadd, 1), (1701, .iaload, 1), (1702, .aload_n 3, 1), (1703, .invokestatic 267, 3), (1706, .istore 6, 2), (1708, .aload_n 2, 1), (1709, .aload_n 0, 1), (1710, .iload 5, 2), (1712, .iconst 1, 1), (1713, .iadd, 1), (1714, .iaload, 1), (1715, .invokevirtual 269, 3), (1718, .istore 7, 2), (1720, .aload_n 2, 1), (1721, .invokevirtual 177, 3), (1724, .iload 6, 2), (1726, .if_icmp .eq 5, 3), (1729, .iconst 0, 1), (1730, .ireturn, 1), (1731, .iload 6, 2), (1733, .ifCond .ne 22, 3), (1736, .aload_n 3, 1), (1737, .iconst 0, 1), (1738, .laload, 1), (1739, .iload 7, 2), (1741, .ifCond .eq 7, 3), (1744, .lconst 1, 1), (1745, .goto 4, 3), (1748, .lconst 0, 1), (1749, .lcmp, 1), (1750, .ifCond .eq 5, 3), (1753, .iconst 0, 1), (1754, .ireturn, 1), (1755, .goto 1269, 3), (1758, .aload_n 1, 1), (1759, .aload_n 0, 1), (1760, .iload 5, 2), (1762, .iconst 1, 1), (1763, .iadd, 1)]
set_option maxRecDepth 100000 in
theorem kL_law_p15 : dk_ok cL_law iL_law_p15 = true := by decide +kernel
def iL_law_p16 : dk_T := [(1764, .iaload, 1), (1765, .aload_n 3, 1), (1766, .invokestatic 270, 3), (1769, .istore 6, 2), (1771, .aload_n 2, 1), (1772, .aload_n 0, 1), (1773, .iload 5, 2), (1775, .iconst 1, 1), (1776, .iadd, 1), (1777, .iaload, 1), (1778, .invokevirtual 272, 3), (1781, .istore 7, 2), (1783, .aload_n 2, 1), (1784, .invokevirtual 177, 3), (1787, .iload 6, 2), (1789, .if_icmp .eq 5, 3), (1792, .iconst 0, 1), (1793, .ireturn, 1), (1794, .iload 6, 2), (1796, .ifCond .ne 15, 3), (1799, .aload_n 3, 1), (1800, .iconst 0, 1), (1801, .laload, 1), (1802, .iload 7, 2), (1804, .i2l, 1), (1805, .lcmp, 1), (1806, .ifCond .eq 5, 3), (1809, .iconst 0, 1), (1810, .ireturn, 1), (1811, .goto 1213, 3), (1814, .aload_n 1, 1), (1815, .aload_n 0, 1), (1816, .iload 5, 2), (1818, .iconst 1, 1), (1819, .iadd, 1), (1820, .iaload, 1), (1821, .aload_n 0, 1), (1822, .iload 5, 2), (1824, .iconst 2, 1), (1825, .iadd, 1), (1826, .iaload, 1), (1827, .aload_n 3, 1), (1828, .invokestatic 273, 3), (1831, .istore 6, 2), (1833, .aload_n 2, 1), (1834, .aload_n 0, 1), (1835, .iload 5, 2), (1837, .iconst 1, 1), (1838, .iadd, 1), (1839, .iaload, 1), (1840, .aload_n 0, 1), (1841, .iload 5, 2), (1843, .iconst 2, 1), (1844, .iadd, 1), (1845, .iaload, 1), (1846, .invokevirtual 275, 3), (1849, .istore 7, 2), (1851, .aload_n 2, 1), (1852, .invokevirtual 177, 3), (1855, .iload 6, 2)]
set_option maxRecDepth 100000 in
theorem kL_law_p16 : dk_ok cL_law iL_law_p16 = true := by decide +kernel
def iL_law_p17 : dk_T := [(1857, .if_icmp .eq 5, 3), (1860, .iconst 0, 1), (1861, .ireturn, 1), (1862, .iload 6, 2), (1864, .ifCond .ne 15, 3), (1867, .aload_n 3, 1), (1868, .iconst 0, 1), (1869, .laload, 1), (1870, .iload 7, 2), (1872, .i2l, 1), (1873, .lcmp, 1), (1874, .ifCond .eq 5, 3), (1877, .iconst 0, 1), (1878, .ireturn, 1), (1879, .goto 1145, 3), (1882, .aload_n 1, 1), (1883, .aload_n 0, 1), (1884, .iload 5, 2), (1886, .iconst 1, 1), (1887, .iadd, 1), (1888, .iaload, 1), (1889, .aload_n 3, 1), (1890, .invokestatic 276, 3), (1893, .istore 6, 2), (1895, .aload_n 2, 1), (1896, .aload_n 0, 1), (1897, .iload 5, 2), (1899, .iconst 1, 1), (1900, .iadd, 1), (1901, .iaload, 1), (1902, .invokevirtual 278, 3), (1905, .istore 7, 2), (1907, .aload_n 2, 1), (1908, .invokevirtual 177, 3), (1911, .iload 6, 2), (1913, .if_icmp .eq 5, 3), (1916, .iconst 0, 1), (1917, .ireturn, 1), (1918, .iload 6, 2), (1920, .ifCond .ne 15, 3), (1923, .aload_n 3, 1), (1924, .iconst 0, 1), (1925, .laload, 1), (1926, .iload 7, 2), (1928, .i2l, 1), (1929, .lcmp, 1), (1930, .ifCond .eq 5, 3), (1933, .iconst 0, 1), (1934, .ireturn, 1), (1935, .goto 1089, 3), (1938, .aload_n 1, 1), (1939, .aload_n 0, 1), (1940, .iload 5, 2), (1942, .iconst 1, 1), (1943, .iadd, 1), (1944, .iaload, 1), (1945, .aload_n 3, 1), (1946, .invokestatic 279, 3), (1949, .istore 6, 2), (1951, .aload_n 2, 1)]
set_option maxRecDepth 100000 in
theorem kL_law_p17 : dk_ok cL_law iL_law_p17 = true := by decide +kernel
def iL_law_p18 : dk_T := [(1952, .aload_n 0, 1), (1953, .iload 5, 2), (1955, .iconst 1, 1), (1956, .iadd, 1), (1957, .iaload, 1), (1958, .invokevirtual 281, 3), (1961, .istore 7, 2), (1963, .aload_n 2, 1), (1964, .invokevirtual 177, 3), (1967, .iload 6, 2), (1969, .if_icmp .eq 5, 3), (1972, .iconst 0, 1), (1973, .ireturn, 1), (1974, .iload 6, 2), (1976, .ifCond .ne 15, 3), (1979, .aload_n 3, 1), (1980, .iconst 0, 1), (1981, .laload, 1), (1982, .iload 7, 2), (1984, .i2l, 1), (1985, .lcmp, 1), (1986, .ifCond .eq 5, 3), (1989, .iconst 0, 1), (1990, .ireturn, 1), (1991, .goto 1033, 3), (1994, .aload_n 1, 1), (1995, .aload_n 0, 1), (1996, .iload 5, 2), (1998, .iconst 1, 1), (1999, .iadd, 1), (2000, .iaload, 1), (2001, .aload_n 0, 1), (2002, .iload 5, 2), (2004, .iconst 2, 1), (2005, .iadd, 1), (2006, .iaload, 1), (2007, .aload_n 3, 1), (2008, .invokestatic 282, 3), (2011, .istore 6, 2), (2013, .aload_n 2, 1), (2014, .aload_n 0, 1), (2015, .iload 5, 2), (2017, .iconst 1, 1), (2018, .iadd, 1), (2019, .iaload, 1), (2020, .aload_n 0, 1), (2021, .iload 5, 2), (2023, .iconst 2, 1), (2024, .iadd, 1), (2025, .iaload, 1), (2026, .invokevirtual 284, 3), (2029, .istore 7, 2), (2031, .aload_n 2, 1), (2032, .invokevirtual 177, 3), (2035, .iload 6, 2), (2037, .if_icmp .eq 5, 3), (2040, .iconst 0, 1), (2041, .ireturn, 1), (2042, .iload 6, 2), (2044, .ifCond .ne 22, 3)]
set_option maxRecDepth 100000 in
theorem kL_law_p18 : dk_ok cL_law iL_law_p18 = true := by decide +kernel
def iL_law_p19 : dk_T := [(2047, .aload_n 3, 1), (2048, .iconst 0, 1), (2049, .laload, 1), (2050, .iload 7, 2), (2052, .ifCond .eq 7, 3), (2055, .lconst 1, 1), (2056, .goto 4, 3), (2059, .lconst 0, 1), (2060, .lcmp, 1), (2061, .ifCond .eq 5, 3), (2064, .iconst 0, 1), (2065, .ireturn, 1), (2066, .goto 958, 3), (2069, .aload_n 1, 1), (2070, .aload_n 0, 1), (2071, .iload 5, 2), (2073, .iconst 1, 1), (2074, .iadd, 1), (2075, .iaload, 1), (2076, .aload_n 3, 1), (2077, .invokestatic 285, 3), (2080, .istore 6, 2), (2082, .aload_n 2, 1), (2083, .aload_n 0, 1), (2084, .iload 5, 2), (2086, .iconst 1, 1), (2087, .iadd, 1), (2088, .iaload, 1), (2089, .invokevirtual 287, 3), (2092, .istore 7, 2), (2094, .aload_n 2, 1), (2095, .invokevirtual 177, 3), (2098, .iload 6, 2), (2100, .if_icmp .eq 5, 3), (2103, .iconst 0, 1), (2104, .ireturn, 1), (2105, .iload 6, 2), (2107, .ifCond .ne 15, 3), (2110, .aload_n 3, 1), (2111, .iconst 0, 1), (2112, .laload, 1), (2113, .iload 7, 2), (2115, .i2l, 1), (2116, .lcmp, 1), (2117, .ifCond .eq 5, 3), (2120, .iconst 0, 1), (2121, .ireturn, 1), (2122, .goto 902, 3), (2125, .aload_n 1, 1), (2126, .aload_n 0, 1), (2127, .iload 5, 2), (2129, .iconst 1, 1), (2130, .iadd, 1), (2131, .iaload, 1), (2132, .aload_n 3, 1), (2133, .invokestatic 288, 3), (2136, .istore 6, 2), (2138, .aload_n 2, 1), (2139, .aload_n 0, 1), (2140, .iload 5, 2)]
set_option maxRecDepth 100000 in
theorem kL_law_p19 : dk_ok cL_law iL_law_p19 = true := by decide +kernel
def iL_law_p20 : dk_T := [(2142, .iconst 1, 1), (2143, .iadd, 1), (2144, .iaload, 1), (2145, .invokevirtual 290, 3), (2148, .istore 7, 2), (2150, .aload_n 2, 1), (2151, .invokevirtual 177, 3), (2154, .iload 6, 2), (2156, .if_icmp .eq 5, 3), (2159, .iconst 0, 1), (2160, .ireturn, 1), (2161, .iload 6, 2), (2163, .ifCond .ne 15, 3), (2166, .aload_n 3, 1), (2167, .iconst 0, 1), (2168, .laload, 1), (2169, .iload 7, 2), (2171, .i2l, 1), (2172, .lcmp, 1), (2173, .ifCond .eq 5, 3), (2176, .iconst 0, 1), (2177, .ireturn, 1), (2178, .goto 846, 3), (2181, .aload_n 1, 1), (2182, .aload_n 0, 1), (2183, .iload 5, 2), (2185, .iconst 1, 1), (2186, .iadd, 1), (2187, .iaload, 1), (2188, .aload_n 3, 1), (2189, .invokestatic 291, 3), (2192, .istore 6, 2), (2194, .aload_n 2, 1), (2195, .aload_n 0, 1), (2196, .iload 5, 2), (2198, .iconst 1, 1), (2199, .iadd, 1), (2200, .iaload, 1), (2201, .invokevirtual 293, 3), (2204, .istore 7, 2), (2206, .aload_n 2, 1), (2207, .invokevirtual 177, 3), (2210, .iload 6, 2), (2212, .if_icmp .eq 5, 3), (2215, .iconst 0, 1), (2216, .ireturn, 1), (2217, .iload 6, 2), (2219, .ifCond .ne 15, 3), (2222, .aload_n 3, 1), (2223, .iconst 0, 1), (2224, .laload, 1), (2225, .iload 7, 2), (2227, .i2l, 1), (2228, .lcmp, 1), (2229, .ifCond .eq 5, 3), (2232, .iconst 0, 1), (2233, .ireturn, 1), (2234, .goto 790, 3), (2237, .aload_n 1, 1), (2238, .invokevirtual 294, 3)]
set_option maxRecDepth 100000 in
theorem kL_law_p20 : dk_ok cL_law iL_law_p20 = true := by decide +kernel
def iL_law_p21 : dk_T := [(2241, .aload_n 2, 1), (2242, .invokevirtual 297, 3), (2245, .if_icmp .eq 779, 3), (2248, .iconst 0, 1), (2249, .ireturn, 1), (2250, .aload_n 1, 1), (2251, .invokevirtual 298, 3), (2254, .aload_n 2, 1), (2255, .invokevirtual 301, 3), (2258, .if_icmp .eq 766, 3), (2261, .iconst 0, 1), (2262, .ireturn, 1), (2263, .aload_n 1, 1), (2264, .invokevirtual 302, 3), (2267, .aload_n 2, 1), (2268, .invokevirtual 305, 3), (2271, .if_icmp .eq 753, 3), (2274, .iconst 0, 1), (2275, .ireturn, 1), (2276, .aload_n 1, 1), (2277, .invokevirtual 306, 3), (2280, .aload_n 2, 1), (2281, .invokevirtual 309, 3), (2284, .if_icmp .eq 740, 3), (2287, .iconst 0, 1), (2288, .ireturn, 1), (2289, .aload_n 1, 1), (2290, .aload 4, 2), (2292, .invokestatic 310, 3), (2295, .istore 6, 2), (2297, .aload_n 2, 1), (2298, .invokevirtual 313, 3), (2301, .dstore 7, 2), (2303, .aload_n 2, 1), (2304, .invokevirtual 177, 3), (2307, .iload 6, 2), (2309, .if_icmp .eq 5, 3), (2312, .iconst 0, 1), (2313, .ireturn, 1), (2314, .iload 6, 2), (2316, .ifCond .ne 35, 3), (2319, .aload 4, 2), (2321, .iconst 0, 1), (2322, .daload, 1), (2323, .dload 7, 2), (2325, .dcmp .l, 1), (2326, .ifCond .eq 25, 3), (2329, .aload 4, 2), (2331, .iconst 0, 1), (2332, .daload, 1), (2333, .aload 4, 2), (2335, .iconst 0, 1), (2336, .daload, 1), (2337, .dcmp .l, 1), (2338, .ifCond .eq 11, 3), (2341, .dload 7, 2), (2343, .dload 7, 2), (2345, .dcmp .l, 1), (2346, .ifCond .ne 5, 3), (2349, .iconst 0, 1)]
set_option maxRecDepth 100000 in
theorem kL_law_p21 : dk_ok cL_law iL_law_p21 = true := by decide +kernel
def iL_law_p22 : dk_T := [(2350, .ireturn, 1), (2351, .goto 673, 3), (2354, .aload_n 1, 1), (2355, .aload 4, 2), (2357, .invokestatic 314, 3), (2360, .istore 6, 2), (2362, .aload_n 2, 1), (2363, .invokevirtual 316, 3), (2366, .fstore 7, 2), (2368, .aload_n 2, 1), (2369, .invokevirtual 177, 3), (2372, .iload 6, 2), (2374, .if_icmp .eq 5, 3), (2377, .iconst 0, 1), (2378, .ireturn, 1), (2379, .iload 6, 2), (2381, .ifCond .ne 36, 3), (2384, .aload 4, 2), (2386, .iconst 0, 1), (2387, .daload, 1), (2388, .fload 7, 2), (2390, .f2d, 1), (2391, .dcmp .l, 1), (2392, .ifCond .eq 25, 3), (2395, .aload 4, 2), (2397, .iconst 0, 1), (2398, .daload, 1), (2399, .aload 4, 2), (2401, .iconst 0, 1), (2402, .daload, 1), (2403, .dcmp .l, 1), (2404, .ifCond .eq 11, 3), (2407, .fload 7, 2), (2409, .fload 7, 2), (2411, .fcmp .l, 1), (2412, .ifCond .ne 5, 3), (2415, .iconst 0, 1), (2416, .ireturn, 1), (2417, .goto 607, 3), (2420, .aload_n 1, 1), (2421, .aload_n 0, 1), (2422, .iload 5, 2), (2424, .iconst 1, 1), (2425, .iadd, 1), (2426, .iaload, 1), (2427, .i2c, 1), (2428, .aload_n 3, 1), (2429, .invokestatic 317, 3), (2432, .istore 6, 2), (2434, .aload_n 2, 1), (2435, .aload_n 0, 1), (2436, .iload 5, 2), (2438, .iconst 1, 1), (2439, .iadd, 1), (2440, .iaload, 1), (2441, .i2c, 1), (2442, .invokevirtual 320, 3), (2445, .istore 7, 2), (2447, .aload_n 2, 1), (2448, .invokevirtual 177, 3)]
set_option maxRecDepth 100000 in
theorem kL_law_p22 : dk_ok cL_law iL_law_p22 = true := by decide +kernel
def iL_law_p23 : dk_T := [(2451, .iload 6, 2), (2453, .if_icmp .eq 5, 3), (2456, .iconst 0, 1), (2457, .ireturn, 1), (2458, .iload 6, 2), (2460, .ifCond .ne 15, 3), (2463, .aload_n 3, 1), (2464, .iconst 0, 1), (2465, .laload, 1), (2466, .iload 7, 2), (2468, .i2l, 1), (2469, .lcmp, 1), (2470, .ifCond .eq 5, 3), (2473, .iconst 0, 1), (2474, .ireturn, 1), (2475, .goto 549, 3), (2478, .aload_n 1, 1), (2479, .aload_n 3, 1), (2480, .invokestatic 321, 3), (2483, .istore 6, 2), (2485, .aload_n 2, 1), (2486, .invokevirtual 323, 3), (2489, .istore 7, 2), (2491, .aload_n 2, 1), (2492, .invokevirtual 177, 3), (2495, .iload 6, 2), (2497, .if_icmp .eq 5, 3), (2500, .iconst 0, 1), (2501, .ireturn, 1), (2502, .iload 6, 2), (2504, .ifCond .ne 15, 3), (2507, .aload_n 3, 1), (2508, .iconst 0, 1), (2509, .laload, 1), (2510, .iload 7, 2), (2512, .i2l, 1), (2513, .lcmp, 1), (2514, .ifCond .eq 5, 3), (2517, .iconst 0, 1), (2518, .ireturn, 1), (2519, .goto 505, 3), (2522, .aload_n 1, 1), (2523, .aload_n 3, 1), (2524, .invokestatic 324, 3), (2527, .istore 6, 2), (2529, .aload_n 2, 1), (2530, .invokevirtual 326, 3), (2533, .istore 7, 2), (2535, .aload_n 2, 1), (2536, .invokevirtual 177, 3), (2539, .iload 6, 2), (2541, .if_icmp .eq 5, 3), (2544, .iconst 0, 1), (2545, .ireturn, 1), (2546, .iload 6, 2), (2548, .ifCond .ne 15, 3), (2551, .aload_n 3, 1), (2552, .iconst 0, 1), (2553, .laload, 1), (2554, .iload 7, 2)]
set_option maxRecDepth 100000 in
theorem kL_law_p23 : dk_ok cL_law iL_law_p23 = true := by decide +kernel
def iL_law_p24 : dk_T := [(2556, .i2l, 1), (2557, .lcmp, 1), (2558, .ifCond .eq 5, 3), (2561, .iconst 0, 1), (2562, .ireturn, 1), (2563, .goto 461, 3), (2566, .aload_n 1, 1), (2567, .aload_n 0, 1), (2568, .iload 5, 2), (2570, .iconst 1, 1), (2571, .iadd, 1), (2572, .iaload, 1), (2573, .aload_n 3, 1), (2574, .invokestatic 327, 3), (2577, .istore 6, 2), (2579, .aload_n 2, 1), (2580, .aload_n 0, 1), (2581, .iload 5, 2), (2583, .iconst 1, 1), (2584, .iadd, 1), (2585, .iaload, 1), (2586, .invokevirtual 329, 3), (2589, .istore 7, 2), (2591, .aload_n 2, 1), (2592, .invokevirtual 177, 3), (2595, .iload 6, 2), (2597, .if_icmp .eq 5, 3), (2600, .iconst 0, 1), (2601, .ireturn, 1), (2602, .iload 6, 2), (2604, .ifCond .ne 15, 3), (2607, .aload_n 3, 1), (2608, .iconst 0, 1), (2609, .laload, 1), (2610, .iload 7, 2), (2612, .i2l, 1), (2613, .lcmp, 1), (2614, .ifCond .eq 5, 3), (2617, .iconst 0, 1), (2618, .ireturn, 1), (2619, .goto 405, 3), (2622, .aload_n 1, 1), (2623, .aload_n 0, 1), (2624, .iload 5, 2), (2626, .iconst 1, 1), (2627, .iadd, 1), (2628, .iaload, 1), (2629, .aload_n 3, 1), (2630, .invokestatic 330, 3), (2633, .istore 6, 2), (2635, .aload_n 2, 1), (2636, .aload_n 0, 1), (2637, .iload 5, 2), (2639, .iconst 1, 1), (2640, .iadd, 1), (2641, .iaload, 1), (2642, .invokevirtual 332, 3), (2645, .istore 7, 2), (2647, .aload_n 2, 1), (2648, .invokevirtual 177, 3)]
set_option maxRecDepth 100000 in
theorem kL_law_p24 : dk_ok cL_law iL_law_p24 = true := by decide +kernel
def iL_law_p25 : dk_T := [(2651, .iload 6, 2), (2653, .if_icmp .eq 5, 3), (2656, .iconst 0, 1), (2657, .ireturn, 1), (2658, .iload 6, 2), (2660, .ifCond .ne 15, 3), (2663, .aload_n 3, 1), (2664, .iconst 0, 1), (2665, .laload, 1), (2666, .iload 7, 2), (2668, .i2l, 1), (2669, .lcmp, 1), (2670, .ifCond .eq 5, 3), (2673, .iconst 0, 1), (2674, .ireturn, 1), (2675, .goto 349, 3), (2678, .aload_n 1, 1), (2679, .aload_n 0, 1), (2680, .iload 5, 2), (2682, .iconst 1, 1), (2683, .iadd, 1), (2684, .iaload, 1), (2685, .aload_n 3, 1), (2686, .invokestatic 333, 3), (2689, .istore 6, 2), (2691, .aload_n 2, 1), (2692, .aload_n 0, 1), (2693, .iload 5, 2), (2695, .iconst 1, 1), (2696, .iadd, 1), (2697, .iaload, 1), (2698, .invokevirtual 335, 3), (2701, .istore 7, 2), (2703, .aload_n 2, 1), (2704, .invokevirtual 177, 3), (2707, .iload 6, 2), (2709, .if_icmp .eq 5, 3), (2712, .iconst 0, 1), (2713, .ireturn, 1), (2714, .iload 6, 2), (2716, .ifCond .ne 15, 3), (2719, .aload_n 3, 1), (2720, .iconst 0, 1), (2721, .laload, 1), (2722, .iload 7, 2), (2724, .i2l, 1), (2725, .lcmp, 1), (2726, .ifCond .eq 5, 3), (2729, .iconst 0, 1), (2730, .ireturn, 1), (2731, .goto 293, 3), (2734, .aload_n 1, 1), (2735, .aload_n 3, 1), (2736, .invokestatic 336, 3), (2739, .istore 6, 2), (2741, .aload_n 2, 1), (2742, .invokevirtual 338, 3), (2745, .istore 7, 2), (2747, .aload_n 2, 1), (2748, .invokevirtual 177, 3)]
set_option maxRecDepth 100000 in
theorem kL_law_p25 : dk_ok cL_law iL_law_p25 = true := by decide +kernel
def iL_law_p26 : dk_T := [(2751, .iload 6, 2), (2753, .if_icmp .eq 5, 3), (2756, .iconst 0, 1), (2757, .ireturn, 1), (2758, .iload 6, 2), (2760, .ifCond .ne 15, 3), (2763, .aload_n 3, 1), (2764, .iconst 0, 1), (2765, .laload, 1), (2766, .iload 7, 2), (2768, .i2l, 1), (2769, .lcmp, 1), (2770, .ifCond .eq 5, 3), (2773, .iconst 0, 1), (2774, .ireturn, 1), (2775, .goto 249, 3), (2778, .aload_n 1, 1), (2779, .aload_n 3, 1), (2780, .invokestatic 339, 3), (2783, .istore 6, 2), (2785, .aload_n 2, 1), (2786, .invokevirtual 341, 3), (2789, .istore 7, 2), (2791, .aload_n 2, 1), (2792, .invokevirtual 177, 3), (2795, .iload 6, 2), (2797, .if_icmp .eq 5, 3), (2800, .iconst 0, 1), (2801, .ireturn, 1), (2802, .iload 6, 2), (2804, .ifCond .ne 15, 3), (2807, .aload_n 3, 1), (2808, .iconst 0, 1), (2809, .laload, 1), (2810, .iload 7, 2), (2812, .i2l, 1), (2813, .lcmp, 1), (2814, .ifCond .eq 5, 3), (2817, .iconst 0, 1), (2818, .ireturn, 1), (2819, .goto 205, 3), (2822, .aload_n 1, 1), (2823, .aload_n 3, 1), (2824, .invokestatic 342, 3), (2827, .istore 6, 2), (2829, .aload_n 2, 1), (2830, .invokevirtual 344, 3), (2833, .istore 7, 2), (2835, .aload_n 2, 1), (2836, .invokevirtual 177, 3), (2839, .iload 6, 2), (2841, .if_icmp .eq 5, 3), (2844, .iconst 0, 1), (2845, .ireturn, 1), (2846, .iload 6, 2), (2848, .ifCond .ne 15, 3), (2851, .aload_n 3, 1), (2852, .iconst 0, 1), (2853, .laload, 1), (2854, .iload 7, 2)]
set_option maxRecDepth 100000 in
theorem kL_law_p26 : dk_ok cL_law iL_law_p26 = true := by decide +kernel
def iL_law_p27 : dk_T := [(2856, .i2l, 1), (2857, .lcmp, 1), (2858, .ifCond .eq 5, 3), (2861, .iconst 0, 1), (2862, .ireturn, 1), (2863, .goto 161, 3), (2866, .aload_n 1, 1), (2867, .aload_n 3, 1), (2868, .invokestatic 345, 3), (2871, .istore 6, 2), (2873, .aload_n 2, 1), (2874, .invokevirtual 347, 3), (2877, .istore 7, 2), (2879, .aload_n 2, 1), (2880, .invokevirtual 177, 3), (2883, .iload 6, 2), (2885, .if_icmp .eq 5, 3), (2888, .iconst 0, 1), (2889, .ireturn, 1), (2890, .iload 6, 2), (2892, .ifCond .ne 15, 3), (2895, .aload_n 3, 1), (2896, .iconst 0, 1), (2897, .laload, 1), (2898, .iload 7, 2), (2900, .i2l, 1), (2901, .lcmp, 1), (2902, .ifCond .eq 5, 3), (2905, .iconst 0, 1), (2906, .ireturn, 1), (2907, .goto 117, 3), (2910, .aload_n 1, 1), (2911, .aload_n 3, 1), (2912, .invokestatic 348, 3), (2915, .istore 6, 2), (2917, .aload_n 2, 1), (2918, .invokevirtual 350, 3), (2921, .istore 7, 2), (2923, .aload_n 2, 1), (2924, .invokevirtual 177, 3), (2927, .iload 6, 2), (2929, .if_icmp .eq 5, 3), (2932, .iconst 0, 1), (2933, .ireturn, 1), (2934, .iload 6, 2), (2936, .ifCond .ne 15, 3), (2939, .aload_n 3, 1), (2940, .iconst 0, 1), (2941, .laload, 1), (2942, .iload 7, 2), (2944, .i2l, 1), (2945, .lcmp, 1), (2946, .ifCond .eq 5, 3), (2949, .iconst 0, 1), (2950, .ireturn, 1), (2951, .goto 73, 3), (2954, .aload_n 1, 1), (2955, .invokevirtual 351, 3), (2958, .aload_n 2, 1), (2959, .invokevirtual 354, 3)]
set_option maxRecDepth 100000 in
theorem kL_law_p27 : dk_ok cL_law iL_law_p27 = true := by decide +kernel
def iL_law_p28 : dk_T := [(2962, .if_icmp .eq 62, 3), (2965, .iconst 0, 1), (2966, .ireturn, 1), (2967, .aload_n 1, 1), (2968, .invokevirtual 355, 3), (2971, .aload_n 2, 1), (2972, .invokevirtual 358, 3), (2975, .if_icmp .eq 49, 3), (2978, .iconst 0, 1), (2979, .ireturn, 1), (2980, .aload_n 1, 1), (2981, .aload_n 3, 1), (2982, .invokestatic 359, 3), (2985, .istore 6, 2), (2987, .aload_n 2, 1), (2988, .invokevirtual 361, 3), (2991, .istore 7, 2), (2993, .aload_n 2, 1), (2994, .invokevirtual 177, 3), (2997, .iload 6, 2), (2999, .if_icmp .eq 5, 3), (3002, .iconst 0, 1), (3003, .ireturn, 1), (3004, .iload 6, 2), (3006, .ifCond .ne 15, 3), (3009, .aload_n 3, 1), (3010, .iconst 0, 1), (3011, .laload, 1), (3012, .iload 7, 2), (3014, .i2l, 1), (3015, .lcmp, 1), (3016, .ifCond .eq 5, 3), (3019, .iconst 0, 1), (3020, .ireturn, 1), (3021, .goto 3, 3), (3024, .iinc 5 5, 3), (3027, .goto (-2999), 3), (3030, .iconst 1, 1), (3031, .ireturn, 1)]
set_option maxRecDepth 100000 in
theorem kL_law_p28 : dk_ok cL_law iL_law_p28 = true := by decide +kernel
end
section
/-! the tables' words, by their places -/
theorem w315 : Cond.lays RX1 "PetitionBoard$Command" "letter" "C" ∈ lwG := wm 315 (by decide +kernel) (by decide +kernel)
theorem w317 : Cond.lays RX1 "PetitionBoard$Command" "first" "I" ∈ lwG := wm 317 (by decide +kernel) (by decide +kernel)
theorem w319 : Cond.lays RX1 "PetitionBoard$Command" "second" "I" ∈ lwG := wm 319 (by decide +kernel) (by decide +kernel)
theorem w321 : Cond.lays RX1 "PetitionBoard$Command" "third" "I" ∈ lwG := wm 321 (by decide +kernel) (by decide +kernel)
theorem w323 : Cond.lays RX1 "PetitionBoard$Command" "fourth" "I" ∈ lwG := wm 323 (by decide +kernel) (by decide +kernel)
theorem w325 : Cond.lays RX1 "PetitionBoard$Command" "values" "I" ∈ lwG := wm 325 (by decide +kernel) (by decide +kernel)
theorem lay_X1 : ∀ w ∈ u_ws RX1 TX1 6, w ∈ lwG := by
  intro w hw
  rw [show u_ws RX1 TX1 6 = [Cond.lays RX1 "PetitionBoard$Command" "letter" "C", Cond.lays RX1 "PetitionBoard$Command" "first" "I", Cond.lays RX1 "PetitionBoard$Command" "second" "I", Cond.lays RX1 "PetitionBoard$Command" "third" "I", Cond.lays RX1 "PetitionBoard$Command" "fourth" "I", Cond.lays RX1 "PetitionBoard$Command" "values" "I"] from rfl] at hw
  simp only [List.mem_cons, List.not_mem_nil, or_false] at hw
  rcases hw with rfl | rfl | rfl | rfl | rfl | rfl
  · exact w315
  · exact w317
  · exact w319
  · exact w321
  · exact w323
  · exact w325
theorem w270 : Cond.laysFinal RX2 "PetitionBoard$History" "rows" "[LPetitionBoard$State;" ∈ lwG := wm 270 (by decide +kernel) (by decide +kernel)
theorem w272 : Cond.lays RX2 "PetitionBoard$History" "count" "I" ∈ lwG := wm 272 (by decide +kernel) (by decide +kernel)
theorem lay_X2 : ∀ w ∈ u_ws RX2 TX2 2, w ∈ lwG := by
  intro w hw
  rw [show u_ws RX2 TX2 2 = [Cond.laysFinal RX2 "PetitionBoard$History" "rows" "[LPetitionBoard$State;", Cond.lays RX2 "PetitionBoard$History" "count" "I"] from rfl] at hw
  simp only [List.mem_cons, List.not_mem_nil, or_false] at hw
  rcases hw with rfl | rfl
  · exact w270
  · exact w272
theorem w285 : Cond.laysFinal RX3 "PetitionBoard$Line" "characters" "[C" ∈ lwG := wm 285 (by decide +kernel) (by decide +kernel)
theorem w287 : Cond.lays RX3 "PetitionBoard$Line" "length" "I" ∈ lwG := wm 287 (by decide +kernel) (by decide +kernel)
theorem lay_X3 : ∀ w ∈ u_ws RX3 TX3 2, w ∈ lwG := by
  intro w hw
  rw [show u_ws RX3 TX3 2 = [Cond.laysFinal RX3 "PetitionBoard$Line" "characters" "[C", Cond.lays RX3 "PetitionBoard$Line" "length" "I"] from rfl] at hw
  simp only [List.mem_cons, List.not_mem_nil, or_false] at hw
  rcases hw with rfl | rfl
  · exact w285
  · exact w287
theorem w166 : Cond.lays RX4 "PetitionBoard$Citing" "cited" "I" ∈ lwG := wm 166 (by decide +kernel) (by decide +kernel)
theorem w168 : Cond.lays RX4 "PetitionBoard$Citing" "firstCited" "I" ∈ lwG := wm 168 (by decide +kernel) (by decide +kernel)
theorem w170 : Cond.lays RX4 "PetitionBoard$Citing" "secondCited" "I" ∈ lwG := wm 170 (by decide +kernel) (by decide +kernel)
theorem w172 : Cond.lays RX4 "PetitionBoard$Citing" "thirdCited" "I" ∈ lwG := wm 172 (by decide +kernel) (by decide +kernel)
theorem w150 : Cond.lays RX4 "PetitionBoard$Petition" "number" "I" ∈ lwG := wm 150 (by decide +kernel) (by decide +kernel)
theorem w152 : Cond.lays RX4 "PetitionBoard$Petition" "petitioner" "I" ∈ lwG := wm 152 (by decide +kernel) (by decide +kernel)
theorem w154 : Cond.lays RX4 "PetitionBoard$Petition" "rank" "I" ∈ lwG := wm 154 (by decide +kernel) (by decide +kernel)
theorem w156 : Cond.lays RX4 "PetitionBoard$Petition" "stone" "I" ∈ lwG := wm 156 (by decide +kernel) (by decide +kernel)
theorem w158 : Cond.lays RX4 "PetitionBoard$Petition" "target" "I" ∈ lwG := wm 158 (by decide +kernel) (by decide +kernel)
theorem w160 : Cond.lays RX4 "PetitionBoard$Petition" "urgency" "I" ∈ lwG := wm 160 (by decide +kernel) (by decide +kernel)
theorem w162 : Cond.lays RX4 "PetitionBoard$Petition" "votersFor" "I" ∈ lwG := wm 162 (by decide +kernel) (by decide +kernel)
theorem w164 : Cond.lays RX4 "PetitionBoard$Petition" "votersAgainst" "I" ∈ lwG := wm 164 (by decide +kernel) (by decide +kernel)
theorem lay_X4 : ∀ w ∈ u_ws RX4 TX4 12, w ∈ lwG := by
  intro w hw
  rw [show u_ws RX4 TX4 12 = [Cond.lays RX4 "PetitionBoard$Citing" "cited" "I", Cond.lays RX4 "PetitionBoard$Citing" "firstCited" "I", Cond.lays RX4 "PetitionBoard$Citing" "secondCited" "I", Cond.lays RX4 "PetitionBoard$Citing" "thirdCited" "I", Cond.lays RX4 "PetitionBoard$Petition" "number" "I", Cond.lays RX4 "PetitionBoard$Petition" "petitioner" "I", Cond.lays RX4 "PetitionBoard$Petition" "rank" "I", Cond.lays RX4 "PetitionBoard$Petition" "stone" "I", Cond.lays RX4 "PetitionBoard$Petition" "target" "I", Cond.lays RX4 "PetitionBoard$Petition" "urgency" "I", Cond.lays RX4 "PetitionBoard$Petition" "votersFor" "I", Cond.lays RX4 "PetitionBoard$Petition" "votersAgainst" "I"] from rfl] at hw
  simp only [List.mem_cons, List.not_mem_nil, or_false] at hw
  rcases hw with rfl | rfl | rfl | rfl | rfl | rfl | rfl | rfl | rfl | rfl | rfl | rfl
  · exact w166
  · exact w168
  · exact w170
  · exact w172
  · exact w150
  · exact w152
  · exact w154
  · exact w156
  · exact w158
  · exact w160
  · exact w162
  · exact w164
theorem w196 : Cond.lays RX5 "PetitionBoard$Citing" "cited" "I" ∈ lwG := wm 196 (by decide +kernel) (by decide +kernel)
theorem w197 : Cond.lays RX5 "PetitionBoard$Citing" "firstCited" "I" ∈ lwG := wm 197 (by decide +kernel) (by decide +kernel)
theorem w198 : Cond.lays RX5 "PetitionBoard$Citing" "secondCited" "I" ∈ lwG := wm 198 (by decide +kernel) (by decide +kernel)
theorem w199 : Cond.lays RX5 "PetitionBoard$Citing" "thirdCited" "I" ∈ lwG := wm 199 (by decide +kernel) (by decide +kernel)
theorem w190 : Cond.lays RX5 "PetitionBoard$Ruling" "granted" "Z" ∈ lwG := wm 190 (by decide +kernel) (by decide +kernel)
theorem w192 : Cond.lays RX5 "PetitionBoard$Ruling" "carriedOut" "Z" ∈ lwG := wm 192 (by decide +kernel) (by decide +kernel)
theorem w194 : Cond.lays RX5 "PetitionBoard$Ruling" "level" "I" ∈ lwG := wm 194 (by decide +kernel) (by decide +kernel)
theorem lay_X5 : ∀ w ∈ u_ws RX5 TX5 7, w ∈ lwG := by
  intro w hw
  rw [show u_ws RX5 TX5 7 = [Cond.lays RX5 "PetitionBoard$Citing" "cited" "I", Cond.lays RX5 "PetitionBoard$Citing" "firstCited" "I", Cond.lays RX5 "PetitionBoard$Citing" "secondCited" "I", Cond.lays RX5 "PetitionBoard$Citing" "thirdCited" "I", Cond.lays RX5 "PetitionBoard$Ruling" "granted" "Z", Cond.lays RX5 "PetitionBoard$Ruling" "carriedOut" "Z", Cond.lays RX5 "PetitionBoard$Ruling" "level" "I"] from rfl] at hw
  simp only [List.mem_cons, List.not_mem_nil, or_false] at hw
  rcases hw with rfl | rfl | rfl | rfl | rfl | rfl | rfl
  · exact w196
  · exact w197
  · exact w198
  · exact w199
  · exact w190
  · exact w192
  · exact w194
theorem w229 : Cond.laysFinal RX6 "PetitionBoard$State" "stoneCell" "[I" ∈ lwG := wm 229 (by decide +kernel) (by decide +kernel)
theorem w231 : Cond.laysFinal RX6 "PetitionBoard$State" "stoneWeight" "[I" ∈ lwG := wm 231 (by decide +kernel) (by decide +kernel)
theorem w233 : Cond.laysFinal RX6 "PetitionBoard$State" "officerRank" "[I" ∈ lwG := wm 233 (by decide +kernel) (by decide +kernel)
theorem w235 : Cond.laysFinal RX6 "PetitionBoard$State" "pending" "[LPetitionBoard$Petition;" ∈ lwG := wm 235 (by decide +kernel) (by decide +kernel)
theorem w237 : Cond.laysFinal RX6 "PetitionBoard$State" "rulings" "[LPetitionBoard$Ruling;" ∈ lwG := wm 237 (by decide +kernel) (by decide +kernel)
theorem w239 : Cond.lays RX6 "PetitionBoard$State" "stoneCount" "I" ∈ lwG := wm 239 (by decide +kernel) (by decide +kernel)
theorem w241 : Cond.lays RX6 "PetitionBoard$State" "officerCount" "I" ∈ lwG := wm 241 (by decide +kernel) (by decide +kernel)
theorem w243 : Cond.lays RX6 "PetitionBoard$State" "pendingCount" "I" ∈ lwG := wm 243 (by decide +kernel) (by decide +kernel)
theorem w245 : Cond.lays RX6 "PetitionBoard$State" "rulingCount" "I" ∈ lwG := wm 245 (by decide +kernel) (by decide +kernel)
theorem w247 : Cond.lays RX6 "PetitionBoard$State" "quorum" "I" ∈ lwG := wm 247 (by decide +kernel) (by decide +kernel)
theorem w249 : Cond.lays RX6 "PetitionBoard$State" "filedCount" "I" ∈ lwG := wm 249 (by decide +kernel) (by decide +kernel)
theorem w251 : Cond.lays RX6 "PetitionBoard$State" "vetoCount" "I" ∈ lwG := wm 251 (by decide +kernel) (by decide +kernel)
theorem w253 : Cond.lays RX6 "PetitionBoard$State" "withdrawalCount" "I" ∈ lwG := wm 253 (by decide +kernel) (by decide +kernel)
theorem w255 : Cond.lays RX6 "PetitionBoard$State" "movedWeight" "I" ∈ lwG := wm 255 (by decide +kernel) (by decide +kernel)
theorem lay_X6 : ∀ w ∈ u_ws RX6 TX6 14, w ∈ lwG := by
  intro w hw
  rw [show u_ws RX6 TX6 14 = [Cond.laysFinal RX6 "PetitionBoard$State" "stoneCell" "[I", Cond.laysFinal RX6 "PetitionBoard$State" "stoneWeight" "[I", Cond.laysFinal RX6 "PetitionBoard$State" "officerRank" "[I", Cond.laysFinal RX6 "PetitionBoard$State" "pending" "[LPetitionBoard$Petition;", Cond.laysFinal RX6 "PetitionBoard$State" "rulings" "[LPetitionBoard$Ruling;", Cond.lays RX6 "PetitionBoard$State" "stoneCount" "I", Cond.lays RX6 "PetitionBoard$State" "officerCount" "I", Cond.lays RX6 "PetitionBoard$State" "pendingCount" "I", Cond.lays RX6 "PetitionBoard$State" "rulingCount" "I", Cond.lays RX6 "PetitionBoard$State" "quorum" "I", Cond.lays RX6 "PetitionBoard$State" "filedCount" "I", Cond.lays RX6 "PetitionBoard$State" "vetoCount" "I", Cond.lays RX6 "PetitionBoard$State" "withdrawalCount" "I", Cond.lays RX6 "PetitionBoard$State" "movedWeight" "I"] from rfl] at hw
  simp only [List.mem_cons, List.not_mem_nil, or_false] at hw
  rcases hw with rfl | rfl | rfl | rfl | rfl | rfl | rfl | rfl | rfl | rfl | rfl | rfl | rfl | rfl
  · exact w229
  · exact w231
  · exact w233
  · exact w235
  · exact w237
  · exact w239
  · exact w241
  · exact w243
  · exact w245
  · exact w247
  · exact w249
  · exact w251
  · exact w253
  · exact w255
theorem w334 : Cond.laysFinal RX7 "PetitionBoard$TextReader" "commands" "[LPetitionBoard$Command;" ∈ lwG := wm 334 (by decide +kernel) (by decide +kernel)
theorem w336 : Cond.lays RX7 "PetitionBoard$TextReader" "count" "I" ∈ lwG := wm 336 (by decide +kernel) (by decide +kernel)
theorem w338 : Cond.lays RX7 "PetitionBoard$TextReader" "place" "I" ∈ lwG := wm 338 (by decide +kernel) (by decide +kernel)
theorem lay_X7 : ∀ w ∈ u_ws RX7 TX7 3, w ∈ lwG := by
  intro w hw
  rw [show u_ws RX7 TX7 3 = [Cond.laysFinal RX7 "PetitionBoard$TextReader" "commands" "[LPetitionBoard$Command;", Cond.lays RX7 "PetitionBoard$TextReader" "count" "I", Cond.lays RX7 "PetitionBoard$TextReader" "place" "I"] from rfl] at hw
  simp only [List.mem_cons, List.not_mem_nil, or_false] at hw
  rcases hw with rfl | rfl | rfl
  · exact w334
  · exact w336
  · exact w338
theorem w356 : Cond.laysFinal RX8 "PetitionBoard" "state" "LPetitionBoard$State;" ∈ lwG := wm 356 (by decide +kernel) (by decide +kernel)
theorem w358 : Cond.laysFinal RX8 "PetitionBoard" "snapshot" "LPetitionBoard$State;" ∈ lwG := wm 358 (by decide +kernel) (by decide +kernel)
theorem w360 : Cond.laysFinal RX8 "PetitionBoard" "history" "LPetitionBoard$History;" ∈ lwG := wm 360 (by decide +kernel) (by decide +kernel)
theorem w362 : Cond.laysFinal RX8 "PetitionBoard" "text" "LPetitionBoard$Line;" ∈ lwG := wm 362 (by decide +kernel) (by decide +kernel)
theorem w364 : Cond.laysFinal RX8 "PetitionBoard" "output" "LPetitionBoard$Line;" ∈ lwG := wm 364 (by decide +kernel) (by decide +kernel)
theorem w366 : Cond.laysFinal RX8 "PetitionBoard" "reader" "LPetitionBoard$TextReader;" ∈ lwG := wm 366 (by decide +kernel) (by decide +kernel)
theorem w368 : Cond.laysFinal RX8 "PetitionBoard" "influences" "[I" ∈ lwG := wm 368 (by decide +kernel) (by decide +kernel)
theorem w370 : Cond.lays RX8 "PetitionBoard" "hasSnapshot" "Z" ∈ lwG := wm 370 (by decide +kernel) (by decide +kernel)
theorem w372 : Cond.lays RX8 "PetitionBoard" "keptFault" "I" ∈ lwG := wm 372 (by decide +kernel) (by decide +kernel)
theorem w374 : Cond.lays RX8 "PetitionBoard" "reason" "I" ∈ lwG := wm 374 (by decide +kernel) (by decide +kernel)
theorem w376 : Cond.lays RX8 "PetitionBoard" "reasonDetail" "I" ∈ lwG := wm 376 (by decide +kernel) (by decide +kernel)
theorem w378 : Cond.lays RX8 "PetitionBoard" "latestDenial" "I" ∈ lwG := wm 378 (by decide +kernel) (by decide +kernel)
theorem w380 : Cond.lays RX8 "PetitionBoard" "latestDetail" "I" ∈ lwG := wm 380 (by decide +kernel) (by decide +kernel)
theorem w382 : Cond.lays RX8 "PetitionBoard" "latestCause" "I" ∈ lwG := wm 382 (by decide +kernel) (by decide +kernel)
theorem w384 : Cond.lays RX8 "PetitionBoard" "latestCauseDetail" "I" ∈ lwG := wm 384 (by decide +kernel) (by decide +kernel)
theorem lay_X8 : ∀ w ∈ u_ws RX8 TX8 15, w ∈ lwG := by
  intro w hw
  rw [show u_ws RX8 TX8 15 = [Cond.laysFinal RX8 "PetitionBoard" "state" "LPetitionBoard$State;", Cond.laysFinal RX8 "PetitionBoard" "snapshot" "LPetitionBoard$State;", Cond.laysFinal RX8 "PetitionBoard" "history" "LPetitionBoard$History;", Cond.laysFinal RX8 "PetitionBoard" "text" "LPetitionBoard$Line;", Cond.laysFinal RX8 "PetitionBoard" "output" "LPetitionBoard$Line;", Cond.laysFinal RX8 "PetitionBoard" "reader" "LPetitionBoard$TextReader;", Cond.laysFinal RX8 "PetitionBoard" "influences" "[I", Cond.lays RX8 "PetitionBoard" "hasSnapshot" "Z", Cond.lays RX8 "PetitionBoard" "keptFault" "I", Cond.lays RX8 "PetitionBoard" "reason" "I", Cond.lays RX8 "PetitionBoard" "reasonDetail" "I", Cond.lays RX8 "PetitionBoard" "latestDenial" "I", Cond.lays RX8 "PetitionBoard" "latestDetail" "I", Cond.lays RX8 "PetitionBoard" "latestCause" "I", Cond.lays RX8 "PetitionBoard" "latestCauseDetail" "I"] from rfl] at hw
  simp only [List.mem_cons, List.not_mem_nil, or_false] at hw
  rcases hw with rfl | rfl | rfl | rfl | rfl | rfl | rfl | rfl | rfl | rfl | rfl | rfl | rfl | rfl | rfl
  · exact w356
  · exact w358
  · exact w360
  · exact w362
  · exact w364
  · exact w366
  · exact w368
  · exact w370
  · exact w372
  · exact w374
  · exact w376
  · exact w378
  · exact w380
  · exact w382
  · exact w384
theorem w1367 : Cond.laysFinal RX9 "PetitionBoardModel" "g" "[I" ∈ lwG := wm 1367 (by decide +kernel) (by decide +kernel)
theorem w1369 : Cond.laysFinal RX9 "PetitionBoardModel" "kept" "[I" ∈ lwG := wm 1369 (by decide +kernel) (by decide +kernel)
theorem w1371 : Cond.laysFinal RX9 "PetitionBoardModel" "saved" "[I" ∈ lwG := wm 1371 (by decide +kernel) (by decide +kernel)
theorem w1373 : Cond.laysFinal RX9 "PetitionBoardModel" "before" "[I" ∈ lwG := wm 1373 (by decide +kernel) (by decide +kernel)
theorem w1375 : Cond.lays RX9 "PetitionBoardModel" "isSaved" "Z" ∈ lwG := wm 1375 (by decide +kernel) (by decide +kernel)
theorem w1377 : Cond.lays RX9 "PetitionBoardModel" "changes" "I" ∈ lwG := wm 1377 (by decide +kernel) (by decide +kernel)
theorem w1379 : Cond.lays RX9 "PetitionBoardModel" "isWithin" "Z" ∈ lwG := wm 1379 (by decide +kernel) (by decide +kernel)
theorem w1381 : Cond.lays RX9 "PetitionBoardModel" "isDenied" "Z" ∈ lwG := wm 1381 (by decide +kernel) (by decide +kernel)
theorem w1383 : Cond.lays RX9 "PetitionBoardModel" "code" "I" ∈ lwG := wm 1383 (by decide +kernel) (by decide +kernel)
theorem w1385 : Cond.lays RX9 "PetitionBoardModel" "why" "I" ∈ lwG := wm 1385 (by decide +kernel) (by decide +kernel)
theorem w1387 : Cond.lays RX9 "PetitionBoardModel" "detail" "I" ∈ lwG := wm 1387 (by decide +kernel) (by decide +kernel)
theorem w1389 : Cond.lays RX9 "PetitionBoardModel" "cause" "I" ∈ lwG := wm 1389 (by decide +kernel) (by decide +kernel)
theorem w1391 : Cond.lays RX9 "PetitionBoardModel" "causeDetail" "I" ∈ lwG := wm 1391 (by decide +kernel) (by decide +kernel)
theorem w1393 : Cond.laysFinal RX9 "PetitionBoardModel" "input" "[I" ∈ lwG := wm 1393 (by decide +kernel) (by decide +kernel)
theorem w1395 : Cond.lays RX9 "PetitionBoardModel" "length" "I" ∈ lwG := wm 1395 (by decide +kernel) (by decide +kernel)
theorem w1397 : Cond.lays RX9 "PetitionBoardModel" "fault" "I" ∈ lwG := wm 1397 (by decide +kernel) (by decide +kernel)
theorem w1399 : Cond.laysFinal RX9 "PetitionBoardModel" "signs" "[C" ∈ lwG := wm 1399 (by decide +kernel) (by decide +kernel)
theorem w1401 : Cond.lays RX9 "PetitionBoardModel" "signMany" "I" ∈ lwG := wm 1401 (by decide +kernel) (by decide +kernel)
theorem w1403 : Cond.laysFinal RX9 "PetitionBoardModel" "deep" "[I" ∈ lwG := wm 1403 (by decide +kernel) (by decide +kernel)
theorem w1405 : Cond.lays RX9 "PetitionBoardModel" "at" "I" ∈ lwG := wm 1405 (by decide +kernel) (by decide +kernel)
theorem w1407 : Cond.laysFinal RX9 "PetitionBoardModel" "told" "[I" ∈ lwG := wm 1407 (by decide +kernel) (by decide +kernel)
theorem w1409 : Cond.lays RX9 "PetitionBoardModel" "toldMany" "I" ∈ lwG := wm 1409 (by decide +kernel) (by decide +kernel)
theorem lay_X9 : ∀ w ∈ u_ws RX9 TX9 22, w ∈ lwG := by
  intro w hw
  rw [show u_ws RX9 TX9 22 = [Cond.laysFinal RX9 "PetitionBoardModel" "g" "[I", Cond.laysFinal RX9 "PetitionBoardModel" "kept" "[I", Cond.laysFinal RX9 "PetitionBoardModel" "saved" "[I", Cond.laysFinal RX9 "PetitionBoardModel" "before" "[I", Cond.lays RX9 "PetitionBoardModel" "isSaved" "Z", Cond.lays RX9 "PetitionBoardModel" "changes" "I", Cond.lays RX9 "PetitionBoardModel" "isWithin" "Z", Cond.lays RX9 "PetitionBoardModel" "isDenied" "Z", Cond.lays RX9 "PetitionBoardModel" "code" "I", Cond.lays RX9 "PetitionBoardModel" "why" "I", Cond.lays RX9 "PetitionBoardModel" "detail" "I", Cond.lays RX9 "PetitionBoardModel" "cause" "I", Cond.lays RX9 "PetitionBoardModel" "causeDetail" "I", Cond.laysFinal RX9 "PetitionBoardModel" "input" "[I", Cond.lays RX9 "PetitionBoardModel" "length" "I", Cond.lays RX9 "PetitionBoardModel" "fault" "I", Cond.laysFinal RX9 "PetitionBoardModel" "signs" "[C", Cond.lays RX9 "PetitionBoardModel" "signMany" "I", Cond.laysFinal RX9 "PetitionBoardModel" "deep" "[I", Cond.lays RX9 "PetitionBoardModel" "at" "I", Cond.laysFinal RX9 "PetitionBoardModel" "told" "[I", Cond.lays RX9 "PetitionBoardModel" "toldMany" "I"] from rfl] at hw
  simp only [List.mem_cons, List.not_mem_nil, or_false] at hw
  rcases hw with rfl | rfl | rfl | rfl | rfl | rfl | rfl | rfl | rfl | rfl | rfl | rfl | rfl | rfl | rfl | rfl | rfl | rfl | rfl | rfl | rfl | rfl
  · exact w1367
  · exact w1369
  · exact w1371
  · exact w1373
  · exact w1375
  · exact w1377
  · exact w1379
  · exact w1381
  · exact w1383
  · exact w1385
  · exact w1387
  · exact w1389
  · exact w1391
  · exact w1393
  · exact w1395
  · exact w1397
  · exact w1399
  · exact w1401
  · exact w1403
  · exact w1405
  · exact w1407
  · exact w1409
theorem w92 : Cond.classLink RL 8 RX8 ∈ lwG := wm 92 (by decide +kernel) (by decide +kernel)
theorem w93 : Cond.instantiable RX8 15 ∈ lwG := wm 93 (by decide +kernel) (by decide +kernel)
theorem w66 : Cond.initialized RX8 ∈ lwG := wm 66 (by decide +kernel) (by decide +kernel)
theorem w94 : Cond.methodLink RL 167 yX8_init ∈ lwG := wm 94 (by decide +kernel) (by decide +kernel)
theorem w97 : Cond.methodLink RX8 3 ⟨"java/lang/Object", "<init>", "()V"⟩ ∈ lwG := wm 97 (by decide +kernel) (by decide +kernel)
theorem w100 : Cond.classLink RX8 9 RX6 ∈ lwG := wm 100 (by decide +kernel) (by decide +kernel)
theorem w101 : Cond.instantiable RX6 14 ∈ lwG := wm 101 (by decide +kernel) (by decide +kernel)
theorem w67 : Cond.initialized RX6 ∈ lwG := wm 67 (by decide +kernel) (by decide +kernel)
theorem w102 : Cond.methodLink RX8 11 yX6_init ∈ lwG := wm 102 (by decide +kernel) (by decide +kernel)
theorem w105 : Cond.methodLink RX6 3 ⟨"java/lang/Object", "<init>", "()V"⟩ ∈ lwG := wm 105 (by decide +kernel) (by decide +kernel)
theorem w106 : Cond.classLink RX6 21 RX4 ∈ lwG := wm 106 (by decide +kernel) (by decide +kernel)
theorem w110 : Cond.instantiable RX4 12 ∈ lwG := wm 110 (by decide +kernel) (by decide +kernel)
theorem w69 : Cond.initialized RX4 ∈ lwG := wm 69 (by decide +kernel) (by decide +kernel)
theorem w108 : Cond.classLink RX6 27 RX5 ∈ lwG := wm 108 (by decide +kernel) (by decide +kernel)
theorem w176 : Cond.instantiable RX5 7 ∈ lwG := wm 176 (by decide +kernel) (by decide +kernel)
theorem w70 : Cond.initialized RX5 ∈ lwG := wm 70 (by decide +kernel) (by decide +kernel)
theorem w117 : Cond.methodLink RX0 1 ⟨"java/lang/Object", "<init>", "()V"⟩ ∈ lwG := wm 117 (by decide +kernel) (by decide +kernel)
theorem w118 : Cond.fieldLink RX4 25 "PetitionBoard$Petition" "number" "I" ∈ lwG := wm 118 (by decide +kernel) (by decide +kernel)
theorem w119 : Cond.fieldLink RX6 76 "PetitionBoard$Petition" "number" "I" ∈ lwG := wm 119 (by decide +kernel) (by decide +kernel)
theorem w120 : Cond.fieldLink RX8 141 "PetitionBoard$Petition" "number" "I" ∈ lwG := wm 120 (by decide +kernel) (by decide +kernel)
theorem w121 : Cond.fieldLink RX4 45 "PetitionBoard$Petition" "petitioner" "I" ∈ lwG := wm 121 (by decide +kernel) (by decide +kernel)
theorem w122 : Cond.fieldLink RX8 117 "PetitionBoard$Petition" "petitioner" "I" ∈ lwG := wm 122 (by decide +kernel) (by decide +kernel)
theorem w123 : Cond.fieldLink RX6 82 "PetitionBoard$Petition" "petitioner" "I" ∈ lwG := wm 123 (by decide +kernel) (by decide +kernel)
theorem w124 : Cond.fieldLink RX4 19 "PetitionBoard$Petition" "rank" "I" ∈ lwG := wm 124 (by decide +kernel) (by decide +kernel)
theorem w125 : Cond.fieldLink RX6 85 "PetitionBoard$Petition" "rank" "I" ∈ lwG := wm 125 (by decide +kernel) (by decide +kernel)
theorem w126 : Cond.fieldLink RX8 381 "PetitionBoard$Petition" "rank" "I" ∈ lwG := wm 126 (by decide +kernel) (by decide +kernel)
theorem w127 : Cond.fieldLink RX6 79 "PetitionBoard$Petition" "stone" "I" ∈ lwG := wm 127 (by decide +kernel) (by decide +kernel)
theorem w128 : Cond.fieldLink RX4 48 "PetitionBoard$Petition" "stone" "I" ∈ lwG := wm 128 (by decide +kernel) (by decide +kernel)
theorem w129 : Cond.fieldLink RX8 152 "PetitionBoard$Petition" "stone" "I" ∈ lwG := wm 129 (by decide +kernel) (by decide +kernel)
theorem w130 : Cond.fieldLink RX4 51 "PetitionBoard$Petition" "target" "I" ∈ lwG := wm 130 (by decide +kernel) (by decide +kernel)
theorem w131 : Cond.fieldLink RX6 88 "PetitionBoard$Petition" "target" "I" ∈ lwG := wm 131 (by decide +kernel) (by decide +kernel)
theorem w132 : Cond.fieldLink RX8 155 "PetitionBoard$Petition" "target" "I" ∈ lwG := wm 132 (by decide +kernel) (by decide +kernel)
theorem w133 : Cond.fieldLink RX4 22 "PetitionBoard$Petition" "urgency" "I" ∈ lwG := wm 133 (by decide +kernel) (by decide +kernel)
theorem w134 : Cond.fieldLink RX6 91 "PetitionBoard$Petition" "urgency" "I" ∈ lwG := wm 134 (by decide +kernel) (by decide +kernel)
theorem w135 : Cond.fieldLink RX8 294 "PetitionBoard$Petition" "urgency" "I" ∈ lwG := wm 135 (by decide +kernel) (by decide +kernel)
theorem w136 : Cond.fieldLink RX4 7 "PetitionBoard$Petition" "votersFor" "I" ∈ lwG := wm 136 (by decide +kernel) (by decide +kernel)
theorem w137 : Cond.fieldLink RX4 13 "PetitionBoard$Petition" "votersAgainst" "I" ∈ lwG := wm 137 (by decide +kernel) (by decide +kernel)
theorem w139 : Cond.sameField "PetitionBoard$Petition" "PetitionBoard$Citing" "cited" "I" ∈ lwG := wm 139 (by decide +kernel) (by decide +kernel)
theorem w138 : Cond.fieldLink RX4 16 "PetitionBoard$Petition" "cited" "I" ∈ lwG := wm 138 (by decide +kernel) (by decide +kernel)
theorem w140 : Cond.fieldLink RX0 19 "PetitionBoard$Citing" "cited" "I" ∈ lwG := wm 140 (by decide +kernel) (by decide +kernel)
theorem w141 : Cond.fieldLink RX6 111 "PetitionBoard$Petition" "cited" "I" ∈ lwG := wm 141 (by decide +kernel) (by decide +kernel)
theorem w142 : Cond.fieldLink RX6 153 "PetitionBoard$Citing" "cited" "I" ∈ lwG := wm 142 (by decide +kernel) (by decide +kernel)
theorem w144 : Cond.sameField "PetitionBoard$Ruling" "PetitionBoard$Citing" "cited" "I" ∈ lwG := wm 144 (by decide +kernel) (by decide +kernel)
theorem w143 : Cond.fieldLink RX6 169 "PetitionBoard$Ruling" "cited" "I" ∈ lwG := wm 143 (by decide +kernel) (by decide +kernel)
theorem w145 : Cond.fieldLink RX8 193 "PetitionBoard$Ruling" "cited" "I" ∈ lwG := wm 145 (by decide +kernel) (by decide +kernel)
theorem w146 : Cond.fieldLink RX8 297 "PetitionBoard$Petition" "cited" "I" ∈ lwG := wm 146 (by decide +kernel) (by decide +kernel)
theorem w147 : Cond.fieldLink RX0 7 "PetitionBoard$Citing" "firstCited" "I" ∈ lwG := wm 147 (by decide +kernel) (by decide +kernel)
theorem w148 : Cond.fieldLink RX0 13 "PetitionBoard$Citing" "secondCited" "I" ∈ lwG := wm 148 (by decide +kernel) (by decide +kernel)
theorem w149 : Cond.fieldLink RX0 16 "PetitionBoard$Citing" "thirdCited" "I" ∈ lwG := wm 149 (by decide +kernel) (by decide +kernel)
theorem w181 : Cond.fieldLink RX5 13 "PetitionBoard$Ruling" "granted" "Z" ∈ lwG := wm 181 (by decide +kernel) (by decide +kernel)
theorem w182 : Cond.fieldLink RX6 122 "PetitionBoard$Ruling" "granted" "Z" ∈ lwG := wm 182 (by decide +kernel) (by decide +kernel)
theorem w183 : Cond.fieldLink RX8 184 "PetitionBoard$Ruling" "granted" "Z" ∈ lwG := wm 183 (by decide +kernel) (by decide +kernel)
theorem w184 : Cond.fieldLink RX5 17 "PetitionBoard$Ruling" "carriedOut" "Z" ∈ lwG := wm 184 (by decide +kernel) (by decide +kernel)
theorem w185 : Cond.fieldLink RX6 143 "PetitionBoard$Ruling" "carriedOut" "Z" ∈ lwG := wm 185 (by decide +kernel) (by decide +kernel)
theorem w186 : Cond.fieldLink RX8 190 "PetitionBoard$Ruling" "carriedOut" "Z" ∈ lwG := wm 186 (by decide +kernel) (by decide +kernel)
theorem w187 : Cond.fieldLink RX5 20 "PetitionBoard$Ruling" "level" "I" ∈ lwG := wm 187 (by decide +kernel) (by decide +kernel)
theorem w188 : Cond.fieldLink RX6 134 "PetitionBoard$Ruling" "level" "I" ∈ lwG := wm 188 (by decide +kernel) (by decide +kernel)
theorem w189 : Cond.fieldLink RX8 206 "PetitionBoard$Ruling" "level" "I" ∈ lwG := wm 189 (by decide +kernel) (by decide +kernel)
theorem w201 : Cond.fieldLink RX6 9 "PetitionBoard$State" "stoneCell" "[I" ∈ lwG := wm 201 (by decide +kernel) (by decide +kernel)
theorem w202 : Cond.fieldLink RX8 80 "PetitionBoard$State" "stoneCell" "[I" ∈ lwG := wm 202 (by decide +kernel) (by decide +kernel)
theorem w203 : Cond.fieldLink RX6 15 "PetitionBoard$State" "stoneWeight" "[I" ∈ lwG := wm 203 (by decide +kernel) (by decide +kernel)
theorem w204 : Cond.fieldLink RX8 83 "PetitionBoard$State" "stoneWeight" "[I" ∈ lwG := wm 204 (by decide +kernel) (by decide +kernel)
theorem w205 : Cond.fieldLink RX6 18 "PetitionBoard$State" "officerRank" "[I" ∈ lwG := wm 205 (by decide +kernel) (by decide +kernel)
theorem w206 : Cond.fieldLink RX8 107 "PetitionBoard$State" "officerRank" "[I" ∈ lwG := wm 206 (by decide +kernel) (by decide +kernel)
theorem w207 : Cond.fieldLink RX6 23 "PetitionBoard$State" "pending" "[LPetitionBoard$Petition;" ∈ lwG := wm 207 (by decide +kernel) (by decide +kernel)
theorem w208 : Cond.fieldLink RX8 113 "PetitionBoard$State" "pending" "[LPetitionBoard$Petition;" ∈ lwG := wm 208 (by decide +kernel) (by decide +kernel)
theorem w209 : Cond.fieldLink RX6 29 "PetitionBoard$State" "rulings" "[LPetitionBoard$Ruling;" ∈ lwG := wm 209 (by decide +kernel) (by decide +kernel)
theorem w210 : Cond.fieldLink RX8 199 "PetitionBoard$State" "rulings" "[LPetitionBoard$Ruling;" ∈ lwG := wm 210 (by decide +kernel) (by decide +kernel)
theorem w211 : Cond.fieldLink RX6 58 "PetitionBoard$State" "stoneCount" "I" ∈ lwG := wm 211 (by decide +kernel) (by decide +kernel)
theorem w212 : Cond.fieldLink RX8 66 "PetitionBoard$State" "stoneCount" "I" ∈ lwG := wm 212 (by decide +kernel) (by decide +kernel)
theorem w213 : Cond.fieldLink RX6 61 "PetitionBoard$State" "officerCount" "I" ∈ lwG := wm 213 (by decide +kernel) (by decide +kernel)
theorem w214 : Cond.fieldLink RX8 99 "PetitionBoard$State" "officerCount" "I" ∈ lwG := wm 214 (by decide +kernel) (by decide +kernel)
theorem w215 : Cond.fieldLink RX6 45 "PetitionBoard$State" "pendingCount" "I" ∈ lwG := wm 215 (by decide +kernel) (by decide +kernel)
theorem w216 : Cond.fieldLink RX8 110 "PetitionBoard$State" "pendingCount" "I" ∈ lwG := wm 216 (by decide +kernel) (by decide +kernel)
theorem w217 : Cond.fieldLink RX6 52 "PetitionBoard$State" "rulingCount" "I" ∈ lwG := wm 217 (by decide +kernel) (by decide +kernel)
theorem w218 : Cond.fieldLink RX8 177 "PetitionBoard$State" "rulingCount" "I" ∈ lwG := wm 218 (by decide +kernel) (by decide +kernel)
theorem w219 : Cond.fieldLink RX6 35 "PetitionBoard$State" "quorum" "I" ∈ lwG := wm 219 (by decide +kernel) (by decide +kernel)
theorem w220 : Cond.fieldLink RX8 174 "PetitionBoard$State" "quorum" "I" ∈ lwG := wm 220 (by decide +kernel) (by decide +kernel)
theorem w221 : Cond.fieldLink RX6 64 "PetitionBoard$State" "filedCount" "I" ∈ lwG := wm 221 (by decide +kernel) (by decide +kernel)
theorem w222 : Cond.fieldLink RX8 221 "PetitionBoard$State" "filedCount" "I" ∈ lwG := wm 222 (by decide +kernel) (by decide +kernel)
theorem w223 : Cond.fieldLink RX6 67 "PetitionBoard$State" "vetoCount" "I" ∈ lwG := wm 223 (by decide +kernel) (by decide +kernel)
theorem w224 : Cond.fieldLink RX8 224 "PetitionBoard$State" "vetoCount" "I" ∈ lwG := wm 224 (by decide +kernel) (by decide +kernel)
theorem w225 : Cond.fieldLink RX6 70 "PetitionBoard$State" "withdrawalCount" "I" ∈ lwG := wm 225 (by decide +kernel) (by decide +kernel)
theorem w226 : Cond.fieldLink RX8 227 "PetitionBoard$State" "withdrawalCount" "I" ∈ lwG := wm 226 (by decide +kernel) (by decide +kernel)
theorem w227 : Cond.fieldLink RX6 73 "PetitionBoard$State" "movedWeight" "I" ∈ lwG := wm 227 (by decide +kernel) (by decide +kernel)
theorem w228 : Cond.fieldLink RX8 230 "PetitionBoard$State" "movedWeight" "I" ∈ lwG := wm 228 (by decide +kernel) (by decide +kernel)
theorem w258 : Cond.classLink RX8 19 RX2 ∈ lwG := wm 258 (by decide +kernel) (by decide +kernel)
theorem w259 : Cond.instantiable RX2 2 ∈ lwG := wm 259 (by decide +kernel) (by decide +kernel)
theorem w71 : Cond.initialized RX2 ∈ lwG := wm 71 (by decide +kernel) (by decide +kernel)
theorem w260 : Cond.methodLink RX8 21 yX2_init ∈ lwG := wm 260 (by decide +kernel) (by decide +kernel)
theorem w263 : Cond.methodLink RX2 3 ⟨"java/lang/Object", "<init>", "()V"⟩ ∈ lwG := wm 263 (by decide +kernel) (by decide +kernel)
theorem w264 : Cond.classLink RX2 9 RX6 ∈ lwG := wm 264 (by decide +kernel) (by decide +kernel)
theorem w266 : Cond.methodLink RX2 17 yX6_init ∈ lwG := wm 266 (by decide +kernel) (by decide +kernel)
theorem w267 : Cond.fieldLink RX2 11 "PetitionBoard$History" "rows" "[LPetitionBoard$State;" ∈ lwG := wm 267 (by decide +kernel) (by decide +kernel)
theorem w268 : Cond.fieldLink RX2 18 "PetitionBoard$History" "count" "I" ∈ lwG := wm 268 (by decide +kernel) (by decide +kernel)
theorem w269 : Cond.fieldLink RX8 329 "PetitionBoard$History" "count" "I" ∈ lwG := wm 269 (by decide +kernel) (by decide +kernel)
theorem w275 : Cond.classLink RX8 26 RX3 ∈ lwG := wm 275 (by decide +kernel) (by decide +kernel)
theorem w276 : Cond.instantiable RX3 2 ∈ lwG := wm 276 (by decide +kernel) (by decide +kernel)
theorem w72 : Cond.initialized RX3 ∈ lwG := wm 72 (by decide +kernel) (by decide +kernel)
theorem w280 : Cond.methodLink RX3 3 ⟨"java/lang/Object", "<init>", "()V"⟩ ∈ lwG := wm 280 (by decide +kernel) (by decide +kernel)
theorem w281 : Cond.fieldLink RX3 9 "PetitionBoard$Line" "characters" "[C" ∈ lwG := wm 281 (by decide +kernel) (by decide +kernel)
theorem w282 : Cond.fieldLink RX3 15 "PetitionBoard$Line" "length" "I" ∈ lwG := wm 282 (by decide +kernel) (by decide +kernel)
theorem w283 : Cond.fieldLink RX7 29 "PetitionBoard$Line" "length" "I" ∈ lwG := wm 283 (by decide +kernel) (by decide +kernel)
theorem w284 : Cond.fieldLink RX8 243 "PetitionBoard$Line" "length" "I" ∈ lwG := wm 284 (by decide +kernel) (by decide +kernel)
theorem w291 : Cond.classLink RX8 36 RX7 ∈ lwG := wm 291 (by decide +kernel) (by decide +kernel)
theorem w292 : Cond.instantiable RX7 3 ∈ lwG := wm 292 (by decide +kernel) (by decide +kernel)
theorem w73 : Cond.initialized RX7 ∈ lwG := wm 73 (by decide +kernel) (by decide +kernel)
theorem w293 : Cond.methodLink RX8 38 yX7_init ∈ lwG := wm 293 (by decide +kernel) (by decide +kernel)
theorem w296 : Cond.methodLink RX7 3 ⟨"java/lang/Object", "<init>", "()V"⟩ ∈ lwG := wm 296 (by decide +kernel) (by decide +kernel)
theorem w297 : Cond.classLink RX7 9 RX1 ∈ lwG := wm 297 (by decide +kernel) (by decide +kernel)
theorem w299 : Cond.instantiable RX1 6 ∈ lwG := wm 299 (by decide +kernel) (by decide +kernel)
theorem w74 : Cond.initialized RX1 ∈ lwG := wm 74 (by decide +kernel) (by decide +kernel)
theorem w303 : Cond.methodLink RX1 1 ⟨"java/lang/Object", "<init>", "()V"⟩ ∈ lwG := wm 303 (by decide +kernel) (by decide +kernel)
theorem w304 : Cond.fieldLink RX1 7 "PetitionBoard$Command" "letter" "C" ∈ lwG := wm 304 (by decide +kernel) (by decide +kernel)
theorem w305 : Cond.fieldLink RX8 418 "PetitionBoard$Command" "letter" "C" ∈ lwG := wm 305 (by decide +kernel) (by decide +kernel)
theorem w306 : Cond.fieldLink RX1 17 "PetitionBoard$Command" "first" "I" ∈ lwG := wm 306 (by decide +kernel) (by decide +kernel)
theorem w307 : Cond.fieldLink RX8 424 "PetitionBoard$Command" "first" "I" ∈ lwG := wm 307 (by decide +kernel) (by decide +kernel)
theorem w308 : Cond.fieldLink RX1 20 "PetitionBoard$Command" "second" "I" ∈ lwG := wm 308 (by decide +kernel) (by decide +kernel)
theorem w309 : Cond.fieldLink RX8 427 "PetitionBoard$Command" "second" "I" ∈ lwG := wm 309 (by decide +kernel) (by decide +kernel)
theorem w310 : Cond.fieldLink RX1 23 "PetitionBoard$Command" "third" "I" ∈ lwG := wm 310 (by decide +kernel) (by decide +kernel)
theorem w311 : Cond.fieldLink RX8 430 "PetitionBoard$Command" "third" "I" ∈ lwG := wm 311 (by decide +kernel) (by decide +kernel)
theorem w312 : Cond.fieldLink RX1 26 "PetitionBoard$Command" "fourth" "I" ∈ lwG := wm 312 (by decide +kernel) (by decide +kernel)
theorem w313 : Cond.fieldLink RX8 433 "PetitionBoard$Command" "fourth" "I" ∈ lwG := wm 313 (by decide +kernel) (by decide +kernel)
theorem w314 : Cond.fieldLink RX1 13 "PetitionBoard$Command" "values" "I" ∈ lwG := wm 314 (by decide +kernel) (by decide +kernel)
theorem w328 : Cond.fieldLink RX7 11 "PetitionBoard$TextReader" "commands" "[LPetitionBoard$Command;" ∈ lwG := wm 328 (by decide +kernel) (by decide +kernel)
theorem w329 : Cond.fieldLink RX8 410 "PetitionBoard$TextReader" "commands" "[LPetitionBoard$Command;" ∈ lwG := wm 329 (by decide +kernel) (by decide +kernel)
theorem w330 : Cond.fieldLink RX7 22 "PetitionBoard$TextReader" "count" "I" ∈ lwG := wm 330 (by decide +kernel) (by decide +kernel)
theorem w331 : Cond.fieldLink RX8 285 "PetitionBoard$TextReader" "count" "I" ∈ lwG := wm 331 (by decide +kernel) (by decide +kernel)
theorem w332 : Cond.fieldLink RX7 18 "PetitionBoard$TextReader" "place" "I" ∈ lwG := wm 332 (by decide +kernel) (by decide +kernel)
theorem w333 : Cond.fieldLink RX8 262 "PetitionBoard$TextReader" "place" "I" ∈ lwG := wm 333 (by decide +kernel) (by decide +kernel)
theorem w341 : Cond.fieldLink RX8 12 "PetitionBoard" "state" "LPetitionBoard$State;" ∈ lwG := wm 341 (by decide +kernel) (by decide +kernel)
theorem w342 : Cond.fieldLink RX8 16 "PetitionBoard" "snapshot" "LPetitionBoard$State;" ∈ lwG := wm 342 (by decide +kernel) (by decide +kernel)
theorem w343 : Cond.fieldLink RX8 22 "PetitionBoard" "history" "LPetitionBoard$History;" ∈ lwG := wm 343 (by decide +kernel) (by decide +kernel)
theorem w344 : Cond.fieldLink RX8 29 "PetitionBoard" "text" "LPetitionBoard$Line;" ∈ lwG := wm 344 (by decide +kernel) (by decide +kernel)
theorem w345 : Cond.fieldLink RX8 33 "PetitionBoard" "output" "LPetitionBoard$Line;" ∈ lwG := wm 345 (by decide +kernel) (by decide +kernel)
theorem w346 : Cond.fieldLink RX8 39 "PetitionBoard" "reader" "LPetitionBoard$TextReader;" ∈ lwG := wm 346 (by decide +kernel) (by decide +kernel)
theorem w347 : Cond.fieldLink RX8 43 "PetitionBoard" "influences" "[I" ∈ lwG := wm 347 (by decide +kernel) (by decide +kernel)
theorem w348 : Cond.fieldLink RX8 338 "PetitionBoard" "hasSnapshot" "Z" ∈ lwG := wm 348 (by decide +kernel) (by decide +kernel)
theorem w349 : Cond.fieldLink RX8 47 "PetitionBoard" "keptFault" "I" ∈ lwG := wm 349 (by decide +kernel) (by decide +kernel)
theorem w350 : Cond.fieldLink RX8 392 "PetitionBoard" "reason" "I" ∈ lwG := wm 350 (by decide +kernel) (by decide +kernel)
theorem w351 : Cond.fieldLink RX8 395 "PetitionBoard" "reasonDetail" "I" ∈ lwG := wm 351 (by decide +kernel) (by decide +kernel)
theorem w352 : Cond.fieldLink RX8 314 "PetitionBoard" "latestDenial" "I" ∈ lwG := wm 352 (by decide +kernel) (by decide +kernel)
theorem w353 : Cond.fieldLink RX8 317 "PetitionBoard" "latestDetail" "I" ∈ lwG := wm 353 (by decide +kernel) (by decide +kernel)
theorem w354 : Cond.fieldLink RX8 323 "PetitionBoard" "latestCause" "I" ∈ lwG := wm 354 (by decide +kernel) (by decide +kernel)
theorem w355 : Cond.fieldLink RX8 326 "PetitionBoard" "latestCauseDetail" "I" ∈ lwG := wm 355 (by decide +kernel) (by decide +kernel)
theorem w387 : Cond.methodLink RL 184 yX8_stoneCount ∈ lwG := wm 387 (by decide +kernel) (by decide +kernel)
theorem w391 : Cond.methodLink RL 197 yX8_officerCount ∈ lwG := wm 391 (by decide +kernel) (by decide +kernel)
theorem w395 : Cond.methodLink RL 224 yX8_pendingCount ∈ lwG := wm 395 (by decide +kernel) (by decide +kernel)
theorem w399 : Cond.methodLink RL 256 yX8_quorum ∈ lwG := wm 399 (by decide +kernel) (by decide +kernel)
theorem w403 : Cond.methodLink RL 260 yX8_rulingCount ∈ lwG := wm 403 (by decide +kernel) (by decide +kernel)
theorem w407 : Cond.methodLink RL 294 yX8_filedCount ∈ lwG := wm 407 (by decide +kernel) (by decide +kernel)
theorem w411 : Cond.methodLink RL 298 yX8_vetoes ∈ lwG := wm 411 (by decide +kernel) (by decide +kernel)
theorem w415 : Cond.methodLink RL 302 yX8_withdrawals ∈ lwG := wm 415 (by decide +kernel) (by decide +kernel)
theorem w419 : Cond.methodLink RL 306 yX8_movedWeight ∈ lwG := wm 419 (by decide +kernel) (by decide +kernel)
theorem w423 : Cond.methodLink RL 351 yX8_undoCount ∈ lwG := wm 423 (by decide +kernel) (by decide +kernel)
theorem w427 : Cond.methodLink RL 355 yX8_saveSnapshot ∈ lwG := wm 427 (by decide +kernel) (by decide +kernel)
theorem w431 : Cond.methodLink RX8 335 yX6_copyFrom ∈ lwG := wm 431 (by decide +kernel) (by decide +kernel)
theorem w435 : Cond.methodLink RX6 39 ⟨"java/lang/System", "arraycopy", "(Ljava/lang/Object;ILjava/lang/Object;II)V"⟩ ∈ lwG := wm 435 (by decide +kernel) (by decide +kernel)
theorem w438 : Cond.methodLink RX6 48 yX4_copyFrom ∈ lwG := wm 438 (by decide +kernel) (by decide +kernel)
theorem w442 : Cond.methodLink RX4 41 ⟨"PetitionBoard$Petition", "copyCited", "(LPetitionBoard$Citing;)V"⟩ ∈ lwG := wm 442 (by decide +kernel) (by decide +kernel)
theorem w448 : Cond.methodLink RX6 55 yX5_copyFrom ∈ lwG := wm 448 (by decide +kernel) (by decide +kernel)
theorem w452 : Cond.methodLink RX5 7 ⟨"PetitionBoard$Ruling", "copyCited", "(LPetitionBoard$Citing;)V"⟩ ∈ lwG := wm 452 (by decide +kernel) (by decide +kernel)
theorem w455 : Cond.methodLink RL 171 yL_addStone ∈ lwG := wm 455 (by decide +kernel) (by decide +kernel)
theorem w462 : Cond.methodLink RJx00060 7 ⟨"java/lang/IndexOutOfBoundsException", "<init>", "(Ljava/lang/String;)V"⟩ ∈ lwG := wm 462 (by decide +kernel) (by decide +kernel)
theorem w540 : Cond.methodLink RL 7 yX8_addStone ∈ lwG := wm 540 (by decide +kernel) (by decide +kernel)
theorem w544 : Cond.methodLink RX8 51 yX2_prepare ∈ lwG := wm 544 (by decide +kernel) (by decide +kernel)
theorem w548 : Cond.methodLink RX2 22 yX6_copyFrom ∈ lwG := wm 548 (by decide +kernel) (by decide +kernel)
theorem w549 : Cond.methodLink RX8 55 yX8_placeStone ∈ lwG := wm 549 (by decide +kernel) (by decide +kernel)
theorem w553 : Cond.methodLink RX8 86 yX8_isCell ∈ lwG := wm 553 (by decide +kernel) (by decide +kernel)
theorem w556 : Cond.methodLink RX8 91 yX6_findStoneIn ∈ lwG := wm 556 (by decide +kernel) (by decide +kernel)
theorem w560 : Cond.methodLink RX8 346 yX8_deny ∈ lwG := wm 560 (by decide +kernel) (by decide +kernel)
theorem w564 : Cond.methodLink RX8 349 yX6_appendStone ∈ lwG := wm 564 (by decide +kernel) (by decide +kernel)
theorem w568 : Cond.methodLink RX8 59 yX8_conclude ∈ lwG := wm 568 (by decide +kernel) (by decide +kernel)
theorem w582 : Cond.methodLink RX8 77 ⟨"java/lang/IndexOutOfBoundsException", "<init>", "(Ljava/lang/String;)V"⟩ ∈ lwG := wm 582 (by decide +kernel) (by decide +kernel)
theorem w595 : Cond.methodLink RX8 269 ⟨"java/lang/IllegalArgumentException", "<init>", "(Ljava/lang/String;)V"⟩ ∈ lwG := wm 595 (by decide +kernel) (by decide +kernel)
theorem w611 : Cond.methodLink RX8 98 ⟨"java/util/NoSuchElementException", "<init>", "(Ljava/lang/String;)V"⟩ ∈ lwG := wm 611 (by decide +kernel) (by decide +kernel)
theorem w617 : Cond.methodLink RX8 404 yX8_keepDenial ∈ lwG := wm 617 (by decide +kernel) (by decide +kernel)
theorem w631 : Cond.methodLink RX8 281 ⟨"java/lang/UnsupportedOperationException", "<init>", "(Ljava/lang/String;)V"⟩ ∈ lwG := wm 631 (by decide +kernel) (by decide +kernel)
theorem w637 : Cond.methodLink RX8 282 yX2_keepPrepared ∈ lwG := wm 637 (by decide +kernel) (by decide +kernel)
theorem w641 : Cond.methodLink RL 180 yL_addOfficer ∈ lwG := wm 641 (by decide +kernel) (by decide +kernel)
theorem w644 : Cond.methodLink RL 19 yX8_addOfficer ∈ lwG := wm 644 (by decide +kernel) (by decide +kernel)
theorem w648 : Cond.methodLink RX8 63 yX8_enlistOfficer ∈ lwG := wm 648 (by decide +kernel) (by decide +kernel)
theorem w652 : Cond.methodLink RX8 352 yX6_appendOfficer ∈ lwG := wm 652 (by decide +kernel) (by decide +kernel)
theorem w656 : Cond.methodLink RL 188 yL_cellOf ∈ lwG := wm 656 (by decide +kernel) (by decide +kernel)
theorem w659 : Cond.methodLink RL 23 yX8_cellOf ∈ lwG := wm 659 (by decide +kernel) (by decide +kernel)
theorem w663 : Cond.methodLink RX8 69 yX6_hasStone ∈ lwG := wm 663 (by decide +kernel) (by decide +kernel)
theorem w668 : Cond.methodLink RL 191 yL_weightOf ∈ lwG := wm 668 (by decide +kernel) (by decide +kernel)
theorem w671 : Cond.methodLink RL 26 yX8_weightOf ∈ lwG := wm 671 (by decide +kernel) (by decide +kernel)
theorem w675 : Cond.methodLink RL 194 yL_stoneIn ∈ lwG := wm 675 (by decide +kernel) (by decide +kernel)
theorem w679 : Cond.methodLink RL 29 yX8_stoneIn ∈ lwG := wm 679 (by decide +kernel) (by decide +kernel)
theorem w685 : Cond.methodLink RL 201 yL_rankOf ∈ lwG := wm 685 (by decide +kernel) (by decide +kernel)
theorem w688 : Cond.methodLink RL 34 yX8_rankOf ∈ lwG := wm 688 (by decide +kernel) (by decide +kernel)
theorem w692 : Cond.methodLink RX8 102 yX6_hasOfficer ∈ lwG := wm 692 (by decide +kernel) (by decide +kernel)
theorem w697 : Cond.methodLink RL 204 yL_petitionsOf ∈ lwG := wm 697 (by decide +kernel) (by decide +kernel)
theorem w700 : Cond.methodLink RL 37 yX8_petitionsOf ∈ lwG := wm 700 (by decide +kernel) (by decide +kernel)
theorem w704 : Cond.methodLink RL 207 yL_file ∈ lwG := wm 704 (by decide +kernel) (by decide +kernel)
theorem w707 : Cond.methodLink RL 40 yX8_file ∈ lwG := wm 707 (by decide +kernel) (by decide +kernel)
theorem w711 : Cond.methodLink RX8 122 yX8_lodgePetition ∈ lwG := wm 711 (by decide +kernel) (by decide +kernel)
theorem w715 : Cond.methodLink RX8 355 yX6_findPetitionFor ∈ lwG := wm 715 (by decide +kernel) (by decide +kernel)
theorem w719 : Cond.methodLink RX8 358 yX6_enqueue ∈ lwG := wm 719 (by decide +kernel) (by decide +kernel)
theorem w723 : Cond.methodLink RX6 94 yX4_forgetVotesAndCitations ∈ lwG := wm 723 (by decide +kernel) (by decide +kernel)
theorem w727 : Cond.methodLink RX6 97 yX6_moveToItsPosition ∈ lwG := wm 727 (by decide +kernel) (by decide +kernel)
theorem w731 : Cond.methodLink RX6 100 yX4_comesBefore ∈ lwG := wm 731 (by decide +kernel) (by decide +kernel)
theorem w735 : Cond.methodLink RL 211 yL_vote ∈ lwG := wm 735 (by decide +kernel) (by decide +kernel)
theorem w738 : Cond.methodLink RL 44 yX8_vote ∈ lwG := wm 738 (by decide +kernel) (by decide +kernel)
theorem w742 : Cond.methodLink RX8 126 yX8_castVote ∈ lwG := wm 742 (by decide +kernel) (by decide +kernel)
theorem w746 : Cond.methodLink RX8 361 yX6_findPetition ∈ lwG := wm 746 (by decide +kernel) (by decide +kernel)
theorem w750 : Cond.methodLink RX8 364 yX4_hasVoteFor ∈ lwG := wm 750 (by decide +kernel) (by decide +kernel)
theorem w754 : Cond.methodLink RX8 367 yX4_hasVoteAgainst ∈ lwG := wm 754 (by decide +kernel) (by decide +kernel)
theorem w758 : Cond.methodLink RX8 370 yX4_addVote ∈ lwG := wm 758 (by decide +kernel) (by decide +kernel)
theorem w762 : Cond.methodLink RX8 238 yX4_countVotes ∈ lwG := wm 762 (by decide +kernel) (by decide +kernel)
theorem w766 : Cond.methodLink RX4 34 yX4_countFor ∈ lwG := wm 766 (by decide +kernel) (by decide +kernel)
theorem w770 : Cond.methodLink RX4 28 yJ6_bitCount_0f7a4 ∈ lwG := wm 770 (by decide +kernel) (by decide +kernel)
theorem w776 : Cond.methodLink RX4 38 yX4_countAgainst ∈ lwG := wm 776 (by decide +kernel) (by decide +kernel)
theorem w780 : Cond.methodLink RL 215 yL_cite ∈ lwG := wm 780 (by decide +kernel) (by decide +kernel)
theorem w783 : Cond.methodLink RL 48 yX8_cite ∈ lwG := wm 783 (by decide +kernel) (by decide +kernel)
theorem w787 : Cond.methodLink RX8 130 yX8_citeRuling ∈ lwG := wm 787 (by decide +kernel) (by decide +kernel)
theorem w791 : Cond.methodLink RX8 374 yX6_findRuling ∈ lwG := wm 791 (by decide +kernel) (by decide +kernel)
theorem w795 : Cond.methodLink RX8 377 ⟨"PetitionBoard$Petition", "refersTo", "(I)Z"⟩ ∈ lwG := wm 795 (by decide +kernel) (by decide +kernel)
theorem w801 : Cond.methodLink RX0 22 yX0_citedAt ∈ lwG := wm 801 (by decide +kernel) (by decide +kernel)
theorem w807 : Cond.methodLink RX8 378 ⟨"PetitionBoard$Petition", "addCited", "(I)V"⟩ ∈ lwG := wm 807 (by decide +kernel) (by decide +kernel)
theorem w813 : Cond.methodLink RL 218 yL_veto ∈ lwG := wm 813 (by decide +kernel) (by decide +kernel)
theorem w816 : Cond.methodLink RL 51 yX8_veto ∈ lwG := wm 816 (by decide +kernel) (by decide +kernel)
theorem w820 : Cond.methodLink RX8 133 yX8_vetoPetition ∈ lwG := wm 820 (by decide +kernel) (by decide +kernel)
theorem w824 : Cond.methodLink RX8 384 yX6_dequeue ∈ lwG := wm 824 (by decide +kernel) (by decide +kernel)
theorem w828 : Cond.methodLink RL 221 yL_withdraw ∈ lwG := wm 828 (by decide +kernel) (by decide +kernel)
theorem w831 : Cond.methodLink RL 54 yX8_withdraw ∈ lwG := wm 831 (by decide +kernel) (by decide +kernel)
theorem w835 : Cond.methodLink RX8 136 yX8_withdrawPetition ∈ lwG := wm 835 (by decide +kernel) (by decide +kernel)
theorem w839 : Cond.methodLink RL 228 yL_petitionAt ∈ lwG := wm 839 (by decide +kernel) (by decide +kernel)
theorem w842 : Cond.methodLink RL 57 yX8_petitionAt ∈ lwG := wm 842 (by decide +kernel) (by decide +kernel)
theorem w847 : Cond.methodLink RL 231 yL_positionOf ∈ lwG := wm 847 (by decide +kernel) (by decide +kernel)
theorem w850 : Cond.methodLink RL 60 yX8_positionOf ∈ lwG := wm 850 (by decide +kernel) (by decide +kernel)
theorem w854 : Cond.methodLink RX8 144 yX8_requirePetition ∈ lwG := wm 854 (by decide +kernel) (by decide +kernel)
theorem w859 : Cond.methodLink RX8 148 yX4_comesBefore ∈ lwG := wm 859 (by decide +kernel) (by decide +kernel)
theorem w860 : Cond.methodLink RL 234 yL_stoneOf ∈ lwG := wm 860 (by decide +kernel) (by decide +kernel)
theorem w863 : Cond.methodLink RL 63 yX8_stoneOf ∈ lwG := wm 863 (by decide +kernel) (by decide +kernel)
theorem w867 : Cond.methodLink RL 237 yL_targetOf ∈ lwG := wm 867 (by decide +kernel) (by decide +kernel)
theorem w870 : Cond.methodLink RL 66 yX8_targetOf ∈ lwG := wm 870 (by decide +kernel) (by decide +kernel)
theorem w874 : Cond.methodLink RL 240 yL_votesFor ∈ lwG := wm 874 (by decide +kernel) (by decide +kernel)
theorem w877 : Cond.methodLink RL 69 yX8_votesFor ∈ lwG := wm 877 (by decide +kernel) (by decide +kernel)
theorem w881 : Cond.methodLink RX8 158 yX4_countFor ∈ lwG := wm 881 (by decide +kernel) (by decide +kernel)
theorem w882 : Cond.methodLink RL 243 yL_votesAgainst ∈ lwG := wm 882 (by decide +kernel) (by decide +kernel)
theorem w885 : Cond.methodLink RL 72 yX8_votesAgainst ∈ lwG := wm 885 (by decide +kernel) (by decide +kernel)
theorem w889 : Cond.methodLink RX8 162 yX4_countAgainst ∈ lwG := wm 889 (by decide +kernel) (by decide +kernel)
theorem w890 : Cond.methodLink RL 246 yL_wouldBeGranted ∈ lwG := wm 890 (by decide +kernel) (by decide +kernel)
theorem w893 : Cond.methodLink RL 75 yX8_wouldBeGranted ∈ lwG := wm 893 (by decide +kernel) (by decide +kernel)
theorem w897 : Cond.methodLink RX8 165 yX6_isWon ∈ lwG := wm 897 (by decide +kernel) (by decide +kernel)
theorem w901 : Cond.methodLink RX6 104 yX4_countFor ∈ lwG := wm 901 (by decide +kernel) (by decide +kernel)
theorem w902 : Cond.methodLink RX6 108 yX4_countAgainst ∈ lwG := wm 902 (by decide +kernel) (by decide +kernel)
theorem w903 : Cond.methodLink RX6 114 ⟨"PetitionBoard$Petition", "citedAt", "(I)I"⟩ ∈ lwG := wm 903 (by decide +kernel) (by decide +kernel)
theorem w907 : Cond.methodLink RX6 118 yX6_findRuling ∈ lwG := wm 907 (by decide +kernel) (by decide +kernel)
theorem w908 : Cond.methodLink RL 249 yL_setQuorum ∈ lwG := wm 908 (by decide +kernel) (by decide +kernel)
theorem w911 : Cond.methodLink RL 79 yX8_setQuorum ∈ lwG := wm 911 (by decide +kernel) (by decide +kernel)
theorem w915 : Cond.methodLink RX8 168 yX8_changeQuorum ∈ lwG := wm 915 (by decide +kernel) (by decide +kernel)
theorem w919 : Cond.methodLink RL 252 yL_decide ∈ lwG := wm 919 (by decide +kernel) (by decide +kernel)
theorem w922 : Cond.methodLink RL 82 yX8_decide ∈ lwG := wm 922 (by decide +kernel) (by decide +kernel)
theorem w926 : Cond.methodLink RX8 171 yX8_decideFirst ∈ lwG := wm 926 (by decide +kernel) (by decide +kernel)
theorem w930 : Cond.methodLink RX8 388 yX6_rule ∈ lwG := wm 930 (by decide +kernel) (by decide +kernel)
theorem w934 : Cond.methodLink RX6 126 ⟨"PetitionBoard$Ruling", "copyCited", "(LPetitionBoard$Citing;)V"⟩ ∈ lwG := wm 934 (by decide +kernel) (by decide +kernel)
theorem w935 : Cond.methodLink RX6 130 yX6_levelAbove ∈ lwG := wm 935 (by decide +kernel) (by decide +kernel)
theorem w939 : Cond.methodLink RX6 156 yX0_citedAt ∈ lwG := wm 939 (by decide +kernel) (by decide +kernel)
theorem w940 : Cond.methodLink RX6 137 yX6_isWon ∈ lwG := wm 940 (by decide +kernel) (by decide +kernel)
theorem w941 : Cond.methodLink RX6 140 yX6_findStoneIn ∈ lwG := wm 941 (by decide +kernel) (by decide +kernel)
theorem w942 : Cond.methodLink RX6 146 yX6_moveStone ∈ lwG := wm 942 (by decide +kernel) (by decide +kernel)
theorem w946 : Cond.methodLink RX6 157 yX6_hasStone ∈ lwG := wm 946 (by decide +kernel) (by decide +kernel)
theorem w947 : Cond.methodLink RX6 150 yX6_dequeue ∈ lwG := wm 947 (by decide +kernel) (by decide +kernel)
theorem w948 : Cond.methodLink RL 264 yL_isGranted ∈ lwG := wm 948 (by decide +kernel) (by decide +kernel)
theorem w951 : Cond.methodLink RL 86 yX8_isGranted ∈ lwG := wm 951 (by decide +kernel) (by decide +kernel)
theorem w955 : Cond.methodLink RX8 180 yX8_requireRuling ∈ lwG := wm 955 (by decide +kernel) (by decide +kernel)
theorem w960 : Cond.methodLink RL 267 yL_isCarriedOut ∈ lwG := wm 960 (by decide +kernel) (by decide +kernel)
theorem w963 : Cond.methodLink RL 89 yX8_isCarriedOut ∈ lwG := wm 963 (by decide +kernel) (by decide +kernel)
theorem w967 : Cond.methodLink RL 270 yL_citationCount ∈ lwG := wm 967 (by decide +kernel) (by decide +kernel)
theorem w970 : Cond.methodLink RL 92 yX8_citationCount ∈ lwG := wm 970 (by decide +kernel) (by decide +kernel)
theorem w974 : Cond.methodLink RL 273 yL_citation ∈ lwG := wm 974 (by decide +kernel) (by decide +kernel)
theorem w977 : Cond.methodLink RL 95 yX8_citation ∈ lwG := wm 977 (by decide +kernel) (by decide +kernel)
theorem w981 : Cond.methodLink RX8 196 ⟨"PetitionBoard$Ruling", "citedAt", "(I)I"⟩ ∈ lwG := wm 981 (by decide +kernel) (by decide +kernel)
theorem w984 : Cond.methodLink RL 276 yL_citedBy ∈ lwG := wm 984 (by decide +kernel) (by decide +kernel)
theorem w987 : Cond.methodLink RL 98 yX8_citedBy ∈ lwG := wm 987 (by decide +kernel) (by decide +kernel)
theorem w991 : Cond.methodLink RX8 203 ⟨"PetitionBoard$Ruling", "refersTo", "(I)Z"⟩ ∈ lwG := wm 991 (by decide +kernel) (by decide +kernel)
theorem w994 : Cond.methodLink RL 279 yL_depth ∈ lwG := wm 994 (by decide +kernel) (by decide +kernel)
theorem w997 : Cond.methodLink RL 101 yX8_depth ∈ lwG := wm 997 (by decide +kernel) (by decide +kernel)
theorem w1001 : Cond.methodLink RL 282 yL_isBasedOn ∈ lwG := wm 1001 (by decide +kernel) (by decide +kernel)
theorem w1004 : Cond.methodLink RL 104 yX8_isBasedOn ∈ lwG := wm 1004 (by decide +kernel) (by decide +kernel)
theorem w1008 : Cond.methodLink RX8 209 yX6_restsOn ∈ lwG := wm 1008 (by decide +kernel) (by decide +kernel)
theorem w1012 : Cond.methodLink RX6 161 yX6_citedSet ∈ lwG := wm 1012 (by decide +kernel) (by decide +kernel)
theorem w1016 : Cond.methodLink RX6 170 ⟨"PetitionBoard$Ruling", "citedAt", "(I)I"⟩ ∈ lwG := wm 1016 (by decide +kernel) (by decide +kernel)
theorem w1017 : Cond.methodLink RL 285 yL_influence ∈ lwG := wm 1017 (by decide +kernel) (by decide +kernel)
theorem w1020 : Cond.methodLink RL 108 yX8_influence ∈ lwG := wm 1020 (by decide +kernel) (by decide +kernel)
theorem w1024 : Cond.methodLink RL 288 yL_influenceByMarking ∈ lwG := wm 1024 (by decide +kernel) (by decide +kernel)
theorem w1027 : Cond.methodLink RL 111 yX8_influenceByMarking ∈ lwG := wm 1027 (by decide +kernel) (by decide +kernel)
theorem w1031 : Cond.methodLink RX8 213 yX6_countMarked ∈ lwG := wm 1031 (by decide +kernel) (by decide +kernel)
theorem w1035 : Cond.methodLink RX6 164 yJ6_bitCount_0f7a4 ∈ lwG := wm 1035 (by decide +kernel) (by decide +kernel)
theorem w1036 : Cond.methodLink RL 291 yL_rulingByInfluence ∈ lwG := wm 1036 (by decide +kernel) (by decide +kernel)
theorem w1039 : Cond.methodLink RL 114 yX8_rulingByInfluence ∈ lwG := wm 1039 (by decide +kernel) (by decide +kernel)
theorem w1044 : Cond.methodLink RX8 218 yX8_rankByInfluence ∈ lwG := wm 1044 (by decide +kernel) (by decide +kernel)
theorem w1048 : Cond.methodLink RL 310 yL_meanVotes ∈ lwG := wm 1048 (by decide +kernel) (by decide +kernel)
theorem w1065 : Cond.methodLink RL 117 yX8_meanVotes ∈ lwG := wm 1065 (by decide +kernel) (by decide +kernel)
theorem w1071 : Cond.methodLink RX8 237 ⟨"java/lang/ArithmeticException", "<init>", "(Ljava/lang/String;)V"⟩ ∈ lwG := wm 1071 (by decide +kernel) (by decide +kernel)
theorem w1072 : Cond.methodLink RL 314 yL_grantedShare ∈ lwG := wm 1072 (by decide +kernel) (by decide +kernel)
theorem w1075 : Cond.methodLink RL 123 yX8_grantedShare ∈ lwG := wm 1075 (by decide +kernel) (by decide +kernel)
theorem w1080 : Cond.methodLink RL 317 yL_feed ∈ lwG := wm 1080 (by decide +kernel) (by decide +kernel)
theorem w1084 : Cond.methodLink RL 127 yX8_feed ∈ lwG := wm 1084 (by decide +kernel) (by decide +kernel)
theorem w1098 : Cond.methodLink RX8 250 ⟨"java/lang/IllegalStateException", "<init>", "(Ljava/lang/String;)V"⟩ ∈ lwG := wm 1098 (by decide +kernel) (by decide +kernel)
theorem w1104 : Cond.methodLink RX8 251 yX3_put ∈ lwG := wm 1104 (by decide +kernel) (by decide +kernel)
theorem w1108 : Cond.methodLink RL 321 yL_execute ∈ lwG := wm 1108 (by decide +kernel) (by decide +kernel)
theorem w1111 : Cond.methodLink RL 133 yX8_execute ∈ lwG := wm 1111 (by decide +kernel) (by decide +kernel)
theorem w1115 : Cond.methodLink RX8 255 yX7_read ∈ lwG := wm 1115 (by decide +kernel) (by decide +kernel)
theorem w1119 : Cond.methodLink RX7 25 yX7_readCommand ∈ lwG := wm 1119 (by decide +kernel) (by decide +kernel)
theorem w1123 : Cond.methodLink RX7 38 yX3_at ∈ lwG := wm 1123 (by decide +kernel) (by decide +kernel)
theorem w1127 : Cond.methodLink RX7 42 yX7_patternOf ∈ lwG := wm 1127 (by decide +kernel) (by decide +kernel)
theorem w1141 : Cond.methodLink RX7 46 yJ0_isEmpty_aae02 ∈ lwG := wm 1141 (by decide +kernel) (by decide +kernel)
theorem w1145 : Cond.methodLink RX7 52 yX1_begin ∈ lwG := wm 1145 (by decide +kernel) (by decide +kernel)
theorem w1149 : Cond.methodLink RX7 56 yJ0_length_8abf5 ∈ lwG := wm 1149 (by decide +kernel) (by decide +kernel)
theorem w1153 : Cond.methodLink RJ0 335 yJ0_coder_7d493 ∈ lwG := wm 1153 (by decide +kernel) (by decide +kernel)
theorem w1159 : Cond.methodLink RX7 59 yJ0_charAt_5068e ∈ lwG := wm 1159 (by decide +kernel) (by decide +kernel)
theorem w1163 : Cond.methodLink RJ0 492 yJ0_isLatin1_aae02 ∈ lwG := wm 1163 (by decide +kernel) (by decide +kernel)
theorem w1167 : Cond.methodLink RJ0 495 yJ1_charAt_3b067 ∈ lwG := wm 1167 (by decide +kernel) (by decide +kernel)
theorem w1170 : Cond.methodLink RJ1 9 yJ0_checkIndex_df160 ∈ lwG := wm 1170 (by decide +kernel) (by decide +kernel)
theorem w1175 : Cond.methodLink RJ0 1059 yJ3_checkIndex_8e157 ∈ lwG := wm 1175 (by decide +kernel) (by decide +kernel)
theorem w1178 : Cond.methodLink RJ0 498 yJ2_charAt_3b067 ∈ lwG := wm 1178 (by decide +kernel) (by decide +kernel)
theorem w1181 : Cond.methodLink RJ2 67 yJ2_checkIndex_2214a ∈ lwG := wm 1181 (by decide +kernel) (by decide +kernel)
theorem w1184 : Cond.methodLink RJ2 48 yJ2_length_9d52b ∈ lwG := wm 1184 (by decide +kernel) (by decide +kernel)
theorem w1187 : Cond.methodLink RJ2 414 yJ0_checkIndex_df160 ∈ lwG := wm 1187 (by decide +kernel) (by decide +kernel)
theorem w1188 : Cond.methodLink RJ2 71 yJ2_getChar_3b067 ∈ lwG := wm 1188 (by decide +kernel) (by decide +kernel)
theorem w1197 : Cond.methodLink RX7 62 yX7_readPart ∈ lwG := wm 1197 (by decide +kernel) (by decide +kernel)
theorem w1201 : Cond.methodLink RX7 66 yX7_readValue ∈ lwG := wm 1201 (by decide +kernel) (by decide +kernel)
theorem w1205 : Cond.methodLink RX7 92 yX7_isDigit ∈ lwG := wm 1205 (by decide +kernel) (by decide +kernel)
theorem w1208 : Cond.methodLink RX7 96 yX1_add ∈ lwG := wm 1208 (by decide +kernel) (by decide +kernel)
theorem w1212 : Cond.methodLink RX7 34 yX7_readSign ∈ lwG := wm 1212 (by decide +kernel) (by decide +kernel)
theorem w1216 : Cond.methodLink RX8 259 yX3_clear ∈ lwG := wm 1216 (by decide +kernel) (by decide +kernel)
theorem w1221 : Cond.methodLink RX8 270 yX8_runCommands ∈ lwG := wm 1221 (by decide +kernel) (by decide +kernel)
theorem w1225 : Cond.methodLink RX8 414 yX8_attempt ∈ lwG := wm 1225 (by decide +kernel) (by decide +kernel)
theorem w1229 : Cond.methodLink RX8 274 yX2_bringBackPrepared ∈ lwG := wm 1229 (by decide +kernel) (by decide +kernel)
theorem w1234 : Cond.methodLink RL 324 yL_faultPosition ∈ lwG := wm 1234 (by decide +kernel) (by decide +kernel)
theorem w1237 : Cond.methodLink RL 136 yX8_faultPosition ∈ lwG := wm 1237 (by decide +kernel) (by decide +kernel)
theorem w1242 : Cond.methodLink RL 327 yL_writePetition ∈ lwG := wm 1242 (by decide +kernel) (by decide +kernel)
theorem w1245 : Cond.methodLink RL 139 yX8_writePetition ∈ lwG := wm 1245 (by decide +kernel) (by decide +kernel)
theorem w1249 : Cond.methodLink RX8 290 yX3_putMarked ∈ lwG := wm 1249 (by decide +kernel) (by decide +kernel)
theorem w1253 : Cond.methodLink RX3 19 yX3_put ∈ lwG := wm 1253 (by decide +kernel) (by decide +kernel)
theorem w1254 : Cond.methodLink RX3 23 yX3_putNumber ∈ lwG := wm 1254 (by decide +kernel) (by decide +kernel)
theorem w1258 : Cond.methodLink RX8 298 ⟨"PetitionBoard$Petition", "citedAt", "(I)I"⟩ ∈ lwG := wm 1258 (by decide +kernel) (by decide +kernel)
theorem w1259 : Cond.methodLink RL 330 yL_writeRow ∈ lwG := wm 1259 (by decide +kernel) (by decide +kernel)
theorem w1262 : Cond.methodLink RL 142 yX8_writeRow ∈ lwG := wm 1262 (by decide +kernel) (by decide +kernel)
theorem w1267 : Cond.methodLink RX8 301 yX3_putNumber ∈ lwG := wm 1267 (by decide +kernel) (by decide +kernel)
theorem w1268 : Cond.methodLink RL 333 yL_lineCharacter ∈ lwG := wm 1268 (by decide +kernel) (by decide +kernel)
theorem w1271 : Cond.methodLink RL 145 yX8_lineCharacter ∈ lwG := wm 1271 (by decide +kernel) (by decide +kernel)
theorem w1276 : Cond.methodLink RX8 307 yX3_at ∈ lwG := wm 1276 (by decide +kernel) (by decide +kernel)
theorem w1277 : Cond.methodLink RL 336 yL_denial ∈ lwG := wm 1277 (by decide +kernel) (by decide +kernel)
theorem w1280 : Cond.methodLink RL 149 yX8_denial ∈ lwG := wm 1280 (by decide +kernel) (by decide +kernel)
theorem w1284 : Cond.methodLink RX8 311 yX8_requireDenial ∈ lwG := wm 1284 (by decide +kernel) (by decide +kernel)
theorem w1289 : Cond.methodLink RL 339 yL_denialDetail ∈ lwG := wm 1289 (by decide +kernel) (by decide +kernel)
theorem w1292 : Cond.methodLink RL 152 yX8_denialDetail ∈ lwG := wm 1292 (by decide +kernel) (by decide +kernel)
theorem w1296 : Cond.methodLink RL 342 yL_denialCause ∈ lwG := wm 1296 (by decide +kernel) (by decide +kernel)
theorem w1299 : Cond.methodLink RL 155 yX8_denialCause ∈ lwG := wm 1299 (by decide +kernel) (by decide +kernel)
theorem w1303 : Cond.methodLink RX8 320 yX8_requireCause ∈ lwG := wm 1303 (by decide +kernel) (by decide +kernel)
theorem w1308 : Cond.methodLink RL 345 yL_denialCauseDetail ∈ lwG := wm 1308 (by decide +kernel) (by decide +kernel)
theorem w1311 : Cond.methodLink RL 158 yX8_denialCauseDetail ∈ lwG := wm 1311 (by decide +kernel) (by decide +kernel)
theorem w1315 : Cond.methodLink RL 348 yL_undo ∈ lwG := wm 1315 (by decide +kernel) (by decide +kernel)
theorem w1318 : Cond.methodLink RL 161 yX8_undo ∈ lwG := wm 1318 (by decide +kernel) (by decide +kernel)
theorem w1323 : Cond.methodLink RX8 332 yX2_bringBackLatest ∈ lwG := wm 1323 (by decide +kernel) (by decide +kernel)
theorem w1327 : Cond.methodLink RL 359 yL_restoreSnapshot ∈ lwG := wm 1327 (by decide +kernel) (by decide +kernel)
theorem w1330 : Cond.methodLink RL 164 yX8_restoreSnapshot ∈ lwG := wm 1330 (by decide +kernel) (by decide +kernel)
theorem w1335 : Cond.methodLink RX8 343 yX2_forget ∈ lwG := wm 1335 (by decide +kernel) (by decide +kernel)
theorem w1339 : Cond.classLink RL 168 RX9 ∈ lwG := wm 1339 (by decide +kernel) (by decide +kernel)
theorem w1340 : Cond.instantiable RX9 22 ∈ lwG := wm 1340 (by decide +kernel) (by decide +kernel)
theorem w75 : Cond.initialized RX9 ∈ lwG := wm 75 (by decide +kernel) (by decide +kernel)
theorem w1341 : Cond.methodLink RL 170 yX9_init ∈ lwG := wm 1341 (by decide +kernel) (by decide +kernel)
theorem w1344 : Cond.methodLink RX9 1 ⟨"java/lang/Object", "<init>", "()V"⟩ ∈ lwG := wm 1344 (by decide +kernel) (by decide +kernel)
theorem w1345 : Cond.fieldLink RX9 7 "PetitionBoardModel" "g" "[I" ∈ lwG := wm 1345 (by decide +kernel) (by decide +kernel)
theorem w1346 : Cond.fieldLink RX9 13 "PetitionBoardModel" "kept" "[I" ∈ lwG := wm 1346 (by decide +kernel) (by decide +kernel)
theorem w1347 : Cond.fieldLink RX9 16 "PetitionBoardModel" "saved" "[I" ∈ lwG := wm 1347 (by decide +kernel) (by decide +kernel)
theorem w1348 : Cond.fieldLink RX9 19 "PetitionBoardModel" "before" "[I" ∈ lwG := wm 1348 (by decide +kernel) (by decide +kernel)
theorem w1349 : Cond.fieldLink RX9 265 "PetitionBoardModel" "isSaved" "Z" ∈ lwG := wm 1349 (by decide +kernel) (by decide +kernel)
theorem w1350 : Cond.fieldLink RX9 61 "PetitionBoardModel" "changes" "I" ∈ lwG := wm 1350 (by decide +kernel) (by decide +kernel)
theorem w1351 : Cond.fieldLink RX9 58 "PetitionBoardModel" "isWithin" "Z" ∈ lwG := wm 1351 (by decide +kernel) (by decide +kernel)
theorem w1352 : Cond.fieldLink RX9 42 "PetitionBoardModel" "isDenied" "Z" ∈ lwG := wm 1352 (by decide +kernel) (by decide +kernel)
theorem w1353 : Cond.fieldLink RX9 39 "PetitionBoardModel" "code" "I" ∈ lwG := wm 1353 (by decide +kernel) (by decide +kernel)
theorem w1354 : Cond.fieldLink RX9 46 "PetitionBoardModel" "why" "I" ∈ lwG := wm 1354 (by decide +kernel) (by decide +kernel)
theorem w1355 : Cond.fieldLink RX9 49 "PetitionBoardModel" "detail" "I" ∈ lwG := wm 1355 (by decide +kernel) (by decide +kernel)
theorem w1356 : Cond.fieldLink RX9 52 "PetitionBoardModel" "cause" "I" ∈ lwG := wm 1356 (by decide +kernel) (by decide +kernel)
theorem w1357 : Cond.fieldLink RX9 55 "PetitionBoardModel" "causeDetail" "I" ∈ lwG := wm 1357 (by decide +kernel) (by decide +kernel)
theorem w1358 : Cond.fieldLink RX9 22 "PetitionBoardModel" "input" "[I" ∈ lwG := wm 1358 (by decide +kernel) (by decide +kernel)
theorem w1359 : Cond.fieldLink RX9 164 "PetitionBoardModel" "length" "I" ∈ lwG := wm 1359 (by decide +kernel) (by decide +kernel)
theorem w1360 : Cond.fieldLink RX9 25 "PetitionBoardModel" "fault" "I" ∈ lwG := wm 1360 (by decide +kernel) (by decide +kernel)
theorem w1361 : Cond.fieldLink RX9 29 "PetitionBoardModel" "signs" "[C" ∈ lwG := wm 1361 (by decide +kernel) (by decide +kernel)
theorem w1362 : Cond.fieldLink RX9 252 "PetitionBoardModel" "signMany" "I" ∈ lwG := wm 1362 (by decide +kernel) (by decide +kernel)
theorem w1363 : Cond.fieldLink RX9 33 "PetitionBoardModel" "deep" "[I" ∈ lwG := wm 1363 (by decide +kernel) (by decide +kernel)
theorem w1364 : Cond.fieldLink RX9 167 "PetitionBoardModel" "at" "I" ∈ lwG := wm 1364 (by decide +kernel) (by decide +kernel)
theorem w1365 : Cond.fieldLink RX9 36 "PetitionBoardModel" "told" "[I" ∈ lwG := wm 1365 (by decide +kernel) (by decide +kernel)
theorem w1366 : Cond.fieldLink RX9 174 "PetitionBoardModel" "toldMany" "I" ∈ lwG := wm 1366 (by decide +kernel) (by decide +kernel)
theorem w1412 : Cond.methodLink RL 177 yX9_thrown ∈ lwG := wm 1412 (by decide +kernel) (by decide +kernel)
theorem w1416 : Cond.methodLink RL 176 yX9_addStone ∈ lwG := wm 1416 (by decide +kernel) (by decide +kernel)
theorem w1420 : Cond.methodLink RX9 76 yX9_isCell ∈ lwG := wm 1420 (by decide +kernel) (by decide +kernel)
theorem w1423 : Cond.methodLink RX9 68 yX9_in ∈ lwG := wm 1423 (by decide +kernel) (by decide +kernel)
theorem w1426 : Cond.methodLink RX9 80 yX9_fails ∈ lwG := wm 1426 (by decide +kernel) (by decide +kernel)
theorem w1430 : Cond.methodLink RX9 83 yX9_within ∈ lwG := wm 1430 (by decide +kernel) (by decide +kernel)
theorem w1434 : Cond.methodLink RX9 72 yX9_cell ∈ lwG := wm 1434 (by decide +kernel) (by decide +kernel)
theorem w1438 : Cond.methodLink RX9 86 yX9_denies ∈ lwG := wm 1438 (by decide +kernel) (by decide +kernel)
theorem w1442 : Cond.methodLink RX9 90 yX9_keeps ∈ lwG := wm 1442 (by decide +kernel) (by decide +kernel)
theorem w1446 : Cond.methodLink RX9 64 yX9_copies ∈ lwG := wm 1446 (by decide +kernel) (by decide +kernel)
theorem w1449 : Cond.methodLink RL 183 yX9_addOfficer ∈ lwG := wm 1449 (by decide +kernel) (by decide +kernel)
theorem w1453 : Cond.methodLink RL 187 yX9_stoneCount ∈ lwG := wm 1453 (by decide +kernel) (by decide +kernel)
theorem w1457 : Cond.methodLink RL 190 yX9_cellOf ∈ lwG := wm 1457 (by decide +kernel) (by decide +kernel)
theorem w1461 : Cond.methodLink RX9 94 yX9_isStone ∈ lwG := wm 1461 (by decide +kernel) (by decide +kernel)
theorem w1465 : Cond.methodLink RL 193 yX9_weightOf ∈ lwG := wm 1465 (by decide +kernel) (by decide +kernel)
theorem w1469 : Cond.methodLink RX9 97 yX9_heavy ∈ lwG := wm 1469 (by decide +kernel) (by decide +kernel)
theorem w1473 : Cond.methodLink RL 196 yX9_stoneIn ∈ lwG := wm 1473 (by decide +kernel) (by decide +kernel)
theorem w1477 : Cond.methodLink RL 200 yX9_officerCount ∈ lwG := wm 1477 (by decide +kernel) (by decide +kernel)
theorem w1481 : Cond.methodLink RL 203 yX9_rankOf ∈ lwG := wm 1481 (by decide +kernel) (by decide +kernel)
theorem w1485 : Cond.methodLink RX9 100 yX9_isOfficer ∈ lwG := wm 1485 (by decide +kernel) (by decide +kernel)
theorem w1489 : Cond.methodLink RX9 103 yX9_rank ∈ lwG := wm 1489 (by decide +kernel) (by decide +kernel)
theorem w1493 : Cond.methodLink RL 206 yX9_petitionsOf ∈ lwG := wm 1493 (by decide +kernel) (by decide +kernel)
theorem w1497 : Cond.methodLink RX9 106 yX9_of ∈ lwG := wm 1497 (by decide +kernel) (by decide +kernel)
theorem w1501 : Cond.methodLink RL 210 yX9_file ∈ lwG := wm 1501 (by decide +kernel) (by decide +kernel)
theorem w1505 : Cond.methodLink RX9 113 yX9_about ∈ lwG := wm 1505 (by decide +kernel) (by decide +kernel)
theorem w1509 : Cond.methodLink RX9 116 yX9_lays ∈ lwG := wm 1509 (by decide +kernel) (by decide +kernel)
theorem w1513 : Cond.methodLink RL 214 yX9_vote ∈ lwG := wm 1513 (by decide +kernel) (by decide +kernel)
theorem w1517 : Cond.methodLink RX9 110 yX9_placeOf ∈ lwG := wm 1517 (by decide +kernel) (by decide +kernel)
theorem w1521 : Cond.methodLink RX9 123 yX9_votes ∈ lwG := wm 1521 (by decide +kernel) (by decide +kernel)
theorem w1525 : Cond.methodLink RX9 120 yX9_bits ∈ lwG := wm 1525 (by decide +kernel) (by decide +kernel)
theorem w1528 : Cond.methodLink RL 217 yX9_cite ∈ lwG := wm 1528 (by decide +kernel) (by decide +kernel)
theorem w1532 : Cond.methodLink RX9 126 yX9_isRuling ∈ lwG := wm 1532 (by decide +kernel) (by decide +kernel)
theorem w1536 : Cond.methodLink RL 220 yX9_veto ∈ lwG := wm 1536 (by decide +kernel) (by decide +kernel)
theorem w1540 : Cond.methodLink RX9 129 yX9_drops ∈ lwG := wm 1540 (by decide +kernel) (by decide +kernel)
theorem w1544 : Cond.methodLink RL 223 yX9_withdraw ∈ lwG := wm 1544 (by decide +kernel) (by decide +kernel)
theorem w1548 : Cond.methodLink RX9 133 yX9_isNone ∈ lwG := wm 1548 (by decide +kernel) (by decide +kernel)
theorem w1552 : Cond.methodLink RL 227 yX9_pendingCount ∈ lwG := wm 1552 (by decide +kernel) (by decide +kernel)
theorem w1556 : Cond.methodLink RL 230 yX9_petitionAt ∈ lwG := wm 1556 (by decide +kernel) (by decide +kernel)
theorem w1560 : Cond.methodLink RX9 143 yX9_queued ∈ lwG := wm 1560 (by decide +kernel) (by decide +kernel)
theorem w1564 : Cond.methodLink RX9 140 yX9_ahead ∈ lwG := wm 1564 (by decide +kernel) (by decide +kernel)
theorem w1568 : Cond.methodLink RX9 136 yX9_isAhead ∈ lwG := wm 1568 (by decide +kernel) (by decide +kernel)
theorem w1572 : Cond.methodLink RL 233 yX9_positionOf ∈ lwG := wm 1572 (by decide +kernel) (by decide +kernel)
theorem w1576 : Cond.methodLink RL 236 yX9_stoneOf ∈ lwG := wm 1576 (by decide +kernel) (by decide +kernel)
theorem w1580 : Cond.methodLink RL 239 yX9_targetOf ∈ lwG := wm 1580 (by decide +kernel) (by decide +kernel)
theorem w1584 : Cond.methodLink RL 242 yX9_votesFor ∈ lwG := wm 1584 (by decide +kernel) (by decide +kernel)
theorem w1588 : Cond.methodLink RL 245 yX9_votesAgainst ∈ lwG := wm 1588 (by decide +kernel) (by decide +kernel)
theorem w1592 : Cond.methodLink RL 248 yX9_wouldBeGranted ∈ lwG := wm 1592 (by decide +kernel) (by decide +kernel)
theorem w1596 : Cond.methodLink RX9 149 yX9_wins ∈ lwG := wm 1596 (by decide +kernel) (by decide +kernel)
theorem w1600 : Cond.methodLink RX9 146 yX9_by ∈ lwG := wm 1600 (by decide +kernel) (by decide +kernel)
theorem w1604 : Cond.methodLink RL 251 yX9_setQuorum ∈ lwG := wm 1604 (by decide +kernel) (by decide +kernel)
theorem w1608 : Cond.methodLink RL 255 yX9_decide ∈ lwG := wm 1608 (by decide +kernel) (by decide +kernel)
theorem w1612 : Cond.methodLink RL 259 yX9_quorum ∈ lwG := wm 1612 (by decide +kernel) (by decide +kernel)
theorem w1616 : Cond.methodLink RL 263 yX9_rulingCount ∈ lwG := wm 1616 (by decide +kernel) (by decide +kernel)
theorem w1620 : Cond.methodLink RL 266 yX9_isGranted ∈ lwG := wm 1620 (by decide +kernel) (by decide +kernel)
theorem w1624 : Cond.methodLink RX9 152 yX9_isUnruled ∈ lwG := wm 1624 (by decide +kernel) (by decide +kernel)
theorem w1628 : Cond.methodLink RL 269 yX9_isCarriedOut ∈ lwG := wm 1628 (by decide +kernel) (by decide +kernel)
theorem w1632 : Cond.methodLink RL 272 yX9_citationCount ∈ lwG := wm 1632 (by decide +kernel) (by decide +kernel)
theorem w1636 : Cond.methodLink RL 275 yX9_citation ∈ lwG := wm 1636 (by decide +kernel) (by decide +kernel)
theorem w1640 : Cond.methodLink RL 278 yX9_citedBy ∈ lwG := wm 1640 (by decide +kernel) (by decide +kernel)
theorem w1644 : Cond.methodLink RX9 155 yX9_names ∈ lwG := wm 1644 (by decide +kernel) (by decide +kernel)
theorem w1648 : Cond.methodLink RL 281 yX9_depth ∈ lwG := wm 1648 (by decide +kernel) (by decide +kernel)
theorem w1652 : Cond.methodLink RL 284 yX9_isBasedOn ∈ lwG := wm 1652 (by decide +kernel) (by decide +kernel)
theorem w1656 : Cond.methodLink RX9 158 yX9_based ∈ lwG := wm 1656 (by decide +kernel) (by decide +kernel)
theorem w1660 : Cond.methodLink RL 287 yX9_influence ∈ lwG := wm 1660 (by decide +kernel) (by decide +kernel)
theorem w1664 : Cond.methodLink RX9 161 yX9_reaches ∈ lwG := wm 1664 (by decide +kernel) (by decide +kernel)
theorem w1668 : Cond.methodLink RL 290 yX9_influenceByMarking ∈ lwG := wm 1668 (by decide +kernel) (by decide +kernel)
theorem w1672 : Cond.methodLink RL 293 yX9_rulingByInfluence ∈ lwG := wm 1672 (by decide +kernel) (by decide +kernel)
theorem w1676 : Cond.methodLink RL 297 yX9_filedCount ∈ lwG := wm 1676 (by decide +kernel) (by decide +kernel)
theorem w1680 : Cond.methodLink RL 301 yX9_vetoes ∈ lwG := wm 1680 (by decide +kernel) (by decide +kernel)
theorem w1684 : Cond.methodLink RL 305 yX9_withdrawals ∈ lwG := wm 1684 (by decide +kernel) (by decide +kernel)
theorem w1688 : Cond.methodLink RL 309 yX9_movedWeight ∈ lwG := wm 1688 (by decide +kernel) (by decide +kernel)
theorem w1692 : Cond.methodLink RL 313 yX9_meanVotes ∈ lwG := wm 1692 (by decide +kernel) (by decide +kernel)
theorem w1696 : Cond.methodLink RL 316 yX9_grantedShare ∈ lwG := wm 1696 (by decide +kernel) (by decide +kernel)
theorem w1700 : Cond.methodLink RL 320 yX9_feed ∈ lwG := wm 1700 (by decide +kernel) (by decide +kernel)
theorem w1704 : Cond.methodLink RL 323 yX9_execute ∈ lwG := wm 1704 (by decide +kernel) (by decide +kernel)
theorem w1708 : Cond.methodLink RX9 243 yX9_isText ∈ lwG := wm 1708 (by decide +kernel) (by decide +kernel)
theorem w1712 : Cond.methodLink RX9 215 yX9_commandHere ∈ lwG := wm 1712 (by decide +kernel) (by decide +kernel)
theorem w1716 : Cond.methodLink RX9 170 yX9_here ∈ lwG := wm 1716 (by decide +kernel) (by decide +kernel)
theorem w1721 : Cond.methodLink RX9 190 yX9_isWord ∈ lwG := wm 1721 (by decide +kernel) (by decide +kernel)
theorem w1725 : Cond.methodLink RX9 177 yJ0_charAt_5068e ∈ lwG := wm 1725 (by decide +kernel) (by decide +kernel)
theorem w1726 : Cond.methodLink RX9 183 yJ0_length_8abf5 ∈ lwG := wm 1726 (by decide +kernel) (by decide +kernel)
theorem w1727 : Cond.methodLink RX9 185 yX9_skips ∈ lwG := wm 1727 (by decide +kernel) (by decide +kernel)
theorem w1731 : Cond.methodLink RX9 194 yX9_figures ∈ lwG := wm 1731 (by decide +kernel) (by decide +kernel)
theorem w1744 : Cond.methodLink RX9 246 yX9_carries ∈ lwG := wm 1744 (by decide +kernel) (by decide +kernel)
theorem w1748 : Cond.methodLink RX9 219 yX9_addStone ∈ lwG := wm 1748 (by decide +kernel) (by decide +kernel)
theorem w1749 : Cond.methodLink RX9 222 yX9_addOfficer ∈ lwG := wm 1749 (by decide +kernel) (by decide +kernel)
theorem w1750 : Cond.methodLink RX9 225 yX9_setQuorum ∈ lwG := wm 1750 (by decide +kernel) (by decide +kernel)
theorem w1751 : Cond.methodLink RX9 228 yX9_file ∈ lwG := wm 1751 (by decide +kernel) (by decide +kernel)
theorem w1752 : Cond.methodLink RX9 231 yX9_vote ∈ lwG := wm 1752 (by decide +kernel) (by decide +kernel)
theorem w1753 : Cond.methodLink RX9 235 yX9_cite ∈ lwG := wm 1753 (by decide +kernel) (by decide +kernel)
theorem w1754 : Cond.methodLink RX9 237 yX9_veto ∈ lwG := wm 1754 (by decide +kernel) (by decide +kernel)
theorem w1755 : Cond.methodLink RX9 239 yX9_withdraw ∈ lwG := wm 1755 (by decide +kernel) (by decide +kernel)
theorem w1756 : Cond.methodLink RX9 241 yX9_decide ∈ lwG := wm 1756 (by decide +kernel) (by decide +kernel)
theorem w1757 : Cond.methodLink RX9 249 yX9_deniesText ∈ lwG := wm 1757 (by decide +kernel) (by decide +kernel)
theorem w1761 : Cond.methodLink RL 326 yX9_faultPosition ∈ lwG := wm 1761 (by decide +kernel) (by decide +kernel)
theorem w1765 : Cond.methodLink RL 329 yX9_writePetition ∈ lwG := wm 1765 (by decide +kernel) (by decide +kernel)
theorem w1769 : Cond.methodLink RX9 261 yX9_writesBehind ∈ lwG := wm 1769 (by decide +kernel) (by decide +kernel)
theorem w1773 : Cond.methodLink RX9 258 yX9_writes ∈ lwG := wm 1773 (by decide +kernel) (by decide +kernel)
theorem w1777 : Cond.methodLink RX9 255 yX9_writesNumber ∈ lwG := wm 1777 (by decide +kernel) (by decide +kernel)
theorem w1781 : Cond.methodLink RL 332 yX9_writeRow ∈ lwG := wm 1781 (by decide +kernel) (by decide +kernel)
theorem w1785 : Cond.methodLink RL 335 yX9_lineCharacter ∈ lwG := wm 1785 (by decide +kernel) (by decide +kernel)
theorem w1789 : Cond.methodLink RL 338 yX9_denial ∈ lwG := wm 1789 (by decide +kernel) (by decide +kernel)
theorem w1793 : Cond.methodLink RL 341 yX9_denialDetail ∈ lwG := wm 1793 (by decide +kernel) (by decide +kernel)
theorem w1797 : Cond.methodLink RL 344 yX9_denialCause ∈ lwG := wm 1797 (by decide +kernel) (by decide +kernel)
theorem w1801 : Cond.methodLink RL 347 yX9_denialCauseDetail ∈ lwG := wm 1801 (by decide +kernel) (by decide +kernel)
theorem w1805 : Cond.methodLink RL 350 yX9_undo ∈ lwG := wm 1805 (by decide +kernel) (by decide +kernel)
theorem w1809 : Cond.methodLink RL 354 yX9_undoCount ∈ lwG := wm 1809 (by decide +kernel) (by decide +kernel)
theorem w1813 : Cond.methodLink RL 358 yX9_saveSnapshot ∈ lwG := wm 1813 (by decide +kernel) (by decide +kernel)
theorem w1817 : Cond.methodLink RL 361 yX9_restoreSnapshot ∈ lwG := wm 1817 (by decide +kernel) (by decide +kernel)
theorem w115 : Cond.instanceMethod yX0_init ∈ lwG := wm 115 (by decide +kernel) (by decide +kernel)
theorem w68 : Cond.initialized RX0 ∈ lwG := wm 68 (by decide +kernel) (by decide +kernel)
theorem w116 : Cond.code yX0_init cX0_init 1 none ∈ lwG := wm 116 (by decide +kernel) (by decide +kernel)
theorem w301 : Cond.instanceMethod yX1_init ∈ lwG := wm 301 (by decide +kernel) (by decide +kernel)
theorem w302 : Cond.code yX1_init cX1_init 1 none ∈ lwG := wm 302 (by decide +kernel) (by decide +kernel)
theorem w1146 : Cond.instanceMethod yX1_begin ∈ lwG := wm 1146 (by decide +kernel) (by decide +kernel)
theorem w1147 : Cond.selects RX1 yX1_begin yX1_begin ∈ lwG := wm 1147 (by decide +kernel) (by decide +kernel)
theorem w1148 : Cond.code yX1_begin cX1_begin 2 none ∈ lwG := wm 1148 (by decide +kernel) (by decide +kernel)
theorem w1209 : Cond.instanceMethod yX1_add ∈ lwG := wm 1209 (by decide +kernel) (by decide +kernel)
theorem w1210 : Cond.selects RX1 yX1_add yX1_add ∈ lwG := wm 1210 (by decide +kernel) (by decide +kernel)
theorem w1211 : Cond.code yX1_add cX1_add 2 none ∈ lwG := wm 1211 (by decide +kernel) (by decide +kernel)
theorem w261 : Cond.instanceMethod yX2_init ∈ lwG := wm 261 (by decide +kernel) (by decide +kernel)
theorem w262 : Cond.code yX2_init cX2_init 2 none ∈ lwG := wm 262 (by decide +kernel) (by decide +kernel)
theorem w545 : Cond.instanceMethod yX2_prepare ∈ lwG := wm 545 (by decide +kernel) (by decide +kernel)
theorem w546 : Cond.selects RX2 yX2_prepare yX2_prepare ∈ lwG := wm 546 (by decide +kernel) (by decide +kernel)
theorem w547 : Cond.code yX2_prepare cX2_prepare 2 none ∈ lwG := wm 547 (by decide +kernel) (by decide +kernel)
theorem w1230 : Cond.instanceMethod yX2_bringBackPrepared ∈ lwG := wm 1230 (by decide +kernel) (by decide +kernel)
theorem w1231 : Cond.selects RX2 yX2_bringBackPrepared yX2_bringBackPrepared ∈ lwG := wm 1231 (by decide +kernel) (by decide +kernel)
theorem w1232 : Cond.code yX2_bringBackPrepared cX2_bringBackPrepared 2 none ∈ lwG := wm 1232 (by decide +kernel) (by decide +kernel)
theorem w638 : Cond.instanceMethod yX2_keepPrepared ∈ lwG := wm 638 (by decide +kernel) (by decide +kernel)
theorem w639 : Cond.selects RX2 yX2_keepPrepared yX2_keepPrepared ∈ lwG := wm 639 (by decide +kernel) (by decide +kernel)
theorem w640 : Cond.code yX2_keepPrepared cX2_keepPrepared 3 none ∈ lwG := wm 640 (by decide +kernel) (by decide +kernel)
theorem w1324 : Cond.instanceMethod yX2_bringBackLatest ∈ lwG := wm 1324 (by decide +kernel) (by decide +kernel)
theorem w1325 : Cond.selects RX2 yX2_bringBackLatest yX2_bringBackLatest ∈ lwG := wm 1325 (by decide +kernel) (by decide +kernel)
theorem w1326 : Cond.code yX2_bringBackLatest cX2_bringBackLatest 2 none ∈ lwG := wm 1326 (by decide +kernel) (by decide +kernel)
theorem w1336 : Cond.instanceMethod yX2_forget ∈ lwG := wm 1336 (by decide +kernel) (by decide +kernel)
theorem w1337 : Cond.selects RX2 yX2_forget yX2_forget ∈ lwG := wm 1337 (by decide +kernel) (by decide +kernel)
theorem w1338 : Cond.code yX2_forget cX2_forget 1 none ∈ lwG := wm 1338 (by decide +kernel) (by decide +kernel)
theorem w278 : Cond.instanceMethod yX3_init ∈ lwG := wm 278 (by decide +kernel) (by decide +kernel)
theorem w279 : Cond.code yX3_init cX3_init 1 none ∈ lwG := wm 279 (by decide +kernel) (by decide +kernel)
theorem w1217 : Cond.instanceMethod yX3_clear ∈ lwG := wm 1217 (by decide +kernel) (by decide +kernel)
theorem w1218 : Cond.selects RX3 yX3_clear yX3_clear ∈ lwG := wm 1218 (by decide +kernel) (by decide +kernel)
theorem w1219 : Cond.code yX3_clear cX3_clear 1 none ∈ lwG := wm 1219 (by decide +kernel) (by decide +kernel)
theorem w1105 : Cond.instanceMethod yX3_put ∈ lwG := wm 1105 (by decide +kernel) (by decide +kernel)
theorem w1106 : Cond.selects RX3 yX3_put yX3_put ∈ lwG := wm 1106 (by decide +kernel) (by decide +kernel)
theorem w1107 : Cond.code yX3_put cX3_put 2 none ∈ lwG := wm 1107 (by decide +kernel) (by decide +kernel)
theorem w1250 : Cond.instanceMethod yX3_putMarked ∈ lwG := wm 1250 (by decide +kernel) (by decide +kernel)
theorem w1251 : Cond.selects RX3 yX3_putMarked yX3_putMarked ∈ lwG := wm 1251 (by decide +kernel) (by decide +kernel)
theorem w1252 : Cond.code yX3_putMarked cX3_putMarked 3 none ∈ lwG := wm 1252 (by decide +kernel) (by decide +kernel)
theorem w1255 : Cond.instanceMethod yX3_putNumber ∈ lwG := wm 1255 (by decide +kernel) (by decide +kernel)
theorem w1256 : Cond.selects RX3 yX3_putNumber yX3_putNumber ∈ lwG := wm 1256 (by decide +kernel) (by decide +kernel)
theorem w1257 : Cond.code yX3_putNumber cX3_putNumber 5 none ∈ lwG := wm 1257 (by decide +kernel) (by decide +kernel)
theorem w1124 : Cond.instanceMethod yX3_at ∈ lwG := wm 1124 (by decide +kernel) (by decide +kernel)
theorem w1125 : Cond.selects RX3 yX3_at yX3_at ∈ lwG := wm 1125 (by decide +kernel) (by decide +kernel)
theorem w1126 : Cond.code yX3_at cX3_at 2 (some .char) ∈ lwG := wm 1126 (by decide +kernel) (by decide +kernel)
theorem w112 : Cond.instanceMethod yX4_init ∈ lwG := wm 112 (by decide +kernel) (by decide +kernel)
theorem w113 : Cond.code yX4_init cX4_init 1 none ∈ lwG := wm 113 (by decide +kernel) (by decide +kernel)
theorem w724 : Cond.instanceMethod yX4_forgetVotesAndCitations ∈ lwG := wm 724 (by decide +kernel) (by decide +kernel)
theorem w725 : Cond.selects RX4 yX4_forgetVotesAndCitations yX4_forgetVotesAndCitations ∈ lwG := wm 725 (by decide +kernel) (by decide +kernel)
theorem w726 : Cond.code yX4_forgetVotesAndCitations cX4_forgetVotesAndCitations 1 none ∈ lwG := wm 726 (by decide +kernel) (by decide +kernel)
theorem w732 : Cond.instanceMethod yX4_comesBefore ∈ lwG := wm 732 (by decide +kernel) (by decide +kernel)
theorem w733 : Cond.selects RX4 yX4_comesBefore yX4_comesBefore ∈ lwG := wm 733 (by decide +kernel) (by decide +kernel)
theorem w734 : Cond.code yX4_comesBefore cX4_comesBefore 2 (some .boolean) ∈ lwG := wm 734 (by decide +kernel) (by decide +kernel)
theorem w751 : Cond.instanceMethod yX4_hasVoteFor ∈ lwG := wm 751 (by decide +kernel) (by decide +kernel)
theorem w752 : Cond.selects RX4 yX4_hasVoteFor yX4_hasVoteFor ∈ lwG := wm 752 (by decide +kernel) (by decide +kernel)
theorem w753 : Cond.code yX4_hasVoteFor cX4_hasVoteFor 2 (some .boolean) ∈ lwG := wm 753 (by decide +kernel) (by decide +kernel)
theorem w755 : Cond.instanceMethod yX4_hasVoteAgainst ∈ lwG := wm 755 (by decide +kernel) (by decide +kernel)
theorem w756 : Cond.selects RX4 yX4_hasVoteAgainst yX4_hasVoteAgainst ∈ lwG := wm 756 (by decide +kernel) (by decide +kernel)
theorem w757 : Cond.code yX4_hasVoteAgainst cX4_hasVoteAgainst 2 (some .boolean) ∈ lwG := wm 757 (by decide +kernel) (by decide +kernel)
theorem w759 : Cond.instanceMethod yX4_addVote ∈ lwG := wm 759 (by decide +kernel) (by decide +kernel)
theorem w760 : Cond.selects RX4 yX4_addVote yX4_addVote ∈ lwG := wm 760 (by decide +kernel) (by decide +kernel)
theorem w761 : Cond.code yX4_addVote cX4_addVote 3 none ∈ lwG := wm 761 (by decide +kernel) (by decide +kernel)
theorem w767 : Cond.instanceMethod yX4_countFor ∈ lwG := wm 767 (by decide +kernel) (by decide +kernel)
theorem w768 : Cond.selects RX4 yX4_countFor yX4_countFor ∈ lwG := wm 768 (by decide +kernel) (by decide +kernel)
theorem w769 : Cond.code yX4_countFor cX4_countFor 1 (some .int) ∈ lwG := wm 769 (by decide +kernel) (by decide +kernel)
theorem w777 : Cond.instanceMethod yX4_countAgainst ∈ lwG := wm 777 (by decide +kernel) (by decide +kernel)
theorem w778 : Cond.selects RX4 yX4_countAgainst yX4_countAgainst ∈ lwG := wm 778 (by decide +kernel) (by decide +kernel)
theorem w779 : Cond.code yX4_countAgainst cX4_countAgainst 1 (some .int) ∈ lwG := wm 779 (by decide +kernel) (by decide +kernel)
theorem w763 : Cond.instanceMethod yX4_countVotes ∈ lwG := wm 763 (by decide +kernel) (by decide +kernel)
theorem w764 : Cond.selects RX4 yX4_countVotes yX4_countVotes ∈ lwG := wm 764 (by decide +kernel) (by decide +kernel)
theorem w765 : Cond.code yX4_countVotes cX4_countVotes 1 (some .int) ∈ lwG := wm 765 (by decide +kernel) (by decide +kernel)
theorem w439 : Cond.instanceMethod yX4_copyFrom ∈ lwG := wm 439 (by decide +kernel) (by decide +kernel)
theorem w440 : Cond.selects RX4 yX4_copyFrom yX4_copyFrom ∈ lwG := wm 440 (by decide +kernel) (by decide +kernel)
theorem w441 : Cond.code yX4_copyFrom cX4_copyFrom 2 none ∈ lwG := wm 441 (by decide +kernel) (by decide +kernel)
theorem w178 : Cond.instanceMethod yX5_init ∈ lwG := wm 178 (by decide +kernel) (by decide +kernel)
theorem w179 : Cond.code yX5_init cX5_init 1 none ∈ lwG := wm 179 (by decide +kernel) (by decide +kernel)
theorem w449 : Cond.instanceMethod yX5_copyFrom ∈ lwG := wm 449 (by decide +kernel) (by decide +kernel)
theorem w450 : Cond.selects RX5 yX5_copyFrom yX5_copyFrom ∈ lwG := wm 450 (by decide +kernel) (by decide +kernel)
theorem w451 : Cond.code yX5_copyFrom cX5_copyFrom 2 none ∈ lwG := wm 451 (by decide +kernel) (by decide +kernel)
theorem w103 : Cond.instanceMethod yX6_init ∈ lwG := wm 103 (by decide +kernel) (by decide +kernel)
theorem w104 : Cond.code yX6_init cX6_init 2 none ∈ lwG := wm 104 (by decide +kernel) (by decide +kernel)
theorem w432 : Cond.instanceMethod yX6_copyFrom ∈ lwG := wm 432 (by decide +kernel) (by decide +kernel)
theorem w433 : Cond.selects RX6 yX6_copyFrom yX6_copyFrom ∈ lwG := wm 433 (by decide +kernel) (by decide +kernel)
theorem w434 : Cond.code yX6_copyFrom cX6_copyFrom 3 none ∈ lwG := wm 434 (by decide +kernel) (by decide +kernel)
theorem w664 : Cond.instanceMethod yX6_hasStone ∈ lwG := wm 664 (by decide +kernel) (by decide +kernel)
theorem w665 : Cond.selects RX6 yX6_hasStone yX6_hasStone ∈ lwG := wm 665 (by decide +kernel) (by decide +kernel)
theorem w666 : Cond.code yX6_hasStone cX6_hasStone 2 (some .boolean) ∈ lwG := wm 666 (by decide +kernel) (by decide +kernel)
theorem w693 : Cond.instanceMethod yX6_hasOfficer ∈ lwG := wm 693 (by decide +kernel) (by decide +kernel)
theorem w694 : Cond.selects RX6 yX6_hasOfficer yX6_hasOfficer ∈ lwG := wm 694 (by decide +kernel) (by decide +kernel)
theorem w695 : Cond.code yX6_hasOfficer cX6_hasOfficer 2 (some .boolean) ∈ lwG := wm 695 (by decide +kernel) (by decide +kernel)
theorem w557 : Cond.instanceMethod yX6_findStoneIn ∈ lwG := wm 557 (by decide +kernel) (by decide +kernel)
theorem w558 : Cond.selects RX6 yX6_findStoneIn yX6_findStoneIn ∈ lwG := wm 558 (by decide +kernel) (by decide +kernel)
theorem w559 : Cond.code yX6_findStoneIn cX6_findStoneIn 3 (some .int) ∈ lwG := wm 559 (by decide +kernel) (by decide +kernel)
theorem w747 : Cond.instanceMethod yX6_findPetition ∈ lwG := wm 747 (by decide +kernel) (by decide +kernel)
theorem w748 : Cond.selects RX6 yX6_findPetition yX6_findPetition ∈ lwG := wm 748 (by decide +kernel) (by decide +kernel)
theorem w749 : Cond.code yX6_findPetition cX6_findPetition 3 (some (.object "PetitionBoard$Petition")) ∈ lwG := wm 749 (by decide +kernel) (by decide +kernel)
theorem w716 : Cond.instanceMethod yX6_findPetitionFor ∈ lwG := wm 716 (by decide +kernel) (by decide +kernel)
theorem w717 : Cond.selects RX6 yX6_findPetitionFor yX6_findPetitionFor ∈ lwG := wm 717 (by decide +kernel) (by decide +kernel)
theorem w718 : Cond.code yX6_findPetitionFor cX6_findPetitionFor 3 (some (.object "PetitionBoard$Petition")) ∈ lwG := wm 718 (by decide +kernel) (by decide +kernel)
theorem w792 : Cond.instanceMethod yX6_findRuling ∈ lwG := wm 792 (by decide +kernel) (by decide +kernel)
theorem w793 : Cond.selects RX6 yX6_findRuling yX6_findRuling ∈ lwG := wm 793 (by decide +kernel) (by decide +kernel)
theorem w794 : Cond.code yX6_findRuling cX6_findRuling 2 (some (.object "PetitionBoard$Ruling")) ∈ lwG := wm 794 (by decide +kernel) (by decide +kernel)
theorem w565 : Cond.instanceMethod yX6_appendStone ∈ lwG := wm 565 (by decide +kernel) (by decide +kernel)
theorem w566 : Cond.selects RX6 yX6_appendStone yX6_appendStone ∈ lwG := wm 566 (by decide +kernel) (by decide +kernel)
theorem w567 : Cond.code yX6_appendStone cX6_appendStone 4 (some .int) ∈ lwG := wm 567 (by decide +kernel) (by decide +kernel)
theorem w653 : Cond.instanceMethod yX6_appendOfficer ∈ lwG := wm 653 (by decide +kernel) (by decide +kernel)
theorem w654 : Cond.selects RX6 yX6_appendOfficer yX6_appendOfficer ∈ lwG := wm 654 (by decide +kernel) (by decide +kernel)
theorem w655 : Cond.code yX6_appendOfficer cX6_appendOfficer 3 (some .int) ∈ lwG := wm 655 (by decide +kernel) (by decide +kernel)
theorem w720 : Cond.instanceMethod yX6_enqueue ∈ lwG := wm 720 (by decide +kernel) (by decide +kernel)
theorem w721 : Cond.selects RX6 yX6_enqueue yX6_enqueue ∈ lwG := wm 721 (by decide +kernel) (by decide +kernel)
theorem w722 : Cond.code yX6_enqueue cX6_enqueue 6 (some .int) ∈ lwG := wm 722 (by decide +kernel) (by decide +kernel)
theorem w729 : Cond.instanceMethod yX6_moveToItsPosition ∈ lwG := wm 729 (by decide +kernel) (by decide +kernel)
theorem w7 : Cond.selects RX6 yX6_moveToItsPosition yX6_moveToItsPosition ∈ lwG := wm 7 (by decide +kernel) (by decide +kernel)
theorem w730 : Cond.code yX6_moveToItsPosition cX6_moveToItsPosition 3 none ∈ lwG := wm 730 (by decide +kernel) (by decide +kernel)
theorem w825 : Cond.instanceMethod yX6_dequeue ∈ lwG := wm 825 (by decide +kernel) (by decide +kernel)
theorem w826 : Cond.selects RX6 yX6_dequeue yX6_dequeue ∈ lwG := wm 826 (by decide +kernel) (by decide +kernel)
theorem w827 : Cond.code yX6_dequeue cX6_dequeue 4 none ∈ lwG := wm 827 (by decide +kernel) (by decide +kernel)
theorem w898 : Cond.instanceMethod yX6_isWon ∈ lwG := wm 898 (by decide +kernel) (by decide +kernel)
theorem w899 : Cond.selects RX6 yX6_isWon yX6_isWon ∈ lwG := wm 899 (by decide +kernel) (by decide +kernel)
theorem w900 : Cond.code yX6_isWon cX6_isWon 5 (some .boolean) ∈ lwG := wm 900 (by decide +kernel) (by decide +kernel)
theorem w931 : Cond.instanceMethod yX6_rule ∈ lwG := wm 931 (by decide +kernel) (by decide +kernel)
theorem w932 : Cond.selects RX6 yX6_rule yX6_rule ∈ lwG := wm 932 (by decide +kernel) (by decide +kernel)
theorem w933 : Cond.code yX6_rule cX6_rule 3 (some .int) ∈ lwG := wm 933 (by decide +kernel) (by decide +kernel)
theorem w937 : Cond.instanceMethod yX6_levelAbove ∈ lwG := wm 937 (by decide +kernel) (by decide +kernel)
theorem w15 : Cond.selects RX6 yX6_levelAbove yX6_levelAbove ∈ lwG := wm 15 (by decide +kernel) (by decide +kernel)
theorem w938 : Cond.code yX6_levelAbove cX6_levelAbove 5 (some .int) ∈ lwG := wm 938 (by decide +kernel) (by decide +kernel)
theorem w944 : Cond.instanceMethod yX6_moveStone ∈ lwG := wm 944 (by decide +kernel) (by decide +kernel)
theorem w16 : Cond.selects RX6 yX6_moveStone yX6_moveStone ∈ lwG := wm 16 (by decide +kernel) (by decide +kernel)
theorem w945 : Cond.code yX6_moveStone cX6_moveStone 3 none ∈ lwG := wm 945 (by decide +kernel) (by decide +kernel)
theorem w1009 : Cond.instanceMethod yX6_restsOn ∈ lwG := wm 1009 (by decide +kernel) (by decide +kernel)
theorem w1010 : Cond.selects RX6 yX6_restsOn yX6_restsOn ∈ lwG := wm 1010 (by decide +kernel) (by decide +kernel)
theorem w1011 : Cond.code yX6_restsOn cX6_restsOn 5 (some .boolean) ∈ lwG := wm 1011 (by decide +kernel) (by decide +kernel)
theorem w1032 : Cond.instanceMethod yX6_countMarked ∈ lwG := wm 1032 (by decide +kernel) (by decide +kernel)
theorem w1033 : Cond.selects RX6 yX6_countMarked yX6_countMarked ∈ lwG := wm 1033 (by decide +kernel) (by decide +kernel)
theorem w1034 : Cond.code yX6_countMarked cX6_countMarked 4 (some .int) ∈ lwG := wm 1034 (by decide +kernel) (by decide +kernel)
theorem w1014 : Cond.instanceMethod yX6_citedSet ∈ lwG := wm 1014 (by decide +kernel) (by decide +kernel)
theorem w18 : Cond.selects RX6 yX6_citedSet yX6_citedSet ∈ lwG := wm 18 (by decide +kernel) (by decide +kernel)
theorem w1015 : Cond.code yX6_citedSet cX6_citedSet 5 (some .int) ∈ lwG := wm 1015 (by decide +kernel) (by decide +kernel)
theorem w294 : Cond.instanceMethod yX7_init ∈ lwG := wm 294 (by decide +kernel) (by decide +kernel)
theorem w295 : Cond.code yX7_init cX7_init 2 none ∈ lwG := wm 295 (by decide +kernel) (by decide +kernel)
theorem w1116 : Cond.instanceMethod yX7_read ∈ lwG := wm 1116 (by decide +kernel) (by decide +kernel)
theorem w1117 : Cond.selects RX7 yX7_read yX7_read ∈ lwG := wm 1117 (by decide +kernel) (by decide +kernel)
theorem w1118 : Cond.code yX7_read cX7_read 2 (some .boolean) ∈ lwG := wm 1118 (by decide +kernel) (by decide +kernel)
theorem w1121 : Cond.instanceMethod yX7_readCommand ∈ lwG := wm 1121 (by decide +kernel) (by decide +kernel)
theorem w20 : Cond.selects RX7 yX7_readCommand yX7_readCommand ∈ lwG := wm 20 (by decide +kernel) (by decide +kernel)
theorem w1122 : Cond.code yX7_readCommand cX7_readCommand 6 (some .boolean) ∈ lwG := wm 1122 (by decide +kernel) (by decide +kernel)
theorem w1199 : Cond.instanceMethod yX7_readPart ∈ lwG := wm 1199 (by decide +kernel) (by decide +kernel)
theorem w21 : Cond.selects RX7 yX7_readPart yX7_readPart ∈ lwG := wm 21 (by decide +kernel) (by decide +kernel)
theorem w1200 : Cond.code yX7_readPart cX7_readPart 4 (some .boolean) ∈ lwG := wm 1200 (by decide +kernel) (by decide +kernel)
theorem w1128 : Cond.static yX7_patternOf ∈ lwG := wm 1128 (by decide +kernel) (by decide +kernel)
theorem w1129 : Cond.code yX7_patternOf cX7_patternOf 1 (some (.object "java/lang/String")) ∈ lwG := wm 1129 (by decide +kernel) (by decide +kernel)
theorem w1214 : Cond.instanceMethod yX7_readSign ∈ lwG := wm 1214 (by decide +kernel) (by decide +kernel)
theorem w23 : Cond.selects RX7 yX7_readSign yX7_readSign ∈ lwG := wm 23 (by decide +kernel) (by decide +kernel)
theorem w1215 : Cond.code yX7_readSign cX7_readSign 3 (some .boolean) ∈ lwG := wm 1215 (by decide +kernel) (by decide +kernel)
theorem w1203 : Cond.instanceMethod yX7_readValue ∈ lwG := wm 1203 (by decide +kernel) (by decide +kernel)
theorem w22 : Cond.selects RX7 yX7_readValue yX7_readValue ∈ lwG := wm 22 (by decide +kernel) (by decide +kernel)
theorem w1204 : Cond.code yX7_readValue cX7_readValue 5 (some .boolean) ∈ lwG := wm 1204 (by decide +kernel) (by decide +kernel)
theorem w1206 : Cond.static yX7_isDigit ∈ lwG := wm 1206 (by decide +kernel) (by decide +kernel)
theorem w1207 : Cond.code yX7_isDigit cX7_isDigit 1 (some .boolean) ∈ lwG := wm 1207 (by decide +kernel) (by decide +kernel)
theorem w95 : Cond.instanceMethod yX8_init ∈ lwG := wm 95 (by decide +kernel) (by decide +kernel)
theorem w96 : Cond.code yX8_init cX8_init 1 none ∈ lwG := wm 96 (by decide +kernel) (by decide +kernel)
theorem w541 : Cond.instanceMethod yX8_addStone ∈ lwG := wm 541 (by decide +kernel) (by decide +kernel)
theorem w542 : Cond.selects RX8 yX8_addStone yX8_addStone ∈ lwG := wm 542 (by decide +kernel) (by decide +kernel)
theorem w543 : Cond.code yX8_addStone cX8_addStone 3 (some .int) ∈ lwG := wm 543 (by decide +kernel) (by decide +kernel)
theorem w645 : Cond.instanceMethod yX8_addOfficer ∈ lwG := wm 645 (by decide +kernel) (by decide +kernel)
theorem w646 : Cond.selects RX8 yX8_addOfficer yX8_addOfficer ∈ lwG := wm 646 (by decide +kernel) (by decide +kernel)
theorem w647 : Cond.code yX8_addOfficer cX8_addOfficer 2 (some .int) ∈ lwG := wm 647 (by decide +kernel) (by decide +kernel)
theorem w388 : Cond.instanceMethod yX8_stoneCount ∈ lwG := wm 388 (by decide +kernel) (by decide +kernel)
theorem w389 : Cond.selects RX8 yX8_stoneCount yX8_stoneCount ∈ lwG := wm 389 (by decide +kernel) (by decide +kernel)
theorem w390 : Cond.code yX8_stoneCount cX8_stoneCount 1 (some .int) ∈ lwG := wm 390 (by decide +kernel) (by decide +kernel)
theorem w660 : Cond.instanceMethod yX8_cellOf ∈ lwG := wm 660 (by decide +kernel) (by decide +kernel)
theorem w661 : Cond.selects RX8 yX8_cellOf yX8_cellOf ∈ lwG := wm 661 (by decide +kernel) (by decide +kernel)
theorem w662 : Cond.code yX8_cellOf cX8_cellOf 2 (some .int) ∈ lwG := wm 662 (by decide +kernel) (by decide +kernel)
theorem w672 : Cond.instanceMethod yX8_weightOf ∈ lwG := wm 672 (by decide +kernel) (by decide +kernel)
theorem w673 : Cond.selects RX8 yX8_weightOf yX8_weightOf ∈ lwG := wm 673 (by decide +kernel) (by decide +kernel)
theorem w674 : Cond.code yX8_weightOf cX8_weightOf 2 (some .int) ∈ lwG := wm 674 (by decide +kernel) (by decide +kernel)
theorem w680 : Cond.instanceMethod yX8_stoneIn ∈ lwG := wm 680 (by decide +kernel) (by decide +kernel)
theorem w681 : Cond.selects RX8 yX8_stoneIn yX8_stoneIn ∈ lwG := wm 681 (by decide +kernel) (by decide +kernel)
theorem w682 : Cond.code yX8_stoneIn cX8_stoneIn 3 (some .int) ∈ lwG := wm 682 (by decide +kernel) (by decide +kernel)
theorem w392 : Cond.instanceMethod yX8_officerCount ∈ lwG := wm 392 (by decide +kernel) (by decide +kernel)
theorem w393 : Cond.selects RX8 yX8_officerCount yX8_officerCount ∈ lwG := wm 393 (by decide +kernel) (by decide +kernel)
theorem w394 : Cond.code yX8_officerCount cX8_officerCount 1 (some .int) ∈ lwG := wm 394 (by decide +kernel) (by decide +kernel)
theorem w689 : Cond.instanceMethod yX8_rankOf ∈ lwG := wm 689 (by decide +kernel) (by decide +kernel)
theorem w690 : Cond.selects RX8 yX8_rankOf yX8_rankOf ∈ lwG := wm 690 (by decide +kernel) (by decide +kernel)
theorem w691 : Cond.code yX8_rankOf cX8_rankOf 2 (some .int) ∈ lwG := wm 691 (by decide +kernel) (by decide +kernel)
theorem w701 : Cond.instanceMethod yX8_petitionsOf ∈ lwG := wm 701 (by decide +kernel) (by decide +kernel)
theorem w702 : Cond.selects RX8 yX8_petitionsOf yX8_petitionsOf ∈ lwG := wm 702 (by decide +kernel) (by decide +kernel)
theorem w703 : Cond.code yX8_petitionsOf cX8_petitionsOf 4 (some .int) ∈ lwG := wm 703 (by decide +kernel) (by decide +kernel)
theorem w708 : Cond.instanceMethod yX8_file ∈ lwG := wm 708 (by decide +kernel) (by decide +kernel)
theorem w709 : Cond.selects RX8 yX8_file yX8_file ∈ lwG := wm 709 (by decide +kernel) (by decide +kernel)
theorem w710 : Cond.code yX8_file cX8_file 5 (some .int) ∈ lwG := wm 710 (by decide +kernel) (by decide +kernel)
theorem w739 : Cond.instanceMethod yX8_vote ∈ lwG := wm 739 (by decide +kernel) (by decide +kernel)
theorem w740 : Cond.selects RX8 yX8_vote yX8_vote ∈ lwG := wm 740 (by decide +kernel) (by decide +kernel)
theorem w741 : Cond.code yX8_vote cX8_vote 4 (some .int) ∈ lwG := wm 741 (by decide +kernel) (by decide +kernel)
theorem w784 : Cond.instanceMethod yX8_cite ∈ lwG := wm 784 (by decide +kernel) (by decide +kernel)
theorem w785 : Cond.selects RX8 yX8_cite yX8_cite ∈ lwG := wm 785 (by decide +kernel) (by decide +kernel)
theorem w786 : Cond.code yX8_cite cX8_cite 3 (some .int) ∈ lwG := wm 786 (by decide +kernel) (by decide +kernel)
theorem w817 : Cond.instanceMethod yX8_veto ∈ lwG := wm 817 (by decide +kernel) (by decide +kernel)
theorem w818 : Cond.selects RX8 yX8_veto yX8_veto ∈ lwG := wm 818 (by decide +kernel) (by decide +kernel)
theorem w819 : Cond.code yX8_veto cX8_veto 3 (some .int) ∈ lwG := wm 819 (by decide +kernel) (by decide +kernel)
theorem w832 : Cond.instanceMethod yX8_withdraw ∈ lwG := wm 832 (by decide +kernel) (by decide +kernel)
theorem w833 : Cond.selects RX8 yX8_withdraw yX8_withdraw ∈ lwG := wm 833 (by decide +kernel) (by decide +kernel)
theorem w834 : Cond.code yX8_withdraw cX8_withdraw 2 (some .int) ∈ lwG := wm 834 (by decide +kernel) (by decide +kernel)
theorem w396 : Cond.instanceMethod yX8_pendingCount ∈ lwG := wm 396 (by decide +kernel) (by decide +kernel)
theorem w397 : Cond.selects RX8 yX8_pendingCount yX8_pendingCount ∈ lwG := wm 397 (by decide +kernel) (by decide +kernel)
theorem w398 : Cond.code yX8_pendingCount cX8_pendingCount 1 (some .int) ∈ lwG := wm 398 (by decide +kernel) (by decide +kernel)
theorem w843 : Cond.instanceMethod yX8_petitionAt ∈ lwG := wm 843 (by decide +kernel) (by decide +kernel)
theorem w844 : Cond.selects RX8 yX8_petitionAt yX8_petitionAt ∈ lwG := wm 844 (by decide +kernel) (by decide +kernel)
theorem w845 : Cond.code yX8_petitionAt cX8_petitionAt 2 (some .int) ∈ lwG := wm 845 (by decide +kernel) (by decide +kernel)
theorem w851 : Cond.instanceMethod yX8_positionOf ∈ lwG := wm 851 (by decide +kernel) (by decide +kernel)
theorem w852 : Cond.selects RX8 yX8_positionOf yX8_positionOf ∈ lwG := wm 852 (by decide +kernel) (by decide +kernel)
theorem w853 : Cond.code yX8_positionOf cX8_positionOf 5 (some .int) ∈ lwG := wm 853 (by decide +kernel) (by decide +kernel)
theorem w864 : Cond.instanceMethod yX8_stoneOf ∈ lwG := wm 864 (by decide +kernel) (by decide +kernel)
theorem w865 : Cond.selects RX8 yX8_stoneOf yX8_stoneOf ∈ lwG := wm 865 (by decide +kernel) (by decide +kernel)
theorem w866 : Cond.code yX8_stoneOf cX8_stoneOf 2 (some .int) ∈ lwG := wm 866 (by decide +kernel) (by decide +kernel)
theorem w871 : Cond.instanceMethod yX8_targetOf ∈ lwG := wm 871 (by decide +kernel) (by decide +kernel)
theorem w872 : Cond.selects RX8 yX8_targetOf yX8_targetOf ∈ lwG := wm 872 (by decide +kernel) (by decide +kernel)
theorem w873 : Cond.code yX8_targetOf cX8_targetOf 2 (some .int) ∈ lwG := wm 873 (by decide +kernel) (by decide +kernel)
theorem w878 : Cond.instanceMethod yX8_votesFor ∈ lwG := wm 878 (by decide +kernel) (by decide +kernel)
theorem w879 : Cond.selects RX8 yX8_votesFor yX8_votesFor ∈ lwG := wm 879 (by decide +kernel) (by decide +kernel)
theorem w880 : Cond.code yX8_votesFor cX8_votesFor 2 (some .int) ∈ lwG := wm 880 (by decide +kernel) (by decide +kernel)
theorem w886 : Cond.instanceMethod yX8_votesAgainst ∈ lwG := wm 886 (by decide +kernel) (by decide +kernel)
theorem w887 : Cond.selects RX8 yX8_votesAgainst yX8_votesAgainst ∈ lwG := wm 887 (by decide +kernel) (by decide +kernel)
theorem w888 : Cond.code yX8_votesAgainst cX8_votesAgainst 2 (some .int) ∈ lwG := wm 888 (by decide +kernel) (by decide +kernel)
theorem w894 : Cond.instanceMethod yX8_wouldBeGranted ∈ lwG := wm 894 (by decide +kernel) (by decide +kernel)
theorem w895 : Cond.selects RX8 yX8_wouldBeGranted yX8_wouldBeGranted ∈ lwG := wm 895 (by decide +kernel) (by decide +kernel)
theorem w896 : Cond.code yX8_wouldBeGranted cX8_wouldBeGranted 2 (some .boolean) ∈ lwG := wm 896 (by decide +kernel) (by decide +kernel)
theorem w912 : Cond.instanceMethod yX8_setQuorum ∈ lwG := wm 912 (by decide +kernel) (by decide +kernel)
theorem w913 : Cond.selects RX8 yX8_setQuorum yX8_setQuorum ∈ lwG := wm 913 (by decide +kernel) (by decide +kernel)
theorem w914 : Cond.code yX8_setQuorum cX8_setQuorum 2 (some .int) ∈ lwG := wm 914 (by decide +kernel) (by decide +kernel)
theorem w923 : Cond.instanceMethod yX8_decide ∈ lwG := wm 923 (by decide +kernel) (by decide +kernel)
theorem w924 : Cond.selects RX8 yX8_decide yX8_decide ∈ lwG := wm 924 (by decide +kernel) (by decide +kernel)
theorem w925 : Cond.code yX8_decide cX8_decide 1 (some .int) ∈ lwG := wm 925 (by decide +kernel) (by decide +kernel)
theorem w400 : Cond.instanceMethod yX8_quorum ∈ lwG := wm 400 (by decide +kernel) (by decide +kernel)
theorem w401 : Cond.selects RX8 yX8_quorum yX8_quorum ∈ lwG := wm 401 (by decide +kernel) (by decide +kernel)
theorem w402 : Cond.code yX8_quorum cX8_quorum 1 (some .int) ∈ lwG := wm 402 (by decide +kernel) (by decide +kernel)
theorem w404 : Cond.instanceMethod yX8_rulingCount ∈ lwG := wm 404 (by decide +kernel) (by decide +kernel)
theorem w405 : Cond.selects RX8 yX8_rulingCount yX8_rulingCount ∈ lwG := wm 405 (by decide +kernel) (by decide +kernel)
theorem w406 : Cond.code yX8_rulingCount cX8_rulingCount 1 (some .int) ∈ lwG := wm 406 (by decide +kernel) (by decide +kernel)
theorem w952 : Cond.instanceMethod yX8_isGranted ∈ lwG := wm 952 (by decide +kernel) (by decide +kernel)
theorem w953 : Cond.selects RX8 yX8_isGranted yX8_isGranted ∈ lwG := wm 953 (by decide +kernel) (by decide +kernel)
theorem w954 : Cond.code yX8_isGranted cX8_isGranted 2 (some .boolean) ∈ lwG := wm 954 (by decide +kernel) (by decide +kernel)
theorem w964 : Cond.instanceMethod yX8_isCarriedOut ∈ lwG := wm 964 (by decide +kernel) (by decide +kernel)
theorem w965 : Cond.selects RX8 yX8_isCarriedOut yX8_isCarriedOut ∈ lwG := wm 965 (by decide +kernel) (by decide +kernel)
theorem w966 : Cond.code yX8_isCarriedOut cX8_isCarriedOut 2 (some .boolean) ∈ lwG := wm 966 (by decide +kernel) (by decide +kernel)
theorem w971 : Cond.instanceMethod yX8_citationCount ∈ lwG := wm 971 (by decide +kernel) (by decide +kernel)
theorem w972 : Cond.selects RX8 yX8_citationCount yX8_citationCount ∈ lwG := wm 972 (by decide +kernel) (by decide +kernel)
theorem w973 : Cond.code yX8_citationCount cX8_citationCount 2 (some .int) ∈ lwG := wm 973 (by decide +kernel) (by decide +kernel)
theorem w978 : Cond.instanceMethod yX8_citation ∈ lwG := wm 978 (by decide +kernel) (by decide +kernel)
theorem w979 : Cond.selects RX8 yX8_citation yX8_citation ∈ lwG := wm 979 (by decide +kernel) (by decide +kernel)
theorem w980 : Cond.code yX8_citation cX8_citation 4 (some .int) ∈ lwG := wm 980 (by decide +kernel) (by decide +kernel)
theorem w988 : Cond.instanceMethod yX8_citedBy ∈ lwG := wm 988 (by decide +kernel) (by decide +kernel)
theorem w989 : Cond.selects RX8 yX8_citedBy yX8_citedBy ∈ lwG := wm 989 (by decide +kernel) (by decide +kernel)
theorem w990 : Cond.code yX8_citedBy cX8_citedBy 4 (some .int) ∈ lwG := wm 990 (by decide +kernel) (by decide +kernel)
theorem w998 : Cond.instanceMethod yX8_depth ∈ lwG := wm 998 (by decide +kernel) (by decide +kernel)
theorem w999 : Cond.selects RX8 yX8_depth yX8_depth ∈ lwG := wm 999 (by decide +kernel) (by decide +kernel)
theorem w1000 : Cond.code yX8_depth cX8_depth 2 (some .int) ∈ lwG := wm 1000 (by decide +kernel) (by decide +kernel)
theorem w1005 : Cond.instanceMethod yX8_isBasedOn ∈ lwG := wm 1005 (by decide +kernel) (by decide +kernel)
theorem w1006 : Cond.selects RX8 yX8_isBasedOn yX8_isBasedOn ∈ lwG := wm 1006 (by decide +kernel) (by decide +kernel)
theorem w1007 : Cond.code yX8_isBasedOn cX8_isBasedOn 3 (some .boolean) ∈ lwG := wm 1007 (by decide +kernel) (by decide +kernel)
theorem w1021 : Cond.instanceMethod yX8_influence ∈ lwG := wm 1021 (by decide +kernel) (by decide +kernel)
theorem w1022 : Cond.selects RX8 yX8_influence yX8_influence ∈ lwG := wm 1022 (by decide +kernel) (by decide +kernel)
theorem w1023 : Cond.code yX8_influence cX8_influence 4 (some .int) ∈ lwG := wm 1023 (by decide +kernel) (by decide +kernel)
theorem w1028 : Cond.instanceMethod yX8_influenceByMarking ∈ lwG := wm 1028 (by decide +kernel) (by decide +kernel)
theorem w1029 : Cond.selects RX8 yX8_influenceByMarking yX8_influenceByMarking ∈ lwG := wm 1029 (by decide +kernel) (by decide +kernel)
theorem w1030 : Cond.code yX8_influenceByMarking cX8_influenceByMarking 2 (some .int) ∈ lwG := wm 1030 (by decide +kernel) (by decide +kernel)
theorem w1040 : Cond.instanceMethod yX8_rulingByInfluence ∈ lwG := wm 1040 (by decide +kernel) (by decide +kernel)
theorem w1041 : Cond.selects RX8 yX8_rulingByInfluence yX8_rulingByInfluence ∈ lwG := wm 1041 (by decide +kernel) (by decide +kernel)
theorem w1042 : Cond.code yX8_rulingByInfluence cX8_rulingByInfluence 4 (some .int) ∈ lwG := wm 1042 (by decide +kernel) (by decide +kernel)
theorem w408 : Cond.instanceMethod yX8_filedCount ∈ lwG := wm 408 (by decide +kernel) (by decide +kernel)
theorem w409 : Cond.selects RX8 yX8_filedCount yX8_filedCount ∈ lwG := wm 409 (by decide +kernel) (by decide +kernel)
theorem w410 : Cond.code yX8_filedCount cX8_filedCount 1 (some .int) ∈ lwG := wm 410 (by decide +kernel) (by decide +kernel)
theorem w412 : Cond.instanceMethod yX8_vetoes ∈ lwG := wm 412 (by decide +kernel) (by decide +kernel)
theorem w413 : Cond.selects RX8 yX8_vetoes yX8_vetoes ∈ lwG := wm 413 (by decide +kernel) (by decide +kernel)
theorem w414 : Cond.code yX8_vetoes cX8_vetoes 1 (some .int) ∈ lwG := wm 414 (by decide +kernel) (by decide +kernel)
theorem w416 : Cond.instanceMethod yX8_withdrawals ∈ lwG := wm 416 (by decide +kernel) (by decide +kernel)
theorem w417 : Cond.selects RX8 yX8_withdrawals yX8_withdrawals ∈ lwG := wm 417 (by decide +kernel) (by decide +kernel)
theorem w418 : Cond.code yX8_withdrawals cX8_withdrawals 1 (some .int) ∈ lwG := wm 418 (by decide +kernel) (by decide +kernel)
theorem w420 : Cond.instanceMethod yX8_movedWeight ∈ lwG := wm 420 (by decide +kernel) (by decide +kernel)
theorem w421 : Cond.selects RX8 yX8_movedWeight yX8_movedWeight ∈ lwG := wm 421 (by decide +kernel) (by decide +kernel)
theorem w422 : Cond.code yX8_movedWeight cX8_movedWeight 1 (some .int) ∈ lwG := wm 422 (by decide +kernel) (by decide +kernel)
theorem w1066 : Cond.instanceMethod yX8_meanVotes ∈ lwG := wm 1066 (by decide +kernel) (by decide +kernel)
theorem w1067 : Cond.selects RX8 yX8_meanVotes yX8_meanVotes ∈ lwG := wm 1067 (by decide +kernel) (by decide +kernel)
theorem w1068 : Cond.code yX8_meanVotes cX8_meanVotes 3 (some .double) ∈ lwG := wm 1068 (by decide +kernel) (by decide +kernel)
theorem w1076 : Cond.instanceMethod yX8_grantedShare ∈ lwG := wm 1076 (by decide +kernel) (by decide +kernel)
theorem w1077 : Cond.selects RX8 yX8_grantedShare yX8_grantedShare ∈ lwG := wm 1077 (by decide +kernel) (by decide +kernel)
theorem w1078 : Cond.code yX8_grantedShare cX8_grantedShare 3 (some .float) ∈ lwG := wm 1078 (by decide +kernel) (by decide +kernel)
theorem w1085 : Cond.instanceMethod yX8_feed ∈ lwG := wm 1085 (by decide +kernel) (by decide +kernel)
theorem w1086 : Cond.selects RX8 yX8_feed yX8_feed ∈ lwG := wm 1086 (by decide +kernel) (by decide +kernel)
theorem w1087 : Cond.code yX8_feed cX8_feed 2 (some .int) ∈ lwG := wm 1087 (by decide +kernel) (by decide +kernel)
theorem w1112 : Cond.instanceMethod yX8_execute ∈ lwG := wm 1112 (by decide +kernel) (by decide +kernel)
theorem w1113 : Cond.selects RX8 yX8_execute yX8_execute ∈ lwG := wm 1113 (by decide +kernel) (by decide +kernel)
theorem w1114 : Cond.code yX8_execute cX8_execute 2 (some .int) ∈ lwG := wm 1114 (by decide +kernel) (by decide +kernel)
theorem w1238 : Cond.instanceMethod yX8_faultPosition ∈ lwG := wm 1238 (by decide +kernel) (by decide +kernel)
theorem w1239 : Cond.selects RX8 yX8_faultPosition yX8_faultPosition ∈ lwG := wm 1239 (by decide +kernel) (by decide +kernel)
theorem w1240 : Cond.code yX8_faultPosition cX8_faultPosition 1 (some .int) ∈ lwG := wm 1240 (by decide +kernel) (by decide +kernel)
theorem w1246 : Cond.instanceMethod yX8_writePetition ∈ lwG := wm 1246 (by decide +kernel) (by decide +kernel)
theorem w1247 : Cond.selects RX8 yX8_writePetition yX8_writePetition ∈ lwG := wm 1247 (by decide +kernel) (by decide +kernel)
theorem w1248 : Cond.code yX8_writePetition cX8_writePetition 4 (some .int) ∈ lwG := wm 1248 (by decide +kernel) (by decide +kernel)
theorem w1263 : Cond.instanceMethod yX8_writeRow ∈ lwG := wm 1263 (by decide +kernel) (by decide +kernel)
theorem w1264 : Cond.selects RX8 yX8_writeRow yX8_writeRow ∈ lwG := wm 1264 (by decide +kernel) (by decide +kernel)
theorem w1265 : Cond.code yX8_writeRow cX8_writeRow 4 (some .int) ∈ lwG := wm 1265 (by decide +kernel) (by decide +kernel)
theorem w1272 : Cond.instanceMethod yX8_lineCharacter ∈ lwG := wm 1272 (by decide +kernel) (by decide +kernel)
theorem w1273 : Cond.selects RX8 yX8_lineCharacter yX8_lineCharacter ∈ lwG := wm 1273 (by decide +kernel) (by decide +kernel)
theorem w1274 : Cond.code yX8_lineCharacter cX8_lineCharacter 2 (some .char) ∈ lwG := wm 1274 (by decide +kernel) (by decide +kernel)
theorem w1281 : Cond.instanceMethod yX8_denial ∈ lwG := wm 1281 (by decide +kernel) (by decide +kernel)
theorem w1282 : Cond.selects RX8 yX8_denial yX8_denial ∈ lwG := wm 1282 (by decide +kernel) (by decide +kernel)
theorem w1283 : Cond.code yX8_denial cX8_denial 1 (some .int) ∈ lwG := wm 1283 (by decide +kernel) (by decide +kernel)
theorem w1293 : Cond.instanceMethod yX8_denialDetail ∈ lwG := wm 1293 (by decide +kernel) (by decide +kernel)
theorem w1294 : Cond.selects RX8 yX8_denialDetail yX8_denialDetail ∈ lwG := wm 1294 (by decide +kernel) (by decide +kernel)
theorem w1295 : Cond.code yX8_denialDetail cX8_denialDetail 1 (some .int) ∈ lwG := wm 1295 (by decide +kernel) (by decide +kernel)
theorem w1300 : Cond.instanceMethod yX8_denialCause ∈ lwG := wm 1300 (by decide +kernel) (by decide +kernel)
theorem w1301 : Cond.selects RX8 yX8_denialCause yX8_denialCause ∈ lwG := wm 1301 (by decide +kernel) (by decide +kernel)
theorem w1302 : Cond.code yX8_denialCause cX8_denialCause 1 (some .int) ∈ lwG := wm 1302 (by decide +kernel) (by decide +kernel)
theorem w1312 : Cond.instanceMethod yX8_denialCauseDetail ∈ lwG := wm 1312 (by decide +kernel) (by decide +kernel)
theorem w1313 : Cond.selects RX8 yX8_denialCauseDetail yX8_denialCauseDetail ∈ lwG := wm 1313 (by decide +kernel) (by decide +kernel)
theorem w1314 : Cond.code yX8_denialCauseDetail cX8_denialCauseDetail 1 (some .int) ∈ lwG := wm 1314 (by decide +kernel) (by decide +kernel)
theorem w1319 : Cond.instanceMethod yX8_undo ∈ lwG := wm 1319 (by decide +kernel) (by decide +kernel)
theorem w1320 : Cond.selects RX8 yX8_undo yX8_undo ∈ lwG := wm 1320 (by decide +kernel) (by decide +kernel)
theorem w1321 : Cond.code yX8_undo cX8_undo 1 (some .int) ∈ lwG := wm 1321 (by decide +kernel) (by decide +kernel)
theorem w424 : Cond.instanceMethod yX8_undoCount ∈ lwG := wm 424 (by decide +kernel) (by decide +kernel)
theorem w425 : Cond.selects RX8 yX8_undoCount yX8_undoCount ∈ lwG := wm 425 (by decide +kernel) (by decide +kernel)
theorem w426 : Cond.code yX8_undoCount cX8_undoCount 1 (some .int) ∈ lwG := wm 426 (by decide +kernel) (by decide +kernel)
theorem w428 : Cond.instanceMethod yX8_saveSnapshot ∈ lwG := wm 428 (by decide +kernel) (by decide +kernel)
theorem w429 : Cond.selects RX8 yX8_saveSnapshot yX8_saveSnapshot ∈ lwG := wm 429 (by decide +kernel) (by decide +kernel)
theorem w430 : Cond.code yX8_saveSnapshot cX8_saveSnapshot 1 (some .int) ∈ lwG := wm 430 (by decide +kernel) (by decide +kernel)
theorem w1331 : Cond.instanceMethod yX8_restoreSnapshot ∈ lwG := wm 1331 (by decide +kernel) (by decide +kernel)
theorem w1332 : Cond.selects RX8 yX8_restoreSnapshot yX8_restoreSnapshot ∈ lwG := wm 1332 (by decide +kernel) (by decide +kernel)
theorem w1333 : Cond.code yX8_restoreSnapshot cX8_restoreSnapshot 1 (some .int) ∈ lwG := wm 1333 (by decide +kernel) (by decide +kernel)
theorem w551 : Cond.instanceMethod yX8_placeStone ∈ lwG := wm 551 (by decide +kernel) (by decide +kernel)
theorem w1 : Cond.selects RX8 yX8_placeStone yX8_placeStone ∈ lwG := wm 1 (by decide +kernel) (by decide +kernel)
theorem w552 : Cond.code yX8_placeStone cX8_placeStone 4 (some .int) ∈ lwG := wm 552 (by decide +kernel) (by decide +kernel)
theorem w650 : Cond.instanceMethod yX8_enlistOfficer ∈ lwG := wm 650 (by decide +kernel) (by decide +kernel)
theorem w5 : Cond.selects RX8 yX8_enlistOfficer yX8_enlistOfficer ∈ lwG := wm 5 (by decide +kernel) (by decide +kernel)
theorem w651 : Cond.code yX8_enlistOfficer cX8_enlistOfficer 2 (some .int) ∈ lwG := wm 651 (by decide +kernel) (by decide +kernel)
theorem w917 : Cond.instanceMethod yX8_changeQuorum ∈ lwG := wm 917 (by decide +kernel) (by decide +kernel)
theorem w13 : Cond.selects RX8 yX8_changeQuorum yX8_changeQuorum ∈ lwG := wm 13 (by decide +kernel) (by decide +kernel)
theorem w918 : Cond.code yX8_changeQuorum cX8_changeQuorum 3 (some .int) ∈ lwG := wm 918 (by decide +kernel) (by decide +kernel)
theorem w713 : Cond.instanceMethod yX8_lodgePetition ∈ lwG := wm 713 (by decide +kernel) (by decide +kernel)
theorem w6 : Cond.selects RX8 yX8_lodgePetition yX8_lodgePetition ∈ lwG := wm 6 (by decide +kernel) (by decide +kernel)
theorem w714 : Cond.code yX8_lodgePetition cX8_lodgePetition 6 (some .int) ∈ lwG := wm 714 (by decide +kernel) (by decide +kernel)
theorem w744 : Cond.instanceMethod yX8_castVote ∈ lwG := wm 744 (by decide +kernel) (by decide +kernel)
theorem w8 : Cond.selects RX8 yX8_castVote yX8_castVote ∈ lwG := wm 8 (by decide +kernel) (by decide +kernel)
theorem w745 : Cond.code yX8_castVote cX8_castVote 5 (some .int) ∈ lwG := wm 745 (by decide +kernel) (by decide +kernel)
theorem w789 : Cond.instanceMethod yX8_citeRuling ∈ lwG := wm 789 (by decide +kernel) (by decide +kernel)
theorem w9 : Cond.selects RX8 yX8_citeRuling yX8_citeRuling ∈ lwG := wm 9 (by decide +kernel) (by decide +kernel)
theorem w790 : Cond.code yX8_citeRuling cX8_citeRuling 4 (some .int) ∈ lwG := wm 790 (by decide +kernel) (by decide +kernel)
theorem w822 : Cond.instanceMethod yX8_vetoPetition ∈ lwG := wm 822 (by decide +kernel) (by decide +kernel)
theorem w10 : Cond.selects RX8 yX8_vetoPetition yX8_vetoPetition ∈ lwG := wm 10 (by decide +kernel) (by decide +kernel)
theorem w823 : Cond.code yX8_vetoPetition cX8_vetoPetition 4 (some .int) ∈ lwG := wm 823 (by decide +kernel) (by decide +kernel)
theorem w837 : Cond.instanceMethod yX8_withdrawPetition ∈ lwG := wm 837 (by decide +kernel) (by decide +kernel)
theorem w11 : Cond.selects RX8 yX8_withdrawPetition yX8_withdrawPetition ∈ lwG := wm 11 (by decide +kernel) (by decide +kernel)
theorem w838 : Cond.code yX8_withdrawPetition cX8_withdrawPetition 3 (some .int) ∈ lwG := wm 838 (by decide +kernel) (by decide +kernel)
theorem w928 : Cond.instanceMethod yX8_decideFirst ∈ lwG := wm 928 (by decide +kernel) (by decide +kernel)
theorem w14 : Cond.selects RX8 yX8_decideFirst yX8_decideFirst ∈ lwG := wm 14 (by decide +kernel) (by decide +kernel)
theorem w929 : Cond.code yX8_decideFirst cX8_decideFirst 2 (some .int) ∈ lwG := wm 929 (by decide +kernel) (by decide +kernel)
theorem w562 : Cond.instanceMethod yX8_deny ∈ lwG := wm 562 (by decide +kernel) (by decide +kernel)
theorem w2 : Cond.selects RX8 yX8_deny yX8_deny ∈ lwG := wm 2 (by decide +kernel) (by decide +kernel)
theorem w563 : Cond.code yX8_deny cX8_deny 3 (some .int) ∈ lwG := wm 563 (by decide +kernel) (by decide +kernel)
theorem w570 : Cond.instanceMethod yX8_conclude ∈ lwG := wm 570 (by decide +kernel) (by decide +kernel)
theorem w3 : Cond.selects RX8 yX8_conclude yX8_conclude ∈ lwG := wm 3 (by decide +kernel) (by decide +kernel)
theorem w571 : Cond.code yX8_conclude cX8_conclude 2 (some .int) ∈ lwG := wm 571 (by decide +kernel) (by decide +kernel)
theorem w1223 : Cond.instanceMethod yX8_runCommands ∈ lwG := wm 1223 (by decide +kernel) (by decide +kernel)
theorem w24 : Cond.selects RX8 yX8_runCommands yX8_runCommands ∈ lwG := wm 24 (by decide +kernel) (by decide +kernel)
theorem w1224 : Cond.code yX8_runCommands cX8_runCommands 3 (some .boolean) ∈ lwG := wm 1224 (by decide +kernel) (by decide +kernel)
theorem w1227 : Cond.instanceMethod yX8_attempt ∈ lwG := wm 1227 (by decide +kernel) (by decide +kernel)
theorem w25 : Cond.selects RX8 yX8_attempt yX8_attempt ∈ lwG := wm 25 (by decide +kernel) (by decide +kernel)
theorem w1228 : Cond.code yX8_attempt cX8_attempt 2 (some .int) ∈ lwG := wm 1228 (by decide +kernel) (by decide +kernel)
theorem w619 : Cond.instanceMethod yX8_keepDenial ∈ lwG := wm 619 (by decide +kernel) (by decide +kernel)
theorem w4 : Cond.selects RX8 yX8_keepDenial yX8_keepDenial ∈ lwG := wm 4 (by decide +kernel) (by decide +kernel)
theorem w620 : Cond.code yX8_keepDenial cX8_keepDenial 5 none ∈ lwG := wm 620 (by decide +kernel) (by decide +kernel)
theorem w554 : Cond.static yX8_isCell ∈ lwG := wm 554 (by decide +kernel) (by decide +kernel)
theorem w555 : Cond.code yX8_isCell cX8_isCell 1 (some .boolean) ∈ lwG := wm 555 (by decide +kernel) (by decide +kernel)
theorem w856 : Cond.instanceMethod yX8_requirePetition ∈ lwG := wm 856 (by decide +kernel) (by decide +kernel)
theorem w12 : Cond.selects RX8 yX8_requirePetition yX8_requirePetition ∈ lwG := wm 12 (by decide +kernel) (by decide +kernel)
theorem w857 : Cond.code yX8_requirePetition cX8_requirePetition 3 (some (.object "PetitionBoard$Petition")) ∈ lwG := wm 857 (by decide +kernel) (by decide +kernel)
theorem w957 : Cond.instanceMethod yX8_requireRuling ∈ lwG := wm 957 (by decide +kernel) (by decide +kernel)
theorem w17 : Cond.selects RX8 yX8_requireRuling yX8_requireRuling ∈ lwG := wm 17 (by decide +kernel) (by decide +kernel)
theorem w958 : Cond.code yX8_requireRuling cX8_requireRuling 3 (some (.object "PetitionBoard$Ruling")) ∈ lwG := wm 958 (by decide +kernel) (by decide +kernel)
theorem w1286 : Cond.instanceMethod yX8_requireDenial ∈ lwG := wm 1286 (by decide +kernel) (by decide +kernel)
theorem w26 : Cond.selects RX8 yX8_requireDenial yX8_requireDenial ∈ lwG := wm 26 (by decide +kernel) (by decide +kernel)
theorem w1287 : Cond.code yX8_requireDenial cX8_requireDenial 1 none ∈ lwG := wm 1287 (by decide +kernel) (by decide +kernel)
theorem w1305 : Cond.instanceMethod yX8_requireCause ∈ lwG := wm 1305 (by decide +kernel) (by decide +kernel)
theorem w27 : Cond.selects RX8 yX8_requireCause yX8_requireCause ∈ lwG := wm 27 (by decide +kernel) (by decide +kernel)
theorem w1306 : Cond.code yX8_requireCause cX8_requireCause 1 none ∈ lwG := wm 1306 (by decide +kernel) (by decide +kernel)
theorem w1046 : Cond.instanceMethod yX8_rankByInfluence ∈ lwG := wm 1046 (by decide +kernel) (by decide +kernel)
theorem w19 : Cond.selects RX8 yX8_rankByInfluence yX8_rankByInfluence ∈ lwG := wm 19 (by decide +kernel) (by decide +kernel)
theorem w1047 : Cond.code yX8_rankByInfluence cX8_rankByInfluence 6 (some .int) ∈ lwG := wm 1047 (by decide +kernel) (by decide +kernel)
theorem w1342 : Cond.instanceMethod yX9_init ∈ lwG := wm 1342 (by decide +kernel) (by decide +kernel)
theorem w1343 : Cond.code yX9_init cX9_init 1 none ∈ lwG := wm 1343 (by decide +kernel) (by decide +kernel)
theorem w1413 : Cond.instanceMethod yX9_thrown ∈ lwG := wm 1413 (by decide +kernel) (by decide +kernel)
theorem w1414 : Cond.selects RX9 yX9_thrown yX9_thrown ∈ lwG := wm 1414 (by decide +kernel) (by decide +kernel)
theorem w1415 : Cond.code yX9_thrown cX9_thrown 1 (some .int) ∈ lwG := wm 1415 (by decide +kernel) (by decide +kernel)
theorem w1428 : Cond.instanceMethod yX9_fails ∈ lwG := wm 1428 (by decide +kernel) (by decide +kernel)
theorem w28 : Cond.selects RX9 yX9_fails yX9_fails ∈ lwG := wm 28 (by decide +kernel) (by decide +kernel)
theorem w1429 : Cond.code yX9_fails cX9_fails 2 (some .boolean) ∈ lwG := wm 1429 (by decide +kernel) (by decide +kernel)
theorem w1440 : Cond.instanceMethod yX9_denies ∈ lwG := wm 1440 (by decide +kernel) (by decide +kernel)
theorem w31 : Cond.selects RX9 yX9_denies yX9_denies ∈ lwG := wm 31 (by decide +kernel) (by decide +kernel)
theorem w1441 : Cond.code yX9_denies cX9_denies 4 (some .int) ∈ lwG := wm 1441 (by decide +kernel) (by decide +kernel)
theorem w1424 : Cond.static yX9_in ∈ lwG := wm 1424 (by decide +kernel) (by decide +kernel)
theorem w1425 : Cond.code yX9_in cX9_in 3 (some .boolean) ∈ lwG := wm 1425 (by decide +kernel) (by decide +kernel)
theorem w1447 : Cond.static yX9_copies ∈ lwG := wm 1447 (by decide +kernel) (by decide +kernel)
theorem w1448 : Cond.code yX9_copies cX9_copies 5 none ∈ lwG := wm 1448 (by decide +kernel) (by decide +kernel)
theorem w1444 : Cond.instanceMethod yX9_keeps ∈ lwG := wm 1444 (by decide +kernel) (by decide +kernel)
theorem w32 : Cond.selects RX9 yX9_keeps yX9_keeps ∈ lwG := wm 32 (by decide +kernel) (by decide +kernel)
theorem w1445 : Cond.code yX9_keeps cX9_keeps 3 none ∈ lwG := wm 1445 (by decide +kernel) (by decide +kernel)
theorem w1421 : Cond.static yX9_isCell ∈ lwG := wm 1421 (by decide +kernel) (by decide +kernel)
theorem w1422 : Cond.code yX9_isCell cX9_isCell 1 (some .boolean) ∈ lwG := wm 1422 (by decide +kernel) (by decide +kernel)
theorem w1463 : Cond.instanceMethod yX9_isStone ∈ lwG := wm 1463 (by decide +kernel) (by decide +kernel)
theorem w33 : Cond.selects RX9 yX9_isStone yX9_isStone ∈ lwG := wm 33 (by decide +kernel) (by decide +kernel)
theorem w1464 : Cond.code yX9_isStone cX9_isStone 2 (some .boolean) ∈ lwG := wm 1464 (by decide +kernel) (by decide +kernel)
theorem w1487 : Cond.instanceMethod yX9_isOfficer ∈ lwG := wm 1487 (by decide +kernel) (by decide +kernel)
theorem w35 : Cond.selects RX9 yX9_isOfficer yX9_isOfficer ∈ lwG := wm 35 (by decide +kernel) (by decide +kernel)
theorem w1488 : Cond.code yX9_isOfficer cX9_isOfficer 2 (some .boolean) ∈ lwG := wm 1488 (by decide +kernel) (by decide +kernel)
theorem w1436 : Cond.instanceMethod yX9_cell ∈ lwG := wm 1436 (by decide +kernel) (by decide +kernel)
theorem w30 : Cond.selects RX9 yX9_cell yX9_cell ∈ lwG := wm 30 (by decide +kernel) (by decide +kernel)
theorem w1437 : Cond.code yX9_cell cX9_cell 2 (some .int) ∈ lwG := wm 1437 (by decide +kernel) (by decide +kernel)
theorem w1471 : Cond.instanceMethod yX9_heavy ∈ lwG := wm 1471 (by decide +kernel) (by decide +kernel)
theorem w34 : Cond.selects RX9 yX9_heavy yX9_heavy ∈ lwG := wm 34 (by decide +kernel) (by decide +kernel)
theorem w1472 : Cond.code yX9_heavy cX9_heavy 2 (some .int) ∈ lwG := wm 1472 (by decide +kernel) (by decide +kernel)
theorem w1491 : Cond.instanceMethod yX9_rank ∈ lwG := wm 1491 (by decide +kernel) (by decide +kernel)
theorem w36 : Cond.selects RX9 yX9_rank yX9_rank ∈ lwG := wm 36 (by decide +kernel) (by decide +kernel)
theorem w1492 : Cond.code yX9_rank cX9_rank 2 (some .int) ∈ lwG := wm 1492 (by decide +kernel) (by decide +kernel)
theorem w1432 : Cond.instanceMethod yX9_within ∈ lwG := wm 1432 (by decide +kernel) (by decide +kernel)
theorem w29 : Cond.selects RX9 yX9_within yX9_within ∈ lwG := wm 29 (by decide +kernel) (by decide +kernel)
theorem w1433 : Cond.code yX9_within cX9_within 3 (some .int) ∈ lwG := wm 1433 (by decide +kernel) (by decide +kernel)
theorem w1417 : Cond.instanceMethod yX9_addStone ∈ lwG := wm 1417 (by decide +kernel) (by decide +kernel)
theorem w1418 : Cond.selects RX9 yX9_addStone yX9_addStone ∈ lwG := wm 1418 (by decide +kernel) (by decide +kernel)
theorem w1419 : Cond.code yX9_addStone cX9_addStone 4 (some .int) ∈ lwG := wm 1419 (by decide +kernel) (by decide +kernel)
theorem w1450 : Cond.instanceMethod yX9_addOfficer ∈ lwG := wm 1450 (by decide +kernel) (by decide +kernel)
theorem w1451 : Cond.selects RX9 yX9_addOfficer yX9_addOfficer ∈ lwG := wm 1451 (by decide +kernel) (by decide +kernel)
theorem w1452 : Cond.code yX9_addOfficer cX9_addOfficer 2 (some .int) ∈ lwG := wm 1452 (by decide +kernel) (by decide +kernel)
theorem w1454 : Cond.instanceMethod yX9_stoneCount ∈ lwG := wm 1454 (by decide +kernel) (by decide +kernel)
theorem w1455 : Cond.selects RX9 yX9_stoneCount yX9_stoneCount ∈ lwG := wm 1455 (by decide +kernel) (by decide +kernel)
theorem w1456 : Cond.code yX9_stoneCount cX9_stoneCount 1 (some .int) ∈ lwG := wm 1456 (by decide +kernel) (by decide +kernel)
theorem w1458 : Cond.instanceMethod yX9_cellOf ∈ lwG := wm 1458 (by decide +kernel) (by decide +kernel)
theorem w1459 : Cond.selects RX9 yX9_cellOf yX9_cellOf ∈ lwG := wm 1459 (by decide +kernel) (by decide +kernel)
theorem w1460 : Cond.code yX9_cellOf cX9_cellOf 2 (some .int) ∈ lwG := wm 1460 (by decide +kernel) (by decide +kernel)
theorem w1466 : Cond.instanceMethod yX9_weightOf ∈ lwG := wm 1466 (by decide +kernel) (by decide +kernel)
theorem w1467 : Cond.selects RX9 yX9_weightOf yX9_weightOf ∈ lwG := wm 1467 (by decide +kernel) (by decide +kernel)
theorem w1468 : Cond.code yX9_weightOf cX9_weightOf 2 (some .int) ∈ lwG := wm 1468 (by decide +kernel) (by decide +kernel)
theorem w1474 : Cond.instanceMethod yX9_stoneIn ∈ lwG := wm 1474 (by decide +kernel) (by decide +kernel)
theorem w1475 : Cond.selects RX9 yX9_stoneIn yX9_stoneIn ∈ lwG := wm 1475 (by decide +kernel) (by decide +kernel)
theorem w1476 : Cond.code yX9_stoneIn cX9_stoneIn 2 (some .int) ∈ lwG := wm 1476 (by decide +kernel) (by decide +kernel)
theorem w1478 : Cond.instanceMethod yX9_officerCount ∈ lwG := wm 1478 (by decide +kernel) (by decide +kernel)
theorem w1479 : Cond.selects RX9 yX9_officerCount yX9_officerCount ∈ lwG := wm 1479 (by decide +kernel) (by decide +kernel)
theorem w1480 : Cond.code yX9_officerCount cX9_officerCount 1 (some .int) ∈ lwG := wm 1480 (by decide +kernel) (by decide +kernel)
theorem w1482 : Cond.instanceMethod yX9_rankOf ∈ lwG := wm 1482 (by decide +kernel) (by decide +kernel)
theorem w1483 : Cond.selects RX9 yX9_rankOf yX9_rankOf ∈ lwG := wm 1483 (by decide +kernel) (by decide +kernel)
theorem w1484 : Cond.code yX9_rankOf cX9_rankOf 2 (some .int) ∈ lwG := wm 1484 (by decide +kernel) (by decide +kernel)
theorem w1494 : Cond.instanceMethod yX9_petitionsOf ∈ lwG := wm 1494 (by decide +kernel) (by decide +kernel)
theorem w1495 : Cond.selects RX9 yX9_petitionsOf yX9_petitionsOf ∈ lwG := wm 1495 (by decide +kernel) (by decide +kernel)
theorem w1496 : Cond.code yX9_petitionsOf cX9_petitionsOf 4 (some .int) ∈ lwG := wm 1496 (by decide +kernel) (by decide +kernel)
theorem w1499 : Cond.instanceMethod yX9_of ∈ lwG := wm 1499 (by decide +kernel) (by decide +kernel)
theorem w37 : Cond.selects RX9 yX9_of yX9_of ∈ lwG := wm 37 (by decide +kernel) (by decide +kernel)
theorem w1500 : Cond.code yX9_of cX9_of 3 (some .int) ∈ lwG := wm 1500 (by decide +kernel) (by decide +kernel)
theorem w1511 : Cond.instanceMethod yX9_lays ∈ lwG := wm 1511 (by decide +kernel) (by decide +kernel)
theorem w39 : Cond.selects RX9 yX9_lays yX9_lays ∈ lwG := wm 39 (by decide +kernel) (by decide +kernel)
theorem w1512 : Cond.code yX9_lays cX9_lays 4 none ∈ lwG := wm 1512 (by decide +kernel) (by decide +kernel)
theorem w1519 : Cond.instanceMethod yX9_placeOf ∈ lwG := wm 1519 (by decide +kernel) (by decide +kernel)
theorem w40 : Cond.selects RX9 yX9_placeOf yX9_placeOf ∈ lwG := wm 40 (by decide +kernel) (by decide +kernel)
theorem w1520 : Cond.code yX9_placeOf cX9_placeOf 3 (some .int) ∈ lwG := wm 1520 (by decide +kernel) (by decide +kernel)
theorem w1550 : Cond.instanceMethod yX9_isNone ∈ lwG := wm 1550 (by decide +kernel) (by decide +kernel)
theorem w44 : Cond.selects RX9 yX9_isNone yX9_isNone ∈ lwG := wm 44 (by decide +kernel) (by decide +kernel)
theorem w1551 : Cond.code yX9_isNone cX9_isNone 2 (some .boolean) ∈ lwG := wm 1551 (by decide +kernel) (by decide +kernel)
theorem w1507 : Cond.instanceMethod yX9_about ∈ lwG := wm 1507 (by decide +kernel) (by decide +kernel)
theorem w38 : Cond.selects RX9 yX9_about yX9_about ∈ lwG := wm 38 (by decide +kernel) (by decide +kernel)
theorem w1508 : Cond.code yX9_about cX9_about 3 (some .int) ∈ lwG := wm 1508 (by decide +kernel) (by decide +kernel)
theorem w1502 : Cond.instanceMethod yX9_file ∈ lwG := wm 1502 (by decide +kernel) (by decide +kernel)
theorem w1503 : Cond.selects RX9 yX9_file yX9_file ∈ lwG := wm 1503 (by decide +kernel) (by decide +kernel)
theorem w1504 : Cond.code yX9_file cX9_file 7 (some .int) ∈ lwG := wm 1504 (by decide +kernel) (by decide +kernel)
theorem w1526 : Cond.static yX9_bits ∈ lwG := wm 1526 (by decide +kernel) (by decide +kernel)
theorem w1527 : Cond.code yX9_bits cX9_bits 3 (some .int) ∈ lwG := wm 1527 (by decide +kernel) (by decide +kernel)
theorem w1523 : Cond.instanceMethod yX9_votes ∈ lwG := wm 1523 (by decide +kernel) (by decide +kernel)
theorem w41 : Cond.selects RX9 yX9_votes yX9_votes ∈ lwG := wm 41 (by decide +kernel) (by decide +kernel)
theorem w1524 : Cond.code yX9_votes cX9_votes 2 (some .int) ∈ lwG := wm 1524 (by decide +kernel) (by decide +kernel)
theorem w1514 : Cond.instanceMethod yX9_vote ∈ lwG := wm 1514 (by decide +kernel) (by decide +kernel)
theorem w1515 : Cond.selects RX9 yX9_vote yX9_vote ∈ lwG := wm 1515 (by decide +kernel) (by decide +kernel)
theorem w1516 : Cond.code yX9_vote cX9_vote 6 (some .int) ∈ lwG := wm 1516 (by decide +kernel) (by decide +kernel)
theorem w1534 : Cond.instanceMethod yX9_isRuling ∈ lwG := wm 1534 (by decide +kernel) (by decide +kernel)
theorem w42 : Cond.selects RX9 yX9_isRuling yX9_isRuling ∈ lwG := wm 42 (by decide +kernel) (by decide +kernel)
theorem w1535 : Cond.code yX9_isRuling cX9_isRuling 2 (some .boolean) ∈ lwG := wm 1535 (by decide +kernel) (by decide +kernel)
theorem w1529 : Cond.instanceMethod yX9_cite ∈ lwG := wm 1529 (by decide +kernel) (by decide +kernel)
theorem w1530 : Cond.selects RX9 yX9_cite yX9_cite ∈ lwG := wm 1530 (by decide +kernel) (by decide +kernel)
theorem w1531 : Cond.code yX9_cite cX9_cite 6 (some .int) ∈ lwG := wm 1531 (by decide +kernel) (by decide +kernel)
theorem w1542 : Cond.instanceMethod yX9_drops ∈ lwG := wm 1542 (by decide +kernel) (by decide +kernel)
theorem w43 : Cond.selects RX9 yX9_drops yX9_drops ∈ lwG := wm 43 (by decide +kernel) (by decide +kernel)
theorem w1543 : Cond.code yX9_drops cX9_drops 3 none ∈ lwG := wm 1543 (by decide +kernel) (by decide +kernel)
theorem w1537 : Cond.instanceMethod yX9_veto ∈ lwG := wm 1537 (by decide +kernel) (by decide +kernel)
theorem w1538 : Cond.selects RX9 yX9_veto yX9_veto ∈ lwG := wm 1538 (by decide +kernel) (by decide +kernel)
theorem w1539 : Cond.code yX9_veto cX9_veto 5 (some .int) ∈ lwG := wm 1539 (by decide +kernel) (by decide +kernel)
theorem w1545 : Cond.instanceMethod yX9_withdraw ∈ lwG := wm 1545 (by decide +kernel) (by decide +kernel)
theorem w1546 : Cond.selects RX9 yX9_withdraw yX9_withdraw ∈ lwG := wm 1546 (by decide +kernel) (by decide +kernel)
theorem w1547 : Cond.code yX9_withdraw cX9_withdraw 2 (some .int) ∈ lwG := wm 1547 (by decide +kernel) (by decide +kernel)
theorem w1553 : Cond.instanceMethod yX9_pendingCount ∈ lwG := wm 1553 (by decide +kernel) (by decide +kernel)
theorem w1554 : Cond.selects RX9 yX9_pendingCount yX9_pendingCount ∈ lwG := wm 1554 (by decide +kernel) (by decide +kernel)
theorem w1555 : Cond.code yX9_pendingCount cX9_pendingCount 1 (some .int) ∈ lwG := wm 1555 (by decide +kernel) (by decide +kernel)
theorem w1570 : Cond.instanceMethod yX9_isAhead ∈ lwG := wm 1570 (by decide +kernel) (by decide +kernel)
theorem w47 : Cond.selects RX9 yX9_isAhead yX9_isAhead ∈ lwG := wm 47 (by decide +kernel) (by decide +kernel)
theorem w1571 : Cond.code yX9_isAhead cX9_isAhead 5 (some .boolean) ∈ lwG := wm 1571 (by decide +kernel) (by decide +kernel)
theorem w1566 : Cond.instanceMethod yX9_ahead ∈ lwG := wm 1566 (by decide +kernel) (by decide +kernel)
theorem w46 : Cond.selects RX9 yX9_ahead yX9_ahead ∈ lwG := wm 46 (by decide +kernel) (by decide +kernel)
theorem w1567 : Cond.code yX9_ahead cX9_ahead 4 (some .int) ∈ lwG := wm 1567 (by decide +kernel) (by decide +kernel)
theorem w1562 : Cond.instanceMethod yX9_queued ∈ lwG := wm 1562 (by decide +kernel) (by decide +kernel)
theorem w45 : Cond.selects RX9 yX9_queued yX9_queued ∈ lwG := wm 45 (by decide +kernel) (by decide +kernel)
theorem w1563 : Cond.code yX9_queued cX9_queued 3 (some .int) ∈ lwG := wm 1563 (by decide +kernel) (by decide +kernel)
theorem w1557 : Cond.instanceMethod yX9_petitionAt ∈ lwG := wm 1557 (by decide +kernel) (by decide +kernel)
theorem w1558 : Cond.selects RX9 yX9_petitionAt yX9_petitionAt ∈ lwG := wm 1558 (by decide +kernel) (by decide +kernel)
theorem w1559 : Cond.code yX9_petitionAt cX9_petitionAt 2 (some .int) ∈ lwG := wm 1559 (by decide +kernel) (by decide +kernel)
theorem w1573 : Cond.instanceMethod yX9_positionOf ∈ lwG := wm 1573 (by decide +kernel) (by decide +kernel)
theorem w1574 : Cond.selects RX9 yX9_positionOf yX9_positionOf ∈ lwG := wm 1574 (by decide +kernel) (by decide +kernel)
theorem w1575 : Cond.code yX9_positionOf cX9_positionOf 2 (some .int) ∈ lwG := wm 1575 (by decide +kernel) (by decide +kernel)
theorem w1577 : Cond.instanceMethod yX9_stoneOf ∈ lwG := wm 1577 (by decide +kernel) (by decide +kernel)
theorem w1578 : Cond.selects RX9 yX9_stoneOf yX9_stoneOf ∈ lwG := wm 1578 (by decide +kernel) (by decide +kernel)
theorem w1579 : Cond.code yX9_stoneOf cX9_stoneOf 2 (some .int) ∈ lwG := wm 1579 (by decide +kernel) (by decide +kernel)
theorem w1581 : Cond.instanceMethod yX9_targetOf ∈ lwG := wm 1581 (by decide +kernel) (by decide +kernel)
theorem w1582 : Cond.selects RX9 yX9_targetOf yX9_targetOf ∈ lwG := wm 1582 (by decide +kernel) (by decide +kernel)
theorem w1583 : Cond.code yX9_targetOf cX9_targetOf 2 (some .int) ∈ lwG := wm 1583 (by decide +kernel) (by decide +kernel)
theorem w1585 : Cond.instanceMethod yX9_votesFor ∈ lwG := wm 1585 (by decide +kernel) (by decide +kernel)
theorem w1586 : Cond.selects RX9 yX9_votesFor yX9_votesFor ∈ lwG := wm 1586 (by decide +kernel) (by decide +kernel)
theorem w1587 : Cond.code yX9_votesFor cX9_votesFor 2 (some .int) ∈ lwG := wm 1587 (by decide +kernel) (by decide +kernel)
theorem w1589 : Cond.instanceMethod yX9_votesAgainst ∈ lwG := wm 1589 (by decide +kernel) (by decide +kernel)
theorem w1590 : Cond.selects RX9 yX9_votesAgainst yX9_votesAgainst ∈ lwG := wm 1590 (by decide +kernel) (by decide +kernel)
theorem w1591 : Cond.code yX9_votesAgainst cX9_votesAgainst 2 (some .int) ∈ lwG := wm 1591 (by decide +kernel) (by decide +kernel)
theorem w1598 : Cond.instanceMethod yX9_wins ∈ lwG := wm 1598 (by decide +kernel) (by decide +kernel)
theorem w48 : Cond.selects RX9 yX9_wins yX9_wins ∈ lwG := wm 48 (by decide +kernel) (by decide +kernel)
theorem w1599 : Cond.code yX9_wins cX9_wins 4 (some .boolean) ∈ lwG := wm 1599 (by decide +kernel) (by decide +kernel)
theorem w1593 : Cond.instanceMethod yX9_wouldBeGranted ∈ lwG := wm 1593 (by decide +kernel) (by decide +kernel)
theorem w1594 : Cond.selects RX9 yX9_wouldBeGranted yX9_wouldBeGranted ∈ lwG := wm 1594 (by decide +kernel) (by decide +kernel)
theorem w1595 : Cond.code yX9_wouldBeGranted cX9_wouldBeGranted 2 (some .boolean) ∈ lwG := wm 1595 (by decide +kernel) (by decide +kernel)
theorem w1602 : Cond.instanceMethod yX9_by ∈ lwG := wm 1602 (by decide +kernel) (by decide +kernel)
theorem w49 : Cond.selects RX9 yX9_by yX9_by ∈ lwG := wm 49 (by decide +kernel) (by decide +kernel)
theorem w1603 : Cond.code yX9_by cX9_by 3 (some .int) ∈ lwG := wm 1603 (by decide +kernel) (by decide +kernel)
theorem w1605 : Cond.instanceMethod yX9_setQuorum ∈ lwG := wm 1605 (by decide +kernel) (by decide +kernel)
theorem w1606 : Cond.selects RX9 yX9_setQuorum yX9_setQuorum ∈ lwG := wm 1606 (by decide +kernel) (by decide +kernel)
theorem w1607 : Cond.code yX9_setQuorum cX9_setQuorum 3 (some .int) ∈ lwG := wm 1607 (by decide +kernel) (by decide +kernel)
theorem w1609 : Cond.instanceMethod yX9_decide ∈ lwG := wm 1609 (by decide +kernel) (by decide +kernel)
theorem w1610 : Cond.selects RX9 yX9_decide yX9_decide ∈ lwG := wm 1610 (by decide +kernel) (by decide +kernel)
theorem w1611 : Cond.code yX9_decide cX9_decide 7 (some .int) ∈ lwG := wm 1611 (by decide +kernel) (by decide +kernel)
theorem w1613 : Cond.instanceMethod yX9_quorum ∈ lwG := wm 1613 (by decide +kernel) (by decide +kernel)
theorem w1614 : Cond.selects RX9 yX9_quorum yX9_quorum ∈ lwG := wm 1614 (by decide +kernel) (by decide +kernel)
theorem w1615 : Cond.code yX9_quorum cX9_quorum 1 (some .int) ∈ lwG := wm 1615 (by decide +kernel) (by decide +kernel)
theorem w1617 : Cond.instanceMethod yX9_rulingCount ∈ lwG := wm 1617 (by decide +kernel) (by decide +kernel)
theorem w1618 : Cond.selects RX9 yX9_rulingCount yX9_rulingCount ∈ lwG := wm 1618 (by decide +kernel) (by decide +kernel)
theorem w1619 : Cond.code yX9_rulingCount cX9_rulingCount 1 (some .int) ∈ lwG := wm 1619 (by decide +kernel) (by decide +kernel)
theorem w1626 : Cond.instanceMethod yX9_isUnruled ∈ lwG := wm 1626 (by decide +kernel) (by decide +kernel)
theorem w50 : Cond.selects RX9 yX9_isUnruled yX9_isUnruled ∈ lwG := wm 50 (by decide +kernel) (by decide +kernel)
theorem w1627 : Cond.code yX9_isUnruled cX9_isUnruled 2 (some .boolean) ∈ lwG := wm 1627 (by decide +kernel) (by decide +kernel)
theorem w1621 : Cond.instanceMethod yX9_isGranted ∈ lwG := wm 1621 (by decide +kernel) (by decide +kernel)
theorem w1622 : Cond.selects RX9 yX9_isGranted yX9_isGranted ∈ lwG := wm 1622 (by decide +kernel) (by decide +kernel)
theorem w1623 : Cond.code yX9_isGranted cX9_isGranted 2 (some .boolean) ∈ lwG := wm 1623 (by decide +kernel) (by decide +kernel)
theorem w1629 : Cond.instanceMethod yX9_isCarriedOut ∈ lwG := wm 1629 (by decide +kernel) (by decide +kernel)
theorem w1630 : Cond.selects RX9 yX9_isCarriedOut yX9_isCarriedOut ∈ lwG := wm 1630 (by decide +kernel) (by decide +kernel)
theorem w1631 : Cond.code yX9_isCarriedOut cX9_isCarriedOut 2 (some .boolean) ∈ lwG := wm 1631 (by decide +kernel) (by decide +kernel)
theorem w1633 : Cond.instanceMethod yX9_citationCount ∈ lwG := wm 1633 (by decide +kernel) (by decide +kernel)
theorem w1634 : Cond.selects RX9 yX9_citationCount yX9_citationCount ∈ lwG := wm 1634 (by decide +kernel) (by decide +kernel)
theorem w1635 : Cond.code yX9_citationCount cX9_citationCount 2 (some .int) ∈ lwG := wm 1635 (by decide +kernel) (by decide +kernel)
theorem w1637 : Cond.instanceMethod yX9_citation ∈ lwG := wm 1637 (by decide +kernel) (by decide +kernel)
theorem w1638 : Cond.selects RX9 yX9_citation yX9_citation ∈ lwG := wm 1638 (by decide +kernel) (by decide +kernel)
theorem w1639 : Cond.code yX9_citation cX9_citation 3 (some .int) ∈ lwG := wm 1639 (by decide +kernel) (by decide +kernel)
theorem w1646 : Cond.instanceMethod yX9_names ∈ lwG := wm 1646 (by decide +kernel) (by decide +kernel)
theorem w51 : Cond.selects RX9 yX9_names yX9_names ∈ lwG := wm 51 (by decide +kernel) (by decide +kernel)
theorem w1647 : Cond.code yX9_names cX9_names 4 (some .boolean) ∈ lwG := wm 1647 (by decide +kernel) (by decide +kernel)
theorem w1641 : Cond.instanceMethod yX9_citedBy ∈ lwG := wm 1641 (by decide +kernel) (by decide +kernel)
theorem w1642 : Cond.selects RX9 yX9_citedBy yX9_citedBy ∈ lwG := wm 1642 (by decide +kernel) (by decide +kernel)
theorem w1643 : Cond.code yX9_citedBy cX9_citedBy 4 (some .int) ∈ lwG := wm 1643 (by decide +kernel) (by decide +kernel)
theorem w1649 : Cond.instanceMethod yX9_depth ∈ lwG := wm 1649 (by decide +kernel) (by decide +kernel)
theorem w1650 : Cond.selects RX9 yX9_depth yX9_depth ∈ lwG := wm 1650 (by decide +kernel) (by decide +kernel)
theorem w1651 : Cond.code yX9_depth cX9_depth 4 (some .int) ∈ lwG := wm 1651 (by decide +kernel) (by decide +kernel)
theorem w1658 : Cond.instanceMethod yX9_based ∈ lwG := wm 1658 (by decide +kernel) (by decide +kernel)
theorem w52 : Cond.selects RX9 yX9_based yX9_based ∈ lwG := wm 52 (by decide +kernel) (by decide +kernel)
theorem w1659 : Cond.code yX9_based cX9_based 5 (some .int) ∈ lwG := wm 1659 (by decide +kernel) (by decide +kernel)
theorem w1666 : Cond.instanceMethod yX9_reaches ∈ lwG := wm 1666 (by decide +kernel) (by decide +kernel)
theorem w53 : Cond.selects RX9 yX9_reaches yX9_reaches ∈ lwG := wm 53 (by decide +kernel) (by decide +kernel)
theorem w1667 : Cond.code yX9_reaches cX9_reaches 4 (some .int) ∈ lwG := wm 1667 (by decide +kernel) (by decide +kernel)
theorem w1653 : Cond.instanceMethod yX9_isBasedOn ∈ lwG := wm 1653 (by decide +kernel) (by decide +kernel)
theorem w1654 : Cond.selects RX9 yX9_isBasedOn yX9_isBasedOn ∈ lwG := wm 1654 (by decide +kernel) (by decide +kernel)
theorem w1655 : Cond.code yX9_isBasedOn cX9_isBasedOn 3 (some .boolean) ∈ lwG := wm 1655 (by decide +kernel) (by decide +kernel)
theorem w1661 : Cond.instanceMethod yX9_influence ∈ lwG := wm 1661 (by decide +kernel) (by decide +kernel)
theorem w1662 : Cond.selects RX9 yX9_influence yX9_influence ∈ lwG := wm 1662 (by decide +kernel) (by decide +kernel)
theorem w1663 : Cond.code yX9_influence cX9_influence 2 (some .int) ∈ lwG := wm 1663 (by decide +kernel) (by decide +kernel)
theorem w1669 : Cond.instanceMethod yX9_influenceByMarking ∈ lwG := wm 1669 (by decide +kernel) (by decide +kernel)
theorem w1670 : Cond.selects RX9 yX9_influenceByMarking yX9_influenceByMarking ∈ lwG := wm 1670 (by decide +kernel) (by decide +kernel)
theorem w1671 : Cond.code yX9_influenceByMarking cX9_influenceByMarking 2 (some .int) ∈ lwG := wm 1671 (by decide +kernel) (by decide +kernel)
theorem w1673 : Cond.instanceMethod yX9_rulingByInfluence ∈ lwG := wm 1673 (by decide +kernel) (by decide +kernel)
theorem w1674 : Cond.selects RX9 yX9_rulingByInfluence yX9_rulingByInfluence ∈ lwG := wm 1674 (by decide +kernel) (by decide +kernel)
theorem w1675 : Cond.code yX9_rulingByInfluence cX9_rulingByInfluence 5 (some .int) ∈ lwG := wm 1675 (by decide +kernel) (by decide +kernel)
theorem w1677 : Cond.instanceMethod yX9_filedCount ∈ lwG := wm 1677 (by decide +kernel) (by decide +kernel)
theorem w1678 : Cond.selects RX9 yX9_filedCount yX9_filedCount ∈ lwG := wm 1678 (by decide +kernel) (by decide +kernel)
theorem w1679 : Cond.code yX9_filedCount cX9_filedCount 1 (some .int) ∈ lwG := wm 1679 (by decide +kernel) (by decide +kernel)
theorem w1681 : Cond.instanceMethod yX9_vetoes ∈ lwG := wm 1681 (by decide +kernel) (by decide +kernel)
theorem w1682 : Cond.selects RX9 yX9_vetoes yX9_vetoes ∈ lwG := wm 1682 (by decide +kernel) (by decide +kernel)
theorem w1683 : Cond.code yX9_vetoes cX9_vetoes 1 (some .int) ∈ lwG := wm 1683 (by decide +kernel) (by decide +kernel)
theorem w1685 : Cond.instanceMethod yX9_withdrawals ∈ lwG := wm 1685 (by decide +kernel) (by decide +kernel)
theorem w1686 : Cond.selects RX9 yX9_withdrawals yX9_withdrawals ∈ lwG := wm 1686 (by decide +kernel) (by decide +kernel)
theorem w1687 : Cond.code yX9_withdrawals cX9_withdrawals 1 (some .int) ∈ lwG := wm 1687 (by decide +kernel) (by decide +kernel)
theorem w1689 : Cond.instanceMethod yX9_movedWeight ∈ lwG := wm 1689 (by decide +kernel) (by decide +kernel)
theorem w1690 : Cond.selects RX9 yX9_movedWeight yX9_movedWeight ∈ lwG := wm 1690 (by decide +kernel) (by decide +kernel)
theorem w1691 : Cond.code yX9_movedWeight cX9_movedWeight 1 (some .int) ∈ lwG := wm 1691 (by decide +kernel) (by decide +kernel)
theorem w1693 : Cond.instanceMethod yX9_meanVotes ∈ lwG := wm 1693 (by decide +kernel) (by decide +kernel)
theorem w1694 : Cond.selects RX9 yX9_meanVotes yX9_meanVotes ∈ lwG := wm 1694 (by decide +kernel) (by decide +kernel)
theorem w1695 : Cond.code yX9_meanVotes cX9_meanVotes 3 (some .double) ∈ lwG := wm 1695 (by decide +kernel) (by decide +kernel)
theorem w1697 : Cond.instanceMethod yX9_grantedShare ∈ lwG := wm 1697 (by decide +kernel) (by decide +kernel)
theorem w1698 : Cond.selects RX9 yX9_grantedShare yX9_grantedShare ∈ lwG := wm 1698 (by decide +kernel) (by decide +kernel)
theorem w1699 : Cond.code yX9_grantedShare cX9_grantedShare 3 (some .float) ∈ lwG := wm 1699 (by decide +kernel) (by decide +kernel)
theorem w1701 : Cond.instanceMethod yX9_feed ∈ lwG := wm 1701 (by decide +kernel) (by decide +kernel)
theorem w1702 : Cond.selects RX9 yX9_feed yX9_feed ∈ lwG := wm 1702 (by decide +kernel) (by decide +kernel)
theorem w1703 : Cond.code yX9_feed cX9_feed 2 (some .int) ∈ lwG := wm 1703 (by decide +kernel) (by decide +kernel)
theorem w1718 : Cond.instanceMethod yX9_here ∈ lwG := wm 1718 (by decide +kernel) (by decide +kernel)
theorem w56 : Cond.selects RX9 yX9_here yX9_here ∈ lwG := wm 56 (by decide +kernel) (by decide +kernel)
theorem w1719 : Cond.code yX9_here cX9_here 1 (some .int) ∈ lwG := wm 1719 (by decide +kernel) (by decide +kernel)
theorem w1729 : Cond.instanceMethod yX9_skips ∈ lwG := wm 1729 (by decide +kernel) (by decide +kernel)
theorem w58 : Cond.selects RX9 yX9_skips yX9_skips ∈ lwG := wm 58 (by decide +kernel) (by decide +kernel)
theorem w1730 : Cond.code yX9_skips cX9_skips 2 (some .boolean) ∈ lwG := wm 1730 (by decide +kernel) (by decide +kernel)
theorem w1723 : Cond.instanceMethod yX9_isWord ∈ lwG := wm 1723 (by decide +kernel) (by decide +kernel)
theorem w57 : Cond.selects RX9 yX9_isWord yX9_isWord ∈ lwG := wm 57 (by decide +kernel) (by decide +kernel)
theorem w1724 : Cond.code yX9_isWord cX9_isWord 3 (some .boolean) ∈ lwG := wm 1724 (by decide +kernel) (by decide +kernel)
theorem w1733 : Cond.instanceMethod yX9_figures ∈ lwG := wm 1733 (by decide +kernel) (by decide +kernel)
theorem w59 : Cond.selects RX9 yX9_figures yX9_figures ∈ lwG := wm 59 (by decide +kernel) (by decide +kernel)
theorem w1734 : Cond.code yX9_figures cX9_figures 4 (some .boolean) ∈ lwG := wm 1734 (by decide +kernel) (by decide +kernel)
theorem w1714 : Cond.instanceMethod yX9_commandHere ∈ lwG := wm 1714 (by decide +kernel) (by decide +kernel)
theorem w55 : Cond.selects RX9 yX9_commandHere yX9_commandHere ∈ lwG := wm 55 (by decide +kernel) (by decide +kernel)
theorem w1715 : Cond.code yX9_commandHere cX9_commandHere 2 (some .boolean) ∈ lwG := wm 1715 (by decide +kernel) (by decide +kernel)
theorem w1710 : Cond.instanceMethod yX9_isText ∈ lwG := wm 1710 (by decide +kernel) (by decide +kernel)
theorem w54 : Cond.selects RX9 yX9_isText yX9_isText ∈ lwG := wm 54 (by decide +kernel) (by decide +kernel)
theorem w1711 : Cond.code yX9_isText cX9_isText 1 (some .boolean) ∈ lwG := wm 1711 (by decide +kernel) (by decide +kernel)
theorem w1746 : Cond.instanceMethod yX9_carries ∈ lwG := wm 1746 (by decide +kernel) (by decide +kernel)
theorem w60 : Cond.selects RX9 yX9_carries yX9_carries ∈ lwG := wm 60 (by decide +kernel) (by decide +kernel)
theorem w1747 : Cond.code yX9_carries cX9_carries 4 (some .int) ∈ lwG := wm 1747 (by decide +kernel) (by decide +kernel)
theorem w1759 : Cond.instanceMethod yX9_deniesText ∈ lwG := wm 1759 (by decide +kernel) (by decide +kernel)
theorem w61 : Cond.selects RX9 yX9_deniesText yX9_deniesText ∈ lwG := wm 61 (by decide +kernel) (by decide +kernel)
theorem w1760 : Cond.code yX9_deniesText cX9_deniesText 4 (some .int) ∈ lwG := wm 1760 (by decide +kernel) (by decide +kernel)
theorem w1705 : Cond.instanceMethod yX9_execute ∈ lwG := wm 1705 (by decide +kernel) (by decide +kernel)
theorem w1706 : Cond.selects RX9 yX9_execute yX9_execute ∈ lwG := wm 1706 (by decide +kernel) (by decide +kernel)
theorem w1707 : Cond.code yX9_execute cX9_execute 4 (some .int) ∈ lwG := wm 1707 (by decide +kernel) (by decide +kernel)
theorem w1762 : Cond.instanceMethod yX9_faultPosition ∈ lwG := wm 1762 (by decide +kernel) (by decide +kernel)
theorem w1763 : Cond.selects RX9 yX9_faultPosition yX9_faultPosition ∈ lwG := wm 1763 (by decide +kernel) (by decide +kernel)
theorem w1764 : Cond.code yX9_faultPosition cX9_faultPosition 1 (some .int) ∈ lwG := wm 1764 (by decide +kernel) (by decide +kernel)
theorem w1775 : Cond.instanceMethod yX9_writes ∈ lwG := wm 1775 (by decide +kernel) (by decide +kernel)
theorem w63 : Cond.selects RX9 yX9_writes yX9_writes ∈ lwG := wm 63 (by decide +kernel) (by decide +kernel)
theorem w1776 : Cond.code yX9_writes cX9_writes 2 none ∈ lwG := wm 1776 (by decide +kernel) (by decide +kernel)
theorem w1779 : Cond.instanceMethod yX9_writesNumber ∈ lwG := wm 1779 (by decide +kernel) (by decide +kernel)
theorem w64 : Cond.selects RX9 yX9_writesNumber yX9_writesNumber ∈ lwG := wm 64 (by decide +kernel) (by decide +kernel)
theorem w1780 : Cond.code yX9_writesNumber cX9_writesNumber 2 none ∈ lwG := wm 1780 (by decide +kernel) (by decide +kernel)
theorem w1771 : Cond.instanceMethod yX9_writesBehind ∈ lwG := wm 1771 (by decide +kernel) (by decide +kernel)
theorem w62 : Cond.selects RX9 yX9_writesBehind yX9_writesBehind ∈ lwG := wm 62 (by decide +kernel) (by decide +kernel)
theorem w1772 : Cond.code yX9_writesBehind cX9_writesBehind 3 none ∈ lwG := wm 1772 (by decide +kernel) (by decide +kernel)
theorem w1766 : Cond.instanceMethod yX9_writePetition ∈ lwG := wm 1766 (by decide +kernel) (by decide +kernel)
theorem w1767 : Cond.selects RX9 yX9_writePetition yX9_writePetition ∈ lwG := wm 1767 (by decide +kernel) (by decide +kernel)
theorem w1768 : Cond.code yX9_writePetition cX9_writePetition 4 (some .int) ∈ lwG := wm 1768 (by decide +kernel) (by decide +kernel)
theorem w1782 : Cond.instanceMethod yX9_writeRow ∈ lwG := wm 1782 (by decide +kernel) (by decide +kernel)
theorem w1783 : Cond.selects RX9 yX9_writeRow yX9_writeRow ∈ lwG := wm 1783 (by decide +kernel) (by decide +kernel)
theorem w1784 : Cond.code yX9_writeRow cX9_writeRow 3 (some .int) ∈ lwG := wm 1784 (by decide +kernel) (by decide +kernel)
theorem w1786 : Cond.instanceMethod yX9_lineCharacter ∈ lwG := wm 1786 (by decide +kernel) (by decide +kernel)
theorem w1787 : Cond.selects RX9 yX9_lineCharacter yX9_lineCharacter ∈ lwG := wm 1787 (by decide +kernel) (by decide +kernel)
theorem w1788 : Cond.code yX9_lineCharacter cX9_lineCharacter 2 (some .char) ∈ lwG := wm 1788 (by decide +kernel) (by decide +kernel)
theorem w1790 : Cond.instanceMethod yX9_denial ∈ lwG := wm 1790 (by decide +kernel) (by decide +kernel)
theorem w1791 : Cond.selects RX9 yX9_denial yX9_denial ∈ lwG := wm 1791 (by decide +kernel) (by decide +kernel)
theorem w1792 : Cond.code yX9_denial cX9_denial 1 (some .int) ∈ lwG := wm 1792 (by decide +kernel) (by decide +kernel)
theorem w1794 : Cond.instanceMethod yX9_denialDetail ∈ lwG := wm 1794 (by decide +kernel) (by decide +kernel)
theorem w1795 : Cond.selects RX9 yX9_denialDetail yX9_denialDetail ∈ lwG := wm 1795 (by decide +kernel) (by decide +kernel)
theorem w1796 : Cond.code yX9_denialDetail cX9_denialDetail 1 (some .int) ∈ lwG := wm 1796 (by decide +kernel) (by decide +kernel)
theorem w1798 : Cond.instanceMethod yX9_denialCause ∈ lwG := wm 1798 (by decide +kernel) (by decide +kernel)
theorem w1799 : Cond.selects RX9 yX9_denialCause yX9_denialCause ∈ lwG := wm 1799 (by decide +kernel) (by decide +kernel)
theorem w1800 : Cond.code yX9_denialCause cX9_denialCause 1 (some .int) ∈ lwG := wm 1800 (by decide +kernel) (by decide +kernel)
theorem w1802 : Cond.instanceMethod yX9_denialCauseDetail ∈ lwG := wm 1802 (by decide +kernel) (by decide +kernel)
theorem w1803 : Cond.selects RX9 yX9_denialCauseDetail yX9_denialCauseDetail ∈ lwG := wm 1803 (by decide +kernel) (by decide +kernel)
theorem w1804 : Cond.code yX9_denialCauseDetail cX9_denialCauseDetail 1 (some .int) ∈ lwG := wm 1804 (by decide +kernel) (by decide +kernel)
theorem w1806 : Cond.instanceMethod yX9_undo ∈ lwG := wm 1806 (by decide +kernel) (by decide +kernel)
theorem w1807 : Cond.selects RX9 yX9_undo yX9_undo ∈ lwG := wm 1807 (by decide +kernel) (by decide +kernel)
theorem w1808 : Cond.code yX9_undo cX9_undo 1 (some .int) ∈ lwG := wm 1808 (by decide +kernel) (by decide +kernel)
theorem w1810 : Cond.instanceMethod yX9_undoCount ∈ lwG := wm 1810 (by decide +kernel) (by decide +kernel)
theorem w1811 : Cond.selects RX9 yX9_undoCount yX9_undoCount ∈ lwG := wm 1811 (by decide +kernel) (by decide +kernel)
theorem w1812 : Cond.code yX9_undoCount cX9_undoCount 1 (some .int) ∈ lwG := wm 1812 (by decide +kernel) (by decide +kernel)
theorem w1814 : Cond.instanceMethod yX9_saveSnapshot ∈ lwG := wm 1814 (by decide +kernel) (by decide +kernel)
theorem w1815 : Cond.selects RX9 yX9_saveSnapshot yX9_saveSnapshot ∈ lwG := wm 1815 (by decide +kernel) (by decide +kernel)
theorem w1816 : Cond.code yX9_saveSnapshot cX9_saveSnapshot 1 (some .int) ∈ lwG := wm 1816 (by decide +kernel) (by decide +kernel)
theorem w1818 : Cond.instanceMethod yX9_restoreSnapshot ∈ lwG := wm 1818 (by decide +kernel) (by decide +kernel)
theorem w1819 : Cond.selects RX9 yX9_restoreSnapshot yX9_restoreSnapshot ∈ lwG := wm 1819 (by decide +kernel) (by decide +kernel)
theorem w1820 : Cond.code yX9_restoreSnapshot cX9_restoreSnapshot 1 (some .int) ∈ lwG := wm 1820 (by decide +kernel) (by decide +kernel)
theorem w460 : Cond.instanceMethod yJx00060_init_a7421 ∈ lwG := wm 460 (by decide +kernel) (by decide +kernel)
theorem w80 : Cond.initialized RJx00060 ∈ lwG := wm 80 (by decide +kernel) (by decide +kernel)
theorem w461 : Cond.code yJx00060_init_a7421 cJx00060_init_a7421 2 none ∈ lwG := wm 461 (by decide +kernel) (by decide +kernel)
theorem w771 : Cond.static yJ6_bitCount_0f7a4 ∈ lwG := wm 771 (by decide +kernel) (by decide +kernel)
theorem w86 : Cond.initialized RJ6 ∈ lwG := wm 86 (by decide +kernel) (by decide +kernel)
theorem w772 : Cond.code yJ6_bitCount_0f7a4 cJ6_bitCount_0f7a4 1 (some .int) ∈ lwG := wm 772 (by decide +kernel) (by decide +kernel)
theorem w1150 : Cond.instanceMethod yJ0_length_8abf5 ∈ lwG := wm 1150 (by decide +kernel) (by decide +kernel)
theorem w1151 : Cond.selects RJ0 yJ0_length_8abf5 yJ0_length_8abf5 ∈ lwG := wm 1151 (by decide +kernel) (by decide +kernel)
theorem w81 : Cond.initialized RJ0 ∈ lwG := wm 81 (by decide +kernel) (by decide +kernel)
theorem w1152 : Cond.code yJ0_length_8abf5 cJ0_length_8abf5 1 (some .int) ∈ lwG := wm 1152 (by decide +kernel) (by decide +kernel)
theorem w1142 : Cond.instanceMethod yJ0_isEmpty_aae02 ∈ lwG := wm 1142 (by decide +kernel) (by decide +kernel)
theorem w1143 : Cond.selects RJ0 yJ0_isEmpty_aae02 yJ0_isEmpty_aae02 ∈ lwG := wm 1143 (by decide +kernel) (by decide +kernel)
theorem w1144 : Cond.code yJ0_isEmpty_aae02 cJ0_isEmpty_aae02 1 (some .boolean) ∈ lwG := wm 1144 (by decide +kernel) (by decide +kernel)
theorem w1160 : Cond.instanceMethod yJ0_charAt_5068e ∈ lwG := wm 1160 (by decide +kernel) (by decide +kernel)
theorem w1161 : Cond.selects RJ0 yJ0_charAt_5068e yJ0_charAt_5068e ∈ lwG := wm 1161 (by decide +kernel) (by decide +kernel)
theorem w1162 : Cond.code yJ0_charAt_5068e cJ0_charAt_5068e 2 (some .char) ∈ lwG := wm 1162 (by decide +kernel) (by decide +kernel)
theorem w1154 : Cond.instanceMethod yJ0_coder_7d493 ∈ lwG := wm 1154 (by decide +kernel) (by decide +kernel)
theorem w1155 : Cond.selects RJ0 yJ0_coder_7d493 yJ0_coder_7d493 ∈ lwG := wm 1155 (by decide +kernel) (by decide +kernel)
theorem w1156 : Cond.code yJ0_coder_7d493 cJ0_coder_7d493 1 (some .byte) ∈ lwG := wm 1156 (by decide +kernel) (by decide +kernel)
theorem w1164 : Cond.instanceMethod yJ0_isLatin1_aae02 ∈ lwG := wm 1164 (by decide +kernel) (by decide +kernel)
theorem w1165 : Cond.selects RJ0 yJ0_isLatin1_aae02 yJ0_isLatin1_aae02 ∈ lwG := wm 1165 (by decide +kernel) (by decide +kernel)
theorem w1166 : Cond.code yJ0_isLatin1_aae02 cJ0_isLatin1_aae02 1 (some .boolean) ∈ lwG := wm 1166 (by decide +kernel) (by decide +kernel)
theorem w1171 : Cond.static yJ0_checkIndex_df160 ∈ lwG := wm 1171 (by decide +kernel) (by decide +kernel)
theorem w1172 : Cond.code yJ0_checkIndex_df160 cJ0_checkIndex_df160 2 none ∈ lwG := wm 1172 (by decide +kernel) (by decide +kernel)
theorem w1168 : Cond.static yJ1_charAt_3b067 ∈ lwG := wm 1168 (by decide +kernel) (by decide +kernel)
theorem w89 : Cond.initialized RJ1 ∈ lwG := wm 89 (by decide +kernel) (by decide +kernel)
theorem w1169 : Cond.code yJ1_charAt_3b067 cJ1_charAt_3b067 2 (some .char) ∈ lwG := wm 1169 (by decide +kernel) (by decide +kernel)
theorem w1189 : Cond.static yJ2_getChar_3b067 ∈ lwG := wm 1189 (by decide +kernel) (by decide +kernel)
theorem w91 : Cond.initialized RJ2 ∈ lwG := wm 91 (by decide +kernel) (by decide +kernel)
theorem w1190 : Cond.code yJ2_getChar_3b067 cJ2_getChar_3b067 2 (some .char) ∈ lwG := wm 1190 (by decide +kernel) (by decide +kernel)
theorem w1185 : Cond.static yJ2_length_9d52b ∈ lwG := wm 1185 (by decide +kernel) (by decide +kernel)
theorem w1186 : Cond.code yJ2_length_9d52b cJ2_length_9d52b 1 (some .int) ∈ lwG := wm 1186 (by decide +kernel) (by decide +kernel)
theorem w1179 : Cond.static yJ2_charAt_3b067 ∈ lwG := wm 1179 (by decide +kernel) (by decide +kernel)
theorem w1180 : Cond.code yJ2_charAt_3b067 cJ2_charAt_3b067 2 (some .char) ∈ lwG := wm 1180 (by decide +kernel) (by decide +kernel)
theorem w1182 : Cond.static yJ2_checkIndex_2214a ∈ lwG := wm 1182 (by decide +kernel) (by decide +kernel)
theorem w1183 : Cond.code yJ2_checkIndex_2214a cJ2_checkIndex_2214a 2 none ∈ lwG := wm 1183 (by decide +kernel) (by decide +kernel)
theorem w1176 : Cond.static yJ3_checkIndex_8e157 ∈ lwG := wm 1176 (by decide +kernel) (by decide +kernel)
theorem w90 : Cond.initialized RJ3 ∈ lwG := wm 90 (by decide +kernel) (by decide +kernel)
theorem w1177 : Cond.code yJ3_checkIndex_8e157 cJ3_checkIndex_8e157 3 (some .int) ∈ lwG := wm 1177 (by decide +kernel) (by decide +kernel)
theorem w443 : Cond.sameMethod "PetitionBoard$Petition" "PetitionBoard$Citing" "copyCited" "(LPetitionBoard$Citing;)V" ∈ lwG := wm 443 (by decide +kernel) (by decide +kernel)
theorem w445 : Cond.selects RX4 ⟨"PetitionBoard$Petition", "copyCited", "(LPetitionBoard$Citing;)V"⟩ yX0_copyCited ∈ lwG := wm 445 (by decide +kernel) (by decide +kernel)
theorem w446 : Cond.instanceMethod yX0_copyCited ∈ lwG := wm 446 (by decide +kernel) (by decide +kernel)
theorem w447 : Cond.code yX0_copyCited cX0_copyCited 2 none ∈ lwG := wm 447 (by decide +kernel) (by decide +kernel)
theorem w453 : Cond.sameMethod "PetitionBoard$Ruling" "PetitionBoard$Citing" "copyCited" "(LPetitionBoard$Citing;)V" ∈ lwG := wm 453 (by decide +kernel) (by decide +kernel)
theorem w454 : Cond.selects RX5 ⟨"PetitionBoard$Ruling", "copyCited", "(LPetitionBoard$Citing;)V"⟩ yX0_copyCited ∈ lwG := wm 454 (by decide +kernel) (by decide +kernel)
theorem w796 : Cond.sameMethod "PetitionBoard$Petition" "PetitionBoard$Citing" "refersTo" "(I)Z" ∈ lwG := wm 796 (by decide +kernel) (by decide +kernel)
theorem w798 : Cond.selects RX4 ⟨"PetitionBoard$Petition", "refersTo", "(I)Z"⟩ yX0_refersTo ∈ lwG := wm 798 (by decide +kernel) (by decide +kernel)
theorem w799 : Cond.instanceMethod yX0_refersTo ∈ lwG := wm 799 (by decide +kernel) (by decide +kernel)
theorem w800 : Cond.code yX0_refersTo cX0_refersTo 3 (some .boolean) ∈ lwG := wm 800 (by decide +kernel) (by decide +kernel)
theorem w803 : Cond.sameMethod "PetitionBoard$Citing" "PetitionBoard$Citing" "citedAt" "(I)I" ∈ lwG := wm 803 (by decide +kernel) (by decide +kernel)
theorem w804 : Cond.selects RX4 yX0_citedAt yX0_citedAt ∈ lwG := wm 804 (by decide +kernel) (by decide +kernel)
theorem w802 : Cond.instanceMethod yX0_citedAt ∈ lwG := wm 802 (by decide +kernel) (by decide +kernel)
theorem w806 : Cond.code yX0_citedAt cX0_citedAt 2 (some .int) ∈ lwG := wm 806 (by decide +kernel) (by decide +kernel)
theorem w805 : Cond.selects RX5 yX0_citedAt yX0_citedAt ∈ lwG := wm 805 (by decide +kernel) (by decide +kernel)
theorem w808 : Cond.sameMethod "PetitionBoard$Petition" "PetitionBoard$Citing" "addCited" "(I)V" ∈ lwG := wm 808 (by decide +kernel) (by decide +kernel)
theorem w810 : Cond.selects RX4 ⟨"PetitionBoard$Petition", "addCited", "(I)V"⟩ yX0_addCited ∈ lwG := wm 810 (by decide +kernel) (by decide +kernel)
theorem w811 : Cond.instanceMethod yX0_addCited ∈ lwG := wm 811 (by decide +kernel) (by decide +kernel)
theorem w812 : Cond.code yX0_addCited cX0_addCited 2 none ∈ lwG := wm 812 (by decide +kernel) (by decide +kernel)
theorem w904 : Cond.sameMethod "PetitionBoard$Petition" "PetitionBoard$Citing" "citedAt" "(I)I" ∈ lwG := wm 904 (by decide +kernel) (by decide +kernel)
theorem w906 : Cond.selects RX4 ⟨"PetitionBoard$Petition", "citedAt", "(I)I"⟩ yX0_citedAt ∈ lwG := wm 906 (by decide +kernel) (by decide +kernel)
theorem w982 : Cond.sameMethod "PetitionBoard$Ruling" "PetitionBoard$Citing" "citedAt" "(I)I" ∈ lwG := wm 982 (by decide +kernel) (by decide +kernel)
theorem w983 : Cond.selects RX5 ⟨"PetitionBoard$Ruling", "citedAt", "(I)I"⟩ yX0_citedAt ∈ lwG := wm 983 (by decide +kernel) (by decide +kernel)
theorem w992 : Cond.sameMethod "PetitionBoard$Ruling" "PetitionBoard$Citing" "refersTo" "(I)Z" ∈ lwG := wm 992 (by decide +kernel) (by decide +kernel)
theorem w993 : Cond.selects RX5 ⟨"PetitionBoard$Ruling", "refersTo", "(I)Z"⟩ yX0_refersTo ∈ lwG := wm 993 (by decide +kernel) (by decide +kernel)
theorem w_objI : Cond.instanceMethod objectInit ∈ lwG := wm 98 (by decide +kernel) (by decide +kernel)
theorem w_objC : Cond.code objectInit ⟨#[0xb1]⟩ 1 none ∈ lwG := wm 99 (by decide +kernel) (by decide +kernel)
theorem w_arr_int : Cond.arrayClass .int ∈ lwG := wm 175 (by decide +kernel) (by decide +kernel)
theorem w_arr_char : Cond.arrayClass .char ∈ lwG := wm 290 (by decide +kernel) (by decide +kernel)
theorem w_arr_long : Cond.arrayClass .long ∈ lwG := wm 1821 (by decide +kernel) (by decide +kernel)
theorem w_arr_double : Cond.arrayClass .double ∈ lwG := wm 1822 (by decide +kernel) (by decide +kernel)
end
section
/-! MEMORY: what the program's own cells hold, by address: kind (0 none; 1 + the place in ac_cls; 20 int[], 21 char[], 22 long[], 23 double[], 30.. rows of references), length, ints, references, longs, doubles, and the heap's size -/
abbrev Mm : Type := (Nat → Nat) × (Nat → Nat) × (Nat → Nat → Int32) × (Nat → Nat → Option Nat) × (Nat → Nat → Int64) × (Nat → Nat → UInt64) × Nat
def kd (M : Mm) : Nat → Nat := M.1
def ln (M : Mm) : Nat → Nat := M.2.1
def mi (M : Mm) : Nat → Nat → Int32 := M.2.2.1
def mr (M : Mm) : Nat → Nat → Option Nat := M.2.2.2.1
def mj (M : Mm) : Nat → Nat → Int64 := M.2.2.2.2.1
def md (M : Mm) : Nat → Nat → UInt64 := M.2.2.2.2.2.1
def nx (M : Mm) : Nat := M.2.2.2.2.2.2
def u2 {α : Type} (f : Nat → Nat → α) (a j : Nat) (v : α) : Nat → Nat → α := va_up f a (va_up (f a) j v)
theorem u2_s {α : Type} (f : Nat → Nat → α) (a j : Nat) (v : α) : u2 f a j v a = va_up (f a) j v := va_up_self _ _ _
theorem u2_n {α : Type} (f : Nat → Nat → α) {a b : Nat} (j : Nat) (v : α) (h : b ≠ a) : u2 f a j v b = f b := va_up_ne _ _ h
def sI (M : Mm) (a j : Nat) (v : Int32) : Mm := (kd M, ln M, u2 (mi M) a j v, mr M, mj M, md M, nx M)
def sR (M : Mm) (a j : Nat) (v : Option Nat) : Mm := (kd M, ln M, mi M, u2 (mr M) a j v, mj M, md M, nx M)
def sJ (M : Mm) (a j : Nat) (v : Int64) : Mm := (kd M, ln M, mi M, mr M, u2 (mj M) a j v, md M, nx M)
def sD (M : Mm) (a j : Nat) (v : UInt64) : Mm := (kd M, ln M, mi M, mr M, mj M, u2 (md M) a j v, nx M)
/-- a new thing at the heap's end: of kind k, length n, all zero -/
def sN (M : Mm) (k n : Nat) : Mm := (va_up (kd M) (nx M) k, va_up (ln M) (nx M) n, va_up (mi M) (nx M) (fun _ => 0), va_up (mr M) (nx M) (fun _ => none), va_up (mj M) (nx M) (fun _ => 0), va_up (md M) (nx M) (fun _ => 0), nx M + 1)
/-- the heap's end alone moves -/
def sX (M : Mm) (n : Nat) : Mm := (kd M, ln M, mi M, mr M, mj M, md M, n)
theorem kd_sI (M : Mm) (a j : Nat) (v : Int32) : kd (sI M a j v) = kd M := rfl
theorem ln_sI (M : Mm) (a j : Nat) (v : Int32) : ln (sI M a j v) = ln M := rfl
theorem mi_sI (M : Mm) (a j : Nat) (v : Int32) : mi (sI M a j v) = u2 (mi M) a j v := rfl
theorem mr_sI (M : Mm) (a j : Nat) (v : Int32) : mr (sI M a j v) = mr M := rfl
theorem mj_sI (M : Mm) (a j : Nat) (v : Int32) : mj (sI M a j v) = mj M := rfl
theorem md_sI (M : Mm) (a j : Nat) (v : Int32) : md (sI M a j v) = md M := rfl
theorem nx_sI (M : Mm) (a j : Nat) (v : Int32) : nx (sI M a j v) = nx M := rfl
theorem kd_sR (M : Mm) (a j : Nat) (v : Option Nat) : kd (sR M a j v) = kd M := rfl
theorem ln_sR (M : Mm) (a j : Nat) (v : Option Nat) : ln (sR M a j v) = ln M := rfl
theorem mi_sR (M : Mm) (a j : Nat) (v : Option Nat) : mi (sR M a j v) = mi M := rfl
theorem mr_sR (M : Mm) (a j : Nat) (v : Option Nat) : mr (sR M a j v) = u2 (mr M) a j v := rfl
theorem mj_sR (M : Mm) (a j : Nat) (v : Option Nat) : mj (sR M a j v) = mj M := rfl
theorem md_sR (M : Mm) (a j : Nat) (v : Option Nat) : md (sR M a j v) = md M := rfl
theorem nx_sR (M : Mm) (a j : Nat) (v : Option Nat) : nx (sR M a j v) = nx M := rfl
theorem kd_sX (M : Mm) (n : Nat) : kd (sX M n) = kd M := rfl
theorem ln_sX (M : Mm) (n : Nat) : ln (sX M n) = ln M := rfl
theorem mi_sX (M : Mm) (n : Nat) : mi (sX M n) = mi M := rfl
theorem mr_sX (M : Mm) (n : Nat) : mr (sX M n) = mr M := rfl
theorem mj_sX (M : Mm) (n : Nat) : mj (sX M n) = mj M := rfl
theorem md_sX (M : Mm) (n : Nat) : md (sX M n) = md M := rfl
theorem nx_sX (M : Mm) (n : Nat) : nx (sX M n) = n := rfl
/-- the classes whose objects the memory holds -/
abbrev ac_cls : List vw_C := [(RX1, TX1, 6), (RX2, TX2, 2), (RX3, TX3, 2), (RX4, TX4, 12), (RX5, TX5, 7), (RX6, TX6, 14), (RX7, TX7, 3), (RX8, TX8, 15), (RX9, TX9, 22)]
def fTy : Nat → Nat → FieldType := fun ci => match ci with
  | 0 => tyX1
  | 1 => tyX2
  | 2 => tyX3
  | 3 => tyX4
  | 4 => tyX5
  | 5 => tyX6
  | 6 => tyX7
  | 7 => tyX8
  | 8 => tyX9
  | _ => fun _ => .int
def nF : Nat → Nat := fun ci => match ci with
  | 0 => 6
  | 1 => 2
  | 2 => 2
  | 3 => 12
  | 4 => 7
  | 5 => 14
  | 6 => 3
  | 7 => 15
  | 8 => 22
  | _ => 0
def refT : FieldType → Bool := fun t => match t with
  | .object _ => true
  | .array _ => true
  | _ => false
theorem ac_ok {ci N : Nat} {C : String} {T : u_T} (h : ac_cls[ci]? = some (C, T, N)) : (∀ k, k < N → parseFieldDescriptor (T k).2.2.1 = some (fTy ci k)) ∧ (∀ a, a < N → ∀ b, b < N → a ≠ b → (T a).2.1 ≠ (T b).2.1) ∧ N = nF ci ∧ ci < 9 := by
  match ci, h with
  | 0, h => cases h; exact ⟨tyX1_ok, nmX1, rfl, by decide⟩
  | 1, h => cases h; exact ⟨tyX2_ok, nmX2, rfl, by decide⟩
  | 2, h => cases h; exact ⟨tyX3_ok, nmX3, rfl, by decide⟩
  | 3, h => cases h; exact ⟨tyX4_ok, nmX4, rfl, by decide⟩
  | 4, h => cases h; exact ⟨tyX5_ok, nmX5, rfl, by decide⟩
  | 5, h => cases h; exact ⟨tyX6_ok, nmX6, rfl, by decide⟩
  | 6, h => cases h; exact ⟨tyX7_ok, nmX7, rfl, by decide⟩
  | 7, h => cases h; exact ⟨tyX8_ok, nmX8, rfl, by decide⟩
  | 8, h => cases h; exact ⟨tyX9_ok, nmX9, rfl, by decide⟩
  | n + 9, h => simp at h
def flds (ci : Nat) (M : Mm) (a : Nat) : List Value := (List.range (nF ci)).map fun j => if refT (fTy ci j) = true then va_rf (mr M a j) else .int (mi M a j)
def ent (cy : Nat → ClassId) (M : Mm) (a : Nat) : va_E :=
  if kd M a = 20 then .inl (cy 0, (ln M a, .inl (mi M a)))
  else if kd M a = 21 then .inl (cy 1, (ln M a, .inl (mi M a)))
  else if kd M a = 22 then .inl (cy 2, (ln M a, .inr (.inl (mj M a))))
  else if kd M a = 23 then .inl (cy 3, (ln M a, .inr (.inr (.inr (.inl (md M a))))))
  else if 30 ≤ kd M a then .inl (cy (kd M a - 26), (ln M a, .inr (.inr (.inr (.inr (mr M a))))))
  else .inr (kd M a - 1, flds (kd M a - 1) M a)
theorem ent_o {cy : Nat → ClassId} {M : Mm} {a ci : Nat} (h : kd M a = ci + 1) (hc : ci < 9) : ent cy M a = .inr (ci, flds ci M a) := by
  unfold ent
  rw [if_neg (by omega), if_neg (by omega), if_neg (by omega), if_neg (by omega), if_neg (by omega), h]
  rfl
theorem ent_i {cy : Nat → ClassId} {M : Mm} {a : Nat} (h : kd M a = 20) : ent cy M a = .inl (cy 0, (ln M a, .inl (mi M a))) := by
  unfold ent
  rw [if_pos h]
theorem ent_c {cy : Nat → ClassId} {M : Mm} {a : Nat} (h : kd M a = 21) : ent cy M a = .inl (cy 1, (ln M a, .inl (mi M a))) := by
  unfold ent
  rw [if_neg (by omega), if_pos h]
theorem ent_j {cy : Nat → ClassId} {M : Mm} {a : Nat} (h : kd M a = 22) : ent cy M a = .inl (cy 2, (ln M a, .inr (.inl (mj M a)))) := by
  unfold ent
  rw [if_neg (by omega), if_neg (by omega), if_pos h]
theorem ent_d {cy : Nat → ClassId} {M : Mm} {a : Nat} (h : kd M a = 23) : ent cy M a = .inl (cy 3, (ln M a, .inr (.inr (.inr (.inl (md M a)))))) := by
  unfold ent
  rw [if_neg (by omega), if_neg (by omega), if_neg (by omega), if_pos h]
theorem ent_q {cy : Nat → ClassId} {M : Mm} {a t : Nat} (h : kd M a = 30 + t) : ent cy M a = .inl (cy (4 + t), (ln M a, .inr (.inr (.inr (.inr (mr M a)))))) := by
  unfold ent
  rw [if_neg (by omega), if_neg (by omega), if_neg (by omega), if_neg (by omega), if_pos (by omega), h, show 30 + t - 26 = 4 + t by omega]
theorem flds_ext {ci : Nat} {M M' : Mm} {a : Nat} (hi : mi M a = mi M' a) (hr : mr M a = mr M' a) : flds ci M a = flds ci M' a := by
  unfold flds
  rw [hi, hr]
theorem ent_ext {cy : Nat → ClassId} {M M' : Mm} {a : Nat} (hk : kd M a = kd M' a) (hl : ln M a = ln M' a) (hi : mi M a = mi M' a) (hr : mr M a = mr M' a) (hj : mj M a = mj M' a) (hd : md M a = md M' a) : ent cy M a = ent cy M' a := by
  unfold ent
  rw [hk, hl, hi, hr, hj, hd, flds_ext hi hr]
theorem flds_len (ci : Nat) (M : Mm) (a : Nat) : (flds ci M a).length = nF ci := by simp [flds]
theorem flds_i {ci j : Nat} {M : Mm} {a : Nat} (hj : j < nF ci) (ht : refT (fTy ci j) = false) : (flds ci M a)[j]? = some (.int (mi M a j)) := by
  simp [flds, hj, ht]
theorem flds_r {ci j : Nat} {M : Mm} {a : Nat} (hj : j < nF ci) (ht : refT (fTy ci j) = true) : (flds ci M a)[j]? = some (va_rf (mr M a j)) := by
  simp [flds, hj, ht]
theorem flds_si {ci j : Nat} {M : Mm} {a : Nat} {v : Int32} (hj : j < nF ci) (ht : refT (fTy ci j) = false) : (flds ci M a).set j (.int v) = flds ci (sI M a j v) a := by
  apply List.ext_getElem?
  intro k
  by_cases hk : k = j
  · subst hk
    rw [List.getElem?_set_self (by rw [flds_len]; exact hj), flds_i hj ht, mi_sI, u2_s, va_up_self]
  · rw [List.getElem?_set_ne (Ne.symm hk)]
    by_cases hn : k < nF ci
    · cases hr : refT (fTy ci k) with
      | false => rw [flds_i hn hr, flds_i hn hr, mi_sI, u2_s, va_up_ne _ _ hk]
      | true => rw [flds_r hn hr, flds_r hn hr, mr_sI]
    · rw [List.getElem?_eq_none (by rw [flds_len]; omega), List.getElem?_eq_none (by rw [flds_len]; omega)]
theorem flds_sr {ci j : Nat} {M : Mm} {a : Nat} {v : Option Nat} (hj : j < nF ci) (ht : refT (fTy ci j) = true) : (flds ci M a).set j (va_rf v) = flds ci (sR M a j v) a := by
  apply List.ext_getElem?
  intro k
  by_cases hk : k = j
  · subst hk
    rw [List.getElem?_set_self (by rw [flds_len]; exact hj), flds_r hj ht, mr_sR, u2_s, va_up_self]
  · rw [List.getElem?_set_ne (Ne.symm hk)]
    by_cases hn : k < nF ci
    · cases hr : refT (fTy ci k) with
      | false => rw [flds_i hn hr, flds_i hn hr, mi_sR]
      | true => rw [flds_r hn hr, flds_r hn hr, mr_sR, u2_s, va_up_ne _ _ hk]
    · rw [List.getElem?_eq_none (by rw [flds_len]; omega), List.getElem?_eq_none (by rw [flds_len]; omega)]
/-- the memory's picture behind a write -/
theorem ent_up {cy : Nat → ClassId} {M M' : Mm} {a : Nat} {e : va_E} (h : ent cy M' a = e) (ho : ∀ b, b ≠ a → kd M b = kd M' b ∧ ln M b = ln M' b ∧ mi M b = mi M' b ∧ mr M b = mr M' b ∧ mj M b = mj M' b ∧ md M b = md M' b) : ∀ b, va_up (ent cy M) a e b = ent cy M' b := by
  intro b
  by_cases hb : b = a
  · subst hb
    rw [va_up_self, h]
  · rw [va_up_ne _ _ hb]
    obtain ⟨h1, h2, h3, h4, h5, h6⟩ := ho b hb
    exact ent_ext h1 h2 h3 h4 h5 h6
theorem up_sI {M : Mm} {a j : Nat} {v : Int32} : ∀ b, b ≠ a → kd M b = kd (sI M a j v) b ∧ ln M b = ln (sI M a j v) b ∧ mi M b = mi (sI M a j v) b ∧ mr M b = mr (sI M a j v) b ∧ mj M b = mj (sI M a j v) b ∧ md M b = md (sI M a j v) b :=
  fun b hb => ⟨rfl, rfl, (u2_n _ _ _ hb).symm, rfl, rfl, rfl⟩
theorem up_sR {M : Mm} {a j : Nat} {v : Option Nat} : ∀ b, b ≠ a → kd M b = kd (sR M a j v) b ∧ ln M b = ln (sR M a j v) b ∧ mi M b = mi (sR M a j v) b ∧ mr M b = mr (sR M a j v) b ∧ mj M b = mj (sR M a j v) b ∧ md M b = md (sR M a j v) b :=
  fun b hb => ⟨rfl, rfl, rfl, (u2_n _ _ _ hb).symm, rfl, rfl⟩
theorem up_sJ {M : Mm} {a j : Nat} {v : Int64} : ∀ b, b ≠ a → kd M b = kd (sJ M a j v) b ∧ ln M b = ln (sJ M a j v) b ∧ mi M b = mi (sJ M a j v) b ∧ mr M b = mr (sJ M a j v) b ∧ mj M b = mj (sJ M a j v) b ∧ md M b = md (sJ M a j v) b :=
  fun b hb => ⟨rfl, rfl, rfl, rfl, (u2_n _ _ _ hb).symm, rfl⟩
theorem up_sD {M : Mm} {a j : Nat} {v : UInt64} : ∀ b, b ≠ a → kd M b = kd (sD M a j v) b ∧ ln M b = ln (sD M a j v) b ∧ mi M b = mi (sD M a j v) b ∧ mr M b = mr (sD M a j v) b ∧ mj M b = mj (sD M a j v) b ∧ md M b = md (sD M a j v) b :=
  fun b hb => ⟨rfl, rfl, rfl, rfl, rfl, (u2_n _ _ _ hb).symm⟩
theorem up_sN {M : Mm} {k n : Nat} : ∀ b, b ≠ nx M → kd M b = kd (sN M k n) b ∧ ln M b = ln (sN M k n) b ∧ mi M b = mi (sN M k n) b ∧ mr M b = mr (sN M k n) b ∧ mj M b = mj (sN M k n) b ∧ md M b = md (sN M k n) b :=
  fun b hb => ⟨(va_up_ne _ _ hb).symm, (va_up_ne _ _ hb).symm, (va_up_ne _ _ hb).symm, (va_up_ne _ _ hb).symm, (va_up_ne _ _ hb).symm, (va_up_ne _ _ hb).symm⟩
/-- the environment: launch, the heap's size at the law's start, class numbers and slots, array classes, the script (cell, length, ints), the texts' addresses -/
abbrev GG : Type := Launch × Nat × va_G × (Nat → ClassId) × (Nat × Nat × (Nat → Int32)) × (Nat → Nat) × (Nat → Nat)
abbrev gl (G : GG) : Launch := G.1
abbrev gb (G : GG) : Nat := G.2.1
abbrev gD (G : GG) : va_G := G.2.2.1
abbrev gy (G : GG) : Nat → ClassId := G.2.2.2.1
abbrev gs (G : GG) : Nat × Nat × (Nat → Int32) := G.2.2.2.2.1
abbrev gk (G : GG) : Nat → Nat := G.2.2.2.2.2.1
abbrev gv (G : GG) : Nat → Nat := G.2.2.2.2.2.2
def gA (G : GG) : Nat → Prop := fun q => gb G ≤ q
abbrev ac_tys (cy : Nat → ClassId) : List (ClassId × FieldType) := [(cy 0, .int), (cy 1, .char), (cy 2, .long), (cy 3, .double), (cy 4, .object RX1), (cy 5, .object RX4), (cy 6, .object RX5), (cy 7, .object RX6)]
end
section
/-! THE WORLD: the memory in a heap, and what else of the heap is known; then the wp over the memory, WW, and its rows -/
/-- the texts that are read: their lengths and bytes -/
def tx_len : List Nat := [9, 9, 8, 12, 7, 6, 8, 8, 10, 6, 0, 5, 7, 6, 4, 3, 2, 4, 4, 8]
def tx_byt : List (List Int32) := [[115, 116, 111, 110, 101, 32, 78, 32, 68], [111, 102, 102, 105, 99, 101, 114, 32, 68], [113, 117, 111, 114, 117, 109, 32, 68], [102, 105, 108, 101, 32, 68, 32, 68, 32, 78, 32, 68], [121, 101, 115, 32, 68, 32, 78], [110, 111, 32, 68, 32, 78], [99, 105, 116, 101, 32, 78, 32, 78], [118, 101, 116, 111, 32, 68, 32, 78], [119, 105, 116, 104, 100, 114, 97, 119, 32, 78], [100, 101, 99, 105, 100, 101], [], [115, 116, 111, 110, 101], [111, 102, 102, 105, 99, 101, 114], [113, 117, 111, 114, 117, 109], [102, 105, 108, 101], [121, 101, 115], [110, 111], [99, 105, 116, 101], [118, 101, 116, 111], [119, 105, 116, 104, 100, 114, 97, 119]]
/-- .. where a class's constant names one: class, place in its pool, text, number -/
def tx_tab : List (String × Nat × String × Nat) := [(RX7, 70, "stone N D", 0), (RX7, 72, "officer D", 1), (RX7, 74, "quorum D", 2), (RX7, 76, "file D D N D", 3), (RX7, 78, "yes D N", 4), (RX7, 80, "no D N", 5), (RX7, 82, "cite N N", 6), (RX7, 84, "veto D N", 7), (RX7, 86, "withdraw N", 8), (RX7, 88, "decide", 9), (RX7, 90, "", 10), (RX9, 188, "stone", 11), (RX9, 197, "officer", 12), (RX9, 199, "quorum", 13), (RX9, 201, "file", 14), (RX9, 203, "yes", 15), (RX9, 205, "no", 16), (RX9, 207, "cite", 17), (RX9, 209, "veto", 18), (RX9, 211, "withdraw", 19), (RX9, 213, "decide", 9)]
/-- the messages of the exceptions -/
def xs_tab : List (Nat × String) := [(105, "no such officer"), (139, "no such position"), (216, "no such rank"), (235, "no petition is pending"), (241, "there are no rulings"), (248, "the text buffer is full"), (267, "the text does not match the grammar"), (279, "a command failed"), (288, "no fault position was kept yet"), (299, "no such row"), (305, "no such index"), (330, "no change can be undone"), (341, "there is no snapshot"), (398, "no such stone, officer or cell"), (400, "a value is out of range"), (402, "no such pending petition or ruling"), (408, "the call is denied"), (436, "no such pending petition"), (438, "no such ruling"), (440, "nothing was denied yet"), (442, "no denial with a cause is the latest"), (75, "no such stone"), (89, "no such cell"), (96, "no stone is in the cell")]
/-- constructors called between nest mates: caller's class, place, constructor -/
def nw_tab : List (String × Nat × MethodName) := [(RX6, 33, yX4_init), (RX4, 1, yX0_init), (RX6, 34, yX5_init), (RX5, 1, yX0_init), (RX8, 28, yX3_init), (RX7, 17, yX1_init)]
/-- the exceptions that the class throws -/
def ex_tab : List String := ["java/lang/IndexOutOfBoundsException", "java/lang/IllegalArgumentException", "java/lang/UnsupportedOperationException", "java/util/NoSuchElementException", "java/lang/ArithmeticException", "java/lang/IllegalStateException"]
def de_tab : List MethodName := [⟨"java/lang/RuntimeException", "<init>", "(Ljava/lang/String;)V"⟩, ⟨"java/lang/Exception", "<init>", "(Ljava/lang/String;)V"⟩, ⟨"java/lang/Throwable", "<init>", "(Ljava/lang/String;)V"⟩]
/-- what of the tables doesn't travel by itself -/
def St (G : GG) (U : State) : Prop := (gl G).stackTraces = false ∧ (∀ q ∈ tx_tab, vk_R q.1 q.2.1 q.2.2.1 (gk G q.2.2.2) U) ∧ (∀ q ∈ xs_tab, ∃ a, vk_R RX8 q.1 q.2 a U) ∧ va_AO RX1 U ∧ va_AO RX4 U ∧ va_AO RX5 U ∧ va_AO RX6 U ∧ (∀ q ∈ nw_tab, va_Nw (.methodLinkNest q.1 q.2.1 q.2.2 "PetitionBoard") U) ∧ (∀ q ∈ ex_tab, va_Nw (.castable q q) U) ∧ (∀ q ∈ ex_tab, ∀ r ∈ ex_tab, q ≠ r → va_Nc q r U) ∧ ∀ q ∈ de_tab, va_Nw (.declares q) U
theorem St.warm {G : GG} {s U : State} (hW : s.WarmedH U.vm) (h : St G s) : St G U := by
  obtain ⟨h1, h2, h3, h4, h5, h6, h7, h8, h9, h10, h11⟩ := h
  refine ⟨h1, fun q hq => (h2 q hq).warm hW, fun q hq => ?_, h4.moved hW.alike, h5.moved hW.alike, h6.moved hW.alike, h7.moved hW.alike, fun q hq => (h8 q hq).warmM hW, fun q hq => (h9 q hq).warmC hW, fun q hq r hr hn => (h10 q hq r hr hn).moved hW.alike, fun q hq => (h11 q hq).warmD hW⟩
  obtain ⟨a, ha⟩ := h3 q hq
  exact ⟨a, ha.warm hW⟩
/-- what of the heap below the law's start is known -/
def Ext (G : GG) (U : State) (H : Heap) : Prop := gb G ≤ H.size ∧ (gs G).1 < gb G ∧ va_X (gs G).1 (gs G).2.1 (gs G).2.2 U H ∧ vx_Zq Bundle.tN "UNASSIGNED_STACK" Bundle.steD (gA G) U H ∧ vx_Zq Bundle.tN "SUPPRESSED_SENTINEL" Bundle.listD (gA G) U H ∧ vk_S 20 tx_len tx_byt (gk G) (gv G) (gA G) U H ∧ va_Z "java/lang/String" "COMPACT_STRINGS" "Z" (.int 1) (gA G) U H ∧ va_Zq "jdk/internal/util/Preconditions" "SIOOBE_FORMATTER" "Ljava/util/function/BiFunction;" (gA G) U H
theorem Ext.moved {G : GG} {u U : State} {H : Heap} (hvm : u.vm.Alike U.vm) (h : Ext G u H) : Ext G U H := by
  obtain ⟨h0, h1, h2, h3, h4, h5, h6, h7⟩ := h
  exact ⟨h0, h1, h2.moved hvm, h3.moved hvm, h4.moved hvm, h5.moved hvm, va_Z.moved hvm h6, va_Zq.moved hvm h7⟩
theorem Ext.kept {G : GG} {U : State} {H H1 : Heap} (h : Ext G U H) (hz : H.size ≤ H1.size) (hq : ∀ a : Nat, a < H.size → ¬ gA G a → H1[a]? = H[a]?) : Ext G U H1 := by
  obtain ⟨h0, h1, h2, h3, h4, h5, h6, h7⟩ := h
  exact ⟨Nat.le_trans h0 hz, h1, h2.kept (hq _ (Nat.lt_of_lt_of_le h1 h0) (Nat.not_le.mpr h1)), h3.kept hq, h4.kept hq, h5.kept hq, va_Z.kept h6 hq, va_Zq.kept h7 hq⟩
/-- the memory in the heap -/
def Pm (G : GG) (M : Mm) (H : Heap) : Prop := H.size = nx M ∧ ∃ L : List Nat, (∀ a, kd M a ≠ 0 → a ∈ L) ∧ va_P (gD G) ac_cls (va_pl L (ent (gy G) M)) H ∧ va_D (gA G) (va_pl L (ent (gy G) M))
abbrev Kw (G : GG) (U : State) : Prop := va_K (gD G) ac_cls (ac_tys (gy G)) U
def Wd (G : GG) (M : Mm) (U : State) (H : Heap) : Prop := Pm G M H ∧ Kw G U ∧ Ext G U H
theorem Wd.moved {G : GG} {M : Mm} {u U : State} {H : Heap} (hvm : u.vm.Alike U.vm) (h : Wd G M u H) : Wd G M U H := ⟨h.1, va_K.moved hvm h.2.1, h.2.2.moved hvm⟩
theorem Pm.lt {G : GG} {M : Mm} {H : Heap} (h : Pm G M H) {a : Nat} (ha : kd M a ≠ 0) : a < nx M := by
  obtain ⟨hz, L, hL, hP, hD⟩ := h
  rw [← hz]
  exact va_pl_lt (X := []) hP (hL a ha)
theorem Pm.ge {G : GG} {M : Mm} {H : Heap} (h : Pm G M H) {a : Nat} (ha : kd M a ≠ 0) : gb G ≤ a := by
  obtain ⟨hz, L, hL, hP, hD⟩ := h
  obtain ⟨k, hk⟩ := va_pl_get (X := []) (f := ent (gy G) M) (hL a ha)
  exact hD.2 k _ hk
/-- a method: name, bytes, locals, what it returns, its room, its handlers -/
abbrev MI : Type := MethodName × ByteArray × Nat × Option FieldType × Room × List (Nat × Nat × Nat × Nat)
abbrev mY (I : MI) : MethodName := I.1
abbrev mB (I : MI) : ByteArray := I.2.1
abbrev mL (I : MI) : Nat := I.2.2.1
abbrev mT (I : MI) : Option FieldType := I.2.2.2.1
abbrev mR (I : MI) : Room := I.2.2.2.2.1
abbrev mH (I : MI) : List (Nat × Nat × Nat × Nat) := I.2.2.2.2.2
/-- the room of depth d, k cells and n slots -/
abbrev rmd (d k n : Nat) : Room := { frames := d + 20, cells := k, slots := n, locals := 40 * d + 200 }
/-- the locals, by their places; a returnAddress stands for 'not known' -/
def lz : Nat → List Value → List (Nat × Value)
  | _, [] => []
  | i, .retAddr _ :: vs => lz (i + 1) vs
  | i, v :: vs => (i, v) :: lz (i + 1) vs
abbrev lj : Value := .retAddr 0
theorem lz_inv : ∀ (vs : List Value) (j : Nat) (q : Nat × Value), q ∈ lz j vs → ∃ i, q.1 = j + i ∧ vs[i]? = some q.2 ∧ ∀ x, q.2 ≠ .retAddr x
  | [], j, q, h => by cases h
  | v :: vs, j, q, h => by
    by_cases hv : ∃ x, v = .retAddr x
    · obtain ⟨x, rfl⟩ := hv
      obtain ⟨i, h1, h2, h3⟩ := lz_inv vs (j + 1) q h
      exact ⟨i + 1, by omega, by simpa using h2, h3⟩
    · have hz : lz j (v :: vs) = (j, v) :: lz (j + 1) vs := by
        cases v <;> first | rfl | exact absurd ⟨_, rfl⟩ hv
      rw [hz] at h
      rcases List.mem_cons.mp h with rfl | h
      · exact ⟨0, rfl, rfl, fun x hx => hv ⟨x, hx⟩⟩
      · obtain ⟨i, h1, h2, h3⟩ := lz_inv vs (j + 1) q h
        exact ⟨i + 1, by omega, by simpa using h2, h3⟩
theorem lz_mem : ∀ (vs : List Value) (j i : Nat) (v : Value), vs[i]? = some v → (∀ x, v ≠ .retAddr x) → (j + i, v) ∈ lz j vs
  | [], j, i, v, h, _ => by simp at h
  | w :: vs, j, i, v, h, hv => by
    cases i with
    | zero =>
      simp at h
      subst h
      have hz : lz j (w :: vs) = (j, w) :: lz (j + 1) vs := by
        cases w <;> first | rfl | exact absurd rfl (hv _)
      rw [hz]
      exact List.mem_cons_self
    | succ i =>
      have h2 : vs[i]? = some v := by simpa using h
      have h3 := lz_mem vs (j + 1) i v h2 hv
      rw [show j + 1 + i = j + (i + 1) by omega] at h3
      by_cases hw : ∃ x, w = .retAddr x
      · obtain ⟨x, rfl⟩ := hw
        exact h3
      · have hz : lz j (w :: vs) = (j, w) :: lz (j + 1) vs := by
          cases w <;> first | rfl | exact absurd ⟨_, rfl⟩ hw
        rw [hz]
        exact List.mem_cons_of_mem _ h3
theorem lz_at {ls : Array Slot} {n : Nat} {L : List Value} (h : lv_has ls n (lz 0 L)) {i : Nat} {v : Value} (hi : L[i]? = some v) (hv : ∀ x, v ≠ .retAddr x) : ls[i]? = some (.val v) := by
  have h1 := lz_mem L 0 i v hi hv
  rw [Nat.zero_add] at h1
  exact h.2.2 _ h1
/-- nothing of two slots ends at place i -/
def okc (L : List Value) : Nat → Bool
  | 0 => true
  | j + 1 => match L[j]? with
    | some w => w.category == 1
    | none => true
theorem lz_st {ls : Array Slot} {n i : Nat} {L : List Value} {v : Value} (hk : okc L i = true) (h : lv_has ls n ((i, v) :: (lz 0 L).filter (fun q => !(q.1 == i) && !(q.1 + 1 == i && q.2.category == 2)))) : lv_has ls n (lz 0 (L.set i v)) := by
  refine ⟨h.1, h.2.1, fun q hq => ?_⟩
  obtain ⟨j, h1, h2, h3⟩ := lz_inv _ _ _ hq
  rw [Nat.zero_add] at h1
  subst h1
  obtain ⟨j, w⟩ := q
  dsimp only at h2 h3 ⊢
  by_cases hj : j = i
  · subst hj
    have hl : j < L.length := by
      have := (List.getElem?_eq_some_iff.mp h2).1
      simpa using this
    rw [List.getElem?_set_self hl] at h2
    cases h2
    exact h.2.2 _ List.mem_cons_self
  · rw [List.getElem?_set_ne (Ne.symm hj)] at h2
    have h4 := lz_mem L 0 j w h2 h3
    rw [Nat.zero_add] at h4
    refine h.2.2 (j, w) (List.mem_cons_of_mem _ (List.mem_filter.mpr ⟨h4, ?_⟩))
    have h5 : (j == i) = false := by simp [hj]
    by_cases h6 : j + 1 = i
    · subst h6
      have hk : (match L[j]? with
        | some w => w.category == 1
        | none => true) = true := hk
      rw [h2] at hk
      have h7 : w.category = 1 := by simpa using hk
      simp [h7]
    · simp [hj, h6]
theorem lz_args : ∀ (vs : List Value) (j n : Nat) (q : Nat × Value), (∀ v ∈ vs, v.category = 1) → q ∈ lz j (vs ++ List.replicate n lj) → q ∈ lv_args j vs
  | [], j, n, q, _, h => by
    obtain ⟨i, h1, h2, h3⟩ := lz_inv _ _ _ h
    rw [List.nil_append, List.getElem?_replicate] at h2
    split at h2
    · exact absurd (Option.some.inj h2).symm (h3 0)
    · cases h2
  | v :: vs, j, n, q, hv, h => by
    have hc := hv v List.mem_cons_self
    have hz : lv_args j (v :: vs) = (j, v) :: lv_args (j + 1) vs := by
      show (j, v) :: lv_args (if v.category = 2 then j + 2 else j + 1) vs = _
      rw [if_neg (by omega)]
    rw [hz]
    by_cases hw : ∃ x, v = .retAddr x
    · obtain ⟨x, rfl⟩ := hw
      exact List.mem_cons_of_mem _ (lz_args vs (j + 1) n q (fun w hw => hv w (List.mem_cons_of_mem _ hw)) h)
    · have hz : lz j (v :: vs ++ List.replicate n lj) = (j, v) :: lz (j + 1) (vs ++ List.replicate n lj) := by
        cases v <;> first | rfl | exact absurd ⟨_, rfl⟩ hw
      rw [hz] at h
      rcases List.mem_cons.mp h with rfl | h
      · exact List.mem_cons_self
      · exact List.mem_cons_of_mem _ (lz_args vs (j + 1) n q (fun w hw => hv w (List.mem_cons_of_mem _ hw)) h)
/-- what a method owes at its end: with a value, or with an exception of this class -/
abbrev QQ : Type := (Option Value → Mm → Prop) × (String → Mm → Prop)
def qN (G : GG) (Q : QQ) : Array Value → State → Outcome → State → Prop := fun _ st o t => (∃ (v : Option Value) (M : Mm), o = .returned v ∧ Q.1 v M ∧ Wd G M t t.heap) ∧ va_F (gA G) st t
def qX (G : GG) (Q : QQ) : String → State → State → Prop := fun E st t => (∃ M : Mm, Q.2 E M ∧ Wd G M t t.heap) ∧ va_F (gA G) st t
/-- what stays through a method's walk -/
def Cx (G : GG) (I : MI) (p : Program) (s : State) (m : MethodId) (args : Array Value) (meth : Method) (c : Code) : Prop :=
  p.tables.exec = Jvm.exec ∧ c.code = mB I ∧ meth.sig.returnType = mT I ∧ c.maxLocals = mL I ∧ (∀ w ∈ lwG, w.before args s = true) ∧ s.vm.findClass (mY I).cls = some m.cls ∧ meth.locks = false ∧ meth.name = (mY I).name ∧ c.exceptionTable.toList = tableOf (mH I) ∧ St G s ∧ Ext G s s.heap
def WW (G : GG) (I : MI) (Q : QQ) (pc : Nat) (L : List Value) (st : List Value) (M : Mm) (k n : Nat) : Prop :=
  ∀ (p : Program) (e : Env) (s : State) (m : MethodId) (args : Array Value) (below : List Frame) (meth : Method) (c : Code) (H : Heap) (locs : List Loc) (ls : Array Slot), Cx G I p s m args meth c → Wd G M s H → va_S (gA G) s.heap H locs → lv_has ls (mL I) (lz 0 L) → W p (gl G) e (mR I) s m args below meth c H locs k n (vx_MQ below (qN G Q) (qX G Q) args s (mR I).cells (mR I).slots (gA G)) (F0 m pc ls st)
/-- the words of a method -/
def wsI (I : MI) : List Cond := (if (mH I).isEmpty = true then Cond.code (mY I) (mB I) (mL I) (mT I) else Cond.codeWith (mY I) (mB I) (mL I) (mT I) (mH I)) :: lwG
/-- THE CONTRACT of a method, at these arguments and this memory -/
def KK (G : GG) (I : MI) (as : List Value) (M : Mm) (Q : QQ) : Prop :=
  vx_Met (gl G) (mY I) (wsI I) (mR I) (va_Pc as (fun U => Wd G M U U.heap ∧ St G U)) (qN G Q) (qX G Q) (mR I).cells (mR I).slots (gA G)
theorem blindPc {G : GG} {as : List Value} {M : Mm} : FrameBlind (va_Pc as (fun U => Wd G M U U.heap ∧ St G U)) := by
  intro a U g mk h
  obtain ⟨h1, h2, h3⟩ := h
  exact ⟨h1, Wd.moved (u := U) (U := U.calling g mk a) (Vm.Alike.refl U.vm) h2, St.warm (s := U) (U := U.calling g mk a) (State.WarmedH.refl U) h3⟩
theorem sl_len : ∀ (as : List Value), (∀ v ∈ as, v.category = 1) → (lg_sl as).length = as.length
  | [], _ => rfl
  | v :: vs, hc => by
    have h1 := hc v List.mem_cons_self
    have h2 := sl_len vs (fun w hw => hc w (List.mem_cons_of_mem _ hw))
    show ((if v.category = 2 then [Slot.val v, Slot.second] else [Slot.val v]) ++ lg_sl vs).length = _
    rw [if_neg (by omega)]
    simp [h2]
theorem KK.ofW {G : GG} {I : MI} {as : List Value} {M : Mm} {Q : QQ} (hy : plainName (mY I).cls = true) (hc : ∀ v ∈ as, v.category = 1) (hn : as.length ≤ mL I) (hh : (mH I).isEmpty = true) (h : WW G I Q 0 (as ++ List.replicate (mL I - as.length) lj) [] M 0 0) : KK G I as M Q := by
  unfold KK
  refine vx_ofW (cc := mB I) (maxL := mL I) (ret := mT I) hy (ws' := lwG) (by unfold wsI; rw [if_pos hh]) ?_
  intro p e s m args below meth c s₁ B hml ht hv
  obtain ⟨rfl, hW, hS⟩ := hv
  have hts := atoms_spec (ws := wsI I) B.pre
  have hsl := sl_len as hc
  have hl := lv_entry as (n := mL I) (by rw [hsl]; exact hn)
  rw [lg_entry_eq]
  have htb : c.exceptionTable.toList = tableOf (mH I) := by
    rw [List.isEmpty_iff.mp hh]
    exact List.eq_nil_iff_forall_not_mem.mpr fun x hx => ht x hx
  exact h p e s m _ below meth c s.heap [] _ ⟨B.exec, B.bytes, B.returns, hml, fun w hw => hts w (List.mem_cons_of_mem _ hw), findClass_of_methodNamed B.named, B.notSynchronized, (name_of_methodNamed B.named B.method).1, htb, hS, hW.2.2⟩ hW va_S.rf ⟨hl.1, hl.2.1, fun q hq => hl.2.2 q (lz_args as 0 _ q hc hq)⟩
theorem KK.ofWH {G : GG} {I : MI} {as : List Value} {M : Mm} {Q : QQ} (hy : plainName (mY I).cls = true) (hc : ∀ v ∈ as, v.category = 1) (hn : as.length ≤ mL I) (hh : (mH I).isEmpty = false) (h : WW G I Q 0 (as ++ List.replicate (mL I - as.length) lj) [] M 0 0) : KK G I as M Q := by
  unfold KK
  refine vx_ofWH (cc := mB I) (maxL := mL I) (ret := mT I) (hh := mH I) hy (ws' := lwG) (by unfold wsI; rw [if_neg (by rw [hh]; decide)]) ?_
  intro p e s m args below meth c s₁ B hml hv
  obtain ⟨rfl, hW, hS⟩ := hv
  have hts := atoms_spec (ws := wsI I) B.pre
  have hsl := sl_len as hc
  have hl := lv_entry as (n := mL I) (by rw [hsl]; exact hn)
  rw [lg_entry_eq]
  have h9 : (Cond.codeWith (mY I) (mB I) (mL I) (mT I) (mH I)).before as.toArray s = true := hts _ (by unfold wsI; rw [if_neg (by rw [hh]; decide)]; exact List.mem_cons_self)
  exact h p e s m _ below meth c s.heap [] _ ⟨B.exec, B.bytes, B.returns, hml, fun w hw => hts w (List.mem_cons_of_mem _ hw), findClass_of_methodNamed B.named, B.notSynchronized, (name_of_methodNamed B.named B.method).1, vx_table (x := mY I) B h9, hS, hW.2.2⟩ hW va_S.rf ⟨hl.1, hl.2.1, fun q hq => hl.2.2 q (lz_args as 0 _ q hc hq)⟩
theorem KK.mono {G : GG} {I : MI} {as : List Value} {M : Mm} {Q Q' : QQ} (h : KK G I as M Q) (h1 : ∀ v M', Q.1 v M' → Q'.1 v M') (h2 : ∀ E M', Q.2 E M' → Q'.2 E M') : KK G I as M Q' := by
  unfold KK at h ⊢
  unfold vx_Met at h ⊢
  refine Jvm.Free.MetFree.mono h (fun _ _ h => h) (fun _ _ _ _ _ h => h) (fun a s o t _ hq => ?_)
  rcases hq with ⟨⟨⟨v, M', e1, e2, e3⟩, hF⟩, hE⟩ | ⟨q, e1, E, ce, L, ⟨⟨M', e2, e3⟩, hF⟩, r⟩
  · exact Or.inl ⟨⟨⟨v, M', e1, h1 _ _ e2, e3⟩, hF⟩, hE⟩
  · exact Or.inr ⟨q, e1, E, ce, L, ⟨⟨M', h2 _ _ e2, e3⟩, hF⟩, r⟩
/-- a contract that throws nothing, in the kit's plain form -/
theorem KK.met {G : GG} {I : MI} {as : List Value} {M : Mm} {Q : QQ} (h : KK G I as M Q) (hx : ∀ E M', ¬ Q.2 E M') : Met (gl G) (mY I) (wsI I) (mR I) (va_Pc as (fun U => Wd G M U U.heap ∧ St G U)) (qN G Q) (mR I).cells (mR I).slots (gA G) := by
  unfold KK at h
  unfold vx_Met at h
  unfold Met
  refine Jvm.Free.MetFree.mono h (fun _ _ h => h) (fun _ _ _ _ _ h => h) (fun a s o t _ hq => ?_)
  rcases hq with h | ⟨q, e1, E, ce, L, ⟨⟨M', e2, e3⟩, hF⟩, r⟩
  · exact h
  · exact absurd e2 (hx _ _)
end
section
/-! ROWS OF WW, an instruction each -/
section ROWS
variable {G : GG} {I : MI} {Q : QQ} {pc : Nat} {L st : List Value} {M : Mm} {k n : Nat}
theorem r_iconst {i : Int} {v : Int32} (hd : decode (mB I) pc = .ok (.iconst i, 1)) (hv : Int32.ofInt i = v) (h : WW G I Q (pc + 1) L (.int v :: st) M k n) : WW G I Q pc L (st) M k n := by
  intro p e s m args below meth c H locs ls C Y S V
  exact lv_iconst C.1 C.2.1 hd hv (h p e s m args below meth c H locs ls C Y S V)
theorem r_bipush {i : Int} {v : Int32} (hd : decode (mB I) pc = .ok (.bipush i, 2)) (hv : (Int8.ofInt i).toInt32 = v) (h : WW G I Q (pc + 2) L (.int v :: st) M k n) : WW G I Q pc L (st) M k n := by
  intro p e s m args below meth c H locs ls C Y S V
  exact lv_bipush C.1 C.2.1 hd hv (h p e s m args below meth c H locs ls C Y S V)
theorem r_sipush {i : Int} {v : Int32} (hd : decode (mB I) pc = .ok (.sipush i, 3)) (hv : (Int16.ofInt i).toInt32 = v) (h : WW G I Q (pc + 3) L (.int v :: st) M k n) : WW G I Q pc L (st) M k n := by
  intro p e s m args below meth c H locs ls C Y S V
  exact lv_sipush C.1 C.2.1 hd hv (h p e s m args below meth c H locs ls C Y S V)
theorem r_lconst {i : Fin 2} {v : Int64} (hd : decode (mB I) pc = .ok (.lconst i, 1)) (hv : Int64.ofNat (i : Nat) = v) (h : WW G I Q (pc + 1) L (.long v :: st) M k n) : WW G I Q pc L (st) M k n := by
  intro p e s m args below meth c H locs ls C Y S V
  exact lv_lconst C.1 C.2.1 hd hv (h p e s m args below meth c H locs ls C Y S V)
theorem r_null (hd : decode (mB I) pc = .ok (.aconst_null, 1)) (h : WW G I Q (pc + 1) L (.null :: st) M k n) : WW G I Q pc L (st) M k n := by
  intro p e s m args below meth c H locs ls C Y S V
  exact lv_null C.1 C.2.1 hd  (h p e s m args below meth c H locs ls C Y S V)
theorem r_dconst0 (hd : decode (mB I) pc = .ok (.dconst 0, 1)) (h : WW G I Q (pc + 1) L (.double FP.dconst0 :: st) M k n) : WW G I Q pc L (st) M k n := by
  intro p e s m args below meth c H locs ls C Y S V
  exact lv_dconst0 C.1 C.2.1 hd  (h p e s m args below meth c H locs ls C Y S V)
theorem r_fconst0 (hd : decode (mB I) pc = .ok (.fconst 0, 1)) (h : WW G I Q (pc + 1) L (.float FP.fconst0 :: st) M k n) : WW G I Q pc L (st) M k n := by
  intro p e s m args below meth c H locs ls C Y S V
  exact lv_fconst0 C.1 C.2.1 hd  (h p e s m args below meth c H locs ls C Y S V)
theorem r_iload_n {i : Fin 4} {x : Int32} (hd : decode (mB I) pc = .ok (.iload_n i, 1)) (hl : L[(i : Nat)]? = some (.int x)) (h : WW G I Q (pc + 1) L (.int x :: st) M k n) : WW G I Q pc L (st) M k n := by
  intro p e s m args below meth c H locs ls C Y S V
  exact lv_iload_n C.1 C.2.1 hd rfl (lz_at V hl (fun _ h => by cases h)) (h p e s m args below meth c H locs ls C Y S V)
theorem r_iload {i : Nat} {x : Int32} (hd : decode (mB I) pc = .ok (.iload i, 2)) (hl : L[i]? = some (.int x)) (h : WW G I Q (pc + 2) L (.int x :: st) M k n) : WW G I Q pc L (st) M k n := by
  intro p e s m args below meth c H locs ls C Y S V
  exact lv_iload C.1 C.2.1 hd (lz_at V hl (fun _ h => by cases h)) (h p e s m args below meth c H locs ls C Y S V)
theorem r_aload_n {i : Fin 4} {x : Nat} (hd : decode (mB I) pc = .ok (.aload_n i, 1)) (hl : L[(i : Nat)]? = some (.ref x)) (h : WW G I Q (pc + 1) L (.ref x :: st) M k n) : WW G I Q pc L (st) M k n := by
  intro p e s m args below meth c H locs ls C Y S V
  exact lv_aload_n C.1 C.2.1 hd rfl (lz_at V hl (fun _ h => by cases h)) (h p e s m args below meth c H locs ls C Y S V)
theorem r_aload {i : Nat} {x : Nat} (hd : decode (mB I) pc = .ok (.aload i, 2)) (hl : L[i]? = some (.ref x)) (h : WW G I Q (pc + 2) L (.ref x :: st) M k n) : WW G I Q pc L (st) M k n := by
  intro p e s m args below meth c H locs ls C Y S V
  exact lv_aload C.1 C.2.1 hd (lz_at V hl (fun _ h => by cases h)) (h p e s m args below meth c H locs ls C Y S V)
theorem r_dload_n {i : Fin 4} {x : UInt64} (hd : decode (mB I) pc = .ok (.dload_n i, 1)) (hl : L[(i : Nat)]? = some (.double x)) (h : WW G I Q (pc + 1) L (.double x :: st) M k n) : WW G I Q pc L (st) M k n := by
  intro p e s m args below meth c H locs ls C Y S V
  exact lv_dload_n C.1 C.2.1 hd rfl (lz_at V hl (fun _ h => by cases h)) (h p e s m args below meth c H locs ls C Y S V)
theorem r_dload {i : Nat} {x : UInt64} (hd : decode (mB I) pc = .ok (.dload i, 2)) (hl : L[i]? = some (.double x)) (h : WW G I Q (pc + 2) L (.double x :: st) M k n) : WW G I Q pc L (st) M k n := by
  intro p e s m args below meth c H locs ls C Y S V
  exact lv_dload C.1 C.2.1 hd (lz_at V hl (fun _ h => by cases h)) (h p e s m args below meth c H locs ls C Y S V)
theorem r_fload_n {i : Fin 4} {x : UInt32} (hd : decode (mB I) pc = .ok (.fload_n i, 1)) (hl : L[(i : Nat)]? = some (.float x)) (h : WW G I Q (pc + 1) L (.float x :: st) M k n) : WW G I Q pc L (st) M k n := by
  intro p e s m args below meth c H locs ls C Y S V
  exact lv_fload_n C.1 C.2.1 hd rfl (lz_at V hl (fun _ h => by cases h)) (h p e s m args below meth c H locs ls C Y S V)
theorem r_fload {i : Nat} {x : UInt32} (hd : decode (mB I) pc = .ok (.fload i, 2)) (hl : L[i]? = some (.float x)) (h : WW G I Q (pc + 2) L (.float x :: st) M k n) : WW G I Q pc L (st) M k n := by
  intro p e s m args below meth c H locs ls C Y S V
  exact lv_fload C.1 C.2.1 hd (lz_at V hl (fun _ h => by cases h)) (h p e s m args below meth c H locs ls C Y S V)
theorem r_aload_nN {i : Fin 4} (hd : decode (mB I) pc = .ok (.aload_n i, 1)) (hl : L[(i : Nat)]? = some .null) (h : WW G I Q (pc + 1) L (.null :: st) M k n) : WW G I Q pc L (st) M k n := by
  intro p e s m args below meth c H locs ls C Y S V
  exact lv_aload_nN C.1 C.2.1 hd rfl (lz_at V hl (fun _ h => by cases h)) (h p e s m args below meth c H locs ls C Y S V)
theorem r_aloadN {i : Nat} (hd : decode (mB I) pc = .ok (.aload i, 2)) (hl : L[i]? = some .null) (h : WW G I Q (pc + 2) L (.null :: st) M k n) : WW G I Q pc L (st) M k n := by
  intro p e s m args below meth c H locs ls C Y S V
  exact lv_aloadN C.1 C.2.1 hd (lz_at V hl (fun _ h => by cases h)) (h p e s m args below meth c H locs ls C Y S V)
theorem r_istore_n {i : Fin 4} {j : Nat} {x : Int32} (hd : decode (mB I) pc = .ok (.istore_n i, 1)) (hj : (i : Nat) = j) (hi : j < mL I) (ho : okc L j = true) (h : WW G I Q (pc + 1) (L.set j (.int x)) st M k n) : WW G I Q pc L (.int x :: st) M k n := by
  subst hj
  intro p e s m args below meth c H locs ls C Y S V
  exact lv_istore_n C.1 C.2.1 hd rfl V hi rfl (fun ls' hl' => h p e s m args below meth c H locs ls' C Y S (lz_st ho hl'))
theorem r_istore {i : Nat} {x : Int32} (hd : decode (mB I) pc = .ok (.istore i, 2)) (hi : i < mL I) (ho : okc L i = true) (h : WW G I Q (pc + 2) (L.set i (.int x)) st M k n) : WW G I Q pc L (.int x :: st) M k n := by
  intro p e s m args below meth c H locs ls C Y S V
  exact lv_istore C.1 C.2.1 hd V hi rfl (fun ls' hl' => h p e s m args below meth c H locs ls' C Y S (lz_st ho hl'))
theorem r_astore_n {i : Fin 4} {j : Nat} {x : Nat} (hd : decode (mB I) pc = .ok (.astore_n i, 1)) (hj : (i : Nat) = j) (hi : j < mL I) (ho : okc L j = true) (h : WW G I Q (pc + 1) (L.set j (.ref x)) st M k n) : WW G I Q pc L (.ref x :: st) M k n := by
  subst hj
  intro p e s m args below meth c H locs ls C Y S V
  exact lv_astore_n C.1 C.2.1 hd rfl V hi rfl (fun ls' hl' => h p e s m args below meth c H locs ls' C Y S (lz_st ho hl'))
theorem r_astore {i : Nat} {x : Nat} (hd : decode (mB I) pc = .ok (.astore i, 2)) (hi : i < mL I) (ho : okc L i = true) (h : WW G I Q (pc + 2) (L.set i (.ref x)) st M k n) : WW G I Q pc L (.ref x :: st) M k n := by
  intro p e s m args below meth c H locs ls C Y S V
  exact lv_astore C.1 C.2.1 hd V hi rfl (fun ls' hl' => h p e s m args below meth c H locs ls' C Y S (lz_st ho hl'))
theorem r_astore_nN {i : Fin 4} {j : Nat} (hd : decode (mB I) pc = .ok (.astore_n i, 1)) (hj : (i : Nat) = j) (hi : j < mL I) (ho : okc L j = true) (h : WW G I Q (pc + 1) (L.set j (.null)) st M k n) : WW G I Q pc L (.null :: st) M k n := by
  subst hj
  intro p e s m args below meth c H locs ls C Y S V
  exact lv_astore_nN C.1 C.2.1 hd rfl V hi rfl (fun ls' hl' => h p e s m args below meth c H locs ls' C Y S (lz_st ho hl'))
theorem r_astoreN {i : Nat} (hd : decode (mB I) pc = .ok (.astore i, 2)) (hi : i < mL I) (ho : okc L i = true) (h : WW G I Q (pc + 2) (L.set i (.null)) st M k n) : WW G I Q pc L (.null :: st) M k n := by
  intro p e s m args below meth c H locs ls C Y S V
  exact lv_astoreN C.1 C.2.1 hd V hi rfl (fun ls' hl' => h p e s m args below meth c H locs ls' C Y S (lz_st ho hl'))
theorem r_fstore_n {i : Fin 4} {j : Nat} {x : UInt32} (hd : decode (mB I) pc = .ok (.fstore_n i, 1)) (hj : (i : Nat) = j) (hi : j < mL I) (ho : okc L j = true) (h : WW G I Q (pc + 1) (L.set j (.float x)) st M k n) : WW G I Q pc L (.float x :: st) M k n := by
  subst hj
  intro p e s m args below meth c H locs ls C Y S V
  exact lv_fstore_n C.1 C.2.1 hd rfl V hi rfl (fun ls' hl' => h p e s m args below meth c H locs ls' C Y S (lz_st ho hl'))
theorem r_fstore {i : Nat} {x : UInt32} (hd : decode (mB I) pc = .ok (.fstore i, 2)) (hi : i < mL I) (ho : okc L i = true) (h : WW G I Q (pc + 2) (L.set i (.float x)) st M k n) : WW G I Q pc L (.float x :: st) M k n := by
  intro p e s m args below meth c H locs ls C Y S V
  exact lv_fstore C.1 C.2.1 hd V hi rfl (fun ls' hl' => h p e s m args below meth c H locs ls' C Y S (lz_st ho hl'))
theorem r_iinc {i : Nat} {d : Int} {x v : Int32} (hd : decode (mB I) pc = .ok (.iinc i d, 3)) (hi : i < mL I) (hl : L[i]? = some (.int x)) (hv : x + Int32.ofInt d = v) (ho : okc L i = true) (h : WW G I Q (pc + 3) (L.set i (.int v)) st M k n) : WW G I Q pc L st M k n := by
  intro p e s m args below meth c H locs ls C Y S V
  have hm := lz_mem L 0 i _ hl (fun _ h => by cases h)
  rw [Nat.zero_add] at hm
  obtain ⟨j, hj⟩ := List.getElem?_of_mem hm
  exact lv_iinc C.1 C.2.1 hd V hj hv hi rfl (fun ls' hl' => h p e s m args below meth c H locs ls' C Y S (lz_st ho hl'))
theorem r_iadd {x y : Int32} (hd : decode (mB I) pc = .ok (.iadd, 1)) (h : WW G I Q (pc + 1) L (.int (x + y) :: st) M k n) : WW G I Q pc L (.int y :: .int x :: st) M k n := by
  intro p e s m args below meth c H locs ls C Y S V
  exact lv_iadd C.1 C.2.1 hd  (h p e s m args below meth c H locs ls C Y S V)
theorem r_isub {x y : Int32} (hd : decode (mB I) pc = .ok (.isub, 1)) (h : WW G I Q (pc + 1) L (.int (x - y) :: st) M k n) : WW G I Q pc L (.int y :: .int x :: st) M k n := by
  intro p e s m args below meth c H locs ls C Y S V
  exact lv_isub C.1 C.2.1 hd  (h p e s m args below meth c H locs ls C Y S V)
theorem r_imul {x y : Int32} (hd : decode (mB I) pc = .ok (.imul, 1)) (h : WW G I Q (pc + 1) L (.int (x * y) :: st) M k n) : WW G I Q pc L (.int y :: .int x :: st) M k n := by
  intro p e s m args below meth c H locs ls C Y S V
  exact lv_imul C.1 C.2.1 hd  (h p e s m args below meth c H locs ls C Y S V)
theorem r_iand {x y : Int32} (hd : decode (mB I) pc = .ok (.iand, 1)) (h : WW G I Q (pc + 1) L (.int (x &&& y) :: st) M k n) : WW G I Q pc L (.int y :: .int x :: st) M k n := by
  intro p e s m args below meth c H locs ls C Y S V
  exact lv_iand C.1 C.2.1 hd  (h p e s m args below meth c H locs ls C Y S V)
theorem r_ior {x y : Int32} (hd : decode (mB I) pc = .ok (.ior, 1)) (h : WW G I Q (pc + 1) L (.int (x ||| y) :: st) M k n) : WW G I Q pc L (.int y :: .int x :: st) M k n := by
  intro p e s m args below meth c H locs ls C Y S V
  exact lv_ior C.1 C.2.1 hd  (h p e s m args below meth c H locs ls C Y S V)
theorem r_ixor {x y : Int32} (hd : decode (mB I) pc = .ok (.ixor, 1)) (h : WW G I Q (pc + 1) L (.int (x ^^^ y) :: st) M k n) : WW G I Q pc L (.int y :: .int x :: st) M k n := by
  intro p e s m args below meth c H locs ls C Y S V
  exact lv_ixor C.1 C.2.1 hd  (h p e s m args below meth c H locs ls C Y S V)
theorem r_ishl {x y : Int32} (hd : decode (mB I) pc = .ok (.ishl, 1)) (h : WW G I Q (pc + 1) L (.int (x <<< (y &&& 31)) :: st) M k n) : WW G I Q pc L (.int y :: .int x :: st) M k n := by
  intro p e s m args below meth c H locs ls C Y S V
  exact lv_ishl C.1 C.2.1 hd  (h p e s m args below meth c H locs ls C Y S V)
theorem r_ishr {x y : Int32} (hd : decode (mB I) pc = .ok (.ishr, 1)) (h : WW G I Q (pc + 1) L (.int (x >>> (y &&& 31)) :: st) M k n) : WW G I Q pc L (.int y :: .int x :: st) M k n := by
  intro p e s m args below meth c H locs ls C Y S V
  exact lv_ishr C.1 C.2.1 hd  (h p e s m args below meth c H locs ls C Y S V)
theorem r_idiv {x y : Int32} (hd : decode (mB I) pc = .ok (.idiv, 1)) (hne : ¬ y = 0) (h : WW G I Q (pc + 1) L (.int (x / y) :: st) M k n) : WW G I Q pc L (.int y :: .int x :: st) M k n := by
  intro p e s m args below meth c H locs ls C Y S V
  exact lv_idiv C.1 C.2.1 hd hne (h p e s m args below meth c H locs ls C Y S V)
theorem r_irem {x y : Int32} (hd : decode (mB I) pc = .ok (.irem, 1)) (hne : ¬ y = 0) (h : WW G I Q (pc + 1) L (.int (x - x / y * y) :: st) M k n) : WW G I Q pc L (.int y :: .int x :: st) M k n := by
  intro p e s m args below meth c H locs ls C Y S V
  exact lv_irem C.1 C.2.1 hd hne (h p e s m args below meth c H locs ls C Y S V)
theorem r_ineg {x : Int32} (hd : decode (mB I) pc = .ok (.ineg, 1)) (h : WW G I Q (pc + 1) L (.int (-x) :: st) M k n) : WW G I Q pc L (.int x :: st) M k n := by
  intro p e s m args below meth c H locs ls C Y S V
  exact lv_ineg C.1 C.2.1 hd  (h p e s m args below meth c H locs ls C Y S V)
theorem r_i2l {x : Int32} (hd : decode (mB I) pc = .ok (.i2l, 1)) (h : WW G I Q (pc + 1) L (.long x.toInt64 :: st) M k n) : WW G I Q pc L (.int x :: st) M k n := by
  intro p e s m args below meth c H locs ls C Y S V
  exact lv_i2l C.1 C.2.1 hd rfl (h p e s m args below meth c H locs ls C Y S V)
theorem r_i2c {x : Int32} (hd : decode (mB I) pc = .ok (.i2c, 1)) (h : WW G I Q (pc + 1) L (.int (x.toUInt32 % 65536).toInt32 :: st) M k n) : WW G I Q pc L (.int x :: st) M k n := by
  intro p e s m args below meth c H locs ls C Y S V
  exact lv_i2c C.1 C.2.1 hd rfl (h p e s m args below meth c H locs ls C Y S V)
theorem r_i2d {x : Int32} (hd : decode (mB I) pc = .ok (.i2d, 1)) (h : WW G I Q (pc + 1) L (.double (FP.i2d x) :: st) M k n) : WW G I Q pc L (.int x :: st) M k n := by
  intro p e s m args below meth c H locs ls C Y S V
  exact lv_i2d C.1 C.2.1 hd  (h p e s m args below meth c H locs ls C Y S V)
theorem r_i2f {x : Int32} (hd : decode (mB I) pc = .ok (.i2f, 1)) (h : WW G I Q (pc + 1) L (.float (FP.i2f x) :: st) M k n) : WW G I Q pc L (.int x :: st) M k n := by
  intro p e s m args below meth c H locs ls C Y S V
  exact lv_i2f C.1 C.2.1 hd  (h p e s m args below meth c H locs ls C Y S V)
theorem r_f2d {x : UInt32} (hd : decode (mB I) pc = .ok (.f2d, 1)) (hne : vf_n64 (FP.f2d x)) (h : WW G I Q (pc + 1) L (.double (FP.f2d x) :: st) M k n) : WW G I Q pc L (.float x :: st) M k n := by
  intro p e s m args below meth c H locs ls C Y S V
  exact lv_f2d C.1 C.2.1 hd hne (h p e s m args below meth c H locs ls C Y S V)
theorem r_ddiv {x y : UInt64} (hd : decode (mB I) pc = .ok (.ddiv, 1)) (hne : vf_n64 (FP.ddiv x y)) (h : WW G I Q (pc + 1) L (.double (FP.ddiv x y) :: st) M k n) : WW G I Q pc L (.double y :: .double x :: st) M k n := by
  intro p e s m args below meth c H locs ls C Y S V
  exact lv_ddiv C.1 C.2.1 hd hne (h p e s m args below meth c H locs ls C Y S V)
theorem r_fdiv {x y : UInt32} (hd : decode (mB I) pc = .ok (.fdiv, 1)) (hne : vf_n32 (FP.fdiv x y)) (h : WW G I Q (pc + 1) L (.float (FP.fdiv x y) :: st) M k n) : WW G I Q pc L (.float y :: .float x :: st) M k n := by
  intro p e s m args below meth c H locs ls C Y S V
  exact lv_fdiv C.1 C.2.1 hd hne (h p e s m args below meth c H locs ls C Y S V)
theorem r_lcmp {x y : Int64} (hd : decode (mB I) pc = .ok (.lcmp, 1)) (h : WW G I Q (pc + 1) L (.int (lg_cmp x y) :: st) M k n) : WW G I Q pc L (.long y :: .long x :: st) M k n := by
  intro p e s m args below meth c H locs ls C Y S V
  exact W.lcmp C.1 C.2.1 hd  (h p e s m args below meth c H locs ls C Y S V)
theorem r_dcmp {x y : UInt64} {op : CmpOp} (hd : decode (mB I) pc = .ok (.dcmp op, 1)) (h : WW G I Q (pc + 1) L (.int (Op.cmpValue (FP.dcmp x y) op) :: st) M k n) : WW G I Q pc L (.double y :: .double x :: st) M k n := by
  intro p e s m args below meth c H locs ls C Y S V
  exact lv_dcmp C.1 C.2.1 hd  (h p e s m args below meth c H locs ls C Y S V)
theorem r_fcmp {x y : UInt32} {op : CmpOp} (hd : decode (mB I) pc = .ok (.fcmp op, 1)) (h : WW G I Q (pc + 1) L (.int (Op.cmpValue (FP.fcmp x y) op) :: st) M k n) : WW G I Q pc L (.float y :: .float x :: st) M k n := by
  intro p e s m args below meth c H locs ls C Y S V
  exact lv_fcmp C.1 C.2.1 hd  (h p e s m args below meth c H locs ls C Y S V)
theorem r_dup {v : Value} (hd : decode (mB I) pc = .ok (.dup, 1)) (hv : v.category = 1) (h : WW G I Q (pc + 1) L (v :: v :: st) M k n) : WW G I Q pc L (v :: st) M k n := by
  intro p e s m args below meth c H locs ls C Y S V
  exact lv_dup C.1 C.2.1 hd hv (h p e s m args below meth c H locs ls C Y S V)
theorem r_pop {v : Value} (hd : decode (mB I) pc = .ok (.pop, 1)) (hv : v.category = 1) (h : WW G I Q (pc + 1) L (st) M k n) : WW G I Q pc L (v :: st) M k n := by
  intro p e s m args below meth c H locs ls C Y S V
  exact lv_pop C.1 C.2.1 hd hv (h p e s m args below meth c H locs ls C Y S V)
theorem r_dup2 {v u : Value} (hd : decode (mB I) pc = .ok (.dup2, 1)) (hv : v.category = 1) (hu : u.category = 1) (h : WW G I Q (pc + 1) L (v :: u :: v :: u :: st) M k n) : WW G I Q pc L (v :: u :: st) M k n := by
  intro p e s m args below meth c H locs ls C Y S V
  exact lv_dup2_11 C.1 C.2.1 hd hv hu (h p e s m args below meth c H locs ls C Y S V)
theorem r_if_eq {x : Int32} {off : Int} {tgt : Nat} (hd : decode (mB I) pc = .ok (.ifCond .eq off, 3)) (ht : (pc : Int) + off = (tgt : Int)) (h1 : x = 0 → WW G I Q tgt L st M k n) (h2 : ¬ (x = 0) → WW G I Q (pc + 3) L st M k n) : WW G I Q pc L (.int x :: st) M k n := by
  intro p e s m args below meth c H locs ls C Y S V
  exact lv_if_eq C.1 C.2.1 hd ht (fun z => h1 z p e s m args below meth c H locs ls C Y S V) (fun z => h2 z p e s m args below meth c H locs ls C Y S V)
theorem r_if_ne {x : Int32} {off : Int} {tgt : Nat} (hd : decode (mB I) pc = .ok (.ifCond .ne off, 3)) (ht : (pc : Int) + off = (tgt : Int)) (h1 : x ≠ 0 → WW G I Q tgt L st M k n) (h2 : ¬ (x ≠ 0) → WW G I Q (pc + 3) L st M k n) : WW G I Q pc L (.int x :: st) M k n := by
  intro p e s m args below meth c H locs ls C Y S V
  exact lv_if_ne C.1 C.2.1 hd ht (fun z => h1 z p e s m args below meth c H locs ls C Y S V) (fun z => h2 (fun y => y z) p e s m args below meth c H locs ls C Y S V)
theorem r_if_lt {x : Int32} {off : Int} {tgt : Nat} (hd : decode (mB I) pc = .ok (.ifCond .lt off, 3)) (ht : (pc : Int) + off = (tgt : Int)) (h1 : x < 0 → WW G I Q tgt L st M k n) (h2 : ¬ (x < 0) → WW G I Q (pc + 3) L st M k n) : WW G I Q pc L (.int x :: st) M k n := by
  intro p e s m args below meth c H locs ls C Y S V
  exact lv_if_lt C.1 C.2.1 hd ht (fun z => h1 z p e s m args below meth c H locs ls C Y S V) (fun z => h2 z p e s m args below meth c H locs ls C Y S V)
theorem r_if_ge {x : Int32} {off : Int} {tgt : Nat} (hd : decode (mB I) pc = .ok (.ifCond .ge off, 3)) (ht : (pc : Int) + off = (tgt : Int)) (h1 : 0 ≤ x → WW G I Q tgt L st M k n) (h2 : ¬ (0 ≤ x) → WW G I Q (pc + 3) L st M k n) : WW G I Q pc L (.int x :: st) M k n := by
  intro p e s m args below meth c H locs ls C Y S V
  exact lv_if_ge C.1 C.2.1 hd ht (fun z => h1 z p e s m args below meth c H locs ls C Y S V) (fun z => h2 z p e s m args below meth c H locs ls C Y S V)
theorem r_if_gt {x : Int32} {off : Int} {tgt : Nat} (hd : decode (mB I) pc = .ok (.ifCond .gt off, 3)) (ht : (pc : Int) + off = (tgt : Int)) (h1 : 0 < x → WW G I Q tgt L st M k n) (h2 : ¬ (0 < x) → WW G I Q (pc + 3) L st M k n) : WW G I Q pc L (.int x :: st) M k n := by
  intro p e s m args below meth c H locs ls C Y S V
  exact lv_if_gt C.1 C.2.1 hd ht (fun z => h1 z p e s m args below meth c H locs ls C Y S V) (fun z => h2 z p e s m args below meth c H locs ls C Y S V)
theorem r_if_le {x : Int32} {off : Int} {tgt : Nat} (hd : decode (mB I) pc = .ok (.ifCond .le off, 3)) (ht : (pc : Int) + off = (tgt : Int)) (h1 : x ≤ 0 → WW G I Q tgt L st M k n) (h2 : ¬ (x ≤ 0) → WW G I Q (pc + 3) L st M k n) : WW G I Q pc L (.int x :: st) M k n := by
  intro p e s m args below meth c H locs ls C Y S V
  exact lv_if_le C.1 C.2.1 hd ht (fun z => h1 z p e s m args below meth c H locs ls C Y S V) (fun z => h2 z p e s m args below meth c H locs ls C Y S V)
theorem r_icmp_eq {x y : Int32} {off : Int} {tgt : Nat} (hd : decode (mB I) pc = .ok (.if_icmp .eq off, 3)) (ht : (pc : Int) + off = (tgt : Int)) (h1 : x = y → WW G I Q tgt L st M k n) (h2 : ¬ (x = y) → WW G I Q (pc + 3) L st M k n) : WW G I Q pc L (.int y :: .int x :: st) M k n := by
  intro p e s m args below meth c H locs ls C Y S V
  exact lv_icmp_eq C.1 C.2.1 hd ht (fun z => h1 z p e s m args below meth c H locs ls C Y S V) (fun z => h2 z p e s m args below meth c H locs ls C Y S V)
theorem r_icmp_ne {x y : Int32} {off : Int} {tgt : Nat} (hd : decode (mB I) pc = .ok (.if_icmp .ne off, 3)) (ht : (pc : Int) + off = (tgt : Int)) (h1 : x ≠ y → WW G I Q tgt L st M k n) (h2 : ¬ (x ≠ y) → WW G I Q (pc + 3) L st M k n) : WW G I Q pc L (.int y :: .int x :: st) M k n := by
  intro p e s m args below meth c H locs ls C Y S V
  exact lv_icmp_ne C.1 C.2.1 hd ht (fun z => h1 z p e s m args below meth c H locs ls C Y S V) (fun z => h2 (fun y => y z) p e s m args below meth c H locs ls C Y S V)
theorem r_icmp_lt {x y : Int32} {off : Int} {tgt : Nat} (hd : decode (mB I) pc = .ok (.if_icmp .lt off, 3)) (ht : (pc : Int) + off = (tgt : Int)) (h1 : x < y → WW G I Q tgt L st M k n) (h2 : ¬ (x < y) → WW G I Q (pc + 3) L st M k n) : WW G I Q pc L (.int y :: .int x :: st) M k n := by
  intro p e s m args below meth c H locs ls C Y S V
  exact lv_icmp_lt C.1 C.2.1 hd ht (fun z => h1 z p e s m args below meth c H locs ls C Y S V) (fun z => h2 z p e s m args below meth c H locs ls C Y S V)
theorem r_icmp_ge {x y : Int32} {off : Int} {tgt : Nat} (hd : decode (mB I) pc = .ok (.if_icmp .ge off, 3)) (ht : (pc : Int) + off = (tgt : Int)) (h1 : y ≤ x → WW G I Q tgt L st M k n) (h2 : ¬ (y ≤ x) → WW G I Q (pc + 3) L st M k n) : WW G I Q pc L (.int y :: .int x :: st) M k n := by
  intro p e s m args below meth c H locs ls C Y S V
  exact lv_icmp_ge C.1 C.2.1 hd ht (fun z => h1 z p e s m args below meth c H locs ls C Y S V) (fun z => h2 z p e s m args below meth c H locs ls C Y S V)
theorem r_icmp_gt {x y : Int32} {off : Int} {tgt : Nat} (hd : decode (mB I) pc = .ok (.if_icmp .gt off, 3)) (ht : (pc : Int) + off = (tgt : Int)) (h1 : y < x → WW G I Q tgt L st M k n) (h2 : ¬ (y < x) → WW G I Q (pc + 3) L st M k n) : WW G I Q pc L (.int y :: .int x :: st) M k n := by
  intro p e s m args below meth c H locs ls C Y S V
  exact lv_icmp_gt C.1 C.2.1 hd ht (fun z => h1 z p e s m args below meth c H locs ls C Y S V) (fun z => h2 z p e s m args below meth c H locs ls C Y S V)
theorem r_icmp_le {x y : Int32} {off : Int} {tgt : Nat} (hd : decode (mB I) pc = .ok (.if_icmp .le off, 3)) (ht : (pc : Int) + off = (tgt : Int)) (h1 : x ≤ y → WW G I Q tgt L st M k n) (h2 : ¬ (x ≤ y) → WW G I Q (pc + 3) L st M k n) : WW G I Q pc L (.int y :: .int x :: st) M k n := by
  intro p e s m args below meth c H locs ls C Y S V
  exact lv_icmp_le C.1 C.2.1 hd ht (fun z => h1 z p e s m args below meth c H locs ls C Y S V) (fun z => h2 z p e s m args below meth c H locs ls C Y S V)
theorem r_goto {off : Int} {tgt : Nat} (hd : decode (mB I) pc = .ok (.goto off, 3)) (ht : (pc : Int) + off = (tgt : Int)) (h : WW G I Q tgt L st M k n) : WW G I Q pc L st M k n := by
  intro p e s m args below meth c H locs ls C Y S V
  exact lv_goto C.1 C.2.1 hd ht (h p e s m args below meth c H locs ls C Y S V)
theorem r_ifnull {x : Nat} {off : Int} (hd : decode (mB I) pc = .ok (.ifnull off, 3)) (h : WW G I Q (pc + 3) L st M k n) : WW G I Q pc L (.ref x :: st) M k n := by
  intro p e s m args below meth c H locs ls C Y S V
  exact lv_ifnull C.1 C.2.1 hd (h p e s m args below meth c H locs ls C Y S V)
theorem r_ifnullN {off : Int} {tgt : Nat} (hd : decode (mB I) pc = .ok (.ifnull off, 3)) (ht : (pc : Int) + off = (tgt : Int)) (h : WW G I Q tgt L st M k n) : WW G I Q pc L (.null :: st) M k n := by
  intro p e s m args below meth c H locs ls C Y S V
  exact lv_ifnullN C.1 C.2.1 hd ht (h p e s m args below meth c H locs ls C Y S V)
theorem r_ifnonnull {x : Nat} {off : Int} {tgt : Nat} (hd : decode (mB I) pc = .ok (.ifnonnull off, 3)) (ht : (pc : Int) + off = (tgt : Int)) (h : WW G I Q tgt L st M k n) : WW G I Q pc L (.ref x :: st) M k n := by
  intro p e s m args below meth c H locs ls C Y S V
  exact lv_ifnonnull C.1 C.2.1 hd ht (h p e s m args below meth c H locs ls C Y S V)
theorem r_ifnonnullN {off : Int} (hd : decode (mB I) pc = .ok (.ifnonnull off, 3)) (h : WW G I Q (pc + 3) L st M k n) : WW G I Q pc L (.null :: st) M k n := by
  intro p e s m args below meth c H locs ls C Y S V
  exact lv_ifnonnullN C.1 C.2.1 hd (h p e s m args below meth c H locs ls C Y S V)
theorem r_acmp_eq {x y : Nat} {off : Int} {tgt : Nat} (hd : decode (mB I) pc = .ok (.if_acmp .eq off, 3)) (ht : (pc : Int) + off = (tgt : Int)) (h1 : x = y → WW G I Q tgt L st M k n) (h2 : ¬ x = y → WW G I Q (pc + 3) L st M k n) : WW G I Q pc L (.ref y :: .ref x :: st) M k n := by
  intro p e s m args below meth c H locs ls C Y S V
  exact lv_acmp_eq (rx := some x) (ry := some y) C.1 C.2.1 hd ht (fun z => h1 (Option.some.inj z) p e s m args below meth c H locs ls C Y S V) (fun z => h2 (fun q => z (congrArg some q)) p e s m args below meth c H locs ls C Y S V)
theorem r_switchIn {d lo hi : Int} {offs : Array Int} {len : Nat} {x : Int32} {off : Int} {tgt : Nat} (hd : decode (mB I) pc = .ok (.tableswitch d lo hi offs, len)) (h1 : ¬ x.toInt < lo) (h2 : ¬ hi < x.toInt) (ho : offs[(x.toInt - lo).toNat]? = some off) (ht : (pc : Int) + off = (tgt : Int)) (h : WW G I Q tgt L st M k n) : WW G I Q pc L (.int x :: st) M k n := by
  intro p e s m args below meth c H locs ls C Y S V
  exact lv_tableIn C.1 C.2.1 hd h1 h2 ho ht (h p e s m args below meth c H locs ls C Y S V)
theorem r_switchOut {d lo hi : Int} {offs : Array Int} {len : Nat} {x : Int32} {tgt : Nat} (hd : decode (mB I) pc = .ok (.tableswitch d lo hi offs, len)) (h1 : x.toInt < lo ∨ hi < x.toInt) (ht : (pc : Int) + d = (tgt : Int)) (h : WW G I Q tgt L st M k n) : WW G I Q pc L (.int x :: st) M k n := by
  intro p e s m args below meth c H locs ls C Y S V
  exact lv_tableOut C.1 C.2.1 hd h1 ht (h p e s m args below meth c H locs ls C Y S V)
/-! fields -/
/-- where a class's pool names a field: the class's own name, place, the object's class, the field's place -/
def FA (own : String) (idx ci j : Nat) : Prop := ∃ (C : String) (T : u_T) (N : Nat) (ref : String), ac_cls[ci]? = some (C, T, N) ∧ j < N ∧ (∀ w ∈ u_ws C T N, w ∈ lwG) ∧ Cond.fieldLink own idx ref (T j).2.1 (T j).2.2.1 ∈ lwG ∧ (ref = (T j).1 ∨ Cond.sameField ref (T j).1 (T j).2.1 (T j).2.2.1 ∈ lwG)
def finF (ci j : Nat) : Bool := match ac_cls[ci]? with
  | some q => (q.2.1 j).2.2.2
  | none => false
theorem FA_same {args : Array Value} {s : State} {a b d ref : String} (hts : ∀ w ∈ lwG, w.before args s = true) (h : ref = a ∨ Cond.sameField ref a b d ∈ lwG) : ∀ x, s.fieldFound? a b d = some x → s.fieldFound? ref b d = some x := by
  rcases h with rfl | h
  · exact fun _ h => h
  · exact fun x ho => u_same (hts _ h) x ho
theorem Pm.one {M : Mm} {H : Heap} (h : Pm G M H) {a : Nat} (ha : kd M a ≠ 0) {e : va_E} (he : ent (gy G) M a = e) : va_P (gD G) ac_cls [(a, e)] H := by
  obtain ⟨hz, L0, hL, hP, hD⟩ := h
  obtain ⟨k0, hk0⟩ := va_pl_get (X := []) (f := ent (gy G) M) (hL a ha)
  intro j q hj
  have hz : j < 1 := (List.getElem?_eq_some_iff.mp hj).1
  rw [show j = 0 by omega] at hj
  cases hj
  rw [← he]
  exact hP k0 _ hk0
/-- the memory behind one write -/
theorem Pm.up {M M' : Mm} {H H1 : Heap} {a : Nat} {e : va_E} (h : Pm G M H) (ha : kd M a ≠ 0) (hz : H1.size = H.size) (hn : nx M' = nx M) (hk : kd M' = kd M) (he : ent (gy G) M' a = e) (ho : ∀ b, b ≠ a → kd M b = kd M' b ∧ ln M b = ln M' b ∧ mi M b = mi M' b ∧ mr M b = mr M' b ∧ mj M b = mj M' b ∧ md M b = md M' b) (hat : va_at (gD G) ac_cls (a, e) H1) (oq : ∀ q, q ≠ a → H1[q]? = H[q]?) : Pm G M' H1 := by
  obtain ⟨hz0, L0, hL, hP, hD⟩ := h
  obtain ⟨k0, hk0⟩ := va_pl_get (X := []) (f := ent (gy G) M) (hL a ha)
  have h1 := va_P.set hP hD hk0 hat oq
  have h2 := va_D.set (e := e) hD hk0
  have h3 := va_pl_set (X := []) (e := e) hD (hL a ha) hk0
  have h4 := va_pl_congr (L := L0) (ent_up he ho)
  have h5 : (va_pl L0 (ent (gy G) M)).set k0 (a, e) = va_pl L0 (ent (gy G) M') := Eq.trans h3 h4
  rw [h5] at h1 h2
  exact ⟨hz.trans (hz0.trans hn.symm), L0, fun b hb => hL b (by rw [← hk]; exact hb), h1, h2⟩
theorem Wd.up {M M' : Mm} {s : State} {H H1 : Heap} {a : Nat} {e : va_E} (h : Wd G M s H) (ha : kd M a ≠ 0) (hz : H1.size = H.size) (hn : nx M' = nx M) (hk : kd M' = kd M) (he : ent (gy G) M' a = e) (ho : ∀ b, b ≠ a → kd M b = kd M' b ∧ ln M b = ln M' b ∧ mi M b = mi M' b ∧ mr M b = mr M' b ∧ mj M b = mj M' b ∧ md M b = md M' b) (hat : va_at (gD G) ac_cls (a, e) H1) (oq : ∀ q, q ≠ a → H1[q]? = H[q]?) : Wd G M' s H1 := by
  have hg := h.1.ge ha
  exact ⟨h.1.up ha hz hn hk he ho hat oq, h.2.1, h.2.2.kept (by rw [hz]; exact Nat.le_refl _) (fun q _ hq => oq q (fun z => hq (by rw [z]; exact hg)))⟩
theorem r_geti {idx ci j a : Nat} (hd : decode (mB I) pc = .ok (.getfield idx, 3)) (hf : FA (mY I).cls idx ci j) (hk : kd M a = ci + 1) (ht : refT (fTy ci j) = false) (h : WW G I Q (pc + 3) L (.int (mi M a j) :: st) M k n) : WW G I Q pc L (.ref a :: st) M k n := by
  intro p e s m args below meth c H locs ls C Y S V
  obtain ⟨Cn, T, N, ref, h1, h2, h3, h4, h5⟩ := hf
  obtain ⟨-, -, hN, hci⟩ := ac_ok h1
  exact va_get (ws := [(a, .inr (ci, flds ci M a))]) C.1 C.2.1 C.2.2.2.2.1 h3 C.2.2.2.2.2.1 Y.2.1 (Y.1.one (by omega) (ent_o hk hci)) 0 rfl h1 j h2 (C.2.2.2.2.1 _ h4) (FA_same C.2.2.2.2.1 h5) (flds_i (hN ▸ h2) ht) hd (h p e s m args below meth c H locs ls C Y S V)
theorem r_getr {idx ci j a : Nat} {b : Option Nat} (hd : decode (mB I) pc = .ok (.getfield idx, 3)) (hf : FA (mY I).cls idx ci j) (hk : kd M a = ci + 1) (ht : refT (fTy ci j) = true) (hb : mr M a j = b) (h : WW G I Q (pc + 3) L (va_rf b :: st) M k n) : WW G I Q pc L (.ref a :: st) M k n := by
  subst hb
  intro p e s m args below meth c H locs ls C Y S V
  obtain ⟨Cn, T, N, ref, h1, h2, h3, h4, h5⟩ := hf
  obtain ⟨-, -, hN, hci⟩ := ac_ok h1
  exact va_get (ws := [(a, .inr (ci, flds ci M a))]) C.1 C.2.1 C.2.2.2.2.1 h3 C.2.2.2.2.2.1 Y.2.1 (Y.1.one (by omega) (ent_o hk hci)) 0 rfl h1 j h2 (C.2.2.2.2.1 _ h4) (FA_same C.2.2.2.2.1 h5) (flds_r (hN ▸ h2) ht) hd (h p e s m args below meth c H locs ls C Y S V)
theorem ww_put {idx ci j a : Nat} {v : Value} {M' : Mm} (hd : decode (mB I) pc = .ok (.putfield idx, 3)) (hf : FA (mY I).cls idx ci j) (hk : kd M a = ci + 1) (hfin : finF ci j = false) (hn : narrow (fTy ci j) v = v) (hft : fits (fTy ci j) v = true) (hl : j < nF ci → (flds ci M a).set j v = flds ci M' a) (e1 : nx M' = nx M) (e2 : kd M' = kd M) (ho : ∀ b, b ≠ a → kd M b = kd M' b ∧ ln M b = ln M' b ∧ mi M b = mi M' b ∧ mr M b = mr M' b ∧ mj M b = mj M' b ∧ md M b = md M' b) (h : WW G I Q (pc + 3) L st M' k n) : WW G I Q pc L (v :: .ref a :: st) M k n := by
  intro p e s m args below meth c H locs ls C Y S V
  obtain ⟨Cn, T, N, ref, h1, h2, h3, h4, h5⟩ := hf
  obtain ⟨hty, hnm, hN, hci⟩ := ac_ok h1
  have hts := C.2.2.2.2.1
  have hown := C.2.2.2.2.2.1
  have hK := Y.2.1
  have hP := Y.1.one (G := G) (by omega) (ent_o (cy := gy G) hk hci)
  have hl2 : j < (flds ci M a).length := by rw [flds_len]; exact hN ▸ h2
  have hf2 : (T j).2.2.2 = false := by
    have h := hfin
    unfold finF at h
    rw [h1] at h
    exact h
  have hap := va_apart (own := (mY I).cls) hts h3 (fTy ci) hty hnm hK h1
  obtain ⟨r, g1, cell, q1, q2, q3, q4⟩ := hP 0 _ rfl
  have hr : r = (Cn, T, N) := Option.some.inj (g1.symm.trans h1)
  subst hr
  obtain ⟨hS, hfc, kC, hkC, hkind⟩ := hK.1 ci _ h1
  obtain ⟨cf, kf, fi, f, hi, hsl⟩ := hS j h2
  have hlay := hts _ (h3 _ (u_in_lay h2))
  unfold u_lay at hlay
  rw [if_neg (by rw [hf2]; decide)] at hlay
  have hst := (u_facts hfc hkC (u_lays hts h3 h2) hi).1
  have h6 := u_store hfc hkC hkind hlay hi (hty j h2) hn hft
  refine W.putK C.1 C.2.1 (f := f) ⟨hown, hts _ h4, ⟨_, _, _, FA_same hts h5 _ hi⟩, hst⟩ (by rw [q2]; exact h6) q1 q3 (by rw [hsl]; exact k2_hasslot (q4 j h2)) rfl rfl hd fun H' x1 x2 x3 => ?_
  rw [hsl] at x1 ⊢
  have hat : va_at (gD G) ac_cls (a, .inr (ci, (flds ci M a).set j v)) H' := ⟨_, h1, t_OB.to (V := updV (vp_V (flds ci M a)) j v) ⟨_, x1, q2, q3, t_set q4 hap h2 v⟩ (fun i _ => vp_updV_set hl2 v i)⟩
  rw [hl (hN ▸ h2)] at hat
  exact h p e s m args below meth c H' _ ls C (Y.up (by omega) x2 e1 e2 (ent_o (by rw [e2]; exact hk) hci) ho hat x3) (S.put x2 x3 (show gA G a from Y.1.ge (a := a) (by omega))) V
theorem r_puti {idx ci j a : Nat} {v : Int32} (hd : decode (mB I) pc = .ok (.putfield idx, 3)) (hf : FA (mY I).cls idx ci j) (hk : kd M a = ci + 1) (ht : refT (fTy ci j) = false) (hfin : finF ci j = false) (hn : narrow (fTy ci j) (.int v) = .int v) (hft : fits (fTy ci j) (.int v) = true) (h : WW G I Q (pc + 3) L st (sI M a j v) k n) : WW G I Q pc L (.int v :: .ref a :: st) M k n :=
  ww_put hd hf hk hfin hn hft (fun hj => flds_si hj ht) rfl rfl up_sI h
theorem r_putr {idx ci j a : Nat} {v : Option Nat} (hd : decode (mB I) pc = .ok (.putfield idx, 3)) (hf : FA (mY I).cls idx ci j) (hk : kd M a = ci + 1) (ht : refT (fTy ci j) = true) (hfin : finF ci j = false) (hn : narrow (fTy ci j) (va_rf v) = va_rf v) (hft : fits (fTy ci j) (va_rf v) = true) (h : WW G I Q (pc + 3) L st (sR M a j v) k n) : WW G I Q pc L (va_rf v :: .ref a :: st) M k n :=
  ww_put hd hf hk hfin hn hft (fun hj => flds_sr hj ht) rfl rfl up_sR h
/-- a final field, in the constructor -/
theorem r_putF {idx ci j a b : Nat} {Cn : String} (hd : decode (mB I) pc = .ok (.putfield idx, 3)) (hf : FA (mY I).cls idx ci j) (hk : kd M a = ci + 1) (ht : refT (fTy ci j) = true) (hfin : finF ci j = true) (hin : (mY I).name = "<init>") (hown2 : (ac_cls[ci]?.map fun q => (q.2.1 j).1) = some (mY I).cls) (hn : narrow (fTy ci j) (.ref b) = .ref b) (hft : fits (fTy ci j) (.ref b) = true) (h : WW G I Q (pc + 3) L st (sR M a j (some b)) k n) : WW G I Q pc L (.ref b :: .ref a :: st) M k n := by
  intro p e s m args below meth c H locs ls C Y S V
  obtain ⟨Cn, T, N, ref, h1, h2, h3, h4, h5⟩ := hf
  obtain ⟨hty, hnm, hN, hci⟩ := ac_ok h1
  have hts := C.2.2.2.2.1
  have hown := C.2.2.2.2.2.1
  have hK := Y.2.1
  have hP := Y.1.one (G := G) (by omega) (ent_o (cy := gy G) hk hci)
  have hl2 : j < (flds ci M a).length := by rw [flds_len]; exact hN ▸ h2
  have hf2 : (T j).2.2.2 = true := by
    have h := hfin
    unfold finF at h
    rw [h1] at h
    exact h
  have hdecl : (T j).1 = (mY I).cls := by
    rw [h1] at hown2
    exact Option.some.inj hown2
  have hap := va_apart (own := (mY I).cls) hts h3 (fTy ci) hty hnm hK h1
  obtain ⟨r, g1, cell, q1, q2, q3, q4⟩ := hP 0 _ rfl
  have hr : r = (Cn, T, N) := Option.some.inj (g1.symm.trans h1)
  subst hr
  obtain ⟨hS, hfc, kC, hkC, hkind⟩ := hK.1 ci _ h1
  obtain ⟨cf, kf, fi, f, hi, hsl⟩ := hS j h2
  have hlay := hts _ (h3 _ (u_in_lay h2))
  unfold u_lay at hlay
  rw [if_pos hf2] at hlay
  have hst := (u_facts hfc hkC (u_lays hts h3 h2) hi).1
  have hcf : m.cls = cf := by
    obtain ⟨_, _, c', _, _, _, -, -, hf', -, -, -, hown2, -⟩ := Cond.laysFinal_spec hlay
    have e1 : c' = cf := by have := hi.symm.trans hf'; simp at this; exact this.1.symm
    rw [hdecl] at hown2
    rw [← e1]; exact Option.some.inj (hown.symm.trans hown2)
  have h6 := u_fits hfc hkC hkind (Or.inr hlay) hi (hty j h2) hn hft
  refine W.putFinK C.1 C.2.1 hown (hts _ h4) (FA_same hts h5 _ hi) hst hcf (C.2.2.2.2.2.2.2.1.trans hin) (by rw [q2]; exact h6) q1 q3 (by rw [hsl]; exact k2_hasslot (q4 j h2)) rfl rfl hd fun H' x1 x2 x3 => ?_
  rw [hsl] at x1 ⊢
  have hat : va_at (gD G) ac_cls (a, .inr (ci, (flds ci M a).set j (va_rf (some b)))) H' := ⟨_, h1, t_OB.to (V := updV (vp_V (flds ci M a)) j (.ref b)) ⟨_, x1, q2, q3, t_set q4 hap h2 _⟩ (fun i _ => vp_updV_set hl2 _ i)⟩
  rw [flds_sr (hN ▸ h2) ht] at hat
  exact h p e s m args below meth c H' _ ls C (Y.up (by omega) x2 rfl rfl (ent_o hk hci) up_sR hat x3) (S.put x2 x3 (show gA G a from Y.1.ge (a := a) (by omega))) V
theorem r_iald {a : Nat} {i : Int32} (hd : decode (mB I) pc = .ok (.iaload, 1)) (hk : kd M a = 20) (hi : vp_in i (ln M a)) (h : WW G I Q (pc + 1) L (.int (mi M a i.toNatClampNeg) :: st) M k n) : WW G I Q pc L (.int i :: .ref a :: st) M k n := by
  intro p e s m args below meth c H locs ls C Y S V
  exact va_iald (ws := [(a, _)]) C.1 C.2.1 Y.2.1 (Y.1.one (by omega) (ent_i hk)) 0 0 rfl rfl hi hd (h p e s m args below meth c H locs ls C Y S V)
theorem r_cald {a : Nat} {i : Int32} (hd : decode (mB I) pc = .ok (.caload, 1)) (hk : kd M a = 21) (hi : vp_in i (ln M a)) (h : WW G I Q (pc + 1) L (.int (mi M a i.toNatClampNeg) :: st) M k n) : WW G I Q pc L (.int i :: .ref a :: st) M k n := by
  intro p e s m args below meth c H locs ls C Y S V
  exact va_cald (ws := [(a, _)]) C.1 C.2.1 Y.2.1 (Y.1.one (by omega) (ent_c hk)) 0 1 rfl rfl hi hd (h p e s m args below meth c H locs ls C Y S V)
theorem r_lald {a : Nat} {i : Int32} (hd : decode (mB I) pc = .ok (.laload, 1)) (hk : kd M a = 22) (hi : vp_in i (ln M a)) (h : WW G I Q (pc + 1) L (.long (mj M a i.toNatClampNeg) :: st) M k n) : WW G I Q pc L (.int i :: .ref a :: st) M k n := by
  intro p e s m args below meth c H locs ls C Y S V
  exact va_lald (ws := [(a, _)]) C.1 C.2.1 Y.2.1 (Y.1.one (by omega) (ent_j hk)) 0 2 rfl rfl hi hd (h p e s m args below meth c H locs ls C Y S V)
theorem r_dald {a : Nat} {i : Int32} (hd : decode (mB I) pc = .ok (.daload, 1)) (hk : kd M a = 23) (hi : vp_in i (ln M a)) (h : WW G I Q (pc + 1) L (.double (md M a i.toNatClampNeg) :: st) M k n) : WW G I Q pc L (.int i :: .ref a :: st) M k n := by
  intro p e s m args below meth c H locs ls C Y S V
  exact va_dald (ws := [(a, _)]) C.1 C.2.1 Y.2.1 (Y.1.one (by omega) (ent_d hk)) 0 3 rfl rfl hi hd (h p e s m args below meth c H locs ls C Y S V)
theorem r_iast {a : Nat} {i : Int32} {x : Int32} (hd : decode (mB I) pc = .ok (.iastore, 1)) (hk : kd M a = 20) (hi : vp_in i (ln M a)) (h : WW G I Q (pc + 1) L st (sI M a i.toNatClampNeg (x)) k n) : WW G I Q pc L (.int x :: .int i :: .ref a :: st) M k n := by
  intro p e s m args below meth c H locs ls C Y S V
  have hP := Y.1.one (G := G) (by omega) (ent_i (cy := gy G) hk) 0 _ rfl
  refine W.iast C.1 C.2.1 hP ((Y.2.1.2 0 _ rfl).1 (ln M a) (fun j => .int (mi M a j))) (fun q => by cases q) (by show ¬ (i < 0 ∨ (arrV _ _ _).slots.size ≤ _); rw [arrV_size]; exact hi) rfl rfl hd fun H1 e1 z oq => ?_
  refine h p e s m args below meth c H1 _ ls C (Y.up (by omega) z rfl rfl (ent_i hk) up_sI ?_ oq) (S.put z oq (show gA G a from Y.1.ge (a := a) (by omega))) V
  show H1[a]? = some (vp_cell _ _)
  rw [e1]
  rw [vp_cell_i, vp_cell_i, arrV_store]
  congr 2
  funext q
  show updV (fun j => Value.int (mi M a j)) i.toNatClampNeg _ q = .int ((mi (sI M a i.toNatClampNeg (x))) a q)
  rw [show mi (sI M a i.toNatClampNeg (x)) a = va_up (mi M a) i.toNatClampNeg (x) from u2_s _ _ _ _]
  by_cases hq : q = i.toNatClampNeg
  · subst hq
    simp [updV, va_up, vp_nar]
    try rfl
  · simp [updV, va_up, hq]
theorem r_cast {a : Nat} {i : Int32} {x : Int32} (hd : decode (mB I) pc = .ok (.castore, 1)) (hk : kd M a = 21) (hi : vp_in i (ln M a)) (h : WW G I Q (pc + 1) L st (sI M a i.toNatClampNeg (vp_nar .char x)) k n) : WW G I Q pc L (.int x :: .int i :: .ref a :: st) M k n := by
  intro p e s m args below meth c H locs ls C Y S V
  have hP := Y.1.one (G := G) (by omega) (ent_c (cy := gy G) hk) 0 _ rfl
  refine W.cast C.1 C.2.1 hP ((Y.2.1.2 1 _ rfl).1 (ln M a) (fun j => .int (mi M a j))) (fun q => by cases q) (by show ¬ (i < 0 ∨ (arrV _ _ _).slots.size ≤ _); rw [arrV_size]; exact hi) rfl rfl hd fun H1 e1 z oq => ?_
  refine h p e s m args below meth c H1 _ ls C (Y.up (by omega) z rfl rfl (ent_c hk) up_sI ?_ oq) (S.put z oq (show gA G a from Y.1.ge (a := a) (by omega))) V
  show H1[a]? = some (vp_cell _ _)
  rw [e1]
  rw [vp_cell_i, vp_cell_i, arrV_store]
  congr 2
  funext q
  show updV (fun j => Value.int (mi M a j)) i.toNatClampNeg _ q = .int ((mi (sI M a i.toNatClampNeg (vp_nar .char x))) a q)
  rw [show mi (sI M a i.toNatClampNeg (vp_nar .char x)) a = va_up (mi M a) i.toNatClampNeg (vp_nar .char x) from u2_s _ _ _ _]
  by_cases hq : q = i.toNatClampNeg
  · subst hq
    simp [updV, va_up, vp_nar]
    try rfl
  · simp [updV, va_up, hq]
theorem r_last {a : Nat} {i : Int32} {x : Int64} (hd : decode (mB I) pc = .ok (.lastore, 1)) (hk : kd M a = 22) (hi : vp_in i (ln M a)) (h : WW G I Q (pc + 1) L st (sJ M a i.toNatClampNeg (x)) k n) : WW G I Q pc L (.long x :: .int i :: .ref a :: st) M k n := by
  intro p e s m args below meth c H locs ls C Y S V
  have hP := Y.1.one (G := G) (by omega) (ent_j (cy := gy G) hk) 0 _ rfl
  refine W.last C.1 C.2.1 hP ((Y.2.1.2 2 _ rfl).1 (ln M a) (fun j => .long (mj M a j))) (fun q => by cases q) (by show ¬ (i < 0 ∨ (arrV _ _ _).slots.size ≤ _); rw [arrV_size]; exact hi) rfl rfl hd fun H1 e1 z oq => ?_
  refine h p e s m args below meth c H1 _ ls C (Y.up (by omega) z rfl rfl (ent_j hk) up_sJ ?_ oq) (S.put z oq (show gA G a from Y.1.ge (a := a) (by omega))) V
  show H1[a]? = some (vp_cell _ _)
  rw [e1]
  rw [vp_cell_l, vp_cell_l, arrV_store]
  congr 2
  funext q
  show updV (fun j => Value.long (mj M a j)) i.toNatClampNeg _ q = .long ((mj (sJ M a i.toNatClampNeg (x))) a q)
  rw [show mj (sJ M a i.toNatClampNeg (x)) a = va_up (mj M a) i.toNatClampNeg (x) from u2_s _ _ _ _]
  by_cases hq : q = i.toNatClampNeg
  · subst hq
    simp [updV, va_up, vp_nar]
    try rfl
  · simp [updV, va_up, hq]
theorem r_dast {a : Nat} {i : Int32} {x : UInt64} (hd : decode (mB I) pc = .ok (.dastore, 1)) (hk : kd M a = 23) (hi : vp_in i (ln M a)) (h : WW G I Q (pc + 1) L st (sD M a i.toNatClampNeg (x)) k n) : WW G I Q pc L (.double x :: .int i :: .ref a :: st) M k n := by
  intro p e s m args below meth c H locs ls C Y S V
  have hP := Y.1.one (G := G) (by omega) (ent_d (cy := gy G) hk) 0 _ rfl
  refine W.dast C.1 C.2.1 hP ((Y.2.1.2 3 _ rfl).1 (ln M a) (fun j => .double (md M a j))) (fun q => by cases q) (by show ¬ (i < 0 ∨ (arrV _ _ _).slots.size ≤ _); rw [arrV_size]; exact hi) rfl rfl hd fun H1 e1 z oq => ?_
  refine h p e s m args below meth c H1 _ ls C (Y.up (by omega) z rfl rfl (ent_d hk) up_sD ?_ oq) (S.put z oq (show gA G a from Y.1.ge (a := a) (by omega))) V
  show H1[a]? = some (vp_cell _ _)
  rw [e1]
  rw [vp_cell_d, vp_cell_d, arrV_store]
  congr 2
  funext q
  show updV (fun j => Value.double (md M a j)) i.toNatClampNeg _ q = .double ((md (sD M a i.toNatClampNeg (x))) a q)
  rw [show md (sD M a i.toNatClampNeg (x)) a = va_up (md M a) i.toNatClampNeg (x) from u2_s _ _ _ _]
  by_cases hq : q = i.toNatClampNeg
  · subst hq
    simp [updV, va_up, vp_nar]
    try rfl
  · simp [updV, va_up, hq]
/-- rows of references: which class -/
def rqT : Nat → String × Nat := fun t => match t with
  | 0 => (RX1, 0)
  | 1 => (RX4, 3)
  | 2 => (RX5, 4)
  | _ => (RX6, 5)
theorem rq_ty (cy : Nat → ClassId) {t : Nat} (h : t < 4) : (ac_tys cy)[4 + t]? = some (cy (4 + t), .object (rqT t).1) := by
  match t, h with
  | 0, _ => rfl
  | 1, _ => rfl
  | 2, _ => rfl
  | 3, _ => rfl
theorem rq_cl {t : Nat} (h : t < 4) : ∃ r : vw_C, ac_cls[(rqT t).2]? = some r ∧ r.1 = (rqT t).1 := by
  match t, h with
  | 0, _ => exact ⟨_, rfl, rfl⟩
  | 1, _ => exact ⟨_, rfl, rfl⟩
  | 2, _ => exact ⟨_, rfl, rfl⟩
  | 3, _ => exact ⟨_, rfl, rfl⟩
theorem r_aald {a t : Nat} {i : Int32} {b : Option Nat} (hd : decode (mB I) pc = .ok (.aaload, 1)) (hk : kd M a = 30 + t) (ht : t < 4) (hi : vp_in i (ln M a)) (hb : mr M a i.toNatClampNeg = b) (h : WW G I Q (pc + 1) L (va_rf b :: st) M k n) : WW G I Q pc L (.int i :: .ref a :: st) M k n := by
  subst hb
  intro p e s m args below meth c H locs ls C Y S V
  exact va_aldq (ws := [(a, _)]) C.1 C.2.1 Y.2.1 (Y.1.one (by omega) (ent_q hk)) 0 (4 + t) rfl (rq_ty _ ht) hi hd (h p e s m args below meth c H locs ls C Y S V)
theorem r_aast {a t v : Nat} {i : Int32} (hd : decode (mB I) pc = .ok (.aastore, 1)) (hk : kd M a = 30 + t) (ht : t < 4) (hi : vp_in i (ln M a)) (hv : kd M v = (rqT t).2 + 1) (h : WW G I Q (pc + 1) L st (sR M a i.toNatClampNeg (some v)) k n) : WW G I Q pc L (.ref v :: .int i :: .ref a :: st) M k n := by
  intro p e s m args below meth c H locs ls C Y S V
  have hP := Y.1.one (G := G) (by omega) (ent_q (cy := gy G) hk) 0 _ rfl
  obtain ⟨r, hc, hrn⟩ := rq_cl ht
  obtain ⟨-, -, -, hci⟩ := ac_ok (C := r.1) (T := r.2.1) (N := r.2.2) hc
  obtain ⟨r', hr', cellV, g1, g2, g3, -⟩ := Y.1.one (G := G) (by omega) (ent_o (cy := gy G) hv hci) 0 _ rfl
  have hK := Y.2.1
  have hlt : i.toNatClampNeg < ln M a := Nat.not_le.mp fun q => hi (Or.inr q)
  have h0 : ¬ i < 0 := fun q => hi (Or.inl q)
  have hcls := (hK.1 _ r hc).2
  obtain ⟨kA, comp, k1, k2, k3, -⟩ := (hK.2 (4 + t) _ (rq_ty _ ht)).2
  rw [← hrn] at k3
  have hcomp : comp = (gD G).1 (rqT t).2 := Option.some.inj (k3.symm.trans hcls.1)
  subst hcomp
  obtain ⟨kC, hkC, -⟩ := hcls.2
  refine W.aast C.1 C.2.1 hP (fun q h => by cases h) (fun h => by cases h) k1 k2 rfl hkC ⟨h0, by show _ < (arrV _ _ _).slots.size; rw [arrV_size]; exact hlt⟩ g1 (fun q h => by rw [g3] at h; cases h) (by rw [g2]; exact hkC) (by rw [g2]; exact va_assign hcls) rfl rfl hd fun H1 e1 z oq => ?_
  refine h p e s m args below meth c H1 _ ls C (Y.up (by omega) z rfl rfl (ent_q hk) up_sR ?_ oq) (S.put z oq (show gA G a from Y.1.ge (a := a) (by omega))) V
  show H1[a]? = some (vp_cell _ _)
  rw [e1]
  rw [vp_cell_q, vp_cell_q, arrV_store]
  congr 2
  funext q
  show updV (fun j => va_rf (mr M a j)) i.toNatClampNeg _ q = va_rf ((mr (sR M a i.toNatClampNeg (some v))) a q)
  rw [show mr (sR M a i.toNatClampNeg (some v)) a = va_up (mr M a) i.toNatClampNeg (some v) from u2_s _ _ _ _]
  by_cases hq : q = i.toNatClampNeg
  · subst hq
    simp [updV, va_up, va_rf]
  · simp [updV, va_up, hq]
/-! the script -/
theorem r_slen (hd : decode (mB I) pc = .ok (.arraylength, 1)) (h : WW G I Q (pc + 1) L (.int (nI (gs G).2.1) :: st) M k n) : WW G I Q pc L (.ref (gs G).1 :: st) M k n := by
  intro p e s m args below meth c H locs ls C Y S V
  have hE := C.2.2.2.2.2.2.2.2.2.2
  exact va_slen C.1 C.2.1 hE.2.2.1 (Nat.lt_of_lt_of_le hE.2.1 hE.1) (Nat.not_le.mpr hE.2.1) S hd (h p e s m args below meth c H locs ls C Y S V)
theorem r_sld {i : Int32} (hd : decode (mB I) pc = .ok (.iaload, 1)) (hi : vp_in i (gs G).2.1) (h : WW G I Q (pc + 1) L (.int ((gs G).2.2 i.toNatClampNeg) :: st) M k n) : WW G I Q pc L (.int i :: .ref (gs G).1 :: st) M k n := by
  intro p e s m args below meth c H locs ls C Y S V
  have hE := C.2.2.2.2.2.2.2.2.2.2
  exact va_sld C.1 C.2.1 hE.2.2.1 (Nat.lt_of_lt_of_le hE.2.1 hE.1) (Nat.not_le.mpr hE.2.1) S hi hd (h p e s m args below meth c H locs ls C Y S V)
end ROWS
end
section
/-! CALLS, NEW THINGS, ENDS, THROWS -/
section CALLS
variable {G : GG} {I : MI} {Q : QQ} {pc : Nat} {L st : List Value} {M : Mm} {k n : Nat}
def qi (P : Int32 → Mm → Prop) (X : String → Mm → Prop) : QQ := (fun v M => ∃ x : Int32, v = some (.int x) ∧ P x M, X)
def qv (P : Mm → Prop) (X : String → Mm → Prop) : QQ := (fun v M => v = none ∧ P M, X)
def qr (P : Option Nat → Mm → Prop) (X : String → Mm → Prop) : QQ := (fun v M => ∃ r : Option Nat, v = some (va_rf r) ∧ P r M, X)
def qd (P : UInt64 → Mm → Prop) (X : String → Mm → Prop) : QQ := (fun v M => ∃ x : UInt64, v = some (.double x) ∧ P x M, X)
def qf (P : UInt32 → Mm → Prop) (X : String → Mm → Prop) : QQ := (fun v M => ∃ x : UInt32, v = some (.float x) ∧ P x M, X)
def nox : String → Mm → Prop := fun _ _ => False
/-- a method called on an object of its own class -/
def MVw (y : MethodName) (b : ByteArray) (l : Nat) (r : Option FieldType) (a : Nat) : Prop := Cond.instanceMethod y ∈ lwG ∧ Cond.selects y.cls y y ∈ lwG ∧ Cond.initialized y.cls ∈ lwG ∧ Cond.code y b l r ∈ lwG ∧ y.cls ≠ "java/lang/invoke/MethodHandle" ∧ y.cls ≠ "java/lang/invoke/VarHandle" ∧ (parseMethodDescriptor y.desc).map (fun d => d.parameters.length) = some a
/-- a static method, without handlers -/
def MSw (y : MethodName) (b : ByteArray) (l : Nat) (r : Option FieldType) (a : Nat) : Prop := Cond.static y ∈ lwG ∧ Cond.initialized y.cls ∈ lwG ∧ Cond.code y b l r ∈ lwG ∧ y.cls ≠ "java/lang/invoke/MethodHandle" ∧ y.cls ≠ "java/lang/invoke/VarHandle" ∧ (parseMethodDescriptor y.desc).map (fun d => d.parameters.length) = some a
/-- a constructor, called plainly -/
def MIw (y : MethodName) (b : ByteArray) (l : Nat) (a : Nat) : Prop := y.name = "<init>" ∧ Cond.instanceMethod y ∈ lwG ∧ Cond.initialized y.cls ∈ lwG ∧ Cond.code y b l none ∈ lwG ∧ y.cls ≠ "java/lang/invoke/MethodHandle" ∧ y.cls ≠ "java/lang/invoke/VarHandle" ∧ (parseMethodDescriptor y.desc).map (fun d => d.parameters.length) = some a
/-- a method y that x names, on an object of the class C, declared by owner -/
def MUw (own : String) (idx : Nat) (C owner : String) (x y : MethodName) (b : ByteArray) (l : Nat) (r : Option FieldType) (a : Nat) : Prop := Cond.methodLink own idx x ∈ lwG ∧ Cond.sameMethod x.cls owner x.name x.desc ∈ lwG ∧ Cond.selects C x y ∈ lwG ∧ Cond.instanceMethod y ∈ lwG ∧ Cond.initialized y.cls ∈ lwG ∧ Cond.code y b l r ∈ lwG ∧ y = ⟨owner, x.name, x.desc⟩ ∧ owner ≠ "java/lang/invoke/MethodHandle" ∧ owner ≠ "java/lang/invoke/VarHandle" ∧ (parseMethodDescriptor x.desc).map (fun d => d.parameters.length) = some a
theorem wsI_eq {I : MI} (h : (mH I).isEmpty = true) : wsI I = Cond.code (mY I) (mB I) (mL I) (mT I) :: lwG := by unfold wsI; rw [if_pos h]
theorem wsI_in {I : MI} (h : (mH I).isEmpty = true) (hc : Cond.code (mY I) (mB I) (mL I) (mT I) ∈ lwG) : ∀ w ∈ wsI I, w ∈ lwG := by
  rw [wsI_eq h]
  intro w hw
  rcases List.mem_cons.mp hw with rfl | hw
  · exact hc
  · exact hw
theorem Cx.tab {p : Program} {s : State} {m : MethodId} {args : Array Value} {meth : Method} {c : Code} (C : Cx G I p s m args meth c) (h : (mH I).isEmpty = true) : ∀ x ∈ c.exceptionTable.toList, False := by
  intro x hx
  rw [C.2.2.2.2.2.2.2.2.1, List.isEmpty_iff.mp h] at hx
  cases hx
/-- behind a call -/
theorem ww_run {p : Program} {e : Env} {s : State} {m : MethodId} {args : Array Value} {below : List Frame} {meth : Method} {c : Code} {H : Heap} {locs : List Loc} {ls : Array Slot} {mc ms : Nat} {a : Array Value} {st0 rest : List Value} {Q' : QQ} (C : Cx G I p s m args meth c) (S : va_S (gA G) s.heap H locs) (V : lv_has ls (mL I) (lz 0 L))
    (hr : vx_Run p (gl G) e (mR I) s m args below meth c H locs k n mc ms (F0 m pc ls st0) rest (qN G Q' a) (qX G Q') (gA G)) (hh : (mH I).isEmpty = true) (hf : k + mc ≤ (mR I).cells ∧ n + ms ≤ (mR I).slots)
    (hn : ∀ v M', Q'.1 v M' → WW G I Q (pc + 3) L (v.toList ++ rest) M' (k + mc) (n + ms)) (hx : ∀ E M', Q'.2 E M' → Q.2 E M') :
    W p (gl G) e (mR I) s m args below meth c H locs k n (vx_MQ below (qN G Q) (qX G Q) args s (mR I).cells (mR I).slots (gA G)) (F0 m pc ls st0) := by
  intro T hT X
  rcases hr T hT X with ⟨v, st₀, t, T', L1, h0, X', hL1, e1, e2, ⟨⟨v', M', hv, hq, hw⟩, hF⟩, st⟩ | ⟨q, st₀, t, T', L1, E, ce, h0, X', hL1, e1, e2, ⟨⟨M', hq, hw⟩, hF⟩, hce, hcv, hcl, st⟩
  · cases hv
    obtain ⟨k1, k2, k3⟩ := vx_keep h0 e1 S (fun _ _ h => h) (fun _ h => h) hL1 hF
    have hal : s.vm.Alike t.vm := by rw [← e2]; exact X'.warmed.alike
    have Y' : Wd G M' s T'.heap := by rw [e1]; exact hw.moved hal.symm
    obtain ⟨t2, a1, b1⟩ := hn v M' hq p e s m args below meth c T'.heap (locs ++ L1) ls C Y' k3 V T' rfl X'
    exact ⟨t2, st t2 a1, b1⟩
  · obtain ⟨k1, k2, k3⟩ := vx_keep h0 e1 S (fun _ _ h => h) (fun _ h => h) hL1 hF
    have hal : s.vm.Alike t.vm := by rw [← e2]; exact X'.warmed.alike
    have Y' : Wd G M' s T'.heap := by rw [e1]; exact hw.moved hal.symm
    have w1 : vx_W p (gl G) e (mR I) s m args below meth c T'.heap (locs ++ L1) (k + mc) (n + ms) (vx_MQ below (qN G Q) (qX G Q) args s (mR I).cells (mR I).slots (gA G)) (F0 m pc ls rest) q := by
      refine vx_out (E := E) (ce := ce) (fun x hx => (C.tab hh x hx).elim) C.2.2.2.2.2.2.1 (by rw [e1]; exact hce) hcv hcl (fun t9 ht9 hal9 => ⟨⟨M', hx E M' hq, ?_⟩, k3.F ht9⟩) (fun z hz => k3.2.2 z hz) hf.1 hf.2
      rw [ht9]
      exact Y'.moved hal9
    obtain ⟨t2, a1, b1⟩ := w1 T' rfl X'
    exact ⟨t2, st.trans a1, b1⟩
/-- a plain call's run, as one that may throw -/
theorem run_x {p : Program} {e : Env} {s : State} {m : MethodId} {args : Array Value} {below : List Frame} {meth : Method} {c : Code} {H : Heap} {locs : List Loc} {mc ms : Nat} {g : JFrame} {rest : List Value} {Qa : State → Outcome → State → Prop} {XC : String → State → State → Prop} {free : Addr → Prop} {l : Launch} {R : Room} (h : va_Run p l e R s m args below meth c H locs k n mc ms g rest Qa free) : vx_Run p l e R s m args below meth c H locs k n mc ms g rest Qa XC free :=
  fun T hT X => Or.inl (h T hT X)
theorem Cx.recv {s : State} {H : Heap} (Y : Wd G M s H) {b ci : Nat} {Cn : String} (hk : kd M b = ci + 1) (hc : (ac_cls[ci]?.map fun q => q.1) = some Cn) : ∃ cell : Cell, H[b]? = some cell ∧ cell.vm.isStatics = false ∧ s.vm.findClass Cn = some cell.cls := by
  cases hq : ac_cls[ci]? with
  | none => rw [hq] at hc; cases hc
  | some q =>
    rw [hq] at hc
    have hc : q.1 = Cn := Option.some.inj hc
    subst hc
    obtain ⟨-, -, -, hci⟩ := ac_ok (C := q.1) (T := q.2.1) (N := q.2.2) hq
    exact va_recv Y.2.1 (Y.1.one (by omega) (ent_o hk hci)) hq (q0 := 0) rfl
theorem r_callV {idx b ci : Nat} {I' : MI} {as stk : List Value} {Q' : QQ} (hd : decode (mB I) pc = .ok (.invokevirtual idx, 3)) (hw : MVw (mY I') (mB I') (mL I') (mT I') as.length) (hl : Cond.methodLink (mY I).cls idx (mY I') ∈ lwG) (he : (mH I').isEmpty = true) (hh : (mH I).isEmpty = true) (hk : kd M b = ci + 1) (hc : (ac_cls[ci]?.map fun q => q.1) = some (mY I').cls) (hst : stk = as.reverse ++ .ref b :: st) (hcat : (st.map fun v => v.category).sum ≤ 8) (hR : (mR I').frames + 1 ≤ (mR I).frames ∧ 8 + (mL I' + 11) + (mR I').locals ≤ (mR I).locals) (hf : k + (mR I').cells ≤ (mR I).cells ∧ n + (mR I').slots ≤ (mR I).slots) (hK : KK G I' (.ref b :: as) M Q')
    (hx : ∀ E M', Q'.2 E M' → Q.2 E M') (hn : ∀ v M', Q'.1 v M' → WW G I Q (pc + 3) L (v.toList ++ st) M' (k + (mR I').cells) (n + (mR I').slots)) : WW G I Q pc L stk M k n := by
  subst hst
  intro p e s m args below meth c H locs ls C Y S V
  obtain ⟨w1, w2, w3, w4, w5, w6, w7⟩ := hw
  have hts := C.2.2.2.2.1
  refine ww_run C S V (vx_runV (As := as) (rest := st) ⟨C.1, C.2.1, C.2.2.2.1, C.2.2.2.2.2.1, hts⟩ hK (cwV as.length hts (lwG_sub fun w hw => ?_) (wsI_eq he) rfl rfl ⟨rfl, w5, w6, w7⟩ hR) ⟨blindPc, Cx.recv Y hk hc, fun U hU hW => ⟨rfl, by rw [hU]; exact Y.moved hW.alike, C.2.2.2.2.2.2.2.2.2.1.warm hW⟩⟩ rfl rfl V.1 rfl (lv_room hcat) hd hf) hh hf hn hx
  rcases List.mem_append.mp hw with h | h
  · simp only [List.mem_cons, List.not_mem_nil, or_false] at h
    rcases h with rfl | rfl | rfl | rfl
    · exact hl
    · exact w1
    · exact w2
    · exact w3
  · exact wsI_in he w4 w h
theorem r_callS {idx : Nat} {I' : MI} {as stk : List Value} {Q' : QQ} (hd : decode (mB I) pc = .ok (.invokestatic idx, 3)) (hw : MSw (mY I') (mB I') (mL I') (mT I') as.length) (hl : Cond.methodLink (mY I).cls idx (mY I') ∈ lwG) (he : (mH I').isEmpty = true) (hh : (mH I).isEmpty = true) (hst : stk = as.reverse ++ st) (hcat : (st.map fun v => v.category).sum ≤ 8) (hR : (mR I').frames + 1 ≤ (mR I).frames ∧ 8 + (mL I' + 11) + (mR I').locals ≤ (mR I).locals) (hf : k + (mR I').cells ≤ (mR I).cells ∧ n + (mR I').slots ≤ (mR I).slots) (hK : KK G I' as M Q')
    (hx : ∀ E M', Q'.2 E M' → Q.2 E M') (hn : ∀ v M', Q'.1 v M' → WW G I Q (pc + 3) L (v.toList ++ st) M' (k + (mR I').cells) (n + (mR I').slots)) : WW G I Q pc L stk M k n := by
  subst hst
  intro p e s m args below meth c H locs ls C Y S V
  obtain ⟨w1, w3, w4, w5, w6, w7⟩ := hw
  have hts := C.2.2.2.2.1
  have cb : CallB (mR I) s args (mY I).cls idx (mY I') (mB I') (mL I') (mT I') (wsI I') (mR I') (mR I').cells (mR I').slots as.length := callB_of as.length hts (lwG_sub (wsI_in he w4)) (wsI_eq he) rfl rfl (hts _ w3) (hts _ hl) ⟨w5, w6, w7⟩ hR
  exact ww_run C S V (vx_runS (As := as) (rest := st) ⟨C.1, C.2.1, C.2.2.2.1, C.2.2.2.2.2.1, hts⟩ hK ⟨cb, hts _ w1⟩ ⟨blindPc, fun U hU hW => ⟨rfl, by rw [hU]; exact Y.moved hW.alike, C.2.2.2.2.2.2.2.2.2.1.warm hW⟩⟩ rfl rfl V.1 rfl (lv_room hcat) hd hf) hh hf hn hx
/-- a constructor of another class, whose place the tables name -/
theorem r_callI {idx b : Nat} {I' : MI} {as stk : List Value} {Q' : QQ} (hd : decode (mB I) pc = .ok (.invokespecial idx, 3)) (hw : MIw (mY I') (mB I') (mL I') as.length) (ht : mT I' = none) (hl : Cond.methodLink (mY I).cls idx (mY I') ∈ lwG) (he : (mH I').isEmpty = true) (hh : (mH I).isEmpty = true) (hst : stk = as.reverse ++ .ref b :: st) (hcat : (st.map fun v => v.category).sum ≤ 8) (hR : (mR I').frames + 1 ≤ (mR I).frames ∧ 8 + (mL I' + 11) + (mR I').locals ≤ (mR I).locals) (hf : k + (mR I').cells ≤ (mR I).cells ∧ n + (mR I').slots ≤ (mR I).slots) (hK : KK G I' (.ref b :: as) M Q') (hno : ∀ E M', ¬ Q'.2 E M')
    (hn : ∀ v M', Q'.1 v M' → WW G I Q (pc + 3) L (v.toList ++ st) M' (k + (mR I').cells) (n + (mR I').slots)) : WW G I Q pc L stk M k n := by
  subst hst
  intro p e s m args below meth c H locs ls C Y S V
  obtain ⟨w0, w1, w3, w4, w5, w6, w7⟩ := hw
  have hts := C.2.2.2.2.1
  have hw9 : wsI I' = Cond.code (mY I') (mB I') (mL I') none :: lwG := by rw [wsI_eq he, ht]
  exact ww_run C S V (run_x (va_runI (As := as) (rest := st) ⟨C.1, C.2.1, C.2.2.2.1, C.2.2.2.2.2.1, hts⟩ (hK.met hno) (cwI as.length hts (lwG_sub (wsI_in he (by rw [ht]; exact w4))) hw9 rfl rfl (hts _ w3) (hts _ hl) (hts _ w1) w0 ⟨w5, w6, w7⟩ hR) ⟨blindPc, fun U hU hW => ⟨rfl, by rw [hU]; exact Y.moved hW.alike, C.2.2.2.2.2.2.2.2.2.1.warm hW⟩⟩ rfl rfl V.1 rfl (lv_room hcat) hd hf)) hh hf hn (fun E M' h => absurd h (hno E M'))
/-- a nest mate's private constructor -/
theorem r_callIN {idx b : Nat} {I' : MI} {as stk : List Value} {Q' : QQ} (hd : decode (mB I) pc = .ok (.invokespecial idx, 3)) (hw : MIw (mY I') (mB I') (mL I') as.length) (ht : mT I' = none) (hl : ((mY I).cls, idx, mY I') ∈ nw_tab) (he : (mH I').isEmpty = true) (hh : (mH I).isEmpty = true) (hst : stk = as.reverse ++ .ref b :: st) (hcat : (st.map fun v => v.category).sum ≤ 8) (hR : (mR I').frames + 1 ≤ (mR I).frames ∧ 8 + (mL I' + 11) + (mR I').locals ≤ (mR I).locals) (hf : k + (mR I').cells ≤ (mR I).cells ∧ n + (mR I').slots ≤ (mR I).slots) (hK : KK G I' (.ref b :: as) M Q') (hno : ∀ E M', ¬ Q'.2 E M')
    (hn : ∀ v M', Q'.1 v M' → WW G I Q (pc + 3) L (v.toList ++ st) M' (k + (mR I').cells) (n + (mR I').slots)) : WW G I Q pc L stk M k n := by
  subst hst
  intro p e s m args below meth c H locs ls C Y S V
  obtain ⟨w0, w1, w3, w4, w5, w6, w7⟩ := hw
  have hts := C.2.2.2.2.1
  have hw9 : wsI I' = Cond.code (mY I') (mB I') (mL I') none :: lwG := by rw [wsI_eq he, ht]
  have hnw := C.2.2.2.2.2.2.2.2.2.1.2.2.2.2.2.2.2.1 _ hl
  exact ww_run C S V (run_x (va_runIN (As := as) (rest := st) ⟨C.1, C.2.1, C.2.2.2.1, C.2.2.2.2.2.1, hts⟩ (hK.met hno) ⟨va_cnB as.length hts (lwG_sub (wsI_in he (by rw [ht]; exact w4))) hw9 rfl rfl hnw (hts _ w3) ⟨w5, w6, w7⟩ hR, w0, hts _ w1⟩ ⟨blindPc, fun U hU hW => ⟨rfl, by rw [hU]; exact Y.moved hW.alike, C.2.2.2.2.2.2.2.2.2.1.warm hW⟩⟩ rfl rfl V.1 rfl (lv_room hcat) hd hf)) hh hf hn (fun E M' h => absurd h (hno E M'))
/-- a method that the object's class inherits -/
theorem r_callU {idx b ci : Nat} {I' : MI} {Cn owner : String} {x : MethodName} {as stk : List Value} {Q' : QQ} (hd : decode (mB I) pc = .ok (.invokevirtual idx, 3)) (hw : MUw (mY I).cls idx Cn owner x (mY I') (mB I') (mL I') (mT I') as.length) (he : (mH I').isEmpty = true) (hh : (mH I).isEmpty = true) (hk : kd M b = ci + 1) (hc : (ac_cls[ci]?.map fun q => q.1) = some Cn) (hst : stk = as.reverse ++ .ref b :: st) (hcat : (st.map fun v => v.category).sum ≤ 8) (hR : (mR I').frames + 1 ≤ (mR I).frames ∧ 8 + (mL I' + 11) + (mR I').locals ≤ (mR I).locals) (hf : k + (mR I').cells ≤ (mR I).cells ∧ n + (mR I').slots ≤ (mR I).slots) (hK : KK G I' (.ref b :: as) M Q') (hno : ∀ E M', ¬ Q'.2 E M')
    (hn : ∀ v M', Q'.1 v M' → WW G I Q (pc + 3) L (v.toList ++ st) M' (k + (mR I').cells) (n + (mR I').slots)) : WW G I Q pc L stk M k n := by
  subst hst
  intro p e s m args below meth c H locs ls C Y S V
  obtain ⟨w1, w2, w3, w4, w5, w6, w7, w8, w9, w10⟩ := hw
  have hts := C.2.2.2.2.1
  refine ww_run C S V (run_x (va_runU (As := as) (rest := st) (C := Cn) ⟨C.1, C.2.1, C.2.2.2.1, C.2.2.2.2.2.1, hts⟩ (hK.met hno) (va_cwU (C := Cn) (owner := owner) (x := x) as.length hts (lwG_sub fun w hw => ?_) (wsI_eq he) rfl rfl w7 ⟨w8, w9, w10⟩ hR) ⟨blindPc, Cx.recv Y hk hc, fun U hU hW => ⟨rfl, by rw [hU]; exact Y.moved hW.alike, C.2.2.2.2.2.2.2.2.2.1.warm hW⟩⟩ rfl rfl V.1 rfl (lv_room hcat) hd hf)) hh hf hn (fun E M' h => absurd h (hno E M'))
  rcases List.mem_append.mp hw with h | h
  · simp only [List.mem_cons, List.not_mem_nil, or_false] at h
    rcases h with rfl | rfl | rfl | rfl | rfl
    · exact w1
    · exact w2
    · exact w3
    · exact w4
    · exact w5
  · exact wsI_in he w6 w h
/-- Object's constructor -/
theorem r_obj {idx a : Nat} (hd : decode (mB I) pc = .ok (.invokespecial idx, 3)) (hl : Cond.methodLink (mY I).cls idx objectInit ∈ lwG) (hi : Cond.instanceMethod objectInit ∈ lwG) (ho : Cond.code objectInit ⟨#[0xb1]⟩ 1 none ∈ lwG) (hf : 1 ≤ (mR I).frames) (hlo : (st.map fun v => v.category).sum + 12 ≤ (mR I).locals) (h : WW G I Q (pc + 3) L st M k n) : WW G I Q pc L (.ref a :: st) M k n := by
  intro p e s m args below meth c H locs ls C Y S V
  have hts := C.2.2.2.2.1
  refine W.objInit C.1 C.2.1 C.2.2.2.2.2.1 (hts _ hl) (hts _ hi) (hts _ ho) rfl (V.1.trans C.2.2.2.1.symm) rfl hd hf ?_ (h p e s m args below meth c H locs ls C Y S V)
  show 2 * 0 + _ + 12 ≤ _
  omega
/-! new things -/
def NW (own : String) (idx ci : Nat) : Prop := ∃ (Cn : String) (T : u_T) (N : Nat), ac_cls[ci]? = some (Cn, T, N) ∧ (∀ w ∈ u_ws Cn T N, w ∈ lwG) ∧ Cond.classLink own idx Cn ∈ lwG ∧ Cond.instantiable Cn N ∈ lwG ∧ Cond.initialized Cn ∈ lwG
theorem Pm.push {H H1 : Heap} {kk ll : Nat} (h : Pm G M H) (hg : gb G ≤ H.size) (hz : H1.size = H.size + 1) (o1 : ∀ q, q < H.size → H1[q]? = H[q]?) (hat : va_at (gD G) ac_cls (H.size, ent (gy G) (sN M kk ll) (nx M)) H1) : Pm G (sN M kk ll) H1 := by
  obtain ⟨hz0, L0, hL, hP, hD⟩ := h
  have hfr : H.size ∉ L0 := va_pl_fresh (X := []) hP (Nat.le_refl _)
  have hP1 : va_P (gD G) ac_cls (va_pl L0 (ent (gy G) M) ++ [(H.size, ent (gy G) (sN M kk ll) (nx M))]) H1 := by
    refine (hP.kept (fun j q hj => o1 q.1 ((hP j q hj).lt))).app (fun j q hj => ?_)
    have hj1 : j < 1 := (List.getElem?_eq_some_iff.mp hj).1
    rw [show j = 0 by omega] at hj
    cases hj
    exact hat
  have hD1 := va_D.push (e := ent (gy G) (sN M kk ll) (nx M)) hD hP rfl (show gA G H.size from hg)
  have h3 : va_pl L0 (ent (gy G) M) ++ [(H.size, ent (gy G) (sN M kk ll) (nx M))] = va_pl (L0 ++ [H.size]) (ent (gy G) (sN M kk ll)) := by
    rw [va_pl_push hfr]
    refine va_pl_congr (ent_up (by rw [hz0]) (fun b hb => up_sN b (by rw [← hz0]; exact hb)))
  rw [h3] at hP1 hD1
  refine ⟨by rw [hz, hz0]; rfl, L0 ++ [H.size], fun b hb => ?_, hP1, hD1⟩
  by_cases hbn : b = nx M
  · rw [hbn, ← hz0]
    exact List.mem_append_right _ List.mem_cons_self
  · refine List.mem_append_left _ (hL b ?_)
    have h5 := (up_sN (M := M) (k := kk) (n := ll) b hbn).1
    rw [h5]
    exact hb
theorem Wd.push {s : State} {H H1 : Heap} {kk ll : Nat} (h : Wd G M s H) (hz : H1.size = H.size + 1) (o1 : ∀ q, q < H.size → H1[q]? = H[q]?) (hat : va_at (gD G) ac_cls (H.size, ent (gy G) (sN M kk ll) (nx M)) H1) : Wd G (sN M kk ll) s H1 :=
  ⟨h.1.push h.2.2.1 hz o1 hat, h.2.1, h.2.2.kept (by omega) (fun q hq _ => o1 q hq)⟩
theorem sN_new (M : Mm) (a b : Nat) : kd (sN M a b) (nx M) = a ∧ ln (sN M a b) (nx M) = b ∧ mi (sN M a b) (nx M) = (fun _ => 0) ∧ mr (sN M a b) (nx M) = (fun _ => none) ∧ mj (sN M a b) (nx M) = (fun _ => 0) ∧ md (sN M a b) (nx M) = (fun _ => 0) :=
  ⟨va_up_self _ _ _, va_up_self _ _ _, va_up_self _ _ _, va_up_self _ _ _, va_up_self _ _ _, va_up_self _ _ _⟩
theorem va_S.push {A : Nat → Prop} {H0 H H1 : Heap} {locs : List Loc} (h : va_S A H0 H locs) (hz : H1.size = H.size + 1) (o1 : ∀ q, q < H.size → H1[q]? = H[q]?) : va_S A H0 H1 locs :=
  ⟨Nat.le_trans h.1 (by omega), fun x h1 h2 => (o1 x (Nat.lt_of_lt_of_le h1 h.1)).trans (h.2.1 x h1 h2), h.2.2⟩
theorem defI : ∀ ci, ci < 9 → ∀ j, j < nF ci → (refT (fTy ci j) = false → defaultValue (fTy ci j) = .int 0) := by decide +kernel
theorem defR {ci j : Nat} (h : refT (fTy ci j) = true) : defaultValue (fTy ci j) = .null := by
  cases hf : fTy ci j <;> rw [hf] at h <;> first | rfl | (exact absurd h (by decide))
theorem r_new {idx ci : Nat} (hd : decode (mB I) pc = .ok (.new idx, 3)) (hw : NW (mY I).cls idx ci) (hf : k + 1 ≤ (mR I).cells ∧ n + nF ci ≤ (mR I).slots) (h : WW G I Q (pc + 3) L (.ref (nx M) :: st) (sN M (ci + 1) 0) (k + 1) (n + nF ci)) : WW G I Q pc L st M k n := by
  intro p e s m args below meth c H locs ls C Y S V
  obtain ⟨Cn, T, N, h1, h2, h3, h4, h5⟩ := hw
  obtain ⟨hty, -, hN, hci⟩ := ac_ok h1
  subst hN
  have hts := C.2.2.2.2.1
  have hKn := Y.2.1.1 ci _ h1
  refine W.newcK C.1 C.2.1 C.2.2.2.2.2.1 (hts _ h3) (hts _ h4) (hts _ h5) rfl hd hf.1 hf.2 hKn.2.1 Y.1.1 fun H1 kC hkC e1 z1 o1 => ?_
  rw [← Y.1.1] at e1 z1 o1
  obtain ⟨s1, s2, s3, s4, -, -⟩ := sN_new M (ci + 1) 0
  refine h p e s m args below meth c H1 locs ls C (Y.push z1 o1 ?_) (S.push z1 o1) V
  rw [ent_o s1 hci]
  refine ⟨_, h1, (u_born (fTy ci) hts h2 hKn hkC e1 hty).to (fun j hj => ?_)⟩
  cases hr : refT (fTy ci j) with
  | false =>
    have h8 := flds_i (M := sN M (ci + 1) 0) (a := nx M) hj hr
    rw [s3] at h8
    show _ = (flds ci (sN M (ci + 1) 0) (nx M)).getD j .null
    rw [List.getD_eq_getElem?_getD, h8]
    exact defI ci hci j hj hr
  | true =>
    have h8 := flds_r (M := sN M (ci + 1) 0) (a := nx M) hj hr
    rw [s4] at h8
    show _ = (flds ci (sN M (ci + 1) 0) (nx M)).getD j .null
    rw [List.getD_eq_getElem?_getD, h8]
    exact defR hr
theorem r_newI {x : Int32} {N : Nat} (hd : decode (mB I) pc = .ok (.newarray .int, 2)) (ha : Cond.arrayClass .int ∈ lwG) (hx : ¬ x < 0) (hN : x.toNatClampNeg = N) (hb : N * 4 ≤ 536870912) (hf : k + 1 ≤ (mR I).cells ∧ n + N ≤ (mR I).slots) (h : WW G I Q (pc + 2) L (.ref (nx M) :: st) (sN M 20 N) (k + 1) (n + N)) : WW G I Q pc L (.int x :: st) M k n := by
  intro p e s m args below meth c H locs ls C Y S V
  refine va_newaK (atype := .int) C.1 C.2.1 (C.2.2.2.2.1 _ ha) rfl hd rfl hx hN hb hf.1 hf.2 Y.1.1 fun H1 cA e1 z1 o1 hAr hNm => ?_
  rw [← Y.1.1] at e1 z1 o1
  obtain ⟨s1, s2, s3, s4, -, -⟩ := sN_new M 20 N
  have hcA : cA = gy G 0 := Option.some.inj (hNm.symm.trans (Y.2.1.2 0 _ rfl).2)
  refine h p e s m args below meth c H1 locs ls C (Y.push z1 o1 ?_) (S.push z1 o1) V
  rw [ent_i s1, s2, s3, ← hcA]
  exact e1
theorem r_newC {x : Int32} {N : Nat} (hd : decode (mB I) pc = .ok (.newarray .char, 2)) (ha : Cond.arrayClass .char ∈ lwG) (hx : ¬ x < 0) (hN : x.toNatClampNeg = N) (hb : N * 2 ≤ 536870912) (hf : k + 1 ≤ (mR I).cells ∧ n + N ≤ (mR I).slots) (h : WW G I Q (pc + 2) L (.ref (nx M) :: st) (sN M 21 N) (k + 1) (n + N)) : WW G I Q pc L (.int x :: st) M k n := by
  intro p e s m args below meth c H locs ls C Y S V
  refine va_newaK (atype := .char) C.1 C.2.1 (C.2.2.2.2.1 _ ha) rfl hd rfl hx hN hb hf.1 hf.2 Y.1.1 fun H1 cA e1 z1 o1 hAr hNm => ?_
  rw [← Y.1.1] at e1 z1 o1
  obtain ⟨s1, s2, s3, s4, -, -⟩ := sN_new M 21 N
  have hcA : cA = gy G 1 := Option.some.inj (hNm.symm.trans (Y.2.1.2 1 _ rfl).2)
  refine h p e s m args below meth c H1 locs ls C (Y.push z1 o1 ?_) (S.push z1 o1) V
  rw [ent_c s1, s2, s3, ← hcA]
  exact e1
theorem r_newJ {x : Int32} {N : Nat} (hd : decode (mB I) pc = .ok (.newarray .long, 2)) (ha : Cond.arrayClass .long ∈ lwG) (hx : ¬ x < 0) (hN : x.toNatClampNeg = N) (hb : N * 8 ≤ 536870912) (hf : k + 1 ≤ (mR I).cells ∧ n + N ≤ (mR I).slots) (h : WW G I Q (pc + 2) L (.ref (nx M) :: st) (sN M 22 N) (k + 1) (n + N)) : WW G I Q pc L (.int x :: st) M k n := by
  intro p e s m args below meth c H locs ls C Y S V
  refine va_newaK (atype := .long) C.1 C.2.1 (C.2.2.2.2.1 _ ha) rfl hd rfl hx hN hb hf.1 hf.2 Y.1.1 fun H1 cA e1 z1 o1 hAr hNm => ?_
  rw [← Y.1.1] at e1 z1 o1
  obtain ⟨s1, s2, s3, s4, s5, -⟩ := sN_new M 22 N
  have hcA : cA = gy G 2 := Option.some.inj (hNm.symm.trans (Y.2.1.2 2 _ rfl).2)
  refine h p e s m args below meth c H1 locs ls C (Y.push z1 o1 ?_) (S.push z1 o1) V
  rw [ent_j s1, s2, s5, ← hcA]
  exact e1
theorem r_newD {x : Int32} {N : Nat} (hd : decode (mB I) pc = .ok (.newarray .double, 2)) (ha : Cond.arrayClass .double ∈ lwG) (hx : ¬ x < 0) (hN : x.toNatClampNeg = N) (hb : N * 8 ≤ 536870912) (hf : k + 1 ≤ (mR I).cells ∧ n + N ≤ (mR I).slots) (h : WW G I Q (pc + 2) L (.ref (nx M) :: st) (sN M 23 N) (k + 1) (n + N)) : WW G I Q pc L (.int x :: st) M k n := by
  intro p e s m args below meth c H locs ls C Y S V
  refine va_newaK (atype := .double) C.1 C.2.1 (C.2.2.2.2.1 _ ha) rfl hd rfl hx hN hb hf.1 hf.2 Y.1.1 fun H1 cA e1 z1 o1 hAr hNm => ?_
  rw [← Y.1.1] at e1 z1 o1
  obtain ⟨s1, s2, s3, s4, -, s6⟩ := sN_new M 23 N
  have hcA : cA = gy G 3 := Option.some.inj (hNm.symm.trans (Y.2.1.2 3 _ rfl).2)
  refine h p e s m args below meth c H1 locs ls C (Y.push z1 o1 ?_) (S.push z1 o1) V
  rw [ent_d s1, s2, s6, ← hcA]
  exact e1
theorem St.ao {U : State} (h : St G U) {t : Nat} (ht : t < 4) : va_AO (rqT t).1 U := by
  match t, ht with
  | 0, _ => exact h.2.2.2.1
  | 1, _ => exact h.2.2.2.2.1
  | 2, _ => exact h.2.2.2.2.2.1
  | 3, _ => exact h.2.2.2.2.2.2.1
theorem r_newQ {x : Int32} {N idx t : Nat} (hd : decode (mB I) pc = .ok (.anewarray idx, 3)) (ht : t < 4) (hl : Cond.classLink (mY I).cls idx (rqT t).1 ∈ lwG) (hx : ¬ x < 0) (hN : x.toNatClampNeg = N) (hb : N * 4 ≤ 536870912) (hf : k + 1 ≤ (mR I).cells ∧ n + N ≤ (mR I).slots) (h : WW G I Q (pc + 3) L (.ref (nx M) :: st) (sN M (30 + t) N) (k + 1) (n + N)) : WW G I Q pc L (.int x :: st) M k n := by
  intro p e s m args below meth c H locs ls C Y S V
  subst hN
  refine W.anew C.1 C.2.1 C.2.2.2.2.2.1 (C.2.2.2.2.1 _ hl) (va_AO.use (C.2.2.2.2.2.2.2.2.2.1.ao ht)) rfl hd rfl hx hb hf.1 hf.2 fun cA kA comp f1 f2 f3 f4 => ?_
  generalize hH1 : H.push ({ cls := cA, slots := Array.replicate x.toNatClampNeg .null, vm := .none } : Cell) = H1
  have z1 : H1.size = H.size + 1 := by rw [← hH1, Array.size_push]
  have e1 : H1[H.size]? = some (arrV cA x.toNatClampNeg (fun _ => .null)) := by rw [← hH1, Array.getElem?_push_size, ← arrV_new]
  have o1 : ∀ q : Nat, q < H.size → H1[q]? = H[q]? := fun q hq => by rw [← hH1, Array.getElem?_push, if_neg (Nat.ne_of_lt hq)]
  obtain ⟨s1, s2, s3, s4, -, -⟩ := sN_new M (30 + t) x.toNatClampNeg
  have hcA : cA = gy G (4 + t) := by
    obtain ⟨kA', comp', g1, g2, g3, g4⟩ := (Y.2.1.2 (4 + t) _ (rq_ty _ ht)).2
    exact Option.some.inj (f1.symm.trans g4)
  have hh := h p e s m args below meth c H1 locs ls C (Y.push z1 o1 (by rw [ent_q s1, s2, s4, ← hcA]; exact e1)) (S.push z1 o1) V
  rw [← Y.1.1] at hh
  exact hh
/-! ends -/
theorem r_ireturn {P : Int32 → Mm → Prop} {X : String → Mm → Prop} {x : Int32} {ty : FieldType} (hd : decode (mB I) pc = .ok (.ireturn, 1)) (ht : mT I = some ty) (hn : narrow ty (.int x) = .int x) (hf : k ≤ (mR I).cells ∧ n ≤ (mR I).slots) (h : P x M) : WW G I (qi P X) pc L [.int x] M k n := by
  intro p e s m args below meth c H locs ls C Y S V
  refine W.widen hf.1 hf.2 (vx_ret (W.zret C.1 C.2.1 (C.2.2.1.trans ht) hn (fun t hT hW => ⟨⟨_, M, rfl, ⟨x, rfl, h⟩, ?_⟩, S.F hT⟩) S.2.2 hd C.2.2.2.2.2.2.1))
  rw [hT]
  exact Y.moved hW.alike
theorem r_return {P : Mm → Prop} {X : String → Mm → Prop} (hd : decode (mB I) pc = .ok (.return_, 1)) (ht : mT I = none) (hf : k ≤ (mR I).cells ∧ n ≤ (mR I).slots) (h : P M) : WW G I (qv P X) pc L [] M k n := by
  intro p e s m args below meth c H locs ls C Y S V
  refine W.widen hf.1 hf.2 (vx_ret (W.vret C.1 C.2.1 (C.2.2.1.trans ht) (fun t hT hW => ⟨⟨_, M, rfl, ⟨rfl, h⟩, ?_⟩, S.F hT⟩) S.2.2 hd C.2.2.2.2.2.2.1))
  rw [hT]
  exact Y.moved hW.alike
theorem r_areturn {P : Option Nat → Mm → Prop} {X : String → Mm → Prop} {r : Option Nat} {v : Value} {rt : FieldType} (hd : decode (mB I) pc = .ok (.areturn, 1)) (ht : mT I = some rt) (hrt : (∃ c, rt = .object c) ∨ ∃ t, rt = .array t) (hv : v = va_rf r) (hf : k ≤ (mR I).cells ∧ n ≤ (mR I).slots) (h : P r M) : WW G I (qr P X) pc L [v] M k n := by
  subst hv
  intro p e s m args below meth c H locs ls C Y S V
  refine W.widen hf.1 hf.2 (vx_ret (W.aret C.1 C.2.1 (C.2.2.1.trans ht) hrt (by cases r; exact Or.inl rfl; exact Or.inr ⟨_, rfl⟩) (fun t hT hW => ⟨⟨_, M, rfl, ⟨r, rfl, h⟩, ?_⟩, S.F hT⟩) S.2.2 hd C.2.2.2.2.2.2.1))
  rw [hT]
  exact Y.moved hW.alike
theorem r_dreturn {P : UInt64 → Mm → Prop} {X : String → Mm → Prop} {x : UInt64} (hd : decode (mB I) pc = .ok (.dreturn, 1)) (ht : mT I = some .double) (hf : k ≤ (mR I).cells ∧ n ≤ (mR I).slots) (h : P x M) : WW G I (qd P X) pc L [.double x] M k n := by
  intro p e s m args below meth c H locs ls C Y S V
  refine W.widen hf.1 hf.2 (vx_ret (W.dret C.1 C.2.1 (C.2.2.1.trans ht) (fun t hT hW => ⟨⟨_, M, rfl, ⟨x, rfl, h⟩, ?_⟩, S.F hT⟩) S.2.2 hd C.2.2.2.2.2.2.1))
  rw [hT]
  exact Y.moved hW.alike
theorem r_freturn {P : UInt32 → Mm → Prop} {X : String → Mm → Prop} {x : UInt32} (hd : decode (mB I) pc = .ok (.freturn, 1)) (ht : mT I = some .float) (hf : k ≤ (mR I).cells ∧ n ≤ (mR I).slots) (h : P x M) : WW G I (qf P X) pc L [.float x] M k n := by
  intro p e s m args below meth c H locs ls C Y S V
  refine W.widen hf.1 hf.2 (vx_ret (W.fret C.1 C.2.1 (C.2.2.1.trans ht) (fun t hT hW => ⟨⟨_, M, rfl, ⟨x, rfl, h⟩, ?_⟩, S.F hT⟩) S.2.2 hd C.2.2.2.2.2.2.1))
  rw [hT]
  exact Y.moved hW.alike
/-! calls by what they answer -/
theorem toL (v : Value) (st : List Value) : (some v).toList ++ st = v :: st := rfl
/-- reads of references that are there -/
theorem r_getR {idx ci j a b : Nat} (hd : decode (mB I) pc = .ok (.getfield idx, 3)) (hf : FA (mY I).cls idx ci j) (hk : kd M a = ci + 1) (ht : refT (fTy ci j) = true) (hb : mr M a j = some b) (h : WW G I Q (pc + 3) L (.ref b :: st) M k n) : WW G I Q pc L (.ref a :: st) M k n := r_getr hd hf hk ht hb h
theorem r_aaldR {a t b : Nat} {i : Int32} (hd : decode (mB I) pc = .ok (.aaload, 1)) (hk : kd M a = 30 + t) (ht : t < 4) (hi : vp_in i (ln M a)) (hb : mr M a i.toNatClampNeg = some b) (h : WW G I Q (pc + 1) L (.ref b :: st) M k n) : WW G I Q pc L (.int i :: .ref a :: st) M k n := r_aald hd hk ht hi hb h
/-- rows of known length, at a known place -/
theorem r_ial {a j N : Nat} {i : Int32} (hd : decode (mB I) pc = .ok (.iaload, 1)) (hk : kd M a = 20) (hl : ln M a = N) (hi : i = nI j) (hj : j < N) (hN : N < 2 ^ 31) (h : WW G I Q (pc + 1) L (.int (mi M a j) :: st) M k n) : WW G I Q pc L (.int i :: .ref a :: st) M k n := by
  subst hi; subst hl
  exact r_iald hd hk (vp_in_nI hj hN) (by rw [nI_clamp (Nat.lt_trans hj hN)]; exact h)
theorem r_cal {a j N : Nat} {i : Int32} (hd : decode (mB I) pc = .ok (.caload, 1)) (hk : kd M a = 21) (hl : ln M a = N) (hi : i = nI j) (hj : j < N) (hN : N < 2 ^ 31) (h : WW G I Q (pc + 1) L (.int (mi M a j) :: st) M k n) : WW G I Q pc L (.int i :: .ref a :: st) M k n := by
  subst hi; subst hl
  exact r_cald hd hk (vp_in_nI hj hN) (by rw [nI_clamp (Nat.lt_trans hj hN)]; exact h)
theorem r_lal {a j N : Nat} {i : Int32} (hd : decode (mB I) pc = .ok (.laload, 1)) (hk : kd M a = 22) (hl : ln M a = N) (hi : i = nI j) (hj : j < N) (hN : N < 2 ^ 31) (h : WW G I Q (pc + 1) L (.long (mj M a j) :: st) M k n) : WW G I Q pc L (.int i :: .ref a :: st) M k n := by
  subst hi; subst hl
  exact r_lald hd hk (vp_in_nI hj hN) (by rw [nI_clamp (Nat.lt_trans hj hN)]; exact h)
theorem r_dal {a j N : Nat} {i : Int32} (hd : decode (mB I) pc = .ok (.daload, 1)) (hk : kd M a = 23) (hl : ln M a = N) (hi : i = nI j) (hj : j < N) (hN : N < 2 ^ 31) (h : WW G I Q (pc + 1) L (.double (md M a j) :: st) M k n) : WW G I Q pc L (.int i :: .ref a :: st) M k n := by
  subst hi; subst hl
  exact r_dald hd hk (vp_in_nI hj hN) (by rw [nI_clamp (Nat.lt_trans hj hN)]; exact h)
theorem r_ias {a j N : Nat} {i x : Int32} (hd : decode (mB I) pc = .ok (.iastore, 1)) (hk : kd M a = 20) (hl : ln M a = N) (hi : i = nI j) (hj : j < N) (hN : N < 2 ^ 31) (h : WW G I Q (pc + 1) L st (sI M a j x) k n) : WW G I Q pc L (.int x :: .int i :: .ref a :: st) M k n := by
  subst hi; subst hl
  exact r_iast hd hk (vp_in_nI hj hN) (by rw [nI_clamp (Nat.lt_trans hj hN)]; exact h)
theorem r_cas {a j N : Nat} {i x : Int32} (hd : decode (mB I) pc = .ok (.castore, 1)) (hk : kd M a = 21) (hl : ln M a = N) (hi : i = nI j) (hj : j < N) (hN : N < 2 ^ 31) (h : WW G I Q (pc + 1) L st (sI M a j (vp_nar .char x)) k n) : WW G I Q pc L (.int x :: .int i :: .ref a :: st) M k n := by
  subst hi; subst hl
  exact r_cast hd hk (vp_in_nI hj hN) (by rw [nI_clamp (Nat.lt_trans hj hN)]; exact h)
theorem r_las {a j N : Nat} {i : Int32} {x : Int64} (hd : decode (mB I) pc = .ok (.lastore, 1)) (hk : kd M a = 22) (hl : ln M a = N) (hi : i = nI j) (hj : j < N) (hN : N < 2 ^ 31) (h : WW G I Q (pc + 1) L st (sJ M a j x) k n) : WW G I Q pc L (.long x :: .int i :: .ref a :: st) M k n := by
  subst hi; subst hl
  exact r_last hd hk (vp_in_nI hj hN) (by rw [nI_clamp (Nat.lt_trans hj hN)]; exact h)
theorem r_das {a j N : Nat} {i : Int32} {x : UInt64} (hd : decode (mB I) pc = .ok (.dastore, 1)) (hk : kd M a = 23) (hl : ln M a = N) (hi : i = nI j) (hj : j < N) (hN : N < 2 ^ 31) (h : WW G I Q (pc + 1) L st (sD M a j x) k n) : WW G I Q pc L (.double x :: .int i :: .ref a :: st) M k n := by
  subst hi; subst hl
  exact r_dast hd hk (vp_in_nI hj hN) (by rw [nI_clamp (Nat.lt_trans hj hN)]; exact h)
theorem r_aal {a t b j N : Nat} {i : Int32} (hd : decode (mB I) pc = .ok (.aaload, 1)) (hk : kd M a = 30 + t) (ht : t < 4) (hl : ln M a = N) (hi : i = nI j) (hj : j < N) (hN : N < 2 ^ 31) (hb : mr M a j = some b) (h : WW G I Q (pc + 1) L (.ref b :: st) M k n) : WW G I Q pc L (.int i :: .ref a :: st) M k n := by
  subst hi; subst hl
  exact r_aaldR hd hk ht (vp_in_nI hj hN) (by rw [nI_clamp (Nat.lt_trans hj hN)]; exact hb) h
theorem r_aas {a t v j N : Nat} {i : Int32} (hd : decode (mB I) pc = .ok (.aastore, 1)) (hk : kd M a = 30 + t) (ht : t < 4) (hl : ln M a = N) (hi : i = nI j) (hj : j < N) (hN : N < 2 ^ 31) (hv : kd M v = (rqT t).2 + 1) (h : WW G I Q (pc + 1) L st (sR M a j (some v)) k n) : WW G I Q pc L (.ref v :: .int i :: .ref a :: st) M k n := by
  subst hi; subst hl
  exact r_aast hd hk ht (vp_in_nI hj hN) hv (by rw [nI_clamp (Nat.lt_trans hj hN)]; exact h)
/-- what answers x and leaves the memory M1, one way only -/
def KE (G : GG) (I : MI) (as : List Value) (M : Mm) (x : Int32) (M1 : Mm) : Prop := KK G I as M (qi (fun y M' => y = x ∧ M' = M1) nox)
/-- what only reads -/
abbrev KP (G : GG) (I : MI) (as : List Value) (M : Mm) (x : Int32) : Prop := KE G I as M x M
/-- what answers nothing and leaves the memory M1 -/
def KU (G : GG) (I : MI) (as : List Value) (M M1 : Mm) : Prop := KK G I as M (qv (fun M' => M' = M1) nox)
theorem r_callVp {idx b ci : Nat} {I' : MI} {as stk : List Value} {M1 : Mm} {z : Int32} (hd : decode (mB I) pc = .ok (.invokevirtual idx, 3)) (hw : MVw (mY I') (mB I') (mL I') (mT I') as.length) (hl : Cond.methodLink (mY I).cls idx (mY I') ∈ lwG) (he : (mH I').isEmpty = true) (hh : (mH I).isEmpty = true) (hk : kd M b = ci + 1) (hc : (ac_cls[ci]?.map fun q => q.1) = some (mY I').cls) (hst : stk = as.reverse ++ .ref b :: st) (hcat : (st.map fun v => v.category).sum ≤ 8) (hR : (mR I').frames + 1 ≤ (mR I).frames ∧ 8 + (mL I' + 11) + (mR I').locals ≤ (mR I).locals) (hz : (mR I').cells = 0 ∧ (mR I').slots = 0) (hf : k ≤ (mR I).cells ∧ n ≤ (mR I).slots) (hK : KE G I' (.ref b :: as) M z M1) (h : WW G I Q (pc + 3) L (.int z :: st) M1 k n) : WW G I Q pc L stk M k n :=
  r_callV hd hw hl he hh hk hc hst hcat hR (by rw [hz.1, hz.2]; exact hf) hK (fun _ _ h => h.elim) (fun v M' ⟨y, h1, h2, h3⟩ => by subst h1; subst h2; subst h3; rw [hz.1, hz.2]; exact h)
theorem r_callVu {idx b ci : Nat} {I' : MI} {as stk : List Value} {M1 : Mm} (hd : decode (mB I) pc = .ok (.invokevirtual idx, 3)) (hw : MVw (mY I') (mB I') (mL I') (mT I') as.length) (hl : Cond.methodLink (mY I).cls idx (mY I') ∈ lwG) (he : (mH I').isEmpty = true) (hh : (mH I).isEmpty = true) (hk : kd M b = ci + 1) (hc : (ac_cls[ci]?.map fun q => q.1) = some (mY I').cls) (hst : stk = as.reverse ++ .ref b :: st) (hcat : (st.map fun v => v.category).sum ≤ 8) (hR : (mR I').frames + 1 ≤ (mR I).frames ∧ 8 + (mL I' + 11) + (mR I').locals ≤ (mR I).locals) (hz : (mR I').cells = 0 ∧ (mR I').slots = 0) (hf : k ≤ (mR I).cells ∧ n ≤ (mR I).slots) (hK : KU G I' (.ref b :: as) M M1) (h : WW G I Q (pc + 3) L st M1 k n) : WW G I Q pc L stk M k n :=
  r_callV hd hw hl he hh hk hc hst hcat hR (by rw [hz.1, hz.2]; exact hf) hK (fun _ _ h => h.elim) (fun v M' ⟨h1, h3⟩ => by subst h1; subst h3; rw [hz.1, hz.2]; exact h)
theorem r_callSp {idx : Nat} {I' : MI} {as stk : List Value} {M1 : Mm} {z : Int32} (hd : decode (mB I) pc = .ok (.invokestatic idx, 3)) (hw : MSw (mY I') (mB I') (mL I') (mT I') as.length) (hl : Cond.methodLink (mY I).cls idx (mY I') ∈ lwG) (he : (mH I').isEmpty = true) (hh : (mH I).isEmpty = true) (hst : stk = as.reverse ++ st) (hcat : (st.map fun v => v.category).sum ≤ 8) (hR : (mR I').frames + 1 ≤ (mR I).frames ∧ 8 + (mL I' + 11) + (mR I').locals ≤ (mR I).locals) (hz : (mR I').cells = 0 ∧ (mR I').slots = 0) (hf : k ≤ (mR I).cells ∧ n ≤ (mR I).slots) (hK : KE G I' (as) M z M1) (h : WW G I Q (pc + 3) L (.int z :: st) M1 k n) : WW G I Q pc L stk M k n :=
  r_callS hd hw hl he hh hst hcat hR (by rw [hz.1, hz.2]; exact hf) hK (fun _ _ h => h.elim) (fun v M' ⟨y, h1, h2, h3⟩ => by subst h1; subst h2; subst h3; rw [hz.1, hz.2]; exact h)
theorem r_callSu {idx : Nat} {I' : MI} {as stk : List Value} {M1 : Mm} (hd : decode (mB I) pc = .ok (.invokestatic idx, 3)) (hw : MSw (mY I') (mB I') (mL I') (mT I') as.length) (hl : Cond.methodLink (mY I).cls idx (mY I') ∈ lwG) (he : (mH I').isEmpty = true) (hh : (mH I).isEmpty = true) (hst : stk = as.reverse ++ st) (hcat : (st.map fun v => v.category).sum ≤ 8) (hR : (mR I').frames + 1 ≤ (mR I).frames ∧ 8 + (mL I' + 11) + (mR I').locals ≤ (mR I).locals) (hz : (mR I').cells = 0 ∧ (mR I').slots = 0) (hf : k ≤ (mR I).cells ∧ n ≤ (mR I).slots) (hK : KU G I' (as) M M1) (h : WW G I Q (pc + 3) L st M1 k n) : WW G I Q pc L stk M k n :=
  r_callS hd hw hl he hh hst hcat hR (by rw [hz.1, hz.2]; exact hf) hK (fun _ _ h => h.elim) (fun v M' ⟨h1, h3⟩ => by subst h1; subst h3; rw [hz.1, hz.2]; exact h)
theorem r_callUp {idx b ci : Nat} {I' : MI} {as stk : List Value} {M1 : Mm} {z : Int32} {Cn owner : String} {x : MethodName} (hd : decode (mB I) pc = .ok (.invokevirtual idx, 3)) (hw : MUw (mY I).cls idx Cn owner x (mY I') (mB I') (mL I') (mT I') as.length) (he : (mH I').isEmpty = true) (hh : (mH I).isEmpty = true) (hk : kd M b = ci + 1) (hc : (ac_cls[ci]?.map fun q => q.1) = some Cn) (hst : stk = as.reverse ++ .ref b :: st) (hcat : (st.map fun v => v.category).sum ≤ 8) (hR : (mR I').frames + 1 ≤ (mR I).frames ∧ 8 + (mL I' + 11) + (mR I').locals ≤ (mR I).locals) (hz : (mR I').cells = 0 ∧ (mR I').slots = 0) (hf : k ≤ (mR I).cells ∧ n ≤ (mR I).slots) (hK : KE G I' (.ref b :: as) M z M1) (h : WW G I Q (pc + 3) L (.int z :: st) M1 k n) : WW G I Q pc L stk M k n :=
  r_callU hd hw he hh hk hc hst hcat hR (by rw [hz.1, hz.2]; exact hf) hK (fun _ _ h => h) (fun v M' ⟨y, h1, h2, h3⟩ => by subst h1; subst h2; subst h3; rw [hz.1, hz.2]; exact h)
theorem r_callUu {idx b ci : Nat} {I' : MI} {as stk : List Value} {M1 : Mm} {Cn owner : String} {x : MethodName} (hd : decode (mB I) pc = .ok (.invokevirtual idx, 3)) (hw : MUw (mY I).cls idx Cn owner x (mY I') (mB I') (mL I') (mT I') as.length) (he : (mH I').isEmpty = true) (hh : (mH I).isEmpty = true) (hk : kd M b = ci + 1) (hc : (ac_cls[ci]?.map fun q => q.1) = some Cn) (hst : stk = as.reverse ++ .ref b :: st) (hcat : (st.map fun v => v.category).sum ≤ 8) (hR : (mR I').frames + 1 ≤ (mR I).frames ∧ 8 + (mL I' + 11) + (mR I').locals ≤ (mR I).locals) (hz : (mR I').cells = 0 ∧ (mR I').slots = 0) (hf : k ≤ (mR I).cells ∧ n ≤ (mR I).slots) (hK : KU G I' (.ref b :: as) M M1) (h : WW G I Q (pc + 3) L st M1 k n) : WW G I Q pc L stk M k n :=
  r_callU hd hw he hh hk hc hst hcat hR (by rw [hz.1, hz.2]; exact hf) hK (fun _ _ h => h) (fun v M' ⟨h1, h3⟩ => by subst h1; subst h3; rw [hz.1, hz.2]; exact h)
end CALLS
end
section
/-! fields, methods, call sites -/
theorem cl_L_8 : Cond.classLink RL 8 RX8 ∈ lwG := w92
theorem nw_L_8 : NW RL 8 7 := ⟨_, _, _, rfl, lay_X8, w92, w93, w66⟩
theorem ml_L_167 : Cond.methodLink RL 167 yX8_init ∈ lwG := w94
theorem ml_X8_3 : Cond.methodLink RX8 3 ⟨"java/lang/Object", "<init>", "()V"⟩ ∈ lwG := w97
theorem cl_X8_9 : Cond.classLink RX8 9 RX6 ∈ lwG := w100
theorem nw_X8_9 : NW RX8 9 5 := ⟨_, _, _, rfl, lay_X6, w100, w101, w67⟩
theorem ml_X8_11 : Cond.methodLink RX8 11 yX6_init ∈ lwG := w102
theorem ml_X6_3 : Cond.methodLink RX6 3 ⟨"java/lang/Object", "<init>", "()V"⟩ ∈ lwG := w105
theorem cl_X6_21 : Cond.classLink RX6 21 RX4 ∈ lwG := w106
theorem nw_X6_21 : NW RX6 21 3 := ⟨_, _, _, rfl, lay_X4, w106, w110, w69⟩
theorem cl_X6_27 : Cond.classLink RX6 27 RX5 ∈ lwG := w108
theorem nw_X6_27 : NW RX6 27 4 := ⟨_, _, _, rfl, lay_X5, w108, w176, w70⟩
theorem ml_X0_1 : Cond.methodLink RX0 1 ⟨"java/lang/Object", "<init>", "()V"⟩ ∈ lwG := w117
theorem fa_X4_25_3 : FA RX4 25 3 4 := ⟨_, _, _, _, rfl, by decide, lay_X4, w118, Or.inl rfl⟩
theorem fa_X6_76_3 : FA RX6 76 3 4 := ⟨_, _, _, _, rfl, by decide, lay_X4, w119, Or.inl rfl⟩
theorem fa_X8_141_3 : FA RX8 141 3 4 := ⟨_, _, _, _, rfl, by decide, lay_X4, w120, Or.inl rfl⟩
theorem fa_X4_45_3 : FA RX4 45 3 5 := ⟨_, _, _, _, rfl, by decide, lay_X4, w121, Or.inl rfl⟩
theorem fa_X8_117_3 : FA RX8 117 3 5 := ⟨_, _, _, _, rfl, by decide, lay_X4, w122, Or.inl rfl⟩
theorem fa_X6_82_3 : FA RX6 82 3 5 := ⟨_, _, _, _, rfl, by decide, lay_X4, w123, Or.inl rfl⟩
theorem fa_X4_19_3 : FA RX4 19 3 6 := ⟨_, _, _, _, rfl, by decide, lay_X4, w124, Or.inl rfl⟩
theorem fa_X6_85_3 : FA RX6 85 3 6 := ⟨_, _, _, _, rfl, by decide, lay_X4, w125, Or.inl rfl⟩
theorem fa_X8_381_3 : FA RX8 381 3 6 := ⟨_, _, _, _, rfl, by decide, lay_X4, w126, Or.inl rfl⟩
theorem fa_X6_79_3 : FA RX6 79 3 7 := ⟨_, _, _, _, rfl, by decide, lay_X4, w127, Or.inl rfl⟩
theorem fa_X4_48_3 : FA RX4 48 3 7 := ⟨_, _, _, _, rfl, by decide, lay_X4, w128, Or.inl rfl⟩
theorem fa_X8_152_3 : FA RX8 152 3 7 := ⟨_, _, _, _, rfl, by decide, lay_X4, w129, Or.inl rfl⟩
theorem fa_X4_51_3 : FA RX4 51 3 8 := ⟨_, _, _, _, rfl, by decide, lay_X4, w130, Or.inl rfl⟩
theorem fa_X6_88_3 : FA RX6 88 3 8 := ⟨_, _, _, _, rfl, by decide, lay_X4, w131, Or.inl rfl⟩
theorem fa_X8_155_3 : FA RX8 155 3 8 := ⟨_, _, _, _, rfl, by decide, lay_X4, w132, Or.inl rfl⟩
theorem fa_X4_22_3 : FA RX4 22 3 9 := ⟨_, _, _, _, rfl, by decide, lay_X4, w133, Or.inl rfl⟩
theorem fa_X6_91_3 : FA RX6 91 3 9 := ⟨_, _, _, _, rfl, by decide, lay_X4, w134, Or.inl rfl⟩
theorem fa_X8_294_3 : FA RX8 294 3 9 := ⟨_, _, _, _, rfl, by decide, lay_X4, w135, Or.inl rfl⟩
theorem fa_X4_7_3 : FA RX4 7 3 10 := ⟨_, _, _, _, rfl, by decide, lay_X4, w136, Or.inl rfl⟩
theorem fa_X4_13_3 : FA RX4 13 3 11 := ⟨_, _, _, _, rfl, by decide, lay_X4, w137, Or.inl rfl⟩
theorem fa_X4_16_3 : FA RX4 16 3 0 := ⟨_, _, _, _, rfl, by decide, lay_X4, w138, Or.inr w139⟩
theorem fa_X0_19_3 : FA RX0 19 3 0 := ⟨_, _, _, _, rfl, by decide, lay_X4, w140, Or.inl rfl⟩
theorem fa_X0_19_4 : FA RX0 19 4 0 := ⟨_, _, _, _, rfl, by decide, lay_X5, w140, Or.inl rfl⟩
theorem fa_X6_111_3 : FA RX6 111 3 0 := ⟨_, _, _, _, rfl, by decide, lay_X4, w141, Or.inr w139⟩
theorem fa_X6_153_3 : FA RX6 153 3 0 := ⟨_, _, _, _, rfl, by decide, lay_X4, w142, Or.inl rfl⟩
theorem fa_X6_153_4 : FA RX6 153 4 0 := ⟨_, _, _, _, rfl, by decide, lay_X5, w142, Or.inl rfl⟩
theorem fa_X6_169_4 : FA RX6 169 4 0 := ⟨_, _, _, _, rfl, by decide, lay_X5, w143, Or.inr w144⟩
theorem fa_X8_193_4 : FA RX8 193 4 0 := ⟨_, _, _, _, rfl, by decide, lay_X5, w145, Or.inr w144⟩
theorem fa_X8_297_3 : FA RX8 297 3 0 := ⟨_, _, _, _, rfl, by decide, lay_X4, w146, Or.inr w139⟩
theorem fa_X0_7_3 : FA RX0 7 3 1 := ⟨_, _, _, _, rfl, by decide, lay_X4, w147, Or.inl rfl⟩
theorem fa_X0_7_4 : FA RX0 7 4 1 := ⟨_, _, _, _, rfl, by decide, lay_X5, w147, Or.inl rfl⟩
theorem fa_X0_13_3 : FA RX0 13 3 2 := ⟨_, _, _, _, rfl, by decide, lay_X4, w148, Or.inl rfl⟩
theorem fa_X0_13_4 : FA RX0 13 4 2 := ⟨_, _, _, _, rfl, by decide, lay_X5, w148, Or.inl rfl⟩
theorem fa_X0_16_3 : FA RX0 16 3 3 := ⟨_, _, _, _, rfl, by decide, lay_X4, w149, Or.inl rfl⟩
theorem fa_X0_16_4 : FA RX0 16 4 3 := ⟨_, _, _, _, rfl, by decide, lay_X5, w149, Or.inl rfl⟩
theorem fa_X5_13_4 : FA RX5 13 4 4 := ⟨_, _, _, _, rfl, by decide, lay_X5, w181, Or.inl rfl⟩
theorem fa_X6_122_4 : FA RX6 122 4 4 := ⟨_, _, _, _, rfl, by decide, lay_X5, w182, Or.inl rfl⟩
theorem fa_X8_184_4 : FA RX8 184 4 4 := ⟨_, _, _, _, rfl, by decide, lay_X5, w183, Or.inl rfl⟩
theorem fa_X5_17_4 : FA RX5 17 4 5 := ⟨_, _, _, _, rfl, by decide, lay_X5, w184, Or.inl rfl⟩
theorem fa_X6_143_4 : FA RX6 143 4 5 := ⟨_, _, _, _, rfl, by decide, lay_X5, w185, Or.inl rfl⟩
theorem fa_X8_190_4 : FA RX8 190 4 5 := ⟨_, _, _, _, rfl, by decide, lay_X5, w186, Or.inl rfl⟩
theorem fa_X5_20_4 : FA RX5 20 4 6 := ⟨_, _, _, _, rfl, by decide, lay_X5, w187, Or.inl rfl⟩
theorem fa_X6_134_4 : FA RX6 134 4 6 := ⟨_, _, _, _, rfl, by decide, lay_X5, w188, Or.inl rfl⟩
theorem fa_X8_206_4 : FA RX8 206 4 6 := ⟨_, _, _, _, rfl, by decide, lay_X5, w189, Or.inl rfl⟩
theorem fa_X6_9_5 : FA RX6 9 5 0 := ⟨_, _, _, _, rfl, by decide, lay_X6, w201, Or.inl rfl⟩
theorem fa_X8_80_5 : FA RX8 80 5 0 := ⟨_, _, _, _, rfl, by decide, lay_X6, w202, Or.inl rfl⟩
theorem fa_X6_15_5 : FA RX6 15 5 1 := ⟨_, _, _, _, rfl, by decide, lay_X6, w203, Or.inl rfl⟩
theorem fa_X8_83_5 : FA RX8 83 5 1 := ⟨_, _, _, _, rfl, by decide, lay_X6, w204, Or.inl rfl⟩
theorem fa_X6_18_5 : FA RX6 18 5 2 := ⟨_, _, _, _, rfl, by decide, lay_X6, w205, Or.inl rfl⟩
theorem fa_X8_107_5 : FA RX8 107 5 2 := ⟨_, _, _, _, rfl, by decide, lay_X6, w206, Or.inl rfl⟩
theorem fa_X6_23_5 : FA RX6 23 5 3 := ⟨_, _, _, _, rfl, by decide, lay_X6, w207, Or.inl rfl⟩
theorem fa_X8_113_5 : FA RX8 113 5 3 := ⟨_, _, _, _, rfl, by decide, lay_X6, w208, Or.inl rfl⟩
theorem fa_X6_29_5 : FA RX6 29 5 4 := ⟨_, _, _, _, rfl, by decide, lay_X6, w209, Or.inl rfl⟩
theorem fa_X8_199_5 : FA RX8 199 5 4 := ⟨_, _, _, _, rfl, by decide, lay_X6, w210, Or.inl rfl⟩
theorem fa_X6_58_5 : FA RX6 58 5 5 := ⟨_, _, _, _, rfl, by decide, lay_X6, w211, Or.inl rfl⟩
theorem fa_X8_66_5 : FA RX8 66 5 5 := ⟨_, _, _, _, rfl, by decide, lay_X6, w212, Or.inl rfl⟩
theorem fa_X6_61_5 : FA RX6 61 5 6 := ⟨_, _, _, _, rfl, by decide, lay_X6, w213, Or.inl rfl⟩
theorem fa_X8_99_5 : FA RX8 99 5 6 := ⟨_, _, _, _, rfl, by decide, lay_X6, w214, Or.inl rfl⟩
theorem fa_X6_45_5 : FA RX6 45 5 7 := ⟨_, _, _, _, rfl, by decide, lay_X6, w215, Or.inl rfl⟩
theorem fa_X8_110_5 : FA RX8 110 5 7 := ⟨_, _, _, _, rfl, by decide, lay_X6, w216, Or.inl rfl⟩
theorem fa_X6_52_5 : FA RX6 52 5 8 := ⟨_, _, _, _, rfl, by decide, lay_X6, w217, Or.inl rfl⟩
theorem fa_X8_177_5 : FA RX8 177 5 8 := ⟨_, _, _, _, rfl, by decide, lay_X6, w218, Or.inl rfl⟩
theorem fa_X6_35_5 : FA RX6 35 5 9 := ⟨_, _, _, _, rfl, by decide, lay_X6, w219, Or.inl rfl⟩
theorem fa_X8_174_5 : FA RX8 174 5 9 := ⟨_, _, _, _, rfl, by decide, lay_X6, w220, Or.inl rfl⟩
theorem fa_X6_64_5 : FA RX6 64 5 10 := ⟨_, _, _, _, rfl, by decide, lay_X6, w221, Or.inl rfl⟩
theorem fa_X8_221_5 : FA RX8 221 5 10 := ⟨_, _, _, _, rfl, by decide, lay_X6, w222, Or.inl rfl⟩
theorem fa_X6_67_5 : FA RX6 67 5 11 := ⟨_, _, _, _, rfl, by decide, lay_X6, w223, Or.inl rfl⟩
theorem fa_X8_224_5 : FA RX8 224 5 11 := ⟨_, _, _, _, rfl, by decide, lay_X6, w224, Or.inl rfl⟩
theorem fa_X6_70_5 : FA RX6 70 5 12 := ⟨_, _, _, _, rfl, by decide, lay_X6, w225, Or.inl rfl⟩
theorem fa_X8_227_5 : FA RX8 227 5 12 := ⟨_, _, _, _, rfl, by decide, lay_X6, w226, Or.inl rfl⟩
theorem fa_X6_73_5 : FA RX6 73 5 13 := ⟨_, _, _, _, rfl, by decide, lay_X6, w227, Or.inl rfl⟩
theorem fa_X8_230_5 : FA RX8 230 5 13 := ⟨_, _, _, _, rfl, by decide, lay_X6, w228, Or.inl rfl⟩
theorem cl_X8_19 : Cond.classLink RX8 19 RX2 ∈ lwG := w258
theorem nw_X8_19 : NW RX8 19 1 := ⟨_, _, _, rfl, lay_X2, w258, w259, w71⟩
theorem ml_X8_21 : Cond.methodLink RX8 21 yX2_init ∈ lwG := w260
theorem ml_X2_3 : Cond.methodLink RX2 3 ⟨"java/lang/Object", "<init>", "()V"⟩ ∈ lwG := w263
theorem cl_X2_9 : Cond.classLink RX2 9 RX6 ∈ lwG := w264
theorem nw_X2_9 : NW RX2 9 5 := ⟨_, _, _, rfl, lay_X6, w264, w101, w67⟩
theorem ml_X2_17 : Cond.methodLink RX2 17 yX6_init ∈ lwG := w266
theorem fa_X2_11_1 : FA RX2 11 1 0 := ⟨_, _, _, _, rfl, by decide, lay_X2, w267, Or.inl rfl⟩
theorem fa_X2_18_1 : FA RX2 18 1 1 := ⟨_, _, _, _, rfl, by decide, lay_X2, w268, Or.inl rfl⟩
theorem fa_X8_329_1 : FA RX8 329 1 1 := ⟨_, _, _, _, rfl, by decide, lay_X2, w269, Or.inl rfl⟩
theorem cl_X8_26 : Cond.classLink RX8 26 RX3 ∈ lwG := w275
theorem nw_X8_26 : NW RX8 26 2 := ⟨_, _, _, rfl, lay_X3, w275, w276, w72⟩
theorem ml_X3_3 : Cond.methodLink RX3 3 ⟨"java/lang/Object", "<init>", "()V"⟩ ∈ lwG := w280
theorem fa_X3_9_2 : FA RX3 9 2 0 := ⟨_, _, _, _, rfl, by decide, lay_X3, w281, Or.inl rfl⟩
theorem fa_X3_15_2 : FA RX3 15 2 1 := ⟨_, _, _, _, rfl, by decide, lay_X3, w282, Or.inl rfl⟩
theorem fa_X7_29_2 : FA RX7 29 2 1 := ⟨_, _, _, _, rfl, by decide, lay_X3, w283, Or.inl rfl⟩
theorem fa_X8_243_2 : FA RX8 243 2 1 := ⟨_, _, _, _, rfl, by decide, lay_X3, w284, Or.inl rfl⟩
theorem cl_X8_36 : Cond.classLink RX8 36 RX7 ∈ lwG := w291
theorem nw_X8_36 : NW RX8 36 6 := ⟨_, _, _, rfl, lay_X7, w291, w292, w73⟩
theorem ml_X8_38 : Cond.methodLink RX8 38 yX7_init ∈ lwG := w293
theorem ml_X7_3 : Cond.methodLink RX7 3 ⟨"java/lang/Object", "<init>", "()V"⟩ ∈ lwG := w296
theorem cl_X7_9 : Cond.classLink RX7 9 RX1 ∈ lwG := w297
theorem nw_X7_9 : NW RX7 9 0 := ⟨_, _, _, rfl, lay_X1, w297, w299, w74⟩
theorem ml_X1_1 : Cond.methodLink RX1 1 ⟨"java/lang/Object", "<init>", "()V"⟩ ∈ lwG := w303
theorem fa_X1_7_0 : FA RX1 7 0 0 := ⟨_, _, _, _, rfl, by decide, lay_X1, w304, Or.inl rfl⟩
theorem fa_X8_418_0 : FA RX8 418 0 0 := ⟨_, _, _, _, rfl, by decide, lay_X1, w305, Or.inl rfl⟩
theorem fa_X1_17_0 : FA RX1 17 0 1 := ⟨_, _, _, _, rfl, by decide, lay_X1, w306, Or.inl rfl⟩
theorem fa_X8_424_0 : FA RX8 424 0 1 := ⟨_, _, _, _, rfl, by decide, lay_X1, w307, Or.inl rfl⟩
theorem fa_X1_20_0 : FA RX1 20 0 2 := ⟨_, _, _, _, rfl, by decide, lay_X1, w308, Or.inl rfl⟩
theorem fa_X8_427_0 : FA RX8 427 0 2 := ⟨_, _, _, _, rfl, by decide, lay_X1, w309, Or.inl rfl⟩
theorem fa_X1_23_0 : FA RX1 23 0 3 := ⟨_, _, _, _, rfl, by decide, lay_X1, w310, Or.inl rfl⟩
theorem fa_X8_430_0 : FA RX8 430 0 3 := ⟨_, _, _, _, rfl, by decide, lay_X1, w311, Or.inl rfl⟩
theorem fa_X1_26_0 : FA RX1 26 0 4 := ⟨_, _, _, _, rfl, by decide, lay_X1, w312, Or.inl rfl⟩
theorem fa_X8_433_0 : FA RX8 433 0 4 := ⟨_, _, _, _, rfl, by decide, lay_X1, w313, Or.inl rfl⟩
theorem fa_X1_13_0 : FA RX1 13 0 5 := ⟨_, _, _, _, rfl, by decide, lay_X1, w314, Or.inl rfl⟩
theorem fa_X7_11_6 : FA RX7 11 6 0 := ⟨_, _, _, _, rfl, by decide, lay_X7, w328, Or.inl rfl⟩
theorem fa_X8_410_6 : FA RX8 410 6 0 := ⟨_, _, _, _, rfl, by decide, lay_X7, w329, Or.inl rfl⟩
theorem fa_X7_22_6 : FA RX7 22 6 1 := ⟨_, _, _, _, rfl, by decide, lay_X7, w330, Or.inl rfl⟩
theorem fa_X8_285_6 : FA RX8 285 6 1 := ⟨_, _, _, _, rfl, by decide, lay_X7, w331, Or.inl rfl⟩
theorem fa_X7_18_6 : FA RX7 18 6 2 := ⟨_, _, _, _, rfl, by decide, lay_X7, w332, Or.inl rfl⟩
theorem fa_X8_262_6 : FA RX8 262 6 2 := ⟨_, _, _, _, rfl, by decide, lay_X7, w333, Or.inl rfl⟩
theorem fa_X8_12_7 : FA RX8 12 7 0 := ⟨_, _, _, _, rfl, by decide, lay_X8, w341, Or.inl rfl⟩
theorem fa_X8_16_7 : FA RX8 16 7 1 := ⟨_, _, _, _, rfl, by decide, lay_X8, w342, Or.inl rfl⟩
theorem fa_X8_22_7 : FA RX8 22 7 2 := ⟨_, _, _, _, rfl, by decide, lay_X8, w343, Or.inl rfl⟩
theorem fa_X8_29_7 : FA RX8 29 7 3 := ⟨_, _, _, _, rfl, by decide, lay_X8, w344, Or.inl rfl⟩
theorem fa_X8_33_7 : FA RX8 33 7 4 := ⟨_, _, _, _, rfl, by decide, lay_X8, w345, Or.inl rfl⟩
theorem fa_X8_39_7 : FA RX8 39 7 5 := ⟨_, _, _, _, rfl, by decide, lay_X8, w346, Or.inl rfl⟩
theorem fa_X8_43_7 : FA RX8 43 7 6 := ⟨_, _, _, _, rfl, by decide, lay_X8, w347, Or.inl rfl⟩
theorem fa_X8_338_7 : FA RX8 338 7 7 := ⟨_, _, _, _, rfl, by decide, lay_X8, w348, Or.inl rfl⟩
theorem fa_X8_47_7 : FA RX8 47 7 8 := ⟨_, _, _, _, rfl, by decide, lay_X8, w349, Or.inl rfl⟩
theorem fa_X8_392_7 : FA RX8 392 7 9 := ⟨_, _, _, _, rfl, by decide, lay_X8, w350, Or.inl rfl⟩
theorem fa_X8_395_7 : FA RX8 395 7 10 := ⟨_, _, _, _, rfl, by decide, lay_X8, w351, Or.inl rfl⟩
theorem fa_X8_314_7 : FA RX8 314 7 11 := ⟨_, _, _, _, rfl, by decide, lay_X8, w352, Or.inl rfl⟩
theorem fa_X8_317_7 : FA RX8 317 7 12 := ⟨_, _, _, _, rfl, by decide, lay_X8, w353, Or.inl rfl⟩
theorem fa_X8_323_7 : FA RX8 323 7 13 := ⟨_, _, _, _, rfl, by decide, lay_X8, w354, Or.inl rfl⟩
theorem fa_X8_326_7 : FA RX8 326 7 14 := ⟨_, _, _, _, rfl, by decide, lay_X8, w355, Or.inl rfl⟩
theorem ml_L_184 : Cond.methodLink RL 184 yX8_stoneCount ∈ lwG := w387
theorem ml_L_197 : Cond.methodLink RL 197 yX8_officerCount ∈ lwG := w391
theorem ml_L_224 : Cond.methodLink RL 224 yX8_pendingCount ∈ lwG := w395
theorem ml_L_256 : Cond.methodLink RL 256 yX8_quorum ∈ lwG := w399
theorem ml_L_260 : Cond.methodLink RL 260 yX8_rulingCount ∈ lwG := w403
theorem ml_L_294 : Cond.methodLink RL 294 yX8_filedCount ∈ lwG := w407
theorem ml_L_298 : Cond.methodLink RL 298 yX8_vetoes ∈ lwG := w411
theorem ml_L_302 : Cond.methodLink RL 302 yX8_withdrawals ∈ lwG := w415
theorem ml_L_306 : Cond.methodLink RL 306 yX8_movedWeight ∈ lwG := w419
theorem ml_L_351 : Cond.methodLink RL 351 yX8_undoCount ∈ lwG := w423
theorem ml_L_355 : Cond.methodLink RL 355 yX8_saveSnapshot ∈ lwG := w427
theorem ml_X8_335 : Cond.methodLink RX8 335 yX6_copyFrom ∈ lwG := w431
theorem ml_X6_39 : Cond.methodLink RX6 39 ⟨"java/lang/System", "arraycopy", "(Ljava/lang/Object;ILjava/lang/Object;II)V"⟩ ∈ lwG := w435
theorem ml_X6_48 : Cond.methodLink RX6 48 yX4_copyFrom ∈ lwG := w438
theorem ml_X4_41 : Cond.methodLink RX4 41 ⟨"PetitionBoard$Petition", "copyCited", "(LPetitionBoard$Citing;)V"⟩ ∈ lwG := w442
theorem ml_X6_55 : Cond.methodLink RX6 55 yX5_copyFrom ∈ lwG := w448
theorem ml_X5_7 : Cond.methodLink RX5 7 ⟨"PetitionBoard$Ruling", "copyCited", "(LPetitionBoard$Citing;)V"⟩ ∈ lwG := w452
theorem ml_L_171 : Cond.methodLink RL 171 yL_addStone ∈ lwG := w455
theorem ml_Jx00060_7 : Cond.methodLink RJx00060 7 ⟨"java/lang/IndexOutOfBoundsException", "<init>", "(Ljava/lang/String;)V"⟩ ∈ lwG := w462
theorem ml_L_7 : Cond.methodLink RL 7 yX8_addStone ∈ lwG := w540
theorem ml_X8_51 : Cond.methodLink RX8 51 yX2_prepare ∈ lwG := w544
theorem ml_X2_22 : Cond.methodLink RX2 22 yX6_copyFrom ∈ lwG := w548
theorem ml_X8_55 : Cond.methodLink RX8 55 yX8_placeStone ∈ lwG := w549
theorem ml_X8_86 : Cond.methodLink RX8 86 yX8_isCell ∈ lwG := w553
theorem ml_X8_91 : Cond.methodLink RX8 91 yX6_findStoneIn ∈ lwG := w556
theorem ml_X8_346 : Cond.methodLink RX8 346 yX8_deny ∈ lwG := w560
theorem ml_X8_349 : Cond.methodLink RX8 349 yX6_appendStone ∈ lwG := w564
theorem ml_X8_59 : Cond.methodLink RX8 59 yX8_conclude ∈ lwG := w568
theorem ml_X8_77 : Cond.methodLink RX8 77 ⟨"java/lang/IndexOutOfBoundsException", "<init>", "(Ljava/lang/String;)V"⟩ ∈ lwG := w582
theorem ml_X8_269 : Cond.methodLink RX8 269 ⟨"java/lang/IllegalArgumentException", "<init>", "(Ljava/lang/String;)V"⟩ ∈ lwG := w595
theorem ml_X8_98 : Cond.methodLink RX8 98 ⟨"java/util/NoSuchElementException", "<init>", "(Ljava/lang/String;)V"⟩ ∈ lwG := w611
theorem ml_X8_404 : Cond.methodLink RX8 404 yX8_keepDenial ∈ lwG := w617
theorem ml_X8_281 : Cond.methodLink RX8 281 ⟨"java/lang/UnsupportedOperationException", "<init>", "(Ljava/lang/String;)V"⟩ ∈ lwG := w631
theorem ml_X8_282 : Cond.methodLink RX8 282 yX2_keepPrepared ∈ lwG := w637
theorem ml_L_180 : Cond.methodLink RL 180 yL_addOfficer ∈ lwG := w641
theorem ml_L_19 : Cond.methodLink RL 19 yX8_addOfficer ∈ lwG := w644
theorem ml_X8_63 : Cond.methodLink RX8 63 yX8_enlistOfficer ∈ lwG := w648
theorem ml_X8_352 : Cond.methodLink RX8 352 yX6_appendOfficer ∈ lwG := w652
theorem ml_L_188 : Cond.methodLink RL 188 yL_cellOf ∈ lwG := w656
theorem ml_L_23 : Cond.methodLink RL 23 yX8_cellOf ∈ lwG := w659
theorem ml_X8_69 : Cond.methodLink RX8 69 yX6_hasStone ∈ lwG := w663
theorem ml_L_191 : Cond.methodLink RL 191 yL_weightOf ∈ lwG := w668
theorem ml_L_26 : Cond.methodLink RL 26 yX8_weightOf ∈ lwG := w671
theorem ml_L_194 : Cond.methodLink RL 194 yL_stoneIn ∈ lwG := w675
theorem ml_L_29 : Cond.methodLink RL 29 yX8_stoneIn ∈ lwG := w679
theorem ml_L_201 : Cond.methodLink RL 201 yL_rankOf ∈ lwG := w685
theorem ml_L_34 : Cond.methodLink RL 34 yX8_rankOf ∈ lwG := w688
theorem ml_X8_102 : Cond.methodLink RX8 102 yX6_hasOfficer ∈ lwG := w692
theorem ml_L_204 : Cond.methodLink RL 204 yL_petitionsOf ∈ lwG := w697
theorem ml_L_37 : Cond.methodLink RL 37 yX8_petitionsOf ∈ lwG := w700
theorem ml_L_207 : Cond.methodLink RL 207 yL_file ∈ lwG := w704
theorem ml_L_40 : Cond.methodLink RL 40 yX8_file ∈ lwG := w707
theorem ml_X8_122 : Cond.methodLink RX8 122 yX8_lodgePetition ∈ lwG := w711
theorem ml_X8_355 : Cond.methodLink RX8 355 yX6_findPetitionFor ∈ lwG := w715
theorem ml_X8_358 : Cond.methodLink RX8 358 yX6_enqueue ∈ lwG := w719
theorem ml_X6_94 : Cond.methodLink RX6 94 yX4_forgetVotesAndCitations ∈ lwG := w723
theorem ml_X6_97 : Cond.methodLink RX6 97 yX6_moveToItsPosition ∈ lwG := w727
theorem ml_X6_100 : Cond.methodLink RX6 100 yX4_comesBefore ∈ lwG := w731
theorem ml_L_211 : Cond.methodLink RL 211 yL_vote ∈ lwG := w735
theorem ml_L_44 : Cond.methodLink RL 44 yX8_vote ∈ lwG := w738
theorem ml_X8_126 : Cond.methodLink RX8 126 yX8_castVote ∈ lwG := w742
theorem ml_X8_361 : Cond.methodLink RX8 361 yX6_findPetition ∈ lwG := w746
theorem ml_X8_364 : Cond.methodLink RX8 364 yX4_hasVoteFor ∈ lwG := w750
theorem ml_X8_367 : Cond.methodLink RX8 367 yX4_hasVoteAgainst ∈ lwG := w754
theorem ml_X8_370 : Cond.methodLink RX8 370 yX4_addVote ∈ lwG := w758
theorem ml_X8_238 : Cond.methodLink RX8 238 yX4_countVotes ∈ lwG := w762
theorem ml_X4_34 : Cond.methodLink RX4 34 yX4_countFor ∈ lwG := w766
theorem ml_X4_28 : Cond.methodLink RX4 28 yJ6_bitCount_0f7a4 ∈ lwG := w770
theorem ml_X4_38 : Cond.methodLink RX4 38 yX4_countAgainst ∈ lwG := w776
theorem ml_L_215 : Cond.methodLink RL 215 yL_cite ∈ lwG := w780
theorem ml_L_48 : Cond.methodLink RL 48 yX8_cite ∈ lwG := w783
theorem ml_X8_130 : Cond.methodLink RX8 130 yX8_citeRuling ∈ lwG := w787
theorem ml_X8_374 : Cond.methodLink RX8 374 yX6_findRuling ∈ lwG := w791
theorem ml_X8_377 : Cond.methodLink RX8 377 ⟨"PetitionBoard$Petition", "refersTo", "(I)Z"⟩ ∈ lwG := w795
theorem ml_X0_22 : Cond.methodLink RX0 22 yX0_citedAt ∈ lwG := w801
theorem ml_X8_378 : Cond.methodLink RX8 378 ⟨"PetitionBoard$Petition", "addCited", "(I)V"⟩ ∈ lwG := w807
theorem ml_L_218 : Cond.methodLink RL 218 yL_veto ∈ lwG := w813
theorem ml_L_51 : Cond.methodLink RL 51 yX8_veto ∈ lwG := w816
theorem ml_X8_133 : Cond.methodLink RX8 133 yX8_vetoPetition ∈ lwG := w820
theorem ml_X8_384 : Cond.methodLink RX8 384 yX6_dequeue ∈ lwG := w824
theorem ml_L_221 : Cond.methodLink RL 221 yL_withdraw ∈ lwG := w828
theorem ml_L_54 : Cond.methodLink RL 54 yX8_withdraw ∈ lwG := w831
theorem ml_X8_136 : Cond.methodLink RX8 136 yX8_withdrawPetition ∈ lwG := w835
theorem ml_L_228 : Cond.methodLink RL 228 yL_petitionAt ∈ lwG := w839
theorem ml_L_57 : Cond.methodLink RL 57 yX8_petitionAt ∈ lwG := w842
theorem ml_L_231 : Cond.methodLink RL 231 yL_positionOf ∈ lwG := w847
theorem ml_L_60 : Cond.methodLink RL 60 yX8_positionOf ∈ lwG := w850
theorem ml_X8_144 : Cond.methodLink RX8 144 yX8_requirePetition ∈ lwG := w854
theorem ml_X8_148 : Cond.methodLink RX8 148 yX4_comesBefore ∈ lwG := w859
theorem ml_L_234 : Cond.methodLink RL 234 yL_stoneOf ∈ lwG := w860
theorem ml_L_63 : Cond.methodLink RL 63 yX8_stoneOf ∈ lwG := w863
theorem ml_L_237 : Cond.methodLink RL 237 yL_targetOf ∈ lwG := w867
theorem ml_L_66 : Cond.methodLink RL 66 yX8_targetOf ∈ lwG := w870
theorem ml_L_240 : Cond.methodLink RL 240 yL_votesFor ∈ lwG := w874
theorem ml_L_69 : Cond.methodLink RL 69 yX8_votesFor ∈ lwG := w877
theorem ml_X8_158 : Cond.methodLink RX8 158 yX4_countFor ∈ lwG := w881
theorem ml_L_243 : Cond.methodLink RL 243 yL_votesAgainst ∈ lwG := w882
theorem ml_L_72 : Cond.methodLink RL 72 yX8_votesAgainst ∈ lwG := w885
theorem ml_X8_162 : Cond.methodLink RX8 162 yX4_countAgainst ∈ lwG := w889
theorem ml_L_246 : Cond.methodLink RL 246 yL_wouldBeGranted ∈ lwG := w890
theorem ml_L_75 : Cond.methodLink RL 75 yX8_wouldBeGranted ∈ lwG := w893
theorem ml_X8_165 : Cond.methodLink RX8 165 yX6_isWon ∈ lwG := w897
theorem ml_X6_104 : Cond.methodLink RX6 104 yX4_countFor ∈ lwG := w901
theorem ml_X6_108 : Cond.methodLink RX6 108 yX4_countAgainst ∈ lwG := w902
theorem ml_X6_114 : Cond.methodLink RX6 114 ⟨"PetitionBoard$Petition", "citedAt", "(I)I"⟩ ∈ lwG := w903
theorem ml_X6_118 : Cond.methodLink RX6 118 yX6_findRuling ∈ lwG := w907
theorem ml_L_249 : Cond.methodLink RL 249 yL_setQuorum ∈ lwG := w908
theorem ml_L_79 : Cond.methodLink RL 79 yX8_setQuorum ∈ lwG := w911
theorem ml_X8_168 : Cond.methodLink RX8 168 yX8_changeQuorum ∈ lwG := w915
theorem ml_L_252 : Cond.methodLink RL 252 yL_decide ∈ lwG := w919
theorem ml_L_82 : Cond.methodLink RL 82 yX8_decide ∈ lwG := w922
theorem ml_X8_171 : Cond.methodLink RX8 171 yX8_decideFirst ∈ lwG := w926
theorem ml_X8_388 : Cond.methodLink RX8 388 yX6_rule ∈ lwG := w930
theorem ml_X6_126 : Cond.methodLink RX6 126 ⟨"PetitionBoard$Ruling", "copyCited", "(LPetitionBoard$Citing;)V"⟩ ∈ lwG := w934
theorem ml_X6_130 : Cond.methodLink RX6 130 yX6_levelAbove ∈ lwG := w935
theorem ml_X6_156 : Cond.methodLink RX6 156 yX0_citedAt ∈ lwG := w939
theorem ml_X6_137 : Cond.methodLink RX6 137 yX6_isWon ∈ lwG := w940
theorem ml_X6_140 : Cond.methodLink RX6 140 yX6_findStoneIn ∈ lwG := w941
theorem ml_X6_146 : Cond.methodLink RX6 146 yX6_moveStone ∈ lwG := w942
theorem ml_X6_157 : Cond.methodLink RX6 157 yX6_hasStone ∈ lwG := w946
theorem ml_X6_150 : Cond.methodLink RX6 150 yX6_dequeue ∈ lwG := w947
theorem ml_L_264 : Cond.methodLink RL 264 yL_isGranted ∈ lwG := w948
theorem ml_L_86 : Cond.methodLink RL 86 yX8_isGranted ∈ lwG := w951
theorem ml_X8_180 : Cond.methodLink RX8 180 yX8_requireRuling ∈ lwG := w955
theorem ml_L_267 : Cond.methodLink RL 267 yL_isCarriedOut ∈ lwG := w960
theorem ml_L_89 : Cond.methodLink RL 89 yX8_isCarriedOut ∈ lwG := w963
theorem ml_L_270 : Cond.methodLink RL 270 yL_citationCount ∈ lwG := w967
theorem ml_L_92 : Cond.methodLink RL 92 yX8_citationCount ∈ lwG := w970
theorem ml_L_273 : Cond.methodLink RL 273 yL_citation ∈ lwG := w974
theorem ml_L_95 : Cond.methodLink RL 95 yX8_citation ∈ lwG := w977
theorem ml_X8_196 : Cond.methodLink RX8 196 ⟨"PetitionBoard$Ruling", "citedAt", "(I)I"⟩ ∈ lwG := w981
theorem ml_L_276 : Cond.methodLink RL 276 yL_citedBy ∈ lwG := w984
theorem ml_L_98 : Cond.methodLink RL 98 yX8_citedBy ∈ lwG := w987
theorem ml_X8_203 : Cond.methodLink RX8 203 ⟨"PetitionBoard$Ruling", "refersTo", "(I)Z"⟩ ∈ lwG := w991
theorem ml_L_279 : Cond.methodLink RL 279 yL_depth ∈ lwG := w994
theorem ml_L_101 : Cond.methodLink RL 101 yX8_depth ∈ lwG := w997
theorem ml_L_282 : Cond.methodLink RL 282 yL_isBasedOn ∈ lwG := w1001
theorem ml_L_104 : Cond.methodLink RL 104 yX8_isBasedOn ∈ lwG := w1004
theorem ml_X8_209 : Cond.methodLink RX8 209 yX6_restsOn ∈ lwG := w1008
theorem ml_X6_161 : Cond.methodLink RX6 161 yX6_citedSet ∈ lwG := w1012
theorem ml_X6_170 : Cond.methodLink RX6 170 ⟨"PetitionBoard$Ruling", "citedAt", "(I)I"⟩ ∈ lwG := w1016
theorem ml_L_285 : Cond.methodLink RL 285 yL_influence ∈ lwG := w1017
theorem ml_L_108 : Cond.methodLink RL 108 yX8_influence ∈ lwG := w1020
theorem ml_L_288 : Cond.methodLink RL 288 yL_influenceByMarking ∈ lwG := w1024
theorem ml_L_111 : Cond.methodLink RL 111 yX8_influenceByMarking ∈ lwG := w1027
theorem ml_X8_213 : Cond.methodLink RX8 213 yX6_countMarked ∈ lwG := w1031
theorem ml_X6_164 : Cond.methodLink RX6 164 yJ6_bitCount_0f7a4 ∈ lwG := w1035
theorem ml_L_291 : Cond.methodLink RL 291 yL_rulingByInfluence ∈ lwG := w1036
theorem ml_L_114 : Cond.methodLink RL 114 yX8_rulingByInfluence ∈ lwG := w1039
theorem ml_X8_218 : Cond.methodLink RX8 218 yX8_rankByInfluence ∈ lwG := w1044
theorem ml_L_310 : Cond.methodLink RL 310 yL_meanVotes ∈ lwG := w1048
theorem ml_L_117 : Cond.methodLink RL 117 yX8_meanVotes ∈ lwG := w1065
theorem ml_X8_237 : Cond.methodLink RX8 237 ⟨"java/lang/ArithmeticException", "<init>", "(Ljava/lang/String;)V"⟩ ∈ lwG := w1071
theorem ml_L_314 : Cond.methodLink RL 314 yL_grantedShare ∈ lwG := w1072
theorem ml_L_123 : Cond.methodLink RL 123 yX8_grantedShare ∈ lwG := w1075
theorem ml_L_317 : Cond.methodLink RL 317 yL_feed ∈ lwG := w1080
theorem ml_L_127 : Cond.methodLink RL 127 yX8_feed ∈ lwG := w1084
theorem ml_X8_250 : Cond.methodLink RX8 250 ⟨"java/lang/IllegalStateException", "<init>", "(Ljava/lang/String;)V"⟩ ∈ lwG := w1098
theorem ml_X8_251 : Cond.methodLink RX8 251 yX3_put ∈ lwG := w1104
theorem ml_L_321 : Cond.methodLink RL 321 yL_execute ∈ lwG := w1108
theorem ml_L_133 : Cond.methodLink RL 133 yX8_execute ∈ lwG := w1111
theorem ml_X8_255 : Cond.methodLink RX8 255 yX7_read ∈ lwG := w1115
theorem ml_X7_25 : Cond.methodLink RX7 25 yX7_readCommand ∈ lwG := w1119
theorem ml_X7_38 : Cond.methodLink RX7 38 yX3_at ∈ lwG := w1123
theorem ml_X7_42 : Cond.methodLink RX7 42 yX7_patternOf ∈ lwG := w1127
theorem ml_X7_46 : Cond.methodLink RX7 46 yJ0_isEmpty_aae02 ∈ lwG := w1141
theorem ml_X7_52 : Cond.methodLink RX7 52 yX1_begin ∈ lwG := w1145
theorem ml_X7_56 : Cond.methodLink RX7 56 yJ0_length_8abf5 ∈ lwG := w1149
theorem ml_J0_335 : Cond.methodLink RJ0 335 yJ0_coder_7d493 ∈ lwG := w1153
theorem ml_X7_59 : Cond.methodLink RX7 59 yJ0_charAt_5068e ∈ lwG := w1159
theorem ml_J0_492 : Cond.methodLink RJ0 492 yJ0_isLatin1_aae02 ∈ lwG := w1163
theorem ml_J0_495 : Cond.methodLink RJ0 495 yJ1_charAt_3b067 ∈ lwG := w1167
theorem ml_J1_9 : Cond.methodLink RJ1 9 yJ0_checkIndex_df160 ∈ lwG := w1170
theorem ml_J0_1059 : Cond.methodLink RJ0 1059 yJ3_checkIndex_8e157 ∈ lwG := w1175
theorem ml_J0_498 : Cond.methodLink RJ0 498 yJ2_charAt_3b067 ∈ lwG := w1178
theorem ml_J2_67 : Cond.methodLink RJ2 67 yJ2_checkIndex_2214a ∈ lwG := w1181
theorem ml_J2_48 : Cond.methodLink RJ2 48 yJ2_length_9d52b ∈ lwG := w1184
theorem ml_J2_414 : Cond.methodLink RJ2 414 yJ0_checkIndex_df160 ∈ lwG := w1187
theorem ml_J2_71 : Cond.methodLink RJ2 71 yJ2_getChar_3b067 ∈ lwG := w1188
theorem ml_X7_62 : Cond.methodLink RX7 62 yX7_readPart ∈ lwG := w1197
theorem ml_X7_66 : Cond.methodLink RX7 66 yX7_readValue ∈ lwG := w1201
theorem ml_X7_92 : Cond.methodLink RX7 92 yX7_isDigit ∈ lwG := w1205
theorem ml_X7_96 : Cond.methodLink RX7 96 yX1_add ∈ lwG := w1208
theorem ml_X7_34 : Cond.methodLink RX7 34 yX7_readSign ∈ lwG := w1212
theorem ml_X8_259 : Cond.methodLink RX8 259 yX3_clear ∈ lwG := w1216
theorem ml_X8_270 : Cond.methodLink RX8 270 yX8_runCommands ∈ lwG := w1221
theorem ml_X8_414 : Cond.methodLink RX8 414 yX8_attempt ∈ lwG := w1225
theorem ml_X8_274 : Cond.methodLink RX8 274 yX2_bringBackPrepared ∈ lwG := w1229
theorem ml_L_324 : Cond.methodLink RL 324 yL_faultPosition ∈ lwG := w1234
theorem ml_L_136 : Cond.methodLink RL 136 yX8_faultPosition ∈ lwG := w1237
theorem ml_L_327 : Cond.methodLink RL 327 yL_writePetition ∈ lwG := w1242
theorem ml_L_139 : Cond.methodLink RL 139 yX8_writePetition ∈ lwG := w1245
theorem ml_X8_290 : Cond.methodLink RX8 290 yX3_putMarked ∈ lwG := w1249
theorem ml_X3_19 : Cond.methodLink RX3 19 yX3_put ∈ lwG := w1253
theorem ml_X3_23 : Cond.methodLink RX3 23 yX3_putNumber ∈ lwG := w1254
theorem ml_X8_298 : Cond.methodLink RX8 298 ⟨"PetitionBoard$Petition", "citedAt", "(I)I"⟩ ∈ lwG := w1258
theorem ml_L_330 : Cond.methodLink RL 330 yL_writeRow ∈ lwG := w1259
theorem ml_L_142 : Cond.methodLink RL 142 yX8_writeRow ∈ lwG := w1262
theorem ml_X8_301 : Cond.methodLink RX8 301 yX3_putNumber ∈ lwG := w1267
theorem ml_L_333 : Cond.methodLink RL 333 yL_lineCharacter ∈ lwG := w1268
theorem ml_L_145 : Cond.methodLink RL 145 yX8_lineCharacter ∈ lwG := w1271
theorem ml_X8_307 : Cond.methodLink RX8 307 yX3_at ∈ lwG := w1276
theorem ml_L_336 : Cond.methodLink RL 336 yL_denial ∈ lwG := w1277
theorem ml_L_149 : Cond.methodLink RL 149 yX8_denial ∈ lwG := w1280
theorem ml_X8_311 : Cond.methodLink RX8 311 yX8_requireDenial ∈ lwG := w1284
theorem ml_L_339 : Cond.methodLink RL 339 yL_denialDetail ∈ lwG := w1289
theorem ml_L_152 : Cond.methodLink RL 152 yX8_denialDetail ∈ lwG := w1292
theorem ml_L_342 : Cond.methodLink RL 342 yL_denialCause ∈ lwG := w1296
theorem ml_L_155 : Cond.methodLink RL 155 yX8_denialCause ∈ lwG := w1299
theorem ml_X8_320 : Cond.methodLink RX8 320 yX8_requireCause ∈ lwG := w1303
theorem ml_L_345 : Cond.methodLink RL 345 yL_denialCauseDetail ∈ lwG := w1308
theorem ml_L_158 : Cond.methodLink RL 158 yX8_denialCauseDetail ∈ lwG := w1311
theorem ml_L_348 : Cond.methodLink RL 348 yL_undo ∈ lwG := w1315
theorem ml_L_161 : Cond.methodLink RL 161 yX8_undo ∈ lwG := w1318
theorem ml_X8_332 : Cond.methodLink RX8 332 yX2_bringBackLatest ∈ lwG := w1323
theorem ml_L_359 : Cond.methodLink RL 359 yL_restoreSnapshot ∈ lwG := w1327
theorem ml_L_164 : Cond.methodLink RL 164 yX8_restoreSnapshot ∈ lwG := w1330
theorem ml_X8_343 : Cond.methodLink RX8 343 yX2_forget ∈ lwG := w1335
theorem cl_L_168 : Cond.classLink RL 168 RX9 ∈ lwG := w1339
theorem nw_L_168 : NW RL 168 8 := ⟨_, _, _, rfl, lay_X9, w1339, w1340, w75⟩
theorem ml_L_170 : Cond.methodLink RL 170 yX9_init ∈ lwG := w1341
theorem ml_X9_1 : Cond.methodLink RX9 1 ⟨"java/lang/Object", "<init>", "()V"⟩ ∈ lwG := w1344
theorem fa_X9_7_8 : FA RX9 7 8 0 := ⟨_, _, _, _, rfl, by decide, lay_X9, w1345, Or.inl rfl⟩
theorem fa_X9_13_8 : FA RX9 13 8 1 := ⟨_, _, _, _, rfl, by decide, lay_X9, w1346, Or.inl rfl⟩
theorem fa_X9_16_8 : FA RX9 16 8 2 := ⟨_, _, _, _, rfl, by decide, lay_X9, w1347, Or.inl rfl⟩
theorem fa_X9_19_8 : FA RX9 19 8 3 := ⟨_, _, _, _, rfl, by decide, lay_X9, w1348, Or.inl rfl⟩
theorem fa_X9_265_8 : FA RX9 265 8 4 := ⟨_, _, _, _, rfl, by decide, lay_X9, w1349, Or.inl rfl⟩
theorem fa_X9_61_8 : FA RX9 61 8 5 := ⟨_, _, _, _, rfl, by decide, lay_X9, w1350, Or.inl rfl⟩
theorem fa_X9_58_8 : FA RX9 58 8 6 := ⟨_, _, _, _, rfl, by decide, lay_X9, w1351, Or.inl rfl⟩
theorem fa_X9_42_8 : FA RX9 42 8 7 := ⟨_, _, _, _, rfl, by decide, lay_X9, w1352, Or.inl rfl⟩
theorem fa_X9_39_8 : FA RX9 39 8 8 := ⟨_, _, _, _, rfl, by decide, lay_X9, w1353, Or.inl rfl⟩
theorem fa_X9_46_8 : FA RX9 46 8 9 := ⟨_, _, _, _, rfl, by decide, lay_X9, w1354, Or.inl rfl⟩
theorem fa_X9_49_8 : FA RX9 49 8 10 := ⟨_, _, _, _, rfl, by decide, lay_X9, w1355, Or.inl rfl⟩
theorem fa_X9_52_8 : FA RX9 52 8 11 := ⟨_, _, _, _, rfl, by decide, lay_X9, w1356, Or.inl rfl⟩
theorem fa_X9_55_8 : FA RX9 55 8 12 := ⟨_, _, _, _, rfl, by decide, lay_X9, w1357, Or.inl rfl⟩
theorem fa_X9_22_8 : FA RX9 22 8 13 := ⟨_, _, _, _, rfl, by decide, lay_X9, w1358, Or.inl rfl⟩
theorem fa_X9_164_8 : FA RX9 164 8 14 := ⟨_, _, _, _, rfl, by decide, lay_X9, w1359, Or.inl rfl⟩
theorem fa_X9_25_8 : FA RX9 25 8 15 := ⟨_, _, _, _, rfl, by decide, lay_X9, w1360, Or.inl rfl⟩
theorem fa_X9_29_8 : FA RX9 29 8 16 := ⟨_, _, _, _, rfl, by decide, lay_X9, w1361, Or.inl rfl⟩
theorem fa_X9_252_8 : FA RX9 252 8 17 := ⟨_, _, _, _, rfl, by decide, lay_X9, w1362, Or.inl rfl⟩
theorem fa_X9_33_8 : FA RX9 33 8 18 := ⟨_, _, _, _, rfl, by decide, lay_X9, w1363, Or.inl rfl⟩
theorem fa_X9_167_8 : FA RX9 167 8 19 := ⟨_, _, _, _, rfl, by decide, lay_X9, w1364, Or.inl rfl⟩
theorem fa_X9_36_8 : FA RX9 36 8 20 := ⟨_, _, _, _, rfl, by decide, lay_X9, w1365, Or.inl rfl⟩
theorem fa_X9_174_8 : FA RX9 174 8 21 := ⟨_, _, _, _, rfl, by decide, lay_X9, w1366, Or.inl rfl⟩
theorem ml_L_177 : Cond.methodLink RL 177 yX9_thrown ∈ lwG := w1412
theorem ml_L_176 : Cond.methodLink RL 176 yX9_addStone ∈ lwG := w1416
theorem ml_X9_76 : Cond.methodLink RX9 76 yX9_isCell ∈ lwG := w1420
theorem ml_X9_68 : Cond.methodLink RX9 68 yX9_in ∈ lwG := w1423
theorem ml_X9_80 : Cond.methodLink RX9 80 yX9_fails ∈ lwG := w1426
theorem ml_X9_83 : Cond.methodLink RX9 83 yX9_within ∈ lwG := w1430
theorem ml_X9_72 : Cond.methodLink RX9 72 yX9_cell ∈ lwG := w1434
theorem ml_X9_86 : Cond.methodLink RX9 86 yX9_denies ∈ lwG := w1438
theorem ml_X9_90 : Cond.methodLink RX9 90 yX9_keeps ∈ lwG := w1442
theorem ml_X9_64 : Cond.methodLink RX9 64 yX9_copies ∈ lwG := w1446
theorem ml_L_183 : Cond.methodLink RL 183 yX9_addOfficer ∈ lwG := w1449
theorem ml_L_187 : Cond.methodLink RL 187 yX9_stoneCount ∈ lwG := w1453
theorem ml_L_190 : Cond.methodLink RL 190 yX9_cellOf ∈ lwG := w1457
theorem ml_X9_94 : Cond.methodLink RX9 94 yX9_isStone ∈ lwG := w1461
theorem ml_L_193 : Cond.methodLink RL 193 yX9_weightOf ∈ lwG := w1465
theorem ml_X9_97 : Cond.methodLink RX9 97 yX9_heavy ∈ lwG := w1469
theorem ml_L_196 : Cond.methodLink RL 196 yX9_stoneIn ∈ lwG := w1473
theorem ml_L_200 : Cond.methodLink RL 200 yX9_officerCount ∈ lwG := w1477
theorem ml_L_203 : Cond.methodLink RL 203 yX9_rankOf ∈ lwG := w1481
theorem ml_X9_100 : Cond.methodLink RX9 100 yX9_isOfficer ∈ lwG := w1485
theorem ml_X9_103 : Cond.methodLink RX9 103 yX9_rank ∈ lwG := w1489
theorem ml_L_206 : Cond.methodLink RL 206 yX9_petitionsOf ∈ lwG := w1493
theorem ml_X9_106 : Cond.methodLink RX9 106 yX9_of ∈ lwG := w1497
theorem ml_L_210 : Cond.methodLink RL 210 yX9_file ∈ lwG := w1501
theorem ml_X9_113 : Cond.methodLink RX9 113 yX9_about ∈ lwG := w1505
theorem ml_X9_116 : Cond.methodLink RX9 116 yX9_lays ∈ lwG := w1509
theorem ml_L_214 : Cond.methodLink RL 214 yX9_vote ∈ lwG := w1513
theorem ml_X9_110 : Cond.methodLink RX9 110 yX9_placeOf ∈ lwG := w1517
theorem ml_X9_123 : Cond.methodLink RX9 123 yX9_votes ∈ lwG := w1521
theorem ml_X9_120 : Cond.methodLink RX9 120 yX9_bits ∈ lwG := w1525
theorem ml_L_217 : Cond.methodLink RL 217 yX9_cite ∈ lwG := w1528
theorem ml_X9_126 : Cond.methodLink RX9 126 yX9_isRuling ∈ lwG := w1532
theorem ml_L_220 : Cond.methodLink RL 220 yX9_veto ∈ lwG := w1536
theorem ml_X9_129 : Cond.methodLink RX9 129 yX9_drops ∈ lwG := w1540
theorem ml_L_223 : Cond.methodLink RL 223 yX9_withdraw ∈ lwG := w1544
theorem ml_X9_133 : Cond.methodLink RX9 133 yX9_isNone ∈ lwG := w1548
theorem ml_L_227 : Cond.methodLink RL 227 yX9_pendingCount ∈ lwG := w1552
theorem ml_L_230 : Cond.methodLink RL 230 yX9_petitionAt ∈ lwG := w1556
theorem ml_X9_143 : Cond.methodLink RX9 143 yX9_queued ∈ lwG := w1560
theorem ml_X9_140 : Cond.methodLink RX9 140 yX9_ahead ∈ lwG := w1564
theorem ml_X9_136 : Cond.methodLink RX9 136 yX9_isAhead ∈ lwG := w1568
theorem ml_L_233 : Cond.methodLink RL 233 yX9_positionOf ∈ lwG := w1572
theorem ml_L_236 : Cond.methodLink RL 236 yX9_stoneOf ∈ lwG := w1576
theorem ml_L_239 : Cond.methodLink RL 239 yX9_targetOf ∈ lwG := w1580
theorem ml_L_242 : Cond.methodLink RL 242 yX9_votesFor ∈ lwG := w1584
theorem ml_L_245 : Cond.methodLink RL 245 yX9_votesAgainst ∈ lwG := w1588
theorem ml_L_248 : Cond.methodLink RL 248 yX9_wouldBeGranted ∈ lwG := w1592
theorem ml_X9_149 : Cond.methodLink RX9 149 yX9_wins ∈ lwG := w1596
theorem ml_X9_146 : Cond.methodLink RX9 146 yX9_by ∈ lwG := w1600
theorem ml_L_251 : Cond.methodLink RL 251 yX9_setQuorum ∈ lwG := w1604
theorem ml_L_255 : Cond.methodLink RL 255 yX9_decide ∈ lwG := w1608
theorem ml_L_259 : Cond.methodLink RL 259 yX9_quorum ∈ lwG := w1612
theorem ml_L_263 : Cond.methodLink RL 263 yX9_rulingCount ∈ lwG := w1616
theorem ml_L_266 : Cond.methodLink RL 266 yX9_isGranted ∈ lwG := w1620
theorem ml_X9_152 : Cond.methodLink RX9 152 yX9_isUnruled ∈ lwG := w1624
theorem ml_L_269 : Cond.methodLink RL 269 yX9_isCarriedOut ∈ lwG := w1628
theorem ml_L_272 : Cond.methodLink RL 272 yX9_citationCount ∈ lwG := w1632
theorem ml_L_275 : Cond.methodLink RL 275 yX9_citation ∈ lwG := w1636
theorem ml_L_278 : Cond.methodLink RL 278 yX9_citedBy ∈ lwG := w1640
theorem ml_X9_155 : Cond.methodLink RX9 155 yX9_names ∈ lwG := w1644
theorem ml_L_281 : Cond.methodLink RL 281 yX9_depth ∈ lwG := w1648
theorem ml_L_284 : Cond.methodLink RL 284 yX9_isBasedOn ∈ lwG := w1652
theorem ml_X9_158 : Cond.methodLink RX9 158 yX9_based ∈ lwG := w1656
theorem ml_L_287 : Cond.methodLink RL 287 yX9_influence ∈ lwG := w1660
theorem ml_X9_161 : Cond.methodLink RX9 161 yX9_reaches ∈ lwG := w1664
theorem ml_L_290 : Cond.methodLink RL 290 yX9_influenceByMarking ∈ lwG := w1668
theorem ml_L_293 : Cond.methodLink RL 293 yX9_rulingByInfluence ∈ lwG := w1672
theorem ml_L_297 : Cond.methodLink RL 297 yX9_filedCount ∈ lwG := w1676
theorem ml_L_301 : Cond.methodLink RL 301 yX9_vetoes ∈ lwG := w1680
theorem ml_L_305 : Cond.methodLink RL 305 yX9_withdrawals ∈ lwG := w1684
theorem ml_L_309 : Cond.methodLink RL 309 yX9_movedWeight ∈ lwG := w1688
theorem ml_L_313 : Cond.methodLink RL 313 yX9_meanVotes ∈ lwG := w1692
theorem ml_L_316 : Cond.methodLink RL 316 yX9_grantedShare ∈ lwG := w1696
theorem ml_L_320 : Cond.methodLink RL 320 yX9_feed ∈ lwG := w1700
theorem ml_L_323 : Cond.methodLink RL 323 yX9_execute ∈ lwG := w1704
theorem ml_X9_243 : Cond.methodLink RX9 243 yX9_isText ∈ lwG := w1708
theorem ml_X9_215 : Cond.methodLink RX9 215 yX9_commandHere ∈ lwG := w1712
theorem ml_X9_170 : Cond.methodLink RX9 170 yX9_here ∈ lwG := w1716
theorem ml_X9_190 : Cond.methodLink RX9 190 yX9_isWord ∈ lwG := w1721
theorem ml_X9_177 : Cond.methodLink RX9 177 yJ0_charAt_5068e ∈ lwG := w1725
theorem ml_X9_183 : Cond.methodLink RX9 183 yJ0_length_8abf5 ∈ lwG := w1726
theorem ml_X9_185 : Cond.methodLink RX9 185 yX9_skips ∈ lwG := w1727
theorem ml_X9_194 : Cond.methodLink RX9 194 yX9_figures ∈ lwG := w1731
theorem ml_X9_246 : Cond.methodLink RX9 246 yX9_carries ∈ lwG := w1744
theorem ml_X9_219 : Cond.methodLink RX9 219 yX9_addStone ∈ lwG := w1748
theorem ml_X9_222 : Cond.methodLink RX9 222 yX9_addOfficer ∈ lwG := w1749
theorem ml_X9_225 : Cond.methodLink RX9 225 yX9_setQuorum ∈ lwG := w1750
theorem ml_X9_228 : Cond.methodLink RX9 228 yX9_file ∈ lwG := w1751
theorem ml_X9_231 : Cond.methodLink RX9 231 yX9_vote ∈ lwG := w1752
theorem ml_X9_235 : Cond.methodLink RX9 235 yX9_cite ∈ lwG := w1753
theorem ml_X9_237 : Cond.methodLink RX9 237 yX9_veto ∈ lwG := w1754
theorem ml_X9_239 : Cond.methodLink RX9 239 yX9_withdraw ∈ lwG := w1755
theorem ml_X9_241 : Cond.methodLink RX9 241 yX9_decide ∈ lwG := w1756
theorem ml_X9_249 : Cond.methodLink RX9 249 yX9_deniesText ∈ lwG := w1757
theorem ml_L_326 : Cond.methodLink RL 326 yX9_faultPosition ∈ lwG := w1761
theorem ml_L_329 : Cond.methodLink RL 329 yX9_writePetition ∈ lwG := w1765
theorem ml_X9_261 : Cond.methodLink RX9 261 yX9_writesBehind ∈ lwG := w1769
theorem ml_X9_258 : Cond.methodLink RX9 258 yX9_writes ∈ lwG := w1773
theorem ml_X9_255 : Cond.methodLink RX9 255 yX9_writesNumber ∈ lwG := w1777
theorem ml_L_332 : Cond.methodLink RL 332 yX9_writeRow ∈ lwG := w1781
theorem ml_L_335 : Cond.methodLink RL 335 yX9_lineCharacter ∈ lwG := w1785
theorem ml_L_338 : Cond.methodLink RL 338 yX9_denial ∈ lwG := w1789
theorem ml_L_341 : Cond.methodLink RL 341 yX9_denialDetail ∈ lwG := w1793
theorem ml_L_344 : Cond.methodLink RL 344 yX9_denialCause ∈ lwG := w1797
theorem ml_L_347 : Cond.methodLink RL 347 yX9_denialCauseDetail ∈ lwG := w1801
theorem ml_L_350 : Cond.methodLink RL 350 yX9_undo ∈ lwG := w1805
theorem ml_L_354 : Cond.methodLink RL 354 yX9_undoCount ∈ lwG := w1809
theorem ml_L_358 : Cond.methodLink RL 358 yX9_saveSnapshot ∈ lwG := w1813
theorem ml_L_361 : Cond.methodLink RL 361 yX9_restoreSnapshot ∈ lwG := w1817
theorem mi_X0_init : MIw yX0_init cX0_init 1 0 := ⟨rfl, w115, w68, w116, by decide, by decide, by decide +kernel⟩
theorem mi_X1_init : MIw yX1_init cX1_init 1 0 := ⟨rfl, w301, w74, w302, by decide, by decide, by decide +kernel⟩
theorem mv_X1_begin : MVw yX1_begin cX1_begin 2 none 1 := ⟨w1146, w1147, w74, w1148, by decide, by decide, by decide +kernel⟩
theorem mv_X1_add : MVw yX1_add cX1_add 2 none 1 := ⟨w1209, w1210, w74, w1211, by decide, by decide, by decide +kernel⟩
theorem mi_X2_init : MIw yX2_init cX2_init 2 0 := ⟨rfl, w261, w71, w262, by decide, by decide, by decide +kernel⟩
theorem mv_X2_prepare : MVw yX2_prepare cX2_prepare 2 none 1 := ⟨w545, w546, w71, w547, by decide, by decide, by decide +kernel⟩
theorem mv_X2_bringBackPrepared : MVw yX2_bringBackPrepared cX2_bringBackPrepared 2 none 1 := ⟨w1230, w1231, w71, w1232, by decide, by decide, by decide +kernel⟩
theorem mv_X2_keepPrepared : MVw yX2_keepPrepared cX2_keepPrepared 3 none 0 := ⟨w638, w639, w71, w640, by decide, by decide, by decide +kernel⟩
theorem mv_X2_bringBackLatest : MVw yX2_bringBackLatest cX2_bringBackLatest 2 none 1 := ⟨w1324, w1325, w71, w1326, by decide, by decide, by decide +kernel⟩
theorem mv_X2_forget : MVw yX2_forget cX2_forget 1 none 0 := ⟨w1336, w1337, w71, w1338, by decide, by decide, by decide +kernel⟩
theorem mi_X3_init : MIw yX3_init cX3_init 1 0 := ⟨rfl, w278, w72, w279, by decide, by decide, by decide +kernel⟩
theorem mv_X3_clear : MVw yX3_clear cX3_clear 1 none 0 := ⟨w1217, w1218, w72, w1219, by decide, by decide, by decide +kernel⟩
theorem mv_X3_put : MVw yX3_put cX3_put 2 none 1 := ⟨w1105, w1106, w72, w1107, by decide, by decide, by decide +kernel⟩
theorem mv_X3_putMarked : MVw yX3_putMarked cX3_putMarked 3 none 2 := ⟨w1250, w1251, w72, w1252, by decide, by decide, by decide +kernel⟩
theorem mv_X3_putNumber : MVw yX3_putNumber cX3_putNumber 5 none 1 := ⟨w1255, w1256, w72, w1257, by decide, by decide, by decide +kernel⟩
theorem mv_X3_at : MVw yX3_at cX3_at 2 (some .char) 1 := ⟨w1124, w1125, w72, w1126, by decide, by decide, by decide +kernel⟩
theorem mi_X4_init : MIw yX4_init cX4_init 1 0 := ⟨rfl, w112, w69, w113, by decide, by decide, by decide +kernel⟩
theorem mv_X4_forgetVotesAndCitations : MVw yX4_forgetVotesAndCitations cX4_forgetVotesAndCitations 1 none 0 := ⟨w724, w725, w69, w726, by decide, by decide, by decide +kernel⟩
theorem mv_X4_comesBefore : MVw yX4_comesBefore cX4_comesBefore 2 (some .boolean) 1 := ⟨w732, w733, w69, w734, by decide, by decide, by decide +kernel⟩
theorem mv_X4_hasVoteFor : MVw yX4_hasVoteFor cX4_hasVoteFor 2 (some .boolean) 1 := ⟨w751, w752, w69, w753, by decide, by decide, by decide +kernel⟩
theorem mv_X4_hasVoteAgainst : MVw yX4_hasVoteAgainst cX4_hasVoteAgainst 2 (some .boolean) 1 := ⟨w755, w756, w69, w757, by decide, by decide, by decide +kernel⟩
theorem mv_X4_addVote : MVw yX4_addVote cX4_addVote 3 none 2 := ⟨w759, w760, w69, w761, by decide, by decide, by decide +kernel⟩
theorem mv_X4_countFor : MVw yX4_countFor cX4_countFor 1 (some .int) 0 := ⟨w767, w768, w69, w769, by decide, by decide, by decide +kernel⟩
theorem mv_X4_countAgainst : MVw yX4_countAgainst cX4_countAgainst 1 (some .int) 0 := ⟨w777, w778, w69, w779, by decide, by decide, by decide +kernel⟩
theorem mv_X4_countVotes : MVw yX4_countVotes cX4_countVotes 1 (some .int) 0 := ⟨w763, w764, w69, w765, by decide, by decide, by decide +kernel⟩
theorem mv_X4_copyFrom : MVw yX4_copyFrom cX4_copyFrom 2 none 1 := ⟨w439, w440, w69, w441, by decide, by decide, by decide +kernel⟩
theorem mi_X5_init : MIw yX5_init cX5_init 1 0 := ⟨rfl, w178, w70, w179, by decide, by decide, by decide +kernel⟩
theorem mv_X5_copyFrom : MVw yX5_copyFrom cX5_copyFrom 2 none 1 := ⟨w449, w450, w70, w451, by decide, by decide, by decide +kernel⟩
theorem mi_X6_init : MIw yX6_init cX6_init 2 0 := ⟨rfl, w103, w67, w104, by decide, by decide, by decide +kernel⟩
theorem mv_X6_copyFrom : MVw yX6_copyFrom cX6_copyFrom 3 none 1 := ⟨w432, w433, w67, w434, by decide, by decide, by decide +kernel⟩
theorem mv_X6_hasStone : MVw yX6_hasStone cX6_hasStone 2 (some .boolean) 1 := ⟨w664, w665, w67, w666, by decide, by decide, by decide +kernel⟩
theorem mv_X6_hasOfficer : MVw yX6_hasOfficer cX6_hasOfficer 2 (some .boolean) 1 := ⟨w693, w694, w67, w695, by decide, by decide, by decide +kernel⟩
theorem mv_X6_findStoneIn : MVw yX6_findStoneIn cX6_findStoneIn 3 (some .int) 1 := ⟨w557, w558, w67, w559, by decide, by decide, by decide +kernel⟩
theorem mv_X6_findPetition : MVw yX6_findPetition cX6_findPetition 3 (some (.object "PetitionBoard$Petition")) 1 := ⟨w747, w748, w67, w749, by decide, by decide, by decide +kernel⟩
theorem mv_X6_findPetitionFor : MVw yX6_findPetitionFor cX6_findPetitionFor 3 (some (.object "PetitionBoard$Petition")) 1 := ⟨w716, w717, w67, w718, by decide, by decide, by decide +kernel⟩
theorem mv_X6_findRuling : MVw yX6_findRuling cX6_findRuling 2 (some (.object "PetitionBoard$Ruling")) 1 := ⟨w792, w793, w67, w794, by decide, by decide, by decide +kernel⟩
theorem mv_X6_appendStone : MVw yX6_appendStone cX6_appendStone 4 (some .int) 2 := ⟨w565, w566, w67, w567, by decide, by decide, by decide +kernel⟩
theorem mv_X6_appendOfficer : MVw yX6_appendOfficer cX6_appendOfficer 3 (some .int) 1 := ⟨w653, w654, w67, w655, by decide, by decide, by decide +kernel⟩
theorem mv_X6_enqueue : MVw yX6_enqueue cX6_enqueue 6 (some .int) 4 := ⟨w720, w721, w67, w722, by decide, by decide, by decide +kernel⟩
theorem mv_X6_moveToItsPosition : MVw yX6_moveToItsPosition cX6_moveToItsPosition 3 none 1 := ⟨w729, w7, w67, w730, by decide, by decide, by decide +kernel⟩
theorem mv_X6_dequeue : MVw yX6_dequeue cX6_dequeue 4 none 1 := ⟨w825, w826, w67, w827, by decide, by decide, by decide +kernel⟩
theorem mv_X6_isWon : MVw yX6_isWon cX6_isWon 5 (some .boolean) 1 := ⟨w898, w899, w67, w900, by decide, by decide, by decide +kernel⟩
theorem mv_X6_rule : MVw yX6_rule cX6_rule 3 (some .int) 1 := ⟨w931, w932, w67, w933, by decide, by decide, by decide +kernel⟩
theorem mv_X6_levelAbove : MVw yX6_levelAbove cX6_levelAbove 5 (some .int) 1 := ⟨w937, w15, w67, w938, by decide, by decide, by decide +kernel⟩
theorem mv_X6_moveStone : MVw yX6_moveStone cX6_moveStone 3 none 2 := ⟨w944, w16, w67, w945, by decide, by decide, by decide +kernel⟩
theorem mv_X6_restsOn : MVw yX6_restsOn cX6_restsOn 5 (some .boolean) 2 := ⟨w1009, w1010, w67, w1011, by decide, by decide, by decide +kernel⟩
theorem mv_X6_countMarked : MVw yX6_countMarked cX6_countMarked 4 (some .int) 1 := ⟨w1032, w1033, w67, w1034, by decide, by decide, by decide +kernel⟩
theorem mv_X6_citedSet : MVw yX6_citedSet cX6_citedSet 5 (some .int) 1 := ⟨w1014, w18, w67, w1015, by decide, by decide, by decide +kernel⟩
theorem mi_X7_init : MIw yX7_init cX7_init 2 0 := ⟨rfl, w294, w73, w295, by decide, by decide, by decide +kernel⟩
theorem mv_X7_read : MVw yX7_read cX7_read 2 (some .boolean) 1 := ⟨w1116, w1117, w73, w1118, by decide, by decide, by decide +kernel⟩
theorem mv_X7_readCommand : MVw yX7_readCommand cX7_readCommand 6 (some .boolean) 2 := ⟨w1121, w20, w73, w1122, by decide, by decide, by decide +kernel⟩
theorem mv_X7_readPart : MVw yX7_readPart cX7_readPart 4 (some .boolean) 3 := ⟨w1199, w21, w73, w1200, by decide, by decide, by decide +kernel⟩
theorem ms_X7_patternOf : MSw yX7_patternOf cX7_patternOf 1 (some (.object "java/lang/String")) 1 := ⟨w1128, w73, w1129, by decide, by decide, by decide +kernel⟩
theorem mv_X7_readSign : MVw yX7_readSign cX7_readSign 3 (some .boolean) 2 := ⟨w1214, w23, w73, w1215, by decide, by decide, by decide +kernel⟩
theorem mv_X7_readValue : MVw yX7_readValue cX7_readValue 5 (some .boolean) 3 := ⟨w1203, w22, w73, w1204, by decide, by decide, by decide +kernel⟩
theorem ms_X7_isDigit : MSw yX7_isDigit cX7_isDigit 1 (some .boolean) 1 := ⟨w1206, w73, w1207, by decide, by decide, by decide +kernel⟩
theorem mi_X8_init : MIw yX8_init cX8_init 1 0 := ⟨rfl, w95, w66, w96, by decide, by decide, by decide +kernel⟩
theorem mv_X8_addStone : MVw yX8_addStone cX8_addStone 3 (some .int) 2 := ⟨w541, w542, w66, w543, by decide, by decide, by decide +kernel⟩
theorem mv_X8_addOfficer : MVw yX8_addOfficer cX8_addOfficer 2 (some .int) 1 := ⟨w645, w646, w66, w647, by decide, by decide, by decide +kernel⟩
theorem mv_X8_stoneCount : MVw yX8_stoneCount cX8_stoneCount 1 (some .int) 0 := ⟨w388, w389, w66, w390, by decide, by decide, by decide +kernel⟩
theorem mv_X8_cellOf : MVw yX8_cellOf cX8_cellOf 2 (some .int) 1 := ⟨w660, w661, w66, w662, by decide, by decide, by decide +kernel⟩
theorem mv_X8_weightOf : MVw yX8_weightOf cX8_weightOf 2 (some .int) 1 := ⟨w672, w673, w66, w674, by decide, by decide, by decide +kernel⟩
theorem mv_X8_stoneIn : MVw yX8_stoneIn cX8_stoneIn 3 (some .int) 1 := ⟨w680, w681, w66, w682, by decide, by decide, by decide +kernel⟩
theorem mv_X8_officerCount : MVw yX8_officerCount cX8_officerCount 1 (some .int) 0 := ⟨w392, w393, w66, w394, by decide, by decide, by decide +kernel⟩
theorem mv_X8_rankOf : MVw yX8_rankOf cX8_rankOf 2 (some .int) 1 := ⟨w689, w690, w66, w691, by decide, by decide, by decide +kernel⟩
theorem mv_X8_petitionsOf : MVw yX8_petitionsOf cX8_petitionsOf 4 (some .int) 1 := ⟨w701, w702, w66, w703, by decide, by decide, by decide +kernel⟩
theorem mv_X8_file : MVw yX8_file cX8_file 5 (some .int) 4 := ⟨w708, w709, w66, w710, by decide, by decide, by decide +kernel⟩
theorem mv_X8_vote : MVw yX8_vote cX8_vote 4 (some .int) 3 := ⟨w739, w740, w66, w741, by decide, by decide, by decide +kernel⟩
theorem mv_X8_cite : MVw yX8_cite cX8_cite 3 (some .int) 2 := ⟨w784, w785, w66, w786, by decide, by decide, by decide +kernel⟩
theorem mv_X8_veto : MVw yX8_veto cX8_veto 3 (some .int) 2 := ⟨w817, w818, w66, w819, by decide, by decide, by decide +kernel⟩
theorem mv_X8_withdraw : MVw yX8_withdraw cX8_withdraw 2 (some .int) 1 := ⟨w832, w833, w66, w834, by decide, by decide, by decide +kernel⟩
theorem mv_X8_pendingCount : MVw yX8_pendingCount cX8_pendingCount 1 (some .int) 0 := ⟨w396, w397, w66, w398, by decide, by decide, by decide +kernel⟩
theorem mv_X8_petitionAt : MVw yX8_petitionAt cX8_petitionAt 2 (some .int) 1 := ⟨w843, w844, w66, w845, by decide, by decide, by decide +kernel⟩
theorem mv_X8_positionOf : MVw yX8_positionOf cX8_positionOf 5 (some .int) 1 := ⟨w851, w852, w66, w853, by decide, by decide, by decide +kernel⟩
theorem mv_X8_stoneOf : MVw yX8_stoneOf cX8_stoneOf 2 (some .int) 1 := ⟨w864, w865, w66, w866, by decide, by decide, by decide +kernel⟩
theorem mv_X8_targetOf : MVw yX8_targetOf cX8_targetOf 2 (some .int) 1 := ⟨w871, w872, w66, w873, by decide, by decide, by decide +kernel⟩
theorem mv_X8_votesFor : MVw yX8_votesFor cX8_votesFor 2 (some .int) 1 := ⟨w878, w879, w66, w880, by decide, by decide, by decide +kernel⟩
theorem mv_X8_votesAgainst : MVw yX8_votesAgainst cX8_votesAgainst 2 (some .int) 1 := ⟨w886, w887, w66, w888, by decide, by decide, by decide +kernel⟩
theorem mv_X8_wouldBeGranted : MVw yX8_wouldBeGranted cX8_wouldBeGranted 2 (some .boolean) 1 := ⟨w894, w895, w66, w896, by decide, by decide, by decide +kernel⟩
theorem mv_X8_setQuorum : MVw yX8_setQuorum cX8_setQuorum 2 (some .int) 1 := ⟨w912, w913, w66, w914, by decide, by decide, by decide +kernel⟩
theorem mv_X8_decide : MVw yX8_decide cX8_decide 1 (some .int) 0 := ⟨w923, w924, w66, w925, by decide, by decide, by decide +kernel⟩
theorem mv_X8_quorum : MVw yX8_quorum cX8_quorum 1 (some .int) 0 := ⟨w400, w401, w66, w402, by decide, by decide, by decide +kernel⟩
theorem mv_X8_rulingCount : MVw yX8_rulingCount cX8_rulingCount 1 (some .int) 0 := ⟨w404, w405, w66, w406, by decide, by decide, by decide +kernel⟩
theorem mv_X8_isGranted : MVw yX8_isGranted cX8_isGranted 2 (some .boolean) 1 := ⟨w952, w953, w66, w954, by decide, by decide, by decide +kernel⟩
theorem mv_X8_isCarriedOut : MVw yX8_isCarriedOut cX8_isCarriedOut 2 (some .boolean) 1 := ⟨w964, w965, w66, w966, by decide, by decide, by decide +kernel⟩
theorem mv_X8_citationCount : MVw yX8_citationCount cX8_citationCount 2 (some .int) 1 := ⟨w971, w972, w66, w973, by decide, by decide, by decide +kernel⟩
theorem mv_X8_citation : MVw yX8_citation cX8_citation 4 (some .int) 2 := ⟨w978, w979, w66, w980, by decide, by decide, by decide +kernel⟩
theorem mv_X8_citedBy : MVw yX8_citedBy cX8_citedBy 4 (some .int) 1 := ⟨w988, w989, w66, w990, by decide, by decide, by decide +kernel⟩
theorem mv_X8_depth : MVw yX8_depth cX8_depth 2 (some .int) 1 := ⟨w998, w999, w66, w1000, by decide, by decide, by decide +kernel⟩
theorem mv_X8_isBasedOn : MVw yX8_isBasedOn cX8_isBasedOn 3 (some .boolean) 2 := ⟨w1005, w1006, w66, w1007, by decide, by decide, by decide +kernel⟩
theorem mv_X8_influence : MVw yX8_influence cX8_influence 4 (some .int) 1 := ⟨w1021, w1022, w66, w1023, by decide, by decide, by decide +kernel⟩
theorem mv_X8_influenceByMarking : MVw yX8_influenceByMarking cX8_influenceByMarking 2 (some .int) 1 := ⟨w1028, w1029, w66, w1030, by decide, by decide, by decide +kernel⟩
theorem mv_X8_rulingByInfluence : MVw yX8_rulingByInfluence cX8_rulingByInfluence 4 (some .int) 1 := ⟨w1040, w1041, w66, w1042, by decide, by decide, by decide +kernel⟩
theorem mv_X8_filedCount : MVw yX8_filedCount cX8_filedCount 1 (some .int) 0 := ⟨w408, w409, w66, w410, by decide, by decide, by decide +kernel⟩
theorem mv_X8_vetoes : MVw yX8_vetoes cX8_vetoes 1 (some .int) 0 := ⟨w412, w413, w66, w414, by decide, by decide, by decide +kernel⟩
theorem mv_X8_withdrawals : MVw yX8_withdrawals cX8_withdrawals 1 (some .int) 0 := ⟨w416, w417, w66, w418, by decide, by decide, by decide +kernel⟩
theorem mv_X8_movedWeight : MVw yX8_movedWeight cX8_movedWeight 1 (some .int) 0 := ⟨w420, w421, w66, w422, by decide, by decide, by decide +kernel⟩
theorem mv_X8_meanVotes : MVw yX8_meanVotes cX8_meanVotes 3 (some .double) 0 := ⟨w1066, w1067, w66, w1068, by decide, by decide, by decide +kernel⟩
theorem mv_X8_grantedShare : MVw yX8_grantedShare cX8_grantedShare 3 (some .float) 0 := ⟨w1076, w1077, w66, w1078, by decide, by decide, by decide +kernel⟩
theorem mv_X8_feed : MVw yX8_feed cX8_feed 2 (some .int) 1 := ⟨w1085, w1086, w66, w1087, by decide, by decide, by decide +kernel⟩
theorem mv_X8_execute : MVw yX8_execute cX8_execute 2 (some .int) 0 := ⟨w1112, w1113, w66, w1114, by decide, by decide, by decide +kernel⟩
theorem mv_X8_faultPosition : MVw yX8_faultPosition cX8_faultPosition 1 (some .int) 0 := ⟨w1238, w1239, w66, w1240, by decide, by decide, by decide +kernel⟩
theorem mv_X8_writePetition : MVw yX8_writePetition cX8_writePetition 4 (some .int) 1 := ⟨w1246, w1247, w66, w1248, by decide, by decide, by decide +kernel⟩
theorem mv_X8_writeRow : MVw yX8_writeRow cX8_writeRow 4 (some .int) 1 := ⟨w1263, w1264, w66, w1265, by decide, by decide, by decide +kernel⟩
theorem mv_X8_lineCharacter : MVw yX8_lineCharacter cX8_lineCharacter 2 (some .char) 1 := ⟨w1272, w1273, w66, w1274, by decide, by decide, by decide +kernel⟩
theorem mv_X8_denial : MVw yX8_denial cX8_denial 1 (some .int) 0 := ⟨w1281, w1282, w66, w1283, by decide, by decide, by decide +kernel⟩
theorem mv_X8_denialDetail : MVw yX8_denialDetail cX8_denialDetail 1 (some .int) 0 := ⟨w1293, w1294, w66, w1295, by decide, by decide, by decide +kernel⟩
theorem mv_X8_denialCause : MVw yX8_denialCause cX8_denialCause 1 (some .int) 0 := ⟨w1300, w1301, w66, w1302, by decide, by decide, by decide +kernel⟩
theorem mv_X8_denialCauseDetail : MVw yX8_denialCauseDetail cX8_denialCauseDetail 1 (some .int) 0 := ⟨w1312, w1313, w66, w1314, by decide, by decide, by decide +kernel⟩
theorem mv_X8_undo : MVw yX8_undo cX8_undo 1 (some .int) 0 := ⟨w1319, w1320, w66, w1321, by decide, by decide, by decide +kernel⟩
theorem mv_X8_undoCount : MVw yX8_undoCount cX8_undoCount 1 (some .int) 0 := ⟨w424, w425, w66, w426, by decide, by decide, by decide +kernel⟩
theorem mv_X8_saveSnapshot : MVw yX8_saveSnapshot cX8_saveSnapshot 1 (some .int) 0 := ⟨w428, w429, w66, w430, by decide, by decide, by decide +kernel⟩
theorem mv_X8_restoreSnapshot : MVw yX8_restoreSnapshot cX8_restoreSnapshot 1 (some .int) 0 := ⟨w1331, w1332, w66, w1333, by decide, by decide, by decide +kernel⟩
theorem mv_X8_placeStone : MVw yX8_placeStone cX8_placeStone 4 (some .int) 2 := ⟨w551, w1, w66, w552, by decide, by decide, by decide +kernel⟩
theorem mv_X8_enlistOfficer : MVw yX8_enlistOfficer cX8_enlistOfficer 2 (some .int) 1 := ⟨w650, w5, w66, w651, by decide, by decide, by decide +kernel⟩
theorem mv_X8_changeQuorum : MVw yX8_changeQuorum cX8_changeQuorum 3 (some .int) 1 := ⟨w917, w13, w66, w918, by decide, by decide, by decide +kernel⟩
theorem mv_X8_lodgePetition : MVw yX8_lodgePetition cX8_lodgePetition 6 (some .int) 4 := ⟨w713, w6, w66, w714, by decide, by decide, by decide +kernel⟩
theorem mv_X8_castVote : MVw yX8_castVote cX8_castVote 5 (some .int) 3 := ⟨w744, w8, w66, w745, by decide, by decide, by decide +kernel⟩
theorem mv_X8_citeRuling : MVw yX8_citeRuling cX8_citeRuling 4 (some .int) 2 := ⟨w789, w9, w66, w790, by decide, by decide, by decide +kernel⟩
theorem mv_X8_vetoPetition : MVw yX8_vetoPetition cX8_vetoPetition 4 (some .int) 2 := ⟨w822, w10, w66, w823, by decide, by decide, by decide +kernel⟩
theorem mv_X8_withdrawPetition : MVw yX8_withdrawPetition cX8_withdrawPetition 3 (some .int) 1 := ⟨w837, w11, w66, w838, by decide, by decide, by decide +kernel⟩
theorem mv_X8_decideFirst : MVw yX8_decideFirst cX8_decideFirst 2 (some .int) 0 := ⟨w928, w14, w66, w929, by decide, by decide, by decide +kernel⟩
theorem mv_X8_deny : MVw yX8_deny cX8_deny 3 (some .int) 2 := ⟨w562, w2, w66, w563, by decide, by decide, by decide +kernel⟩
theorem mv_X8_conclude : MVw yX8_conclude cX8_conclude 2 (some .int) 1 := ⟨w570, w3, w66, w571, by decide, by decide, by decide +kernel⟩
theorem mv_X8_runCommands : MVw yX8_runCommands cX8_runCommands 3 (some .boolean) 0 := ⟨w1223, w24, w66, w1224, by decide, by decide, by decide +kernel⟩
theorem mv_X8_attempt : MVw yX8_attempt cX8_attempt 2 (some .int) 1 := ⟨w1227, w25, w66, w1228, by decide, by decide, by decide +kernel⟩
theorem mv_X8_keepDenial : MVw yX8_keepDenial cX8_keepDenial 5 none 4 := ⟨w619, w4, w66, w620, by decide, by decide, by decide +kernel⟩
theorem ms_X8_isCell : MSw yX8_isCell cX8_isCell 1 (some .boolean) 1 := ⟨w554, w66, w555, by decide, by decide, by decide +kernel⟩
theorem mv_X8_requirePetition : MVw yX8_requirePetition cX8_requirePetition 3 (some (.object "PetitionBoard$Petition")) 1 := ⟨w856, w12, w66, w857, by decide, by decide, by decide +kernel⟩
theorem mv_X8_requireRuling : MVw yX8_requireRuling cX8_requireRuling 3 (some (.object "PetitionBoard$Ruling")) 1 := ⟨w957, w17, w66, w958, by decide, by decide, by decide +kernel⟩
theorem mv_X8_requireDenial : MVw yX8_requireDenial cX8_requireDenial 1 none 0 := ⟨w1286, w26, w66, w1287, by decide, by decide, by decide +kernel⟩
theorem mv_X8_requireCause : MVw yX8_requireCause cX8_requireCause 1 none 0 := ⟨w1305, w27, w66, w1306, by decide, by decide, by decide +kernel⟩
theorem mv_X8_rankByInfluence : MVw yX8_rankByInfluence cX8_rankByInfluence 6 (some .int) 1 := ⟨w1046, w19, w66, w1047, by decide, by decide, by decide +kernel⟩
theorem mi_X9_init : MIw yX9_init cX9_init 1 0 := ⟨rfl, w1342, w75, w1343, by decide, by decide, by decide +kernel⟩
theorem mv_X9_thrown : MVw yX9_thrown cX9_thrown 1 (some .int) 0 := ⟨w1413, w1414, w75, w1415, by decide, by decide, by decide +kernel⟩
theorem mv_X9_fails : MVw yX9_fails cX9_fails 2 (some .boolean) 1 := ⟨w1428, w28, w75, w1429, by decide, by decide, by decide +kernel⟩
theorem mv_X9_denies : MVw yX9_denies cX9_denies 4 (some .int) 3 := ⟨w1440, w31, w75, w1441, by decide, by decide, by decide +kernel⟩
theorem ms_X9_in : MSw yX9_in cX9_in 3 (some .boolean) 3 := ⟨w1424, w75, w1425, by decide, by decide, by decide +kernel⟩
theorem ms_X9_copies : MSw yX9_copies cX9_copies 5 none 4 := ⟨w1447, w75, w1448, by decide, by decide, by decide +kernel⟩
theorem mv_X9_keeps : MVw yX9_keeps cX9_keeps 3 none 1 := ⟨w1444, w32, w75, w1445, by decide, by decide, by decide +kernel⟩
theorem ms_X9_isCell : MSw yX9_isCell cX9_isCell 1 (some .boolean) 1 := ⟨w1421, w75, w1422, by decide, by decide, by decide +kernel⟩
theorem mv_X9_isStone : MVw yX9_isStone cX9_isStone 2 (some .boolean) 1 := ⟨w1463, w33, w75, w1464, by decide, by decide, by decide +kernel⟩
theorem mv_X9_isOfficer : MVw yX9_isOfficer cX9_isOfficer 2 (some .boolean) 1 := ⟨w1487, w35, w75, w1488, by decide, by decide, by decide +kernel⟩
theorem mv_X9_cell : MVw yX9_cell cX9_cell 2 (some .int) 1 := ⟨w1436, w30, w75, w1437, by decide, by decide, by decide +kernel⟩
theorem mv_X9_heavy : MVw yX9_heavy cX9_heavy 2 (some .int) 1 := ⟨w1471, w34, w75, w1472, by decide, by decide, by decide +kernel⟩
theorem mv_X9_rank : MVw yX9_rank cX9_rank 2 (some .int) 1 := ⟨w1491, w36, w75, w1492, by decide, by decide, by decide +kernel⟩
theorem mv_X9_within : MVw yX9_within cX9_within 3 (some .int) 1 := ⟨w1432, w29, w75, w1433, by decide, by decide, by decide +kernel⟩
theorem mv_X9_addStone : MVw yX9_addStone cX9_addStone 4 (some .int) 2 := ⟨w1417, w1418, w75, w1419, by decide, by decide, by decide +kernel⟩
theorem mv_X9_addOfficer : MVw yX9_addOfficer cX9_addOfficer 2 (some .int) 1 := ⟨w1450, w1451, w75, w1452, by decide, by decide, by decide +kernel⟩
theorem mv_X9_stoneCount : MVw yX9_stoneCount cX9_stoneCount 1 (some .int) 0 := ⟨w1454, w1455, w75, w1456, by decide, by decide, by decide +kernel⟩
theorem mv_X9_cellOf : MVw yX9_cellOf cX9_cellOf 2 (some .int) 1 := ⟨w1458, w1459, w75, w1460, by decide, by decide, by decide +kernel⟩
theorem mv_X9_weightOf : MVw yX9_weightOf cX9_weightOf 2 (some .int) 1 := ⟨w1466, w1467, w75, w1468, by decide, by decide, by decide +kernel⟩
theorem mv_X9_stoneIn : MVw yX9_stoneIn cX9_stoneIn 2 (some .int) 1 := ⟨w1474, w1475, w75, w1476, by decide, by decide, by decide +kernel⟩
theorem mv_X9_officerCount : MVw yX9_officerCount cX9_officerCount 1 (some .int) 0 := ⟨w1478, w1479, w75, w1480, by decide, by decide, by decide +kernel⟩
theorem mv_X9_rankOf : MVw yX9_rankOf cX9_rankOf 2 (some .int) 1 := ⟨w1482, w1483, w75, w1484, by decide, by decide, by decide +kernel⟩
theorem mv_X9_petitionsOf : MVw yX9_petitionsOf cX9_petitionsOf 4 (some .int) 1 := ⟨w1494, w1495, w75, w1496, by decide, by decide, by decide +kernel⟩
theorem mv_X9_of : MVw yX9_of cX9_of 3 (some .int) 2 := ⟨w1499, w37, w75, w1500, by decide, by decide, by decide +kernel⟩
theorem mv_X9_lays : MVw yX9_lays cX9_lays 4 none 3 := ⟨w1511, w39, w75, w1512, by decide, by decide, by decide +kernel⟩
theorem mv_X9_placeOf : MVw yX9_placeOf cX9_placeOf 3 (some .int) 1 := ⟨w1519, w40, w75, w1520, by decide, by decide, by decide +kernel⟩
theorem mv_X9_isNone : MVw yX9_isNone cX9_isNone 2 (some .boolean) 1 := ⟨w1550, w44, w75, w1551, by decide, by decide, by decide +kernel⟩
theorem mv_X9_about : MVw yX9_about cX9_about 3 (some .int) 1 := ⟨w1507, w38, w75, w1508, by decide, by decide, by decide +kernel⟩
theorem mv_X9_file : MVw yX9_file cX9_file 7 (some .int) 4 := ⟨w1502, w1503, w75, w1504, by decide, by decide, by decide +kernel⟩
theorem ms_X9_bits : MSw yX9_bits cX9_bits 3 (some .int) 1 := ⟨w1526, w75, w1527, by decide, by decide, by decide +kernel⟩
theorem mv_X9_votes : MVw yX9_votes cX9_votes 2 (some .int) 1 := ⟨w1523, w41, w75, w1524, by decide, by decide, by decide +kernel⟩
theorem mv_X9_vote : MVw yX9_vote cX9_vote 6 (some .int) 3 := ⟨w1514, w1515, w75, w1516, by decide, by decide, by decide +kernel⟩
theorem mv_X9_isRuling : MVw yX9_isRuling cX9_isRuling 2 (some .boolean) 1 := ⟨w1534, w42, w75, w1535, by decide, by decide, by decide +kernel⟩
theorem mv_X9_cite : MVw yX9_cite cX9_cite 6 (some .int) 2 := ⟨w1529, w1530, w75, w1531, by decide, by decide, by decide +kernel⟩
theorem mv_X9_drops : MVw yX9_drops cX9_drops 3 none 1 := ⟨w1542, w43, w75, w1543, by decide, by decide, by decide +kernel⟩
theorem mv_X9_veto : MVw yX9_veto cX9_veto 5 (some .int) 2 := ⟨w1537, w1538, w75, w1539, by decide, by decide, by decide +kernel⟩
theorem mv_X9_withdraw : MVw yX9_withdraw cX9_withdraw 2 (some .int) 1 := ⟨w1545, w1546, w75, w1547, by decide, by decide, by decide +kernel⟩
theorem mv_X9_pendingCount : MVw yX9_pendingCount cX9_pendingCount 1 (some .int) 0 := ⟨w1553, w1554, w75, w1555, by decide, by decide, by decide +kernel⟩
theorem mv_X9_isAhead : MVw yX9_isAhead cX9_isAhead 5 (some .boolean) 2 := ⟨w1570, w47, w75, w1571, by decide, by decide, by decide +kernel⟩
theorem mv_X9_ahead : MVw yX9_ahead cX9_ahead 4 (some .int) 1 := ⟨w1566, w46, w75, w1567, by decide, by decide, by decide +kernel⟩
theorem mv_X9_queued : MVw yX9_queued cX9_queued 3 (some .int) 1 := ⟨w1562, w45, w75, w1563, by decide, by decide, by decide +kernel⟩
theorem mv_X9_petitionAt : MVw yX9_petitionAt cX9_petitionAt 2 (some .int) 1 := ⟨w1557, w1558, w75, w1559, by decide, by decide, by decide +kernel⟩
theorem mv_X9_positionOf : MVw yX9_positionOf cX9_positionOf 2 (some .int) 1 := ⟨w1573, w1574, w75, w1575, by decide, by decide, by decide +kernel⟩
theorem mv_X9_stoneOf : MVw yX9_stoneOf cX9_stoneOf 2 (some .int) 1 := ⟨w1577, w1578, w75, w1579, by decide, by decide, by decide +kernel⟩
theorem mv_X9_targetOf : MVw yX9_targetOf cX9_targetOf 2 (some .int) 1 := ⟨w1581, w1582, w75, w1583, by decide, by decide, by decide +kernel⟩
theorem mv_X9_votesFor : MVw yX9_votesFor cX9_votesFor 2 (some .int) 1 := ⟨w1585, w1586, w75, w1587, by decide, by decide, by decide +kernel⟩
theorem mv_X9_votesAgainst : MVw yX9_votesAgainst cX9_votesAgainst 2 (some .int) 1 := ⟨w1589, w1590, w75, w1591, by decide, by decide, by decide +kernel⟩
theorem mv_X9_wins : MVw yX9_wins cX9_wins 4 (some .boolean) 1 := ⟨w1598, w48, w75, w1599, by decide, by decide, by decide +kernel⟩
theorem mv_X9_wouldBeGranted : MVw yX9_wouldBeGranted cX9_wouldBeGranted 2 (some .boolean) 1 := ⟨w1593, w1594, w75, w1595, by decide, by decide, by decide +kernel⟩
theorem mv_X9_by : MVw yX9_by cX9_by 3 (some .int) 2 := ⟨w1602, w49, w75, w1603, by decide, by decide, by decide +kernel⟩
theorem mv_X9_setQuorum : MVw yX9_setQuorum cX9_setQuorum 3 (some .int) 1 := ⟨w1605, w1606, w75, w1607, by decide, by decide, by decide +kernel⟩
theorem mv_X9_decide : MVw yX9_decide cX9_decide 7 (some .int) 0 := ⟨w1609, w1610, w75, w1611, by decide, by decide, by decide +kernel⟩
theorem mv_X9_quorum : MVw yX9_quorum cX9_quorum 1 (some .int) 0 := ⟨w1613, w1614, w75, w1615, by decide, by decide, by decide +kernel⟩
theorem mv_X9_rulingCount : MVw yX9_rulingCount cX9_rulingCount 1 (some .int) 0 := ⟨w1617, w1618, w75, w1619, by decide, by decide, by decide +kernel⟩
theorem mv_X9_isUnruled : MVw yX9_isUnruled cX9_isUnruled 2 (some .boolean) 1 := ⟨w1626, w50, w75, w1627, by decide, by decide, by decide +kernel⟩
theorem mv_X9_isGranted : MVw yX9_isGranted cX9_isGranted 2 (some .boolean) 1 := ⟨w1621, w1622, w75, w1623, by decide, by decide, by decide +kernel⟩
theorem mv_X9_isCarriedOut : MVw yX9_isCarriedOut cX9_isCarriedOut 2 (some .boolean) 1 := ⟨w1629, w1630, w75, w1631, by decide, by decide, by decide +kernel⟩
theorem mv_X9_citationCount : MVw yX9_citationCount cX9_citationCount 2 (some .int) 1 := ⟨w1633, w1634, w75, w1635, by decide, by decide, by decide +kernel⟩
theorem mv_X9_citation : MVw yX9_citation cX9_citation 3 (some .int) 2 := ⟨w1637, w1638, w75, w1639, by decide, by decide, by decide +kernel⟩
theorem mv_X9_names : MVw yX9_names cX9_names 4 (some .boolean) 2 := ⟨w1646, w51, w75, w1647, by decide, by decide, by decide +kernel⟩
theorem mv_X9_citedBy : MVw yX9_citedBy cX9_citedBy 4 (some .int) 1 := ⟨w1641, w1642, w75, w1643, by decide, by decide, by decide +kernel⟩
theorem mv_X9_depth : MVw yX9_depth cX9_depth 4 (some .int) 1 := ⟨w1649, w1650, w75, w1651, by decide, by decide, by decide +kernel⟩
theorem mv_X9_based : MVw yX9_based cX9_based 5 (some .int) 1 := ⟨w1658, w52, w75, w1659, by decide, by decide, by decide +kernel⟩
theorem mv_X9_reaches : MVw yX9_reaches cX9_reaches 4 (some .int) 1 := ⟨w1666, w53, w75, w1667, by decide, by decide, by decide +kernel⟩
theorem mv_X9_isBasedOn : MVw yX9_isBasedOn cX9_isBasedOn 3 (some .boolean) 2 := ⟨w1653, w1654, w75, w1655, by decide, by decide, by decide +kernel⟩
theorem mv_X9_influence : MVw yX9_influence cX9_influence 2 (some .int) 1 := ⟨w1661, w1662, w75, w1663, by decide, by decide, by decide +kernel⟩
theorem mv_X9_influenceByMarking : MVw yX9_influenceByMarking cX9_influenceByMarking 2 (some .int) 1 := ⟨w1669, w1670, w75, w1671, by decide, by decide, by decide +kernel⟩
theorem mv_X9_rulingByInfluence : MVw yX9_rulingByInfluence cX9_rulingByInfluence 5 (some .int) 1 := ⟨w1673, w1674, w75, w1675, by decide, by decide, by decide +kernel⟩
theorem mv_X9_filedCount : MVw yX9_filedCount cX9_filedCount 1 (some .int) 0 := ⟨w1677, w1678, w75, w1679, by decide, by decide, by decide +kernel⟩
theorem mv_X9_vetoes : MVw yX9_vetoes cX9_vetoes 1 (some .int) 0 := ⟨w1681, w1682, w75, w1683, by decide, by decide, by decide +kernel⟩
theorem mv_X9_withdrawals : MVw yX9_withdrawals cX9_withdrawals 1 (some .int) 0 := ⟨w1685, w1686, w75, w1687, by decide, by decide, by decide +kernel⟩
theorem mv_X9_movedWeight : MVw yX9_movedWeight cX9_movedWeight 1 (some .int) 0 := ⟨w1689, w1690, w75, w1691, by decide, by decide, by decide +kernel⟩
theorem mv_X9_meanVotes : MVw yX9_meanVotes cX9_meanVotes 3 (some .double) 0 := ⟨w1693, w1694, w75, w1695, by decide, by decide, by decide +kernel⟩
theorem mv_X9_grantedShare : MVw yX9_grantedShare cX9_grantedShare 3 (some .float) 0 := ⟨w1697, w1698, w75, w1699, by decide, by decide, by decide +kernel⟩
theorem mv_X9_feed : MVw yX9_feed cX9_feed 2 (some .int) 1 := ⟨w1701, w1702, w75, w1703, by decide, by decide, by decide +kernel⟩
theorem mv_X9_here : MVw yX9_here cX9_here 1 (some .int) 0 := ⟨w1718, w56, w75, w1719, by decide, by decide, by decide +kernel⟩
theorem mv_X9_skips : MVw yX9_skips cX9_skips 2 (some .boolean) 1 := ⟨w1729, w58, w75, w1730, by decide, by decide, by decide +kernel⟩
theorem mv_X9_isWord : MVw yX9_isWord cX9_isWord 3 (some .boolean) 1 := ⟨w1723, w57, w75, w1724, by decide, by decide, by decide +kernel⟩
theorem mv_X9_figures : MVw yX9_figures cX9_figures 4 (some .boolean) 2 := ⟨w1733, w59, w75, w1734, by decide, by decide, by decide +kernel⟩
theorem mv_X9_commandHere : MVw yX9_commandHere cX9_commandHere 2 (some .boolean) 0 := ⟨w1714, w55, w75, w1715, by decide, by decide, by decide +kernel⟩
theorem mv_X9_isText : MVw yX9_isText cX9_isText 1 (some .boolean) 0 := ⟨w1710, w54, w75, w1711, by decide, by decide, by decide +kernel⟩
theorem mv_X9_carries : MVw yX9_carries cX9_carries 4 (some .int) 1 := ⟨w1746, w60, w75, w1747, by decide, by decide, by decide +kernel⟩
theorem mv_X9_deniesText : MVw yX9_deniesText cX9_deniesText 4 (some .int) 1 := ⟨w1759, w61, w75, w1760, by decide, by decide, by decide +kernel⟩
theorem mv_X9_execute : MVw yX9_execute cX9_execute 4 (some .int) 0 := ⟨w1705, w1706, w75, w1707, by decide, by decide, by decide +kernel⟩
theorem mv_X9_faultPosition : MVw yX9_faultPosition cX9_faultPosition 1 (some .int) 0 := ⟨w1762, w1763, w75, w1764, by decide, by decide, by decide +kernel⟩
theorem mv_X9_writes : MVw yX9_writes cX9_writes 2 none 1 := ⟨w1775, w63, w75, w1776, by decide, by decide, by decide +kernel⟩
theorem mv_X9_writesNumber : MVw yX9_writesNumber cX9_writesNumber 2 none 1 := ⟨w1779, w64, w75, w1780, by decide, by decide, by decide +kernel⟩
theorem mv_X9_writesBehind : MVw yX9_writesBehind cX9_writesBehind 3 none 2 := ⟨w1771, w62, w75, w1772, by decide, by decide, by decide +kernel⟩
theorem mv_X9_writePetition : MVw yX9_writePetition cX9_writePetition 4 (some .int) 1 := ⟨w1766, w1767, w75, w1768, by decide, by decide, by decide +kernel⟩
theorem mv_X9_writeRow : MVw yX9_writeRow cX9_writeRow 3 (some .int) 1 := ⟨w1782, w1783, w75, w1784, by decide, by decide, by decide +kernel⟩
theorem mv_X9_lineCharacter : MVw yX9_lineCharacter cX9_lineCharacter 2 (some .char) 1 := ⟨w1786, w1787, w75, w1788, by decide, by decide, by decide +kernel⟩
theorem mv_X9_denial : MVw yX9_denial cX9_denial 1 (some .int) 0 := ⟨w1790, w1791, w75, w1792, by decide, by decide, by decide +kernel⟩
theorem mv_X9_denialDetail : MVw yX9_denialDetail cX9_denialDetail 1 (some .int) 0 := ⟨w1794, w1795, w75, w1796, by decide, by decide, by decide +kernel⟩
theorem mv_X9_denialCause : MVw yX9_denialCause cX9_denialCause 1 (some .int) 0 := ⟨w1798, w1799, w75, w1800, by decide, by decide, by decide +kernel⟩
theorem mv_X9_denialCauseDetail : MVw yX9_denialCauseDetail cX9_denialCauseDetail 1 (some .int) 0 := ⟨w1802, w1803, w75, w1804, by decide, by decide, by decide +kernel⟩
theorem mv_X9_undo : MVw yX9_undo cX9_undo 1 (some .int) 0 := ⟨w1806, w1807, w75, w1808, by decide, by decide, by decide +kernel⟩
theorem mv_X9_undoCount : MVw yX9_undoCount cX9_undoCount 1 (some .int) 0 := ⟨w1810, w1811, w75, w1812, by decide, by decide, by decide +kernel⟩
theorem mv_X9_saveSnapshot : MVw yX9_saveSnapshot cX9_saveSnapshot 1 (some .int) 0 := ⟨w1814, w1815, w75, w1816, by decide, by decide, by decide +kernel⟩
theorem mv_X9_restoreSnapshot : MVw yX9_restoreSnapshot cX9_restoreSnapshot 1 (some .int) 0 := ⟨w1818, w1819, w75, w1820, by decide, by decide, by decide +kernel⟩
theorem mi_Jx00060_init_a7421 : MIw yJx00060_init_a7421 cJx00060_init_a7421 2 1 := ⟨rfl, w460, w80, w461, by decide, by decide, by decide +kernel⟩
theorem ms_J6_bitCount_0f7a4 : MSw yJ6_bitCount_0f7a4 cJ6_bitCount_0f7a4 1 (some .int) 1 := ⟨w771, w86, w772, by decide, by decide, by decide +kernel⟩
theorem mv_J0_length_8abf5 : MVw yJ0_length_8abf5 cJ0_length_8abf5 1 (some .int) 0 := ⟨w1150, w1151, w81, w1152, by decide, by decide, by decide +kernel⟩
theorem mv_J0_isEmpty_aae02 : MVw yJ0_isEmpty_aae02 cJ0_isEmpty_aae02 1 (some .boolean) 0 := ⟨w1142, w1143, w81, w1144, by decide, by decide, by decide +kernel⟩
theorem mv_J0_charAt_5068e : MVw yJ0_charAt_5068e cJ0_charAt_5068e 2 (some .char) 1 := ⟨w1160, w1161, w81, w1162, by decide, by decide, by decide +kernel⟩
theorem mv_J0_coder_7d493 : MVw yJ0_coder_7d493 cJ0_coder_7d493 1 (some .byte) 0 := ⟨w1154, w1155, w81, w1156, by decide, by decide, by decide +kernel⟩
theorem mv_J0_isLatin1_aae02 : MVw yJ0_isLatin1_aae02 cJ0_isLatin1_aae02 1 (some .boolean) 0 := ⟨w1164, w1165, w81, w1166, by decide, by decide, by decide +kernel⟩
theorem ms_J0_checkIndex_df160 : MSw yJ0_checkIndex_df160 cJ0_checkIndex_df160 2 none 2 := ⟨w1171, w81, w1172, by decide, by decide, by decide +kernel⟩
theorem ms_J1_charAt_3b067 : MSw yJ1_charAt_3b067 cJ1_charAt_3b067 2 (some .char) 2 := ⟨w1168, w89, w1169, by decide, by decide, by decide +kernel⟩
theorem ms_J2_getChar_3b067 : MSw yJ2_getChar_3b067 cJ2_getChar_3b067 2 (some .char) 2 := ⟨w1189, w91, w1190, by decide, by decide, by decide +kernel⟩
theorem ms_J2_length_9d52b : MSw yJ2_length_9d52b cJ2_length_9d52b 1 (some .int) 1 := ⟨w1185, w91, w1186, by decide, by decide, by decide +kernel⟩
theorem ms_J2_charAt_3b067 : MSw yJ2_charAt_3b067 cJ2_charAt_3b067 2 (some .char) 2 := ⟨w1179, w91, w1180, by decide, by decide, by decide +kernel⟩
theorem ms_J2_checkIndex_2214a : MSw yJ2_checkIndex_2214a cJ2_checkIndex_2214a 2 none 2 := ⟨w1182, w91, w1183, by decide, by decide, by decide +kernel⟩
theorem ms_J3_checkIndex_8e157 : MSw yJ3_checkIndex_8e157 cJ3_checkIndex_8e157 3 (some .int) 3 := ⟨w1176, w90, w1177, by decide, by decide, by decide +kernel⟩
theorem mu_X4_41_3 : MUw RX4 41 RX4 RX0 ⟨"PetitionBoard$Petition", "copyCited", "(LPetitionBoard$Citing;)V"⟩ yX0_copyCited cX0_copyCited 2 none 1 := ⟨w442, w443, w445, w446, w68, w447, rfl, by decide, by decide, by decide +kernel⟩
theorem mu_X5_7_4 : MUw RX5 7 RX5 RX0 ⟨"PetitionBoard$Ruling", "copyCited", "(LPetitionBoard$Citing;)V"⟩ yX0_copyCited cX0_copyCited 2 none 1 := ⟨w452, w453, w454, w446, w68, w447, rfl, by decide, by decide, by decide +kernel⟩
theorem mu_X6_126_4 : MUw RX6 126 RX5 RX0 ⟨"PetitionBoard$Ruling", "copyCited", "(LPetitionBoard$Citing;)V"⟩ yX0_copyCited cX0_copyCited 2 none 1 := ⟨w934, w453, w454, w446, w68, w447, rfl, by decide, by decide, by decide +kernel⟩
theorem mu_X8_377_3 : MUw RX8 377 RX4 RX0 ⟨"PetitionBoard$Petition", "refersTo", "(I)Z"⟩ yX0_refersTo cX0_refersTo 3 (some .boolean) 1 := ⟨w795, w796, w798, w799, w68, w800, rfl, by decide, by decide, by decide +kernel⟩
theorem mu_X0_22_3 : MUw RX0 22 RX4 RX0 yX0_citedAt yX0_citedAt cX0_citedAt 2 (some .int) 1 := ⟨w801, w803, w804, w802, w68, w806, rfl, by decide, by decide, by decide +kernel⟩
theorem mu_X6_156_3 : MUw RX6 156 RX4 RX0 yX0_citedAt yX0_citedAt cX0_citedAt 2 (some .int) 1 := ⟨w939, w803, w804, w802, w68, w806, rfl, by decide, by decide, by decide +kernel⟩
theorem mu_X0_22_4 : MUw RX0 22 RX5 RX0 yX0_citedAt yX0_citedAt cX0_citedAt 2 (some .int) 1 := ⟨w801, w803, w805, w802, w68, w806, rfl, by decide, by decide, by decide +kernel⟩
theorem mu_X6_156_4 : MUw RX6 156 RX5 RX0 yX0_citedAt yX0_citedAt cX0_citedAt 2 (some .int) 1 := ⟨w939, w803, w805, w802, w68, w806, rfl, by decide, by decide, by decide +kernel⟩
theorem mu_X8_378_3 : MUw RX8 378 RX4 RX0 ⟨"PetitionBoard$Petition", "addCited", "(I)V"⟩ yX0_addCited cX0_addCited 2 none 1 := ⟨w807, w808, w810, w811, w68, w812, rfl, by decide, by decide, by decide +kernel⟩
theorem mu_X6_114_3 : MUw RX6 114 RX4 RX0 ⟨"PetitionBoard$Petition", "citedAt", "(I)I"⟩ yX0_citedAt cX0_citedAt 2 (some .int) 1 := ⟨w903, w904, w906, w802, w68, w806, rfl, by decide, by decide, by decide +kernel⟩
theorem mu_X8_298_3 : MUw RX8 298 RX4 RX0 ⟨"PetitionBoard$Petition", "citedAt", "(I)I"⟩ yX0_citedAt cX0_citedAt 2 (some .int) 1 := ⟨w1258, w904, w906, w802, w68, w806, rfl, by decide, by decide, by decide +kernel⟩
theorem mu_X8_196_4 : MUw RX8 196 RX5 RX0 ⟨"PetitionBoard$Ruling", "citedAt", "(I)I"⟩ yX0_citedAt cX0_citedAt 2 (some .int) 1 := ⟨w981, w982, w983, w802, w68, w806, rfl, by decide, by decide, by decide +kernel⟩
theorem mu_X6_170_4 : MUw RX6 170 RX5 RX0 ⟨"PetitionBoard$Ruling", "citedAt", "(I)I"⟩ yX0_citedAt cX0_citedAt 2 (some .int) 1 := ⟨w1016, w982, w983, w802, w68, w806, rfl, by decide, by decide, by decide +kernel⟩
theorem mu_X8_203_4 : MUw RX8 203 RX5 RX0 ⟨"PetitionBoard$Ruling", "refersTo", "(I)Z"⟩ yX0_refersTo cX0_refersTo 3 (some .boolean) 1 := ⟨w991, w992, w993, w799, w68, w800, rfl, by decide, by decide, by decide +kernel⟩
end
section
/-! THROWS of the class: new E("text") -/
def xE : List String := ["java/lang/RuntimeException", "java/lang/Exception"]
/-- a place where the class throws: the class of the exception, its place in the pool, its constructor's -/
def XW (E : String) (ik ic : Nat) : Prop := E ∈ ex_tab ∧ Bundle.fit E = true ∧ Cond.classLink RX8 ik E ∈ lwG ∧ Cond.initialized E ∈ lwG ∧ (∀ w ∈ (vx_atS RX8 ic E xE).filter goodWord, w ∈ lwG) ∧ (∀ w ∈ (vx_atS RX8 ic E xE).filter (fun w => !goodWord w), w ∈ [Cond.castable E E, .declares ⟨"java/lang/RuntimeException", "<init>", "(Ljava/lang/String;)V"⟩, .declares ⟨"java/lang/Exception", "<init>", "(Ljava/lang/String;)V"⟩, .declares ⟨"java/lang/Throwable", "<init>", "(Ljava/lang/String;)V"⟩]) ∧ (∀ w ∈ Cond.classLink RX8 ik E :: Cond.initialized E :: vx_atS RX8 ic E xE, vx_ot w = true)
set_option maxRecDepth 100000 in
theorem xg_77 : ∀ w ∈ (vx_atS RX8 77 "java/lang/IndexOutOfBoundsException" xE).filter goodWord, w ∈ lwG := by decide +kernel
theorem xb_77 : ∀ w ∈ (vx_atS RX8 77 "java/lang/IndexOutOfBoundsException" xE).filter (fun w => !goodWord w), w ∈ [Cond.castable "java/lang/IndexOutOfBoundsException" "java/lang/IndexOutOfBoundsException", .declares ⟨"java/lang/RuntimeException", "<init>", "(Ljava/lang/String;)V"⟩, .declares ⟨"java/lang/Exception", "<init>", "(Ljava/lang/String;)V"⟩, .declares ⟨"java/lang/Throwable", "<init>", "(Ljava/lang/String;)V"⟩] := by decide +kernel
theorem xw_73 : XW "java/lang/IndexOutOfBoundsException" 73 77 := ⟨by decide, by decide +kernel, wm 572 (by decide +kernel) (by decide +kernel), wm 79 (by decide +kernel) (by decide +kernel), xg_77, xb_77, by decide +kernel⟩
set_option maxRecDepth 100000 in
theorem xg_269 : ∀ w ∈ (vx_atS RX8 269 "java/lang/IllegalArgumentException" xE).filter goodWord, w ∈ lwG := by decide +kernel
theorem xb_269 : ∀ w ∈ (vx_atS RX8 269 "java/lang/IllegalArgumentException" xE).filter (fun w => !goodWord w), w ∈ [Cond.castable "java/lang/IllegalArgumentException" "java/lang/IllegalArgumentException", .declares ⟨"java/lang/RuntimeException", "<init>", "(Ljava/lang/String;)V"⟩, .declares ⟨"java/lang/Exception", "<init>", "(Ljava/lang/String;)V"⟩, .declares ⟨"java/lang/Throwable", "<init>", "(Ljava/lang/String;)V"⟩] := by decide +kernel
theorem xw_265 : XW "java/lang/IllegalArgumentException" 265 269 := ⟨by decide, by decide +kernel, wm 585 (by decide +kernel) (by decide +kernel), wm 83 (by decide +kernel) (by decide +kernel), xg_269, xb_269, by decide +kernel⟩
set_option maxRecDepth 100000 in
theorem xg_281 : ∀ w ∈ (vx_atS RX8 281 "java/lang/UnsupportedOperationException" xE).filter goodWord, w ∈ lwG := by decide +kernel
theorem xb_281 : ∀ w ∈ (vx_atS RX8 281 "java/lang/UnsupportedOperationException" xE).filter (fun w => !goodWord w), w ∈ [Cond.castable "java/lang/UnsupportedOperationException" "java/lang/UnsupportedOperationException", .declares ⟨"java/lang/RuntimeException", "<init>", "(Ljava/lang/String;)V"⟩, .declares ⟨"java/lang/Exception", "<init>", "(Ljava/lang/String;)V"⟩, .declares ⟨"java/lang/Throwable", "<init>", "(Ljava/lang/String;)V"⟩] := by decide +kernel
theorem xw_277 : XW "java/lang/UnsupportedOperationException" 277 281 := ⟨by decide, by decide +kernel, wm 621 (by decide +kernel) (by decide +kernel), wm 85 (by decide +kernel) (by decide +kernel), xg_281, xb_281, by decide +kernel⟩
set_option maxRecDepth 100000 in
theorem xg_237 : ∀ w ∈ (vx_atS RX8 237 "java/lang/ArithmeticException" xE).filter goodWord, w ∈ lwG := by decide +kernel
theorem xb_237 : ∀ w ∈ (vx_atS RX8 237 "java/lang/ArithmeticException" xE).filter (fun w => !goodWord w), w ∈ [Cond.castable "java/lang/ArithmeticException" "java/lang/ArithmeticException", .declares ⟨"java/lang/RuntimeException", "<init>", "(Ljava/lang/String;)V"⟩, .declares ⟨"java/lang/Exception", "<init>", "(Ljava/lang/String;)V"⟩, .declares ⟨"java/lang/Throwable", "<init>", "(Ljava/lang/String;)V"⟩] := by decide +kernel
theorem xw_233 : XW "java/lang/ArithmeticException" 233 237 := ⟨by decide, by decide +kernel, wm 1069 (by decide +kernel) (by decide +kernel), wm 87 (by decide +kernel) (by decide +kernel), xg_237, xb_237, by decide +kernel⟩
set_option maxRecDepth 100000 in
theorem xg_250 : ∀ w ∈ (vx_atS RX8 250 "java/lang/IllegalStateException" xE).filter goodWord, w ∈ lwG := by decide +kernel
theorem xb_250 : ∀ w ∈ (vx_atS RX8 250 "java/lang/IllegalStateException" xE).filter (fun w => !goodWord w), w ∈ [Cond.castable "java/lang/IllegalStateException" "java/lang/IllegalStateException", .declares ⟨"java/lang/RuntimeException", "<init>", "(Ljava/lang/String;)V"⟩, .declares ⟨"java/lang/Exception", "<init>", "(Ljava/lang/String;)V"⟩, .declares ⟨"java/lang/Throwable", "<init>", "(Ljava/lang/String;)V"⟩] := by decide +kernel
theorem xw_246 : XW "java/lang/IllegalStateException" 246 250 := ⟨by decide, by decide +kernel, wm 1088 (by decide +kernel) (by decide +kernel), wm 88 (by decide +kernel) (by decide +kernel), xg_250, xb_250, by decide +kernel⟩
section THROW
variable {G : GG} {I : MI} {Q : QQ} {pc : Nat} {L st : List Value} {M : Mm} {k n : Nat}
theorem Wd.end {s t : State} {H : Heap} (Y : Wd G M s H) (hal : s.vm.Alike t.vm) (h1 : H.size ≤ t.heap.size) (h2 : ∀ q : Nat, q < H.size → t.heap[q]? = H[q]?) : Wd G (sX M t.heap.size) t t.heap := by
  obtain ⟨⟨hz, L0, hL, hP, hD⟩, hK, hE⟩ := Y
  have he : ∀ b, ent (gy G) M b = ent (gy G) (sX M t.heap.size) b := fun b => ent_ext rfl rfl rfl rfl rfl rfl
  refine ⟨⟨rfl, L0, hL, ?_, ?_⟩, va_K.moved hal hK, (hE.kept h1 (fun q hq _ => h2 q hq)).moved hal⟩
  · rw [← va_pl_congr he]
    exact hP.kept (fun j q hj => h2 q.1 ((hP j q hj).lt))
  · rw [← va_pl_congr he]
    exact hD
theorem ww_throw {E text : String} {ik ic is : Nat} {p : Program} {e : Env} {s : State} {m : MethodId} {args : Array Value} {below : List Frame} {meth : Method} {c : Code} {H : Heap} {locs : List Loc} {ls : Array Slot} (hw : XW E ik ic) (ht : (is, text) ∈ xs_tab) (C : Cx G I p s m args meth c) (hc : (mY I).cls = RX8) : ∃ sa, vk_R RX8 is text sa s ∧ s.vm.findClass RX8 = some m.cls ∧ (gl G).stackTraces = false ∧ (Cond.classLink RX8 ik E).before args s = true ∧ (Cond.initialized E).before args s = true ∧ (∀ w ∈ vx_atS RX8 ic E xE, w.before args s = true) := by
  have hS := C.2.2.2.2.2.2.2.2.2.1
  have hts := C.2.2.2.2.1
  obtain ⟨h0, h1, h2, h3, h4, h5, h6⟩ := hw
  obtain ⟨sa, hsa⟩ := hS.2.2.1 _ ht
  refine ⟨sa, hsa, by rw [← hc]; exact C.2.2.2.2.2.1, hS.1, hts _ h2, hts _ h3, vx_hat (fun w hw => hts w (h4 w hw)) h5 ?_⟩
  intro w hw
  simp only [List.mem_cons, List.not_mem_nil, or_false] at hw
  rcases hw with rfl | rfl | rfl | rfl
  · exact va_Nw.use rfl (hS.2.2.2.2.2.2.2.2.1 _ h0)
  · exact va_Nw.use rfl (hS.2.2.2.2.2.2.2.2.2.2 _ (by simp [de_tab]))
  · exact va_Nw.use rfl (hS.2.2.2.2.2.2.2.2.2.2 _ (by simp [de_tab]))
  · exact va_Nw.use rfl (hS.2.2.2.2.2.2.2.2.2.2 _ (by simp [de_tab]))
theorem r_throwS {E text : String} {ik ic is : Nat} (hw : XW E ik ic) (ht : (is, text) ∈ xs_tab) (hc : (mY I).cls = RX8) (hh : (mH I).isEmpty = true) (d0 : decode (mB I) pc = .ok (.new ik, 3)) (d3 : decode (mB I) (pc + 3) = .ok (.dup, 1)) (d4 : decode (mB I) (pc + 4) = .ok (.ldc is, 2)) (d6 : decode (mB I) (pc + 6) = .ok (.invokespecial ic, 3)) (d9 : decode (mB I) (pc + 9) = .ok (.athrow, 1)) (hR : 5 < (mR I).frames ∧ (st.map fun v => v.category).sum + 82 ≤ (mR I).locals) (hf : k + 1 ≤ (mR I).cells ∧ n + 6 ≤ (mR I).slots) (h : ∀ z, Q.2 E (sX M z)) : WW G I Q pc L st M k n := by
  intro p e s m args below meth c H locs ls C Y S V
  obtain ⟨sa, x1, x2, x3, x4, x5, x6⟩ := ww_throw (ls := ls) (H := H) (locs := locs) (below := below) (e := e) hw ht C hc
  have hE := C.2.2.2.2.2.2.2.2.2.2
  exact vx_throwS C.1 C.2.1 x3 (names := xE) (A := gA G) x2 hw.2.1 (by decide) x4 x5 x1 x6 hw.2.2.2.2.2.2 hE.2.2.2.1 hE.2.2.2.2.1 S (V.1.trans C.2.2.2.1.symm) d0 d3 d4 d6 d9 (fun x hx => (C.tab hh x hx).elim) hR.1 hR.2 hf.1 hf.2 C.2.2.2.2.2.2.1 (fun t hal h1 h2 => ⟨⟨_, h _, Y.end hal h1 h2⟩, Nat.le_trans S.1 h1, fun q hq hA => (h2 q (Nat.lt_of_lt_of_le hq S.1)).trans (S.2.1 q hq hA)⟩) S.2.2 hf.1 hf.2
theorem r_throwSW {E text : String} {ik ic is : Nat} (hw : XW E ik ic) (ht : (is, text) ∈ xs_tab) (hc : (mY I).cls = RX8) (hh : (mH I).isEmpty = true) (d0 : decode (mB I) pc = .ok (.new ik, 3)) (d3 : decode (mB I) (pc + 3) = .ok (.dup, 1)) (d4 : decode (mB I) (pc + 4) = .ok (.ldc_w is, 3)) (d6 : decode (mB I) (pc + 7) = .ok (.invokespecial ic, 3)) (d9 : decode (mB I) (pc + 10) = .ok (.athrow, 1)) (hR : 5 < (mR I).frames ∧ (st.map fun v => v.category).sum + 82 ≤ (mR I).locals) (hf : k + 1 ≤ (mR I).cells ∧ n + 6 ≤ (mR I).slots) (h : ∀ z, Q.2 E (sX M z)) : WW G I Q pc L st M k n := by
  intro p e s m args below meth c H locs ls C Y S V
  obtain ⟨sa, x1, x2, x3, x4, x5, x6⟩ := ww_throw (ls := ls) (H := H) (locs := locs) (below := below) (e := e) hw ht C hc
  have hE := C.2.2.2.2.2.2.2.2.2.2
  exact vx_throwSW C.1 C.2.1 x3 (names := xE) (A := gA G) x2 hw.2.1 (by decide) x4 x5 x1 x6 hw.2.2.2.2.2.2 hE.2.2.2.1 hE.2.2.2.2.1 S (V.1.trans C.2.2.2.1.symm) d0 d3 d4 d6 d9 (fun x hx => (C.tab hh x hx).elim) hR.1 hR.2 hf.1 hf.2 C.2.2.2.2.2.2.1 (fun t hal h1 h2 => ⟨⟨_, h _, Y.end hal h1 h2⟩, Nat.le_trans S.1 h1, fun q hq hA => (h2 q (Nat.lt_of_lt_of_le hq S.1)).trans (S.2.1 q hq hA)⟩) S.2.2 hf.1 hf.2
end THROW
end
section
/-! the methods: name, bytes, locals, answer, room, handlers -/
def IX0_init : MI := (yX0_init, cX0_init, 1, none, rmd 1 0 0, [])
def IX0_citedAt : MI := (yX0_citedAt, cX0_citedAt, 2, (some .int), rmd 1 0 0, [])
def IX0_refersTo : MI := (yX0_refersTo, cX0_refersTo, 3, (some .boolean), rmd 2 0 0, [])
def IX0_addCited : MI := (yX0_addCited, cX0_addCited, 2, none, rmd 1 0 0, [])
def IX0_copyCited : MI := (yX0_copyCited, cX0_copyCited, 2, none, rmd 1 0 0, [])
def IX1_init : MI := (yX1_init, cX1_init, 1, none, rmd 1 0 0, [])
def IX1_begin : MI := (yX1_begin, cX1_begin, 2, none, rmd 1 0 0, [])
def IX1_add : MI := (yX1_add, cX1_add, 2, none, rmd 1 0 0, [])
def IX2_init : MI := (yX2_init, cX2_init, 2, none, rmd 4 271 2457, [])
def IX2_prepare : MI := (yX2_prepare, cX2_prepare, 2, none, rmd 4 0 0, [])
def IX2_bringBackPrepared : MI := (yX2_bringBackPrepared, cX2_bringBackPrepared, 2, none, rmd 4 0 0, [])
def IX2_keepPrepared : MI := (yX2_keepPrepared, cX2_keepPrepared, 3, none, rmd 1 0 0, [])
def IX2_bringBackLatest : MI := (yX2_bringBackLatest, cX2_bringBackLatest, 2, none, rmd 4 0 0, [])
def IX2_forget : MI := (yX2_forget, cX2_forget, 1, none, rmd 1 0 0, [])
def IX3_init : MI := (yX3_init, cX3_init, 1, none, rmd 1 1 60, [])
def IX3_clear : MI := (yX3_clear, cX3_clear, 1, none, rmd 1 0 0, [])
def IX3_put : MI := (yX3_put, cX3_put, 2, none, rmd 1 0 0, [])
def IX3_putMarked : MI := (yX3_putMarked, cX3_putMarked, 3, none, rmd 2 0 0, [])
def IX3_putNumber : MI := (yX3_putNumber, cX3_putNumber, 5, none, rmd 1 0 0, [])
def IX3_at : MI := (yX3_at, cX3_at, 2, (some .char), rmd 1 0 0, [])
def IX4_init : MI := (yX4_init, cX4_init, 1, none, rmd 2 0 0, [])
def IX4_forgetVotesAndCitations : MI := (yX4_forgetVotesAndCitations, cX4_forgetVotesAndCitations, 1, none, rmd 1 0 0, [])
def IX4_comesBefore : MI := (yX4_comesBefore, cX4_comesBefore, 2, (some .boolean), rmd 1 0 0, [])
def IX4_hasVoteFor : MI := (yX4_hasVoteFor, cX4_hasVoteFor, 2, (some .boolean), rmd 1 0 0, [])
def IX4_hasVoteAgainst : MI := (yX4_hasVoteAgainst, cX4_hasVoteAgainst, 2, (some .boolean), rmd 1 0 0, [])
def IX4_addVote : MI := (yX4_addVote, cX4_addVote, 3, none, rmd 1 0 0, [])
def IX4_countFor : MI := (yX4_countFor, cX4_countFor, 1, (some .int), rmd 2 0 0, [])
def IX4_countAgainst : MI := (yX4_countAgainst, cX4_countAgainst, 1, (some .int), rmd 2 0 0, [])
def IX4_countVotes : MI := (yX4_countVotes, cX4_countVotes, 1, (some .int), rmd 3 0 0, [])
def IX4_copyFrom : MI := (yX4_copyFrom, cX4_copyFrom, 2, none, rmd 2 0 0, [])
def IX5_init : MI := (yX5_init, cX5_init, 1, none, rmd 2 0 0, [])
def IX5_copyFrom : MI := (yX5_copyFrom, cX5_copyFrom, 2, none, rmd 2 0 0, [])
def IX6_init : MI := (yX6_init, cX6_init, 2, none, rmd 3 29 258, [])
def IX6_copyFrom : MI := (yX6_copyFrom, cX6_copyFrom, 3, none, rmd 3 0 0, [])
def IX6_hasStone : MI := (yX6_hasStone, cX6_hasStone, 2, (some .boolean), rmd 1 0 0, [])
def IX6_hasOfficer : MI := (yX6_hasOfficer, cX6_hasOfficer, 2, (some .boolean), rmd 1 0 0, [])
def IX6_findStoneIn : MI := (yX6_findStoneIn, cX6_findStoneIn, 3, (some .int), rmd 1 0 0, [])
def IX6_findPetition : MI := (yX6_findPetition, cX6_findPetition, 3, (some (.object "PetitionBoard$Petition")), rmd 1 0 0, [])
def IX6_findPetitionFor : MI := (yX6_findPetitionFor, cX6_findPetitionFor, 3, (some (.object "PetitionBoard$Petition")), rmd 1 0 0, [])
def IX6_findRuling : MI := (yX6_findRuling, cX6_findRuling, 2, (some (.object "PetitionBoard$Ruling")), rmd 1 0 0, [])
def IX6_appendStone : MI := (yX6_appendStone, cX6_appendStone, 4, (some .int), rmd 1 0 0, [])
def IX6_appendOfficer : MI := (yX6_appendOfficer, cX6_appendOfficer, 3, (some .int), rmd 1 0 0, [])
def IX6_enqueue : MI := (yX6_enqueue, cX6_enqueue, 6, (some .int), rmd 3 0 0, [])
def IX6_moveToItsPosition : MI := (yX6_moveToItsPosition, cX6_moveToItsPosition, 3, none, rmd 2 0 0, [])
def IX6_dequeue : MI := (yX6_dequeue, cX6_dequeue, 4, none, rmd 1 0 0, [])
def IX6_isWon : MI := (yX6_isWon, cX6_isWon, 5, (some .boolean), rmd 3 0 0, [])
def IX6_rule : MI := (yX6_rule, cX6_rule, 3, (some .int), rmd 4 0 0, [])
def IX6_levelAbove : MI := (yX6_levelAbove, cX6_levelAbove, 5, (some .int), rmd 2 0 0, [])
def IX6_moveStone : MI := (yX6_moveStone, cX6_moveStone, 3, none, rmd 2 0 0, [])
def IX6_restsOn : MI := (yX6_restsOn, cX6_restsOn, 5, (some .boolean), rmd 3 0 0, [])
def IX6_countMarked : MI := (yX6_countMarked, cX6_countMarked, 4, (some .int), rmd 3 0 0, [])
def IX6_citedSet : MI := (yX6_citedSet, cX6_citedSet, 5, (some .int), rmd 2 0 0, [])
def IX7_init : MI := (yX7_init, cX7_init, 2, none, rmd 2 11 70, [])
def IX7_read : MI := (yX7_read, cX7_read, 2, (some .boolean), rmd 7 0 0, [])
def IX7_readCommand : MI := (yX7_readCommand, cX7_readCommand, 6, (some .boolean), rmd 6 0 0, [])
def IX7_readPart : MI := (yX7_readPart, cX7_readPart, 4, (some .boolean), rmd 3 0 0, [])
def IX7_patternOf : MI := (yX7_patternOf, cX7_patternOf, 1, (some (.object "java/lang/String")), rmd 1 0 0, [])
def IX7_readSign : MI := (yX7_readSign, cX7_readSign, 3, (some .boolean), rmd 2 0 0, [])
def IX7_readValue : MI := (yX7_readValue, cX7_readValue, 5, (some .boolean), rmd 2 0 0, [])
def IX7_isDigit : MI := (yX7_isDigit, cX7_isDigit, 1, (some .boolean), rmd 1 0 0, [])
def IX8_init : MI := (yX8_init, cX8_init, 1, none, rmd 5 349 3216, [])
def IX8_addStone : MI := (yX8_addStone, cX8_addStone, 3, (some .int), rmd 5 1 6, [])
def IX8_addOfficer : MI := (yX8_addOfficer, cX8_addOfficer, 2, (some .int), rmd 5 1 6, [])
def IX8_stoneCount : MI := (yX8_stoneCount, cX8_stoneCount, 1, (some .int), rmd 1 0 0, [])
def IX8_cellOf : MI := (yX8_cellOf, cX8_cellOf, 2, (some .int), rmd 2 1 6, [])
def IX8_weightOf : MI := (yX8_weightOf, cX8_weightOf, 2, (some .int), rmd 2 1 6, [])
def IX8_stoneIn : MI := (yX8_stoneIn, cX8_stoneIn, 3, (some .int), rmd 2 1 6, [])
def IX8_officerCount : MI := (yX8_officerCount, cX8_officerCount, 1, (some .int), rmd 1 0 0, [])
def IX8_rankOf : MI := (yX8_rankOf, cX8_rankOf, 2, (some .int), rmd 2 1 6, [])
def IX8_petitionsOf : MI := (yX8_petitionsOf, cX8_petitionsOf, 4, (some .int), rmd 2 1 6, [])
def IX8_file : MI := (yX8_file, cX8_file, 5, (some .int), rmd 5 1 6, [])
def IX8_vote : MI := (yX8_vote, cX8_vote, 4, (some .int), rmd 5 1 6, [])
def IX8_cite : MI := (yX8_cite, cX8_cite, 3, (some .int), rmd 5 1 6, [])
def IX8_veto : MI := (yX8_veto, cX8_veto, 3, (some .int), rmd 5 1 6, [])
def IX8_withdraw : MI := (yX8_withdraw, cX8_withdraw, 2, (some .int), rmd 5 1 6, [])
def IX8_pendingCount : MI := (yX8_pendingCount, cX8_pendingCount, 1, (some .int), rmd 1 0 0, [])
def IX8_petitionAt : MI := (yX8_petitionAt, cX8_petitionAt, 2, (some .int), rmd 1 1 6, [])
def IX8_positionOf : MI := (yX8_positionOf, cX8_positionOf, 5, (some .int), rmd 3 1 6, [])
def IX8_stoneOf : MI := (yX8_stoneOf, cX8_stoneOf, 2, (some .int), rmd 3 1 6, [])
def IX8_targetOf : MI := (yX8_targetOf, cX8_targetOf, 2, (some .int), rmd 3 1 6, [])
def IX8_votesFor : MI := (yX8_votesFor, cX8_votesFor, 2, (some .int), rmd 3 1 6, [])
def IX8_votesAgainst : MI := (yX8_votesAgainst, cX8_votesAgainst, 2, (some .int), rmd 3 1 6, [])
def IX8_wouldBeGranted : MI := (yX8_wouldBeGranted, cX8_wouldBeGranted, 2, (some .boolean), rmd 4 1 6, [])
def IX8_setQuorum : MI := (yX8_setQuorum, cX8_setQuorum, 2, (some .int), rmd 5 1 6, [])
def IX8_decide : MI := (yX8_decide, cX8_decide, 1, (some .int), rmd 6 1 6, [])
def IX8_quorum : MI := (yX8_quorum, cX8_quorum, 1, (some .int), rmd 1 0 0, [])
def IX8_rulingCount : MI := (yX8_rulingCount, cX8_rulingCount, 1, (some .int), rmd 1 0 0, [])
def IX8_isGranted : MI := (yX8_isGranted, cX8_isGranted, 2, (some .boolean), rmd 3 1 6, [])
def IX8_isCarriedOut : MI := (yX8_isCarriedOut, cX8_isCarriedOut, 2, (some .boolean), rmd 3 1 6, [])
def IX8_citationCount : MI := (yX8_citationCount, cX8_citationCount, 2, (some .int), rmd 3 1 6, [])
def IX8_citation : MI := (yX8_citation, cX8_citation, 4, (some .int), rmd 3 2 12, [])
def IX8_citedBy : MI := (yX8_citedBy, cX8_citedBy, 4, (some .int), rmd 3 1 6, [])
def IX8_depth : MI := (yX8_depth, cX8_depth, 2, (some .int), rmd 3 1 6, [])
def IX8_isBasedOn : MI := (yX8_isBasedOn, cX8_isBasedOn, 3, (some .boolean), rmd 4 2 12, [])
def IX8_influence : MI := (yX8_influence, cX8_influence, 4, (some .int), rmd 4 1 6, [])
def IX8_influenceByMarking : MI := (yX8_influenceByMarking, cX8_influenceByMarking, 2, (some .int), rmd 4 1 6, [])
def IX8_rulingByInfluence : MI := (yX8_rulingByInfluence, cX8_rulingByInfluence, 4, (some .int), rmd 4 1 6, [])
def IX8_filedCount : MI := (yX8_filedCount, cX8_filedCount, 1, (some .int), rmd 1 0 0, [])
def IX8_vetoes : MI := (yX8_vetoes, cX8_vetoes, 1, (some .int), rmd 1 0 0, [])
def IX8_withdrawals : MI := (yX8_withdrawals, cX8_withdrawals, 1, (some .int), rmd 1 0 0, [])
def IX8_movedWeight : MI := (yX8_movedWeight, cX8_movedWeight, 1, (some .int), rmd 1 0 0, [])
def IX8_meanVotes : MI := (yX8_meanVotes, cX8_meanVotes, 3, (some .double), rmd 4 1 6, [])
def IX8_grantedShare : MI := (yX8_grantedShare, cX8_grantedShare, 3, (some .float), rmd 1 1 6, [])
def IX8_feed : MI := (yX8_feed, cX8_feed, 2, (some .int), rmd 2 1 6, [])
def IX8_execute : MI := (yX8_execute, cX8_execute, 2, (some .int), rmd 8 1 6, [])
def IX8_faultPosition : MI := (yX8_faultPosition, cX8_faultPosition, 1, (some .int), rmd 1 1 6, [])
def IX8_writePetition : MI := (yX8_writePetition, cX8_writePetition, 4, (some .int), rmd 3 1 6, [])
def IX8_writeRow : MI := (yX8_writeRow, cX8_writeRow, 4, (some .int), rmd 2 1 6, [])
def IX8_lineCharacter : MI := (yX8_lineCharacter, cX8_lineCharacter, 2, (some .char), rmd 2 1 6, [])
def IX8_denial : MI := (yX8_denial, cX8_denial, 1, (some .int), rmd 2 1 6, [])
def IX8_denialDetail : MI := (yX8_denialDetail, cX8_denialDetail, 1, (some .int), rmd 2 1 6, [])
def IX8_denialCause : MI := (yX8_denialCause, cX8_denialCause, 1, (some .int), rmd 2 1 6, [])
def IX8_denialCauseDetail : MI := (yX8_denialCauseDetail, cX8_denialCauseDetail, 1, (some .int), rmd 2 1 6, [])
def IX8_undo : MI := (yX8_undo, cX8_undo, 1, (some .int), rmd 5 1 6, [])
def IX8_undoCount : MI := (yX8_undoCount, cX8_undoCount, 1, (some .int), rmd 1 0 0, [])
def IX8_saveSnapshot : MI := (yX8_saveSnapshot, cX8_saveSnapshot, 1, (some .int), rmd 4 0 0, [])
def IX8_restoreSnapshot : MI := (yX8_restoreSnapshot, cX8_restoreSnapshot, 1, (some .int), rmd 4 1 6, [])
def IX8_placeStone : MI := (yX8_placeStone, cX8_placeStone, 4, (some .int), rmd 2 0 0, [])
def IX8_enlistOfficer : MI := (yX8_enlistOfficer, cX8_enlistOfficer, 2, (some .int), rmd 2 0 0, [])
def IX8_changeQuorum : MI := (yX8_changeQuorum, cX8_changeQuorum, 3, (some .int), rmd 2 0 0, [])
def IX8_lodgePetition : MI := (yX8_lodgePetition, cX8_lodgePetition, 6, (some .int), rmd 4 0 0, [])
def IX8_castVote : MI := (yX8_castVote, cX8_castVote, 5, (some .int), rmd 4 0 0, [])
def IX8_citeRuling : MI := (yX8_citeRuling, cX8_citeRuling, 4, (some .int), rmd 3 0 0, [])
def IX8_vetoPetition : MI := (yX8_vetoPetition, cX8_vetoPetition, 4, (some .int), rmd 2 0 0, [])
def IX8_withdrawPetition : MI := (yX8_withdrawPetition, cX8_withdrawPetition, 3, (some .int), rmd 2 0 0, [])
def IX8_decideFirst : MI := (yX8_decideFirst, cX8_decideFirst, 2, (some .int), rmd 5 0 0, [])
def IX8_deny : MI := (yX8_deny, cX8_deny, 3, (some .int), rmd 1 0 0, [])
def IX8_conclude : MI := (yX8_conclude, cX8_conclude, 2, (some .int), rmd 2 1 6, [])
def IX8_runCommands : MI := (yX8_runCommands, cX8_runCommands, 3, (some .boolean), rmd 7 0 0, [])
def IX8_attempt : MI := (yX8_attempt, cX8_attempt, 2, (some .int), rmd 6 0 0, [])
def IX8_keepDenial : MI := (yX8_keepDenial, cX8_keepDenial, 5, none, rmd 1 0 0, [])
def IX8_isCell : MI := (yX8_isCell, cX8_isCell, 1, (some .boolean), rmd 1 0 0, [])
def IX8_requirePetition : MI := (yX8_requirePetition, cX8_requirePetition, 3, (some (.object "PetitionBoard$Petition")), rmd 2 1 6, [])
def IX8_requireRuling : MI := (yX8_requireRuling, cX8_requireRuling, 3, (some (.object "PetitionBoard$Ruling")), rmd 2 1 6, [])
def IX8_requireDenial : MI := (yX8_requireDenial, cX8_requireDenial, 1, none, rmd 1 1 6, [])
def IX8_requireCause : MI := (yX8_requireCause, cX8_requireCause, 1, none, rmd 1 1 6, [])
def IX8_rankByInfluence : MI := (yX8_rankByInfluence, cX8_rankByInfluence, 6, (some .int), rmd 1 0 0, [])
def IX9_init : MI := (yX9_init, cX9_init, 1, none, rmd 1 8 2700, [])
def IX9_thrown : MI := (yX9_thrown, cX9_thrown, 1, (some .int), rmd 1 0 0, [])
def IX9_fails : MI := (yX9_fails, cX9_fails, 2, (some .boolean), rmd 1 0 0, [])
def IX9_denies : MI := (yX9_denies, cX9_denies, 4, (some .int), rmd 1 0 0, [])
def IX9_in : MI := (yX9_in, cX9_in, 3, (some .boolean), rmd 1 0 0, [])
def IX9_copies : MI := (yX9_copies, cX9_copies, 5, none, rmd 1 0 0, [])
def IX9_keeps : MI := (yX9_keeps, cX9_keeps, 3, none, rmd 2 0 0, [])
def IX9_isCell : MI := (yX9_isCell, cX9_isCell, 1, (some .boolean), rmd 2 0 0, [])
def IX9_isStone : MI := (yX9_isStone, cX9_isStone, 2, (some .boolean), rmd 2 0 0, [])
def IX9_isOfficer : MI := (yX9_isOfficer, cX9_isOfficer, 2, (some .boolean), rmd 2 0 0, [])
def IX9_cell : MI := (yX9_cell, cX9_cell, 2, (some .int), rmd 1 0 0, [])
def IX9_heavy : MI := (yX9_heavy, cX9_heavy, 2, (some .int), rmd 1 0 0, [])
def IX9_rank : MI := (yX9_rank, cX9_rank, 2, (some .int), rmd 1 0 0, [])
def IX9_within : MI := (yX9_within, cX9_within, 3, (some .int), rmd 2 0 0, [])
def IX9_addStone : MI := (yX9_addStone, cX9_addStone, 4, (some .int), rmd 3 0 0, [])
def IX9_addOfficer : MI := (yX9_addOfficer, cX9_addOfficer, 2, (some .int), rmd 3 0 0, [])
def IX9_stoneCount : MI := (yX9_stoneCount, cX9_stoneCount, 1, (some .int), rmd 1 0 0, [])
def IX9_cellOf : MI := (yX9_cellOf, cX9_cellOf, 2, (some .int), rmd 3 0 0, [])
def IX9_weightOf : MI := (yX9_weightOf, cX9_weightOf, 2, (some .int), rmd 3 0 0, [])
def IX9_stoneIn : MI := (yX9_stoneIn, cX9_stoneIn, 2, (some .int), rmd 3 0 0, [])
def IX9_officerCount : MI := (yX9_officerCount, cX9_officerCount, 1, (some .int), rmd 1 0 0, [])
def IX9_rankOf : MI := (yX9_rankOf, cX9_rankOf, 2, (some .int), rmd 3 0 0, [])
def IX9_petitionsOf : MI := (yX9_petitionsOf, cX9_petitionsOf, 4, (some .int), rmd 3 0 0, [])
def IX9_of : MI := (yX9_of, cX9_of, 3, (some .int), rmd 1 0 0, [])
def IX9_lays : MI := (yX9_lays, cX9_lays, 4, none, rmd 1 0 0, [])
def IX9_placeOf : MI := (yX9_placeOf, cX9_placeOf, 3, (some .int), rmd 2 0 0, [])
def IX9_isNone : MI := (yX9_isNone, cX9_isNone, 2, (some .boolean), rmd 3 0 0, [])
def IX9_about : MI := (yX9_about, cX9_about, 3, (some .int), rmd 2 0 0, [])
def IX9_file : MI := (yX9_file, cX9_file, 7, (some .int), rmd 3 0 0, [])
def IX9_bits : MI := (yX9_bits, cX9_bits, 3, (some .int), rmd 1 0 0, [])
def IX9_votes : MI := (yX9_votes, cX9_votes, 2, (some .int), rmd 2 0 0, [])
def IX9_vote : MI := (yX9_vote, cX9_vote, 6, (some .int), rmd 3 0 0, [])
def IX9_isRuling : MI := (yX9_isRuling, cX9_isRuling, 2, (some .boolean), rmd 2 0 0, [])
def IX9_cite : MI := (yX9_cite, cX9_cite, 6, (some .int), rmd 3 0 0, [])
def IX9_drops : MI := (yX9_drops, cX9_drops, 3, none, rmd 2 0 0, [])
def IX9_veto : MI := (yX9_veto, cX9_veto, 5, (some .int), rmd 3 0 0, [])
def IX9_withdraw : MI := (yX9_withdraw, cX9_withdraw, 2, (some .int), rmd 4 0 0, [])
def IX9_pendingCount : MI := (yX9_pendingCount, cX9_pendingCount, 1, (some .int), rmd 1 0 0, [])
def IX9_isAhead : MI := (yX9_isAhead, cX9_isAhead, 5, (some .boolean), rmd 2 0 0, [])
def IX9_ahead : MI := (yX9_ahead, cX9_ahead, 4, (some .int), rmd 3 0 0, [])
def IX9_queued : MI := (yX9_queued, cX9_queued, 3, (some .int), rmd 4 0 0, [])
def IX9_petitionAt : MI := (yX9_petitionAt, cX9_petitionAt, 2, (some .int), rmd 5 0 0, [])
def IX9_positionOf : MI := (yX9_positionOf, cX9_positionOf, 2, (some .int), rmd 4 0 0, [])
def IX9_stoneOf : MI := (yX9_stoneOf, cX9_stoneOf, 2, (some .int), rmd 4 0 0, [])
def IX9_targetOf : MI := (yX9_targetOf, cX9_targetOf, 2, (some .int), rmd 4 0 0, [])
def IX9_votesFor : MI := (yX9_votesFor, cX9_votesFor, 2, (some .int), rmd 4 0 0, [])
def IX9_votesAgainst : MI := (yX9_votesAgainst, cX9_votesAgainst, 2, (some .int), rmd 4 0 0, [])
def IX9_wins : MI := (yX9_wins, cX9_wins, 4, (some .boolean), rmd 2 0 0, [])
def IX9_wouldBeGranted : MI := (yX9_wouldBeGranted, cX9_wouldBeGranted, 2, (some .boolean), rmd 4 0 0, [])
def IX9_by : MI := (yX9_by, cX9_by, 3, (some .int), rmd 1 0 0, [])
def IX9_setQuorum : MI := (yX9_setQuorum, cX9_setQuorum, 3, (some .int), rmd 3 0 0, [])
def IX9_decide : MI := (yX9_decide, cX9_decide, 7, (some .int), rmd 5 0 0, [])
def IX9_quorum : MI := (yX9_quorum, cX9_quorum, 1, (some .int), rmd 1 0 0, [])
def IX9_rulingCount : MI := (yX9_rulingCount, cX9_rulingCount, 1, (some .int), rmd 1 0 0, [])
def IX9_isUnruled : MI := (yX9_isUnruled, cX9_isUnruled, 2, (some .boolean), rmd 3 0 0, [])
def IX9_isGranted : MI := (yX9_isGranted, cX9_isGranted, 2, (some .boolean), rmd 4 0 0, [])
def IX9_isCarriedOut : MI := (yX9_isCarriedOut, cX9_isCarriedOut, 2, (some .boolean), rmd 4 0 0, [])
def IX9_citationCount : MI := (yX9_citationCount, cX9_citationCount, 2, (some .int), rmd 4 0 0, [])
def IX9_citation : MI := (yX9_citation, cX9_citation, 3, (some .int), rmd 3 0 0, [])
def IX9_names : MI := (yX9_names, cX9_names, 4, (some .boolean), rmd 2 0 0, [])
def IX9_citedBy : MI := (yX9_citedBy, cX9_citedBy, 4, (some .int), rmd 4 0 0, [])
def IX9_depth : MI := (yX9_depth, cX9_depth, 4, (some .int), rmd 4 0 0, [])
def IX9_based : MI := (yX9_based, cX9_based, 5, (some .int), rmd 3 0 0, [])
def IX9_reaches : MI := (yX9_reaches, cX9_reaches, 4, (some .int), rmd 4 0 0, [])
def IX9_isBasedOn : MI := (yX9_isBasedOn, cX9_isBasedOn, 3, (some .boolean), rmd 4 0 0, [])
def IX9_influence : MI := (yX9_influence, cX9_influence, 2, (some .int), rmd 5 0 0, [])
def IX9_influenceByMarking : MI := (yX9_influenceByMarking, cX9_influenceByMarking, 2, (some .int), rmd 5 0 0, [])
def IX9_rulingByInfluence : MI := (yX9_rulingByInfluence, cX9_rulingByInfluence, 5, (some .int), rmd 5 0 0, [])
def IX9_filedCount : MI := (yX9_filedCount, cX9_filedCount, 1, (some .int), rmd 1 0 0, [])
def IX9_vetoes : MI := (yX9_vetoes, cX9_vetoes, 1, (some .int), rmd 1 0 0, [])
def IX9_withdrawals : MI := (yX9_withdrawals, cX9_withdrawals, 1, (some .int), rmd 1 0 0, [])
def IX9_movedWeight : MI := (yX9_movedWeight, cX9_movedWeight, 1, (some .int), rmd 1 0 0, [])
def IX9_meanVotes : MI := (yX9_meanVotes, cX9_meanVotes, 3, (some .double), rmd 3 0 0, [])
def IX9_grantedShare : MI := (yX9_grantedShare, cX9_grantedShare, 3, (some .float), rmd 2 0 0, [])
def IX9_feed : MI := (yX9_feed, cX9_feed, 2, (some .int), rmd 2 0 0, [])
def IX9_here : MI := (yX9_here, cX9_here, 1, (some .int), rmd 1 0 0, [])
def IX9_skips : MI := (yX9_skips, cX9_skips, 2, (some .boolean), rmd 2 0 0, [])
def IX9_isWord : MI := (yX9_isWord, cX9_isWord, 3, (some .boolean), rmd 6 0 0, [])
def IX9_figures : MI := (yX9_figures, cX9_figures, 4, (some .boolean), rmd 3 0 0, [])
def IX9_commandHere : MI := (yX9_commandHere, cX9_commandHere, 2, (some .boolean), rmd 7 0 0, [])
def IX9_isText : MI := (yX9_isText, cX9_isText, 1, (some .boolean), rmd 8 0 0, [])
def IX9_carries : MI := (yX9_carries, cX9_carries, 4, (some .int), rmd 6 0 0, [])
def IX9_deniesText : MI := (yX9_deniesText, cX9_deniesText, 4, (some .int), rmd 2 0 0, [])
def IX9_execute : MI := (yX9_execute, cX9_execute, 4, (some .int), rmd 9 0 0, [])
def IX9_faultPosition : MI := (yX9_faultPosition, cX9_faultPosition, 1, (some .int), rmd 2 0 0, [])
def IX9_writes : MI := (yX9_writes, cX9_writes, 2, none, rmd 1 0 0, [])
def IX9_writesNumber (z : Nat) : MI := (yX9_writesNumber, cX9_writesNumber, 2, none, rmd (z + 2) 0 0, [])
def IX9_writesBehind : MI := (yX9_writesBehind, cX9_writesBehind, 3, none, rmd 20 0 0, [])
def IX9_writePetition : MI := (yX9_writePetition, cX9_writePetition, 4, (some .int), rmd 24 0 0, [])
def IX9_writeRow : MI := (yX9_writeRow, cX9_writeRow, 3, (some .int), rmd 3 0 0, [])
def IX9_lineCharacter : MI := (yX9_lineCharacter, cX9_lineCharacter, 2, (some .char), rmd 2 0 0, [])
def IX9_denial : MI := (yX9_denial, cX9_denial, 1, (some .int), rmd 2 0 0, [])
def IX9_denialDetail : MI := (yX9_denialDetail, cX9_denialDetail, 1, (some .int), rmd 2 0 0, [])
def IX9_denialCause : MI := (yX9_denialCause, cX9_denialCause, 1, (some .int), rmd 2 0 0, [])
def IX9_denialCauseDetail : MI := (yX9_denialCauseDetail, cX9_denialCauseDetail, 1, (some .int), rmd 2 0 0, [])
def IX9_undo : MI := (yX9_undo, cX9_undo, 1, (some .int), rmd 2 0 0, [])
def IX9_undoCount : MI := (yX9_undoCount, cX9_undoCount, 1, (some .int), rmd 1 0 0, [])
def IX9_saveSnapshot : MI := (yX9_saveSnapshot, cX9_saveSnapshot, 1, (some .int), rmd 2 0 0, [])
def IX9_restoreSnapshot : MI := (yX9_restoreSnapshot, cX9_restoreSnapshot, 1, (some .int), rmd 2 0 0, [])
def IJx00060_init_a7421 : MI := (yJx00060_init_a7421, cJx00060_init_a7421, 2, none, rmd 1 0 0, [])
def IJ6_bitCount_0f7a4 : MI := (yJ6_bitCount_0f7a4, cJ6_bitCount_0f7a4, 1, (some .int), rmd 1 0 0, [])
def IJ0_length_8abf5 : MI := (yJ0_length_8abf5, cJ0_length_8abf5, 1, (some .int), rmd 2 0 0, [])
def IJ0_isEmpty_aae02 : MI := (yJ0_isEmpty_aae02, cJ0_isEmpty_aae02, 1, (some .boolean), rmd 1 0 0, [])
def IJ0_charAt_5068e : MI := (yJ0_charAt_5068e, cJ0_charAt_5068e, 2, (some .char), rmd 5 0 0, [])
def IJ0_coder_7d493 : MI := (yJ0_coder_7d493, cJ0_coder_7d493, 1, (some .byte), rmd 1 0 0, [])
def IJ0_isLatin1_aae02 : MI := (yJ0_isLatin1_aae02, cJ0_isLatin1_aae02, 1, (some .boolean), rmd 1 0 0, [])
def IJ0_checkIndex_df160 : MI := (yJ0_checkIndex_df160, cJ0_checkIndex_df160, 2, none, rmd 2 0 0, [])
def IJ1_charAt_3b067 : MI := (yJ1_charAt_3b067, cJ1_charAt_3b067, 2, (some .char), rmd 3 0 0, [])
def IJ2_getChar_3b067 : MI := (yJ2_getChar_3b067, cJ2_getChar_3b067, 2, (some .char), rmd 2 0 0, [])
def IJ2_length_9d52b : MI := (yJ2_length_9d52b, cJ2_length_9d52b, 1, (some .int), rmd 1 0 0, [])
def IJ2_charAt_3b067 : MI := (yJ2_charAt_3b067, cJ2_charAt_3b067, 2, (some .char), rmd 4 0 0, [])
def IJ2_checkIndex_2214a : MI := (yJ2_checkIndex_2214a, cJ2_checkIndex_2214a, 2, none, rmd 3 0 0, [])
def IJ3_checkIndex_8e157 : MI := (yJ3_checkIndex_8e157, cJ3_checkIndex_8e157, 3, (some .int), rmd 1 0 0, [])
def IL_addStone : MI := (yL_addStone, cL_addStone, 5, (some .int), rmd 6 1 6, [(0, 10, 13, 13), (0, 10, 17, 15), (0, 10, 21, 17)])
def IL_addOfficer : MI := (yL_addOfficer, cL_addOfficer, 4, (some .int), rmd 6 1 6, [(0, 9, 12, 15), (0, 9, 15, 17)])
def IL_cellOf : MI := (yL_cellOf, cL_cellOf, 4, (some .int), rmd 3 1 6, [(0, 9, 12, 13)])
def IL_weightOf : MI := (yL_weightOf, cL_weightOf, 4, (some .int), rmd 3 1 6, [(0, 9, 12, 13)])
def IL_stoneIn : MI := (yL_stoneIn, cL_stoneIn, 4, (some .int), rmd 3 1 6, [(0, 9, 12, 13), (0, 9, 15, 32)])
def IL_rankOf : MI := (yL_rankOf, cL_rankOf, 4, (some .int), rmd 3 1 6, [(0, 9, 12, 13)])
def IL_petitionsOf : MI := (yL_petitionsOf, cL_petitionsOf, 4, (some .int), rmd 3 1 6, [(0, 9, 12, 13)])
def IL_file : MI := (yL_file, cL_file, 7, (some .int), rmd 6 1 6, [(0, 14, 17, 13), (0, 14, 21, 15), (0, 14, 25, 17)])
def IL_vote : MI := (yL_vote, cL_vote, 6, (some .int), rmd 6 1 6, [(0, 12, 15, 13), (0, 12, 19, 32), (0, 12, 23, 17)])
def IL_cite : MI := (yL_cite, cL_cite, 5, (some .int), rmd 6 1 6, [(0, 10, 13, 32), (0, 10, 17, 17)])
def IL_veto : MI := (yL_veto, cL_veto, 5, (some .int), rmd 6 1 6, [(0, 10, 13, 13), (0, 10, 17, 32), (0, 10, 21, 17)])
def IL_withdraw : MI := (yL_withdraw, cL_withdraw, 4, (some .int), rmd 6 1 6, [(0, 9, 12, 32)])
def IL_petitionAt : MI := (yL_petitionAt, cL_petitionAt, 4, (some .int), rmd 2 1 6, [(0, 9, 12, 32)])
def IL_positionOf : MI := (yL_positionOf, cL_positionOf, 4, (some .int), rmd 4 1 6, [(0, 9, 12, 32)])
def IL_stoneOf : MI := (yL_stoneOf, cL_stoneOf, 4, (some .int), rmd 4 1 6, [(0, 9, 12, 32)])
def IL_targetOf : MI := (yL_targetOf, cL_targetOf, 4, (some .int), rmd 4 1 6, [(0, 9, 12, 32)])
def IL_votesFor : MI := (yL_votesFor, cL_votesFor, 4, (some .int), rmd 4 1 6, [(0, 9, 12, 32)])
def IL_votesAgainst : MI := (yL_votesAgainst, cL_votesAgainst, 4, (some .int), rmd 4 1 6, [(0, 9, 12, 32)])
def IL_wouldBeGranted : MI := (yL_wouldBeGranted, cL_wouldBeGranted, 4, (some .int), rmd 5 1 6, [(0, 16, 19, 32)])
def IL_setQuorum : MI := (yL_setQuorum, cL_setQuorum, 4, (some .int), rmd 6 1 6, [(0, 9, 12, 15), (0, 9, 15, 17)])
def IL_decide : MI := (yL_decide, cL_decide, 3, (some .int), rmd 7 1 6, [(0, 8, 11, 17)])
def IL_isGranted : MI := (yL_isGranted, cL_isGranted, 4, (some .int), rmd 4 1 6, [(0, 16, 19, 13)])
def IL_isCarriedOut : MI := (yL_isCarriedOut, cL_isCarriedOut, 4, (some .int), rmd 4 1 6, [(0, 16, 19, 13)])
def IL_citationCount : MI := (yL_citationCount, cL_citationCount, 4, (some .int), rmd 4 1 6, [(0, 9, 12, 13)])
def IL_citation : MI := (yL_citation, cL_citation, 5, (some .int), rmd 4 2 12, [(0, 10, 13, 13), (0, 10, 17, 32)])
def IL_citedBy : MI := (yL_citedBy, cL_citedBy, 4, (some .int), rmd 4 1 6, [(0, 9, 12, 13)])
def IL_depth : MI := (yL_depth, cL_depth, 4, (some .int), rmd 4 1 6, [(0, 9, 12, 13)])
def IL_isBasedOn : MI := (yL_isBasedOn, cL_isBasedOn, 5, (some .int), rmd 5 2 12, [(0, 17, 20, 13)])
def IL_influence : MI := (yL_influence, cL_influence, 4, (some .int), rmd 5 1 6, [(0, 9, 12, 13)])
def IL_influenceByMarking : MI := (yL_influenceByMarking, cL_influenceByMarking, 4, (some .int), rmd 5 1 6, [(0, 9, 12, 13)])
def IL_rulingByInfluence : MI := (yL_rulingByInfluence, cL_rulingByInfluence, 4, (some .int), rmd 5 1 6, [(0, 9, 12, 32)])
def IL_meanVotes : MI := (yL_meanVotes, cL_meanVotes, 3, (some .int), rmd 5 1 6, [(0, 7, 10, 121)])
def IL_grantedShare : MI := (yL_grantedShare, cL_grantedShare, 3, (some .int), rmd 2 1 6, [(0, 8, 11, 121)])
def IL_feed : MI := (yL_feed, cL_feed, 4, (some .int), rmd 3 1 6, [(0, 9, 12, 131)])
def IL_execute : MI := (yL_execute, cL_execute, 3, (some .int), rmd 9 1 6, [(0, 8, 11, 15), (0, 8, 14, 17)])
def IL_faultPosition : MI := (yL_faultPosition, cL_faultPosition, 3, (some .int), rmd 2 1 6, [(0, 8, 11, 32)])
def IL_writePetition : MI := (yL_writePetition, cL_writePetition, 4, (some .int), rmd 24 1 6, [(0, 9, 12, 32)])
def IL_writeRow : MI := (yL_writeRow, cL_writeRow, 4, (some .int), rmd 3 1 6, [(0, 9, 12, 13)])
def IL_lineCharacter : MI := (yL_lineCharacter, cL_lineCharacter, 4, (some .int), rmd 3 1 6, [(0, 9, 12, 13)])
def IL_denial : MI := (yL_denial, cL_denial, 3, (some .int), rmd 3 1 6, [(0, 8, 11, 32)])
def IL_denialDetail : MI := (yL_denialDetail, cL_denialDetail, 3, (some .int), rmd 3 1 6, [(0, 8, 11, 32)])
def IL_denialCause : MI := (yL_denialCause, cL_denialCause, 3, (some .int), rmd 3 1 6, [(0, 8, 11, 32)])
def IL_denialCauseDetail : MI := (yL_denialCauseDetail, cL_denialCauseDetail, 3, (some .int), rmd 3 1 6, [(0, 8, 11, 32)])
def IL_undo : MI := (yL_undo, cL_undo, 3, (some .int), rmd 6 1 6, [(0, 8, 11, 131)])
def IL_restoreSnapshot : MI := (yL_restoreSnapshot, cL_restoreSnapshot, 3, (some .int), rmd 5 1 6, [(0, 8, 11, 131)])
def IL_law : MI := (x, code, 9, ret, room_1, [])
end
section
/-! PURE: numbers, first places, counts -/
/-- the first place below n where p holds -/
def fx (p : Nat → Bool) : Nat → Option Nat
  | 0 => none
  | n + 1 => match fx p n with
    | some k => some k
    | none => if p n = true then some n else none
theorem fx_none {p : Nat → Bool} : ∀ {n : Nat}, fx p n = none ↔ ∀ j, j < n → p j = false
  | 0 => ⟨fun _ j hj => absurd hj (Nat.not_lt_zero j), fun _ => rfl⟩
  | n + 1 => by
    have ih := fx_none (p := p) (n := n)
    unfold fx
    constructor
    · intro h j hj
      cases hf : fx p n with
      | some k => rw [hf] at h; cases h
      | none =>
        rw [hf] at h
        by_cases hp : p n = true
        · simp [hp] at h
        · rcases Nat.lt_succ_iff_lt_or_eq.mp hj with q | q
          · exact ih.mp hf j q
          · rw [q]; simpa using hp
    · intro h
      rw [ih.mpr (fun j hj => h j (Nat.lt_succ_of_lt hj))]
      simp [h n (Nat.lt_succ_self n)]
theorem fx_some {p : Nat → Bool} : ∀ {n k : Nat}, fx p n = some k ↔ k < n ∧ p k = true ∧ ∀ j, j < k → p j = false
  | 0, k => ⟨fun h => (by cases h), fun h => absurd h.1 (Nat.not_lt_zero k)⟩
  | n + 1, k => by
    have ih := fx_some (p := p) (n := n) (k := k)
    have i0 := fx_none (p := p) (n := n)
    unfold fx
    constructor
    · intro h
      cases hf : fx p n with
      | some z =>
        rw [hf] at h
        have h : some z = some k := h
        rw [h] at hf
        obtain ⟨h1, h2, h3⟩ := ih.mp hf
        exact ⟨Nat.lt_succ_of_lt h1, h2, h3⟩
      | none =>
        rw [hf] at h
        by_cases hp : p n = true
        · simp [hp] at h
          subst h
          exact ⟨Nat.lt_succ_self n, hp, i0.mp hf⟩
        · simp [hp] at h
    · intro ⟨h1, h2, h3⟩
      rcases Nat.lt_succ_iff_lt_or_eq.mp h1 with q | q
      · rw [ih.mpr ⟨q, h2, h3⟩]
      · subst q
        rw [i0.mpr h3]
        simp [h2]
theorem fx_lt {p : Nat → Bool} {n k : Nat} (h : fx p n = some k) : k < n := (fx_some.mp h).1
theorem fx_at {p : Nat → Bool} {n k : Nat} (h : fx p n = some k) : p k = true := (fx_some.mp h).2.1
theorem fx_cong {p q : Nat → Bool} {n : Nat} (h : ∀ j, j < n → p j = q j) : fx p n = fx q n := by
  cases hq : fx q n with
  | none => exact fx_none.mpr fun j hj => by rw [h j hj]; exact fx_none.mp hq j hj
  | some k =>
    obtain ⟨h1, h2, h3⟩ := fx_some.mp hq
    exact fx_some.mpr ⟨h1, by rw [h k h1]; exact h2, fun j hj => by rw [h j (by omega)]; exact h3 j hj⟩
/-- a place as the methods tell it -/
def oI : Option Nat → Int32
  | some k => nI k
  | none => -1
theorem oI_neg {r : Option Nat} {n : Nat} (h : ∀ k, r = some k → k < n) (hn : n < 2 ^ 31) : oI r < 0 ↔ r = none := by
  cases r with
  | none => exact ⟨fun _ => rfl, fun _ => by decide⟩
  | some k => exact ⟨fun z => absurd z (nI_pos (Nat.lt_trans (h k rfl) hn)), fun z => by cases z⟩
/-- how many below n -/
def ct (p : Nat → Bool) : Nat → Nat
  | 0 => 0
  | n + 1 => ct p n + (if p n = true then 1 else 0)
theorem ct_le (p : Nat → Bool) : ∀ n, ct p n ≤ n
  | 0 => Nat.le_refl _
  | n + 1 => by
    have h := ct_le p n
    unfold ct
    split <;> omega
theorem ct_cong {p q : Nat → Bool} : ∀ {n : Nat}, (∀ j, j < n → p j = q j) → ct p n = ct q n
  | 0, _ => rfl
  | n + 1, h => by rw [ct, ct, ct_cong (fun j hj => h j (by omega)), h n (by omega)]
abbrev bI (p : Prop) [Decidable p] : Int32 := if p then 1 else 0
theorem bI_t {p : Prop} [Decidable p] (h : p) : bI p = 1 := if_pos h
theorem bI_f {p : Prop} [Decidable p] (h : ¬ p) : bI p = 0 := if_neg h
theorem bI_0 {p : Prop} [Decidable p] : bI p = 0 ↔ ¬ p := by
  by_cases hp : p
  · rw [bI_t hp]; exact ⟨fun z => absurd z (by decide), fun z => absurd hp z⟩
  · rw [bI_f hp]; exact ⟨fun _ => hp, fun _ => rfl⟩
theorem bI_1 {p : Prop} [Decidable p] : bI p ≠ 0 ↔ p := by
  by_cases hp : p
  · rw [bI_t hp]; exact ⟨fun _ => hp, fun _ => by decide⟩
  · rw [bI_f hp]; exact ⟨fun z => absurd rfl z, fun z => absurd z hp⟩
theorem bI_nI (p : Prop) [Decidable p] : bI p = nI (if p then 1 else 0) := by
  by_cases hp : p
  · rw [bI_t hp, if_pos hp]; rfl
  · rw [bI_f hp, if_neg hp]; rfl
theorem bI_cong {p q : Prop} [Decidable p] [Decidable q] (h : p ↔ q) : bI p = bI q := by
  by_cases hp : p
  · rw [bI_t hp, bI_t (h.mp hp)]
  · rw [bI_f hp, bI_f (fun z => hp (h.mpr z))]
theorem nbI (p : Prop) [Decidable p] : narrow .boolean (.int (bI p)) = .int (bI p) := by
  by_cases hp : p
  · rw [bI_t hp]; rfl
  · rw [bI_f hp]; rfl
/-- an int and the natural number that it is -/
abbrev gn (g : Nat → Int32) (i : Nat) : Nat := (g i).toNatClampNeg
theorem ixa {a b : Int32} {a' b' s : Nat} (ha : a = nI a') (hb : b = nI b') : a + b * nI s = nI (a' + b' * s) := by rw [ha, hb, pk_mul, nI_add]
theorem ixb {a b : Int32} {a' b' s w : Nat} (ha : a = nI a') (hb : b = nI b') : a + b * nI s + nI w = nI (a' + b' * s + w) := by rw [ixa ha hb, nI_add]
theorem ixc {a b c : Int32} {a' b' s w : Nat} (ha : a = nI a') (hb : b = nI b') (hc : c = nI w) : a + b * nI s + c = nI (a' + b' * s + w) := by rw [ixa ha hb, hc, nI_add]
theorem ixd {a : Int32} {a' s : Nat} (ha : a = nI a') : a + nI s = nI (a' + s) := by rw [ha, nI_add]
theorem nI_inj {a b : Nat} (ha : a < 2 ^ 31) (hb : b < 2 ^ 31) (h : nI a = nI b) : a = b := (nI_eq ha hb).mp h
theorem nI_lt0 {x : Int32} {n : Nat} (hn : n < 2 ^ 31) : 0 ≤ x ∧ x ≤ nI n - 1 ↔ ∃ k, k < n ∧ x = nI k := by
  constructor
  · intro ⟨h1, h2⟩
    obtain ⟨k, hk, rfl⟩ := nI_of (Int32.not_lt.mpr h1)
    refine ⟨k, ?_, rfl⟩
    cases n with
    | zero =>
      exfalso
      have h3 : nI 0 - 1 = (-1 : Int32) := by decide
      rw [h3] at h2
      have h4 := (Int32.le_iff_toInt_le).mp h2
      rw [nI_toInt hk] at h4
      have h5 : (-1 : Int32).toInt = -1 := by decide
      omega
    | succ n =>
      rw [nI_pred] at h2
      have h3 := (nI_leI hk (by omega)).mp h2
      omega
  · intro ⟨k, hk, hx⟩
    subst hx
    refine ⟨nI_pos' (by omega), ?_⟩
    cases n with
    | zero => exact absurd hk (Nat.not_lt_zero k)
    | succ n => rw [nI_pred]; exact nI_le (by omega) (by omega)
/-! THE STATE in the reference's own row g: counts at 0..8, stones by twos from 9, ranks from 29, petitions by elevens from 35, rulings by sixes from 123 -/
/-- the entry i is a natural number below b -/
def nb (g : Nat → Int32) (i b : Nat) : Prop := g i = nI (gn g i) ∧ gn g i < b
def PI (g : Nat → Int32) (k : Nat) : Prop := nb g (35 + 11 * k) (gn g 4) ∧ nb g (35 + 11 * k + 1) (gn g 1) ∧ nb g (35 + 11 * k + 2) (gn g 0) ∧ nb g (35 + 11 * k + 3) 25 ∧ nb g (35 + 11 * k + 4) 10 ∧ nb g (35 + 11 * k + 5) 64 ∧ nb g (35 + 11 * k + 6) 64 ∧ nb g (35 + 11 * k + 7) 4 ∧ ∀ c, c < gn g (35 + 11 * k + 7) → nb g (35 + 11 * k + 8 + c) (gn g 5)
def RI (g : Nat → Int32) (r : Nat) : Prop := nb g (123 + 6 * r) 2 ∧ nb g (123 + 6 * r + 1) 2 ∧ nb g (123 + 6 * r + 2) 4 ∧ ∀ c, c < gn g (123 + 6 * r + 2) → nb g (123 + 6 * r + 3 + c) r
/-- what holds of every state; F: how many petitions may have been filed -/
def GI (F : Nat) (g : Nat → Int32) : Prop := F < 2 ^ 30 ∧ nb g 0 11 ∧ nb g 1 7 ∧ nb g 2 6 ∧ nb g 3 9 ∧ nb g 4 (F + 1) ∧ nb g 5 17 ∧ (∀ k, k < gn g 0 → nb g (9 + 2 * k) 25) ∧ (∀ k, k < gn g 1 → nb g (29 + k) 10) ∧ (∀ k, k < gn g 3 → PI g k) ∧ (∀ j k, j < k → k < gn g 3 → gn g (35 + 11 * j) < gn g (35 + 11 * k)) ∧ ∀ r, r < gn g 5 → RI g r
section GI
variable {F : Nat} {g : Nat → Int32}
theorem GI.hF (i : GI F g) : F < 2 ^ 30 := i.1
theorem GI.s (i : GI F g) : nb g 0 11 := i.2.1
theorem GI.o (i : GI F g) : nb g 1 7 := i.2.2.1
theorem GI.q (i : GI F g) : nb g 2 6 := i.2.2.2.1
theorem GI.p (i : GI F g) : nb g 3 9 := i.2.2.2.2.1
theorem GI.f (i : GI F g) : nb g 4 (F + 1) := i.2.2.2.2.2.1
theorem GI.r (i : GI F g) : nb g 5 17 := i.2.2.2.2.2.2.1
theorem GI.cell (i : GI F g) {k : Nat} (h : k < gn g 0) : nb g (9 + 2 * k) 25 := i.2.2.2.2.2.2.2.1 k h
theorem GI.rank (i : GI F g) {k : Nat} (h : k < gn g 1) : nb g (29 + k) 10 := i.2.2.2.2.2.2.2.2.1 k h
theorem GI.pi (i : GI F g) {k : Nat} (h : k < gn g 3) : PI g k := i.2.2.2.2.2.2.2.2.2.1 k h
theorem GI.num (i : GI F g) {j k : Nat} (h : j < k) (hk : k < gn g 3) : gn g (35 + 11 * j) < gn g (35 + 11 * k) := i.2.2.2.2.2.2.2.2.2.2.1 j k h hk
theorem GI.ri (i : GI F g) {r : Nat} (h : r < gn g 5) : RI g r := i.2.2.2.2.2.2.2.2.2.2.2 r h
end GI
theorem nb.le {g : Nat → Int32} {i b c : Nat} (h : nb g i b) (hc : b ≤ c) : nb g i c := ⟨h.1, Nat.lt_of_lt_of_le h.2 hc⟩
def gWithin (g : Nat → Int32) (c : Int32) : Option Nat := fx (fun k => decide (g (9 + 2 * k) = c)) (gn g 0)
def gPlace (g : Nat → Int32) (x : Int32) : Option Nat := fx (fun k => decide (g (35 + 11 * k) = x)) (gn g 3)
def gAbout (g : Nat → Int32) (s : Int32) : Option Nat := fx (fun k => decide (g (35 + 11 * k + 2) = s)) (gn g 3)
def bN (m : Nat) : Nat := m % 2 + m / 2 % 2 + m / 4 % 2 + m / 8 % 2 + m / 16 % 2 + m / 32 % 2
theorem bN_le (m : Nat) : bN m ≤ 6 := by unfold bN; omega
/-- votes for, against, all -/
def gFor (g : Nat → Int32) (k : Nat) : Nat := bN (gn g (35 + 11 * k + 5))
def gAg (g : Nat → Int32) (k : Nat) : Nat := bN (gn g (35 + 11 * k + 6))
def gVotes (g : Nat → Int32) (k : Nat) : Nat := gFor g k + gAg g k
/-- the petition at place a comes before that at place b -/
def gRk (g : Nat → Int32) (k : Nat) : Nat := gn g (29 + gn g (35 + 11 * k + 1))
def gUr (g : Nat → Int32) (k : Nat) : Nat := gn g (35 + 11 * k + 4)
def gNum (g : Nat → Int32) (k : Nat) : Nat := gn g (35 + 11 * k)
def gAhd (g : Nat → Int32) (a b : Nat) : Bool := decide (gRk g b < gRk g a ∨ gRk g a = gRk g b ∧ (gUr g b < gUr g a ∨ gUr g a = gUr g b ∧ gNum g a < gNum g b))
def gAhead (g : Nat → Int32) (k : Nat) : Nat := ct (fun j => gAhd g j k) (gn g 3)
def gQueued (g : Nat → Int32) (x : Int32) : Option Nat := fx (fun k => decide (nI (gAhead g k) = x)) (gn g 3)
/-- ruling r names ruling o -/
def gNames (g : Nat → Int32) (r : Nat) (x : Int32) : Bool := (fx (fun c => decide (g (123 + 6 * r + 3 + c) = x)) (gn g (123 + 6 * r + 2))).isSome
theorem sb_eq {a b : Nat} (ha : a < 2 ^ 30) (hb : b < 2 ^ 30) : nI a - nI b = 0 ↔ a = b := by
  rw [← Int32.toInt_inj, pk_sub_toInt ha hb]
  have : (0 : Int32).toInt = 0 := by decide
  omega
theorem sb_gt {a b : Nat} (ha : a < 2 ^ 30) (hb : b < 2 ^ 30) : 0 < nI a - nI b ↔ b < a := by
  rw [Int32.lt_iff_toInt_lt, pk_sub_toInt ha hb]
  have : (0 : Int32).toInt = 0 := by decide
  omega
theorem sb_le {a b : Nat} (ha : a < 2 ^ 30) (hb : b < 2 ^ 30) : nI a - nI b ≤ 0 ↔ a ≤ b := by
  rw [Int32.le_iff_toInt_le, pk_sub_toInt ha hb]
  have : (0 : Int32).toInt = 0 := by decide
  omega
/-- for less against, with the first c cited rulings -/
def gLead (g : Nat → Int32) (k : Nat) : Nat → Int32
  | 0 => nI (gFor g k) - nI (gAg g k)
  | c + 1 => gLead g k c + (if g (123 + 6 * gn g (35 + 11 * k + 8 + c)) = 1 then 1 else -1)
def gWins (g : Nat → Int32) (k : Nat) : Bool := decide (0 < gLead g k (gn g (35 + 11 * k + 7)))
/-- the rulings below n that are r or are based on it, as bits -/
def gBs (g : Nat → Int32) (r : Nat) : Nat → Nat
  | 0 => 0
  | n + 1 => if n < r then 0 else if n = r then 2 ^ r else if (fx (fun o => (gBs g r n).testBit o && gNames g n (nI o)) n).isSome = true then gBs g r n ||| 2 ^ n else gBs g r n
def gBased (g : Nat → Int32) (r k : Nat) : Bool := decide (k ≠ r) && (gBs g r (gn g 5)).testBit k
def gReach (g : Nat → Int32) (r : Nat) : Nat := ct (fun k => gBased g r k) (gn g 5)
theorem gBs_lt (g : Nat → Int32) (r : Nat) : ∀ n, gBs g r n < 2 ^ n
  | 0 => by show (0 : Nat) < 1; decide
  | n + 1 => by
    have ih := gBs_lt g r n
    have h2 : 2 ^ n < 2 ^ (n + 1) := Nat.pow_lt_pow_right (by decide) (by omega)
    unfold gBs
    split
    · exact Nat.lt_of_lt_of_le (by decide) (Nat.one_le_two_pow)
    · split
      · rename_i h; rw [← h]; exact h2
      · split
        · exact Nat.or_lt_two_pow (Nat.lt_trans ih h2) h2
        · exact Nat.lt_trans ih h2
/-- g without the petition at place p -/
def gDrop (g : Nat → Int32) (p : Nat) : Nat → Int32 := fun i =>
  if i = 3 then g 3 - 1 else if 35 + 11 * p ≤ i ∧ i < 35 + 11 * (gn g 3 - 1) then g (i + 11) else if 35 + 11 * (gn g 3 - 1) ≤ i ∧ i < 35 + 11 * (gn g 3 - 1) + 11 then 0 else g i
/-! bits of small masks -/
theorem nI_bv {m : Nat} : (nI m).toBitVec = BitVec.ofNat 32 m := rfl
theorem nI_or (a b : Nat) : nI a ||| nI b = nI (a ||| b) := by
  apply Int32.toBitVec_inj.mp
  show (nI a).toBitVec ||| (nI b).toBitVec = _
  rw [nI_bv, nI_bv, nI_bv, BitVec.ofNat_or]
theorem nI_sh1 : ∀ k, k < 31 → (1 : Int32) <<< (nI k &&& 31) = nI (2 ^ k) := by decide +kernel
theorem nI_shr {m k : Nat} (hm : m < 2 ^ 31) (hk : k < 31) : nI m >>> (nI k &&& 31) = nI (m / 2 ^ k) := by
  have h1 : ∀ k, k < 31 → ((nI k &&& 31).toBitVec.smod 32).toNat = k := by decide +kernel
  exact pk_shrN hm _ k (h1 k hk)
theorem nI_bit {m k : Nat} (hm : m < 2 ^ 31) (hk : k < 31) : (nI m >>> (nI k &&& 31)) &&& 1 = bI (m.testBit k = true) := by
  rw [nI_shr hm hk]
  have h2 : (nI (m / 2 ^ k)) &&& 1 = nI ((m / 2 ^ k) % 2 ^ 1) := pk_andN (Nat.lt_of_le_of_lt (Nat.div_le_self _ _) (by omega)) 1 (by decide)
  rw [h2, bI_nI]
  congr 1
  rw [Nat.testBit_eq_decide_div_mod_eq]
  have : m / 2 ^ k % 2 < 2 := Nat.mod_lt _ (by decide)
  by_cases hb : m / 2 ^ k % 2 = 1
  · simp [hb]
  · simp [hb]; omega
/-! Int32 by its bits (out of kit/laws/BITS.to-paste) -/
def bt (x : Int32) (i : Nat) : Bool := x.toBitVec.getLsbD i
theorem b_ext {x y : Int32} (h : ∀ i, i < 32 → bt x i = bt y i) : x = y := Int32.toBitVec_inj.mp (BitVec.eq_of_getLsbD_eq (fun i hi => h i hi))
theorem b_or (x y : Int32) (i : Nat) : bt (x ||| y) i = (bt x i || bt y i) := by unfold bt; rw [Int32.toBitVec_or, BitVec.getLsbD_or]
theorem b_and (x y : Int32) (i : Nat) : bt (x &&& y) i = (bt x i && bt y i) := by unfold bt; rw [Int32.toBitVec_and, BitVec.getLsbD_and]
theorem b_xor (x y : Int32) (i : Nat) : bt (x ^^^ y) i = (bt x i ^^ bt y i) := by unfold bt; rw [Int32.toBitVec_xor, BitVec.getLsbD_xor]
theorem b_big {x : Int32} {i : Nat} (h : 32 ≤ i) : bt x i = false := BitVec.getLsbD_of_ge _ _ h
theorem b_m1 : ∀ i, i < 32 → bt (-1) i = true := by decide +kernel
theorem b_0 (i : Nat) : bt 0 i = false := BitVec.getLsbD_zero
theorem s_l : ∀ n, n < 32 → ((nI n &&& 31).toBitVec.smod 32).toNat = n := by decide +kernel
theorem b_shl (n : Nat) (hn : n < 32) (x : Int32) {i : Nat} (hi : i < 32) : bt (x <<< (nI n &&& 31)) i = (decide (n ≤ i) && bt x (i - n)) := by
  unfold bt
  rw [Int32.toBitVec_shiftLeft]
  show (x.toBitVec <<< ((nI n &&& 31).toBitVec.smod 32).toNat).getLsbD i = _
  rw [s_l n hn, BitVec.getLsbD_shiftLeft]
  rcases Nat.lt_or_ge i n with h | h
  · simp [h, Nat.not_le.mpr h]
  · simp [hi, h, Nat.not_lt.mpr h]
theorem b_sshr (n : Nat) (hn : n < 32) (x : Int32) {i : Nat} (hi : i < 32) : bt (x >>> (nI n &&& 31)) i = if n + i < 32 then bt x (n + i) else bt x 31 := by
  unfold bt
  rw [Int32.toBitVec_shiftRight]
  show (x.toBitVec.sshiftRight ((nI n &&& 31).toBitVec.smod 32).toNat).getLsbD i = _
  rw [s_l n hn, BitVec.getLsbD_sshiftRight, BitVec.msb_eq_getLsbD_last]
  simp [hi]
theorem bt_nI (m : Nat) {i : Nat} (hi : i < 32) : bt (nI m) i = m.testBit i := by
  show (BitVec.ofNat 32 m).getLsbD i = _
  rw [BitVec.getLsbD_ofNat]
  simp [hi]
theorem bt_1 : ∀ i, i < 32 → bt 1 i = decide (i = 0) := by decide +kernel
theorem bitx (x : Int32) {k : Nat} (hk : k < 32) : (x >>> (nI k &&& 31)) &&& 1 = bI (bt x k = true) := by
  apply b_ext
  intro i hi
  rw [b_and, b_sshr k hk x hi, bt_1 i hi, bI_nI, bt_nI _ hi]
  by_cases h0 : i = 0
  · subst h0
    rw [if_pos (by omega)]
    cases hb : bt x k <;> simp [hb]
  · rw [decide_eq_false h0, Bool.and_false]
    symm
    by_cases hb : bt x k = true
    · rw [if_pos hb, ← bt_nI 1 hi]
      exact (bt_1 i hi).trans (decide_eq_false h0)
    · rw [if_neg hb, Nat.zero_testBit]
/-- the rulings that are based on r, as the reference has them -/
def gBm (g : Nat → Int32) (r : Nat) : Int32 := nI (gBs g r (gn g 5)) &&& ((1 : Int32) <<< (nI r &&& 31) ^^^ (-1))
theorem gBm_bt (g : Nat → Int32) {r k : Nat} (hr : r < 32) (hk : k < 32) : bt (gBm g r) k = gBased g r k := by
  unfold gBm gBased
  rw [b_and, b_xor, b_shl r hr _ hk, bt_nI _ hk, b_m1 k hk, bt_1 _ (by omega), Bool.and_comm]
  congr 1
  by_cases h : k = r
  · subst h
    simp
  · by_cases h2 : r ≤ k
    · rw [decide_eq_true h2, decide_eq_false (show ¬ k - r = 0 by omega), decide_eq_true h]
      rfl
    · rw [decide_eq_false h2, decide_eq_true h]
      rfl
theorem gBs_low (g : Nat → Int32) (r : Nat) : ∀ n i, i < r → (gBs g r n).testBit i = false
  | 0, i, _ => by unfold gBs; exact Nat.zero_testBit i
  | n + 1, i, hi => by
    have ih := gBs_low g r n i hi
    unfold gBs
    split
    · exact Nat.zero_testBit i
    · split
      · rw [Nat.testBit_two_pow_of_ne (by omega)]
      · split
        · rw [Nat.testBit_or, ih, Nat.testBit_two_pow_of_ne (by omega)]
          rfl
        · exact ih
theorem nI_sub1 {n : Nat} (h : 0 < n) : nI n - 1 = nI (n - 1) := by
  obtain ⟨m, rfl⟩ : ∃ m, n = m + 1 := ⟨n - 1, by omega⟩
  rw [nI_pred]
  rfl
theorem fx_succ (p : Nat → Bool) (n : Nat) : (fx p (n + 1)).isSome = ((fx p n).isSome || p n) := by
  show (match fx p n with
    | some k => some k
    | none => if p n = true then some n else none).isSome = _
  cases fx p n with
  | some k => rfl
  | none =>
    by_cases h : p n = true
    · simp [h]
    · simp [h]
theorem gBs_step (g : Nat → Int32) {r n : Nat} (h : r < n) : gBs g r (n + 1) = if (fx (fun o => (gBs g r n).testBit o && gNames g n (nI o)) n).isSome = true then gBs g r n ||| 2 ^ n else gBs g r n := by
  show (if n < r then 0 else if n = r then 2 ^ r else _) = _
  rw [if_neg (by omega), if_neg (by omega)]
theorem gBs_self (g : Nat → Int32) (r : Nat) : gBs g r (r + 1) = 2 ^ r := by
  show (if r < r then 0 else if r = r then 2 ^ r else _) = _
  rw [if_neg (by omega), if_pos rfl]
end
section
/-! THE REFERENCE, leaves -/
section MODEL
variable {G : GG} {M : Mm} {h : Nat}
/-- its cells lie behind one another: the object h; g h+1, kept h+2, saved h+3, before h+4, input h+5, signs h+6, deep h+7, told h+8 -/
def MO (M : Mm) (h : Nat) : Prop := kd M h = 9 ∧ (kd M (h + 1) = 20 ∧ kd M (h + 2) = 20 ∧ kd M (h + 3) = 20 ∧ kd M (h + 4) = 20 ∧ kd M (h + 5) = 20 ∧ kd M (h + 6) = 21 ∧ kd M (h + 7) = 20 ∧ kd M (h + 8) = 20) ∧ (ln M (h + 1) = 219 ∧ ln M (h + 2) = 1752 ∧ ln M (h + 3) = 219 ∧ ln M (h + 4) = 219 ∧ ln M (h + 5) = 60 ∧ ln M (h + 6) = 60 ∧ ln M (h + 7) = 16 ∧ ln M (h + 8) = 155) ∧ mr M h 0 = some (h + 1) ∧ mr M h 1 = some (h + 2) ∧ mr M h 2 = some (h + 3) ∧ mr M h 3 = some (h + 4) ∧ mr M h 13 = some (h + 5) ∧ mr M h 16 = some (h + 6) ∧ mr M h 18 = some (h + 7) ∧ mr M h 20 = some (h + 8)
theorem MO.k (o : MO M h) : kd M h = 9 := o.1
theorem MO.k1 (o : MO M h) : kd M (h + 1) = 20 := o.2.1.1
theorem MO.k2 (o : MO M h) : kd M (h + 2) = 20 := o.2.1.2.1
theorem MO.k3 (o : MO M h) : kd M (h + 3) = 20 := o.2.1.2.2.1
theorem MO.k4 (o : MO M h) : kd M (h + 4) = 20 := o.2.1.2.2.2.1
theorem MO.k5 (o : MO M h) : kd M (h + 5) = 20 := o.2.1.2.2.2.2.1
theorem MO.k6 (o : MO M h) : kd M (h + 6) = 21 := o.2.1.2.2.2.2.2.1
theorem MO.k7 (o : MO M h) : kd M (h + 7) = 20 := o.2.1.2.2.2.2.2.2.1
theorem MO.k8 (o : MO M h) : kd M (h + 8) = 20 := o.2.1.2.2.2.2.2.2.2
theorem MO.l1 (o : MO M h) : ln M (h + 1) = 219 := o.2.2.1.1
theorem MO.l2 (o : MO M h) : ln M (h + 2) = 1752 := o.2.2.1.2.1
theorem MO.l3 (o : MO M h) : ln M (h + 3) = 219 := o.2.2.1.2.2.1
theorem MO.l4 (o : MO M h) : ln M (h + 4) = 219 := o.2.2.1.2.2.2.1
theorem MO.l5 (o : MO M h) : ln M (h + 5) = 60 := o.2.2.1.2.2.2.2.1
theorem MO.l6 (o : MO M h) : ln M (h + 6) = 60 := o.2.2.1.2.2.2.2.2.1
theorem MO.l7 (o : MO M h) : ln M (h + 7) = 16 := o.2.2.1.2.2.2.2.2.2.1
theorem MO.l8 (o : MO M h) : ln M (h + 8) = 155 := o.2.2.1.2.2.2.2.2.2.2
theorem MO.r0 (o : MO M h) : mr M h 0 = some (h + 1) := o.2.2.2.1
theorem MO.r1 (o : MO M h) : mr M h 1 = some (h + 2) := o.2.2.2.2.1
theorem MO.r2 (o : MO M h) : mr M h 2 = some (h + 3) := o.2.2.2.2.2.1
theorem MO.r3 (o : MO M h) : mr M h 3 = some (h + 4) := o.2.2.2.2.2.2.1
theorem MO.r13 (o : MO M h) : mr M h 13 = some (h + 5) := o.2.2.2.2.2.2.2.1
theorem MO.r16 (o : MO M h) : mr M h 16 = some (h + 6) := o.2.2.2.2.2.2.2.2.1
theorem MO.r18 (o : MO M h) : mr M h 18 = some (h + 7) := o.2.2.2.2.2.2.2.2.2.1
theorem MO.r20 (o : MO M h) : mr M h 20 = some (h + 8) := o.2.2.2.2.2.2.2.2.2.2
/-- it depends on kinds, lengths and references alone -/
theorem MO.to {M' : Mm} (o : MO M h) (h1 : kd M' = kd M) (h2 : ln M' = ln M) (h3 : mr M' = mr M) : MO M' h := by unfold MO; rw [h1, h2, h3]; exact o
/-- one row's or object's ints, all at once -/
def sA (M : Mm) (a : Nat) (f : Nat → Int32) : Mm := (kd M, ln M, va_up (mi M) a f, mr M, mj M, md M, nx M)
theorem sI_A (M : Mm) (a j : Nat) (v : Int32) : sI M a j v = sA M a (va_up (mi M a) j v) := rfl
theorem mi_sA (M : Mm) (a : Nat) (f : Nat → Int32) : mi (sA M a f) = va_up (mi M) a f := rfl
theorem mi_sA_s (M : Mm) (a : Nat) (f : Nat → Int32) : mi (sA M a f) a = f := va_up_self _ _ _
theorem mi_sA_n (M : Mm) {a b : Nat} (f : Nat → Int32) (hb : b ≠ a) : mi (sA M a f) b = mi M b := va_up_ne _ _ hb
theorem va_up_up {α : Type} (f : Nat → α) (a : Nat) (x y : α) : va_up (va_up f a x) a y = va_up f a y := by
  funext b
  by_cases hb : b = a
  · rw [hb, va_up_self, va_up_self]
  · rw [va_up_ne _ _ hb, va_up_ne _ _ hb, va_up_ne _ _ hb]
theorem va_up_eq {α : Type} (f : Nat → α) (a : Nat) : va_up f a (f a) = f := by
  funext b
  by_cases hb : b = a
  · rw [hb, va_up_self]
  · rw [va_up_ne _ _ hb]
theorem va_up_co {α : Type} (f : Nat → α) {a b : Nat} (x y : α) (hab : a ≠ b) : va_up (va_up f a x) b y = va_up (va_up f b y) a x := by
  funext c
  by_cases h1 : c = a
  · subst h1
    rw [va_up_ne _ _ hab, va_up_self, va_up_self]
  · rw [va_up_ne (va_up f b y) _ h1]
    by_cases h2 : c = b
    · rw [h2, va_up_self, va_up_self]
    · rw [va_up_ne _ _ h2, va_up_ne _ _ h1, va_up_ne _ _ h2]
theorem sA_A (M : Mm) (a : Nat) (f f' : Nat → Int32) : sA (sA M a f) a f' = sA M a f' := by
  show (kd M, ln M, va_up (va_up (mi M) a f) a f', mr M, mj M, md M, nx M) = _
  rw [va_up_up]
  rfl
theorem sA_eq (M : Mm) (a : Nat) : sA M a (mi M a) = M := by
  show (kd M, ln M, va_up (mi M) a (mi M a), mr M, mj M, md M, nx M) = _
  rw [va_up_eq]
  rfl
theorem sA_co (M : Mm) {a b : Nat} (f f' : Nat → Int32) (hab : a ≠ b) : sA (sA M a f) b f' = sA (sA M b f') a f := by
  show (kd M, ln M, va_up (va_up (mi M) a f) b f', mr M, mj M, md M, nx M) = (kd M, ln M, va_up (va_up (mi M) b f') a f, mr M, mj M, md M, nx M)
  rw [va_up_co _ _ _ hab]
theorem k_X9_thrown (o : MO M h) : KP G IX9_thrown [.ref h] M (mi M h 8) := by
  refine KK.ofW (by decide) (by simp [Value.category]) (Nat.le_of_ble_eq_true rfl) rfl ?_
  show WW _ _ _ 0 [_] [] _ _ _
  refine r_aload_n (dk kX9_thrown 0 rfl) rfl ?_
  refine r_geti (dk kX9_thrown 1 rfl) fa_X9_39_8 o.k rfl ?_
  refine r_ireturn (dk kX9_thrown 2 rfl) rfl rfl ⟨Nat.le_of_ble_eq_true rfl, Nat.le_of_ble_eq_true rfl⟩ ⟨rfl, rfl⟩
theorem k_X9_in (v a b : Int32) : KP G IX9_in [.int v, .int a, .int b] M (bI (a ≤ v ∧ v ≤ b)) := by
  refine KK.ofW (by decide) (by simp [Value.category]) (Nat.le_of_ble_eq_true rfl) rfl ?_
  show WW _ _ _ 0 [_, _, _] [] _ _ _
  refine r_iload_n (dk kX9_in 0 rfl) rfl ?_
  refine r_iload_n (dk kX9_in 1 rfl) rfl ?_
  refine r_icmp_lt (tgt := 14) (dk kX9_in 2 rfl) (by decide) (fun c2 => ?_) (fun c2 => ?_)
  · refine r_iconst (v := 0) (dk kX9_in 8 rfl) (by decide) ?_
    refine r_ireturn (dk kX9_in 9 rfl) rfl rfl ⟨Nat.le_of_ble_eq_true rfl, Nat.le_of_ble_eq_true rfl⟩ ⟨by rw [bI, if_neg (fun z => absurd c2 (Int32.not_lt.mpr z.1))], rfl⟩
  · refine r_iload_n (dk kX9_in 3 rfl) rfl ?_
    refine r_iload_n (dk kX9_in 4 rfl) rfl ?_
    refine r_icmp_gt (tgt := 14) (dk kX9_in 5 rfl) (by decide) (fun c7 => ?_) (fun c7 => ?_)
    · refine r_iconst (v := 0) (dk kX9_in 8 rfl) (by decide) ?_
      refine r_ireturn (dk kX9_in 9 rfl) rfl rfl ⟨Nat.le_of_ble_eq_true rfl, Nat.le_of_ble_eq_true rfl⟩ ⟨by rw [bI, if_neg (fun z => absurd c7 (Int32.not_lt.mpr z.2))], rfl⟩
    · refine r_iconst (v := 1) (dk kX9_in 6 rfl) (by decide) ?_
      refine r_goto (tgt := 15) (dk kX9_in 7 rfl) (by decide) ?_
      refine r_ireturn (dk kX9_in 9 rfl) rfl rfl ⟨Nat.le_of_ble_eq_true rfl, Nat.le_of_ble_eq_true rfl⟩ ⟨by rw [bI, if_pos ⟨Int32.not_lt.mp c2, Int32.not_lt.mp c7⟩], rfl⟩
/-- what 'fails' leaves -/
abbrev mFail (M : Mm) (h : Nat) (p : Int32) : Mm := sI (sI M h 8 p) h 7 0
theorem k_X9_fails (o : MO M h) (p : Int32) : KE G IX9_fails [.ref h, .int p] M (bI (0 < p)) (mFail M h p) := by
  refine KK.ofW (by decide) (by simp [Value.category]) (Nat.le_of_ble_eq_true rfl) rfl ?_
  show WW _ _ _ 0 [_, _] [] _ _ _
  refine r_aload_n (dk kX9_fails 0 rfl) rfl ?_
  refine r_iload_n (dk kX9_fails 1 rfl) rfl ?_
  refine r_puti (dk kX9_fails 2 rfl) fa_X9_39_8 o.k rfl rfl rfl rfl ?_
  refine r_aload_n (dk kX9_fails 3 rfl) rfl ?_
  refine r_iconst (v := 0) (dk kX9_fails 4 rfl) (by decide) ?_
  refine r_puti (dk kX9_fails 5 rfl) fa_X9_42_8 o.k rfl rfl rfl rfl ?_
  refine r_iload_n (dk kX9_fails 6 rfl) rfl ?_
  refine r_if_le (tgt := 18) (dk kX9_fails 7 rfl) (by decide) (fun c11 => ?_) (fun c11 => ?_)
  · refine r_iconst (v := 0) (dk kX9_fails 10 rfl) (by decide) ?_
    refine r_ireturn (dk kX9_fails 11 rfl) rfl rfl ⟨Nat.le_of_ble_eq_true rfl, Nat.le_of_ble_eq_true rfl⟩ ⟨by rw [bI, if_neg (Int32.not_lt.mpr c11)], rfl⟩
  · refine r_iconst (v := 1) (dk kX9_fails 8 rfl) (by decide) ?_
    refine r_goto (tgt := 19) (dk kX9_fails 9 rfl) (by decide) ?_
    refine r_ireturn (dk kX9_fails 11 rfl) rfl rfl ⟨Nat.le_of_ble_eq_true rfl, Nat.le_of_ble_eq_true rfl⟩ ⟨by rw [bI, if_pos (Int32.not_le.mp c11)], rfl⟩
/-- what 'denies' leaves -/
abbrev mDeny (M : Mm) (h : Nat) (p a b : Int32) : Mm := sI (sI (sI (sI (sI (sI M h 8 p) h 7 1) h 9 a) h 10 b) h 11 0) h 12 0
theorem k_X9_denies (o : MO M h) (p a b : Int32) : KE G IX9_denies [.ref h, .int p, .int a, .int b] M 0 (mDeny M h p a b) := by
  refine KK.ofW (by decide) (by simp [Value.category]) (Nat.le_of_ble_eq_true rfl) rfl ?_
  show WW _ _ _ 0 [_, _, _, _] [] _ _ _
  refine r_aload_n (dk kX9_denies 0 rfl) rfl ?_
  refine r_iload_n (dk kX9_denies 1 rfl) rfl ?_
  refine r_puti (dk kX9_denies 2 rfl) fa_X9_39_8 o.k rfl rfl rfl rfl ?_
  refine r_aload_n (dk kX9_denies 3 rfl) rfl ?_
  refine r_iconst (v := 1) (dk kX9_denies 4 rfl) (by decide) ?_
  refine r_puti (dk kX9_denies 5 rfl) fa_X9_42_8 o.k rfl rfl rfl rfl ?_
  refine r_aload_n (dk kX9_denies 6 rfl) rfl ?_
  refine r_iload_n (dk kX9_denies 7 rfl) rfl ?_
  refine r_puti (dk kX9_denies 8 rfl) fa_X9_46_8 o.k rfl rfl rfl rfl ?_
  refine r_aload_n (dk kX9_denies 9 rfl) rfl ?_
  refine r_iload_n (dk kX9_denies 10 rfl) rfl ?_
  refine r_puti (dk kX9_denies 11 rfl) fa_X9_49_8 o.k rfl rfl rfl rfl ?_
  refine r_aload_n (dk kX9_denies 12 rfl) rfl ?_
  refine r_iconst (v := 0) (dk kX9_denies 13 rfl) (by decide) ?_
  refine r_puti (dk kX9_denies 14 rfl) fa_X9_52_8 o.k rfl rfl rfl rfl ?_
  refine r_aload_n (dk kX9_denies 15 rfl) rfl ?_
  refine r_iconst (v := 0) (dk kX9_denies 16 rfl) (by decide) ?_
  refine r_puti (dk kX9_denies 17 rfl) fa_X9_55_8 o.k rfl rfl rfl rfl ?_
  refine r_iconst (v := 0) (dk kX9_denies 18 rfl) (by decide) ?_
  refine r_ireturn (dk kX9_denies 19 rfl) rfl rfl ⟨Nat.le_of_ble_eq_true rfl, Nat.le_of_ble_eq_true rfl⟩ ⟨rfl, rfl⟩
theorem k_X9_isCell (c : Int32) : KP G IX9_isCell [.int c] M (bI (0 ≤ c ∧ c ≤ 24)) := by
  refine KK.ofW (by decide) (by simp [Value.category]) (Nat.le_of_ble_eq_true rfl) rfl ?_
  show WW _ _ _ 0 [_] [] _ _ _
  refine r_iload_n (dk kX9_isCell 0 rfl) rfl ?_
  refine r_iconst (v := 0) (dk kX9_isCell 1 rfl) (by decide) ?_
  refine r_bipush (v := 24) (dk kX9_isCell 2 rfl) (by decide) ?_
  refine r_callSp (I' := IX9_in) (as := [_, _, _]) (dk kX9_isCell 3 rfl) ms_X9_in ml_X9_68 rfl rfl rfl (Nat.le_of_ble_eq_true rfl) ⟨by decide, by decide⟩ ⟨rfl, rfl⟩ ⟨Nat.le_of_ble_eq_true rfl, Nat.le_of_ble_eq_true rfl⟩ (k_X9_in _ _ _) ?_
  refine r_ireturn (dk kX9_isCell 4 rfl) rfl (nbI _) ⟨Nat.le_of_ble_eq_true rfl, Nat.le_of_ble_eq_true rfl⟩ ⟨rfl, rfl⟩
theorem k_X9_isStone (o : MO M h) (p : Int32) : KP G IX9_isStone [.ref h, .int p] M (bI (0 ≤ p ∧ p ≤ mi M (h + 1) 0 - 1)) := by
  refine KK.ofW (by decide) (by simp [Value.category]) (Nat.le_of_ble_eq_true rfl) rfl ?_
  show WW _ _ _ 0 [_, _] [] _ _ _
  refine r_iload_n (dk kX9_isStone 0 rfl) rfl ?_
  refine r_iconst (v := 0) (dk kX9_isStone 1 rfl) (by decide) ?_
  refine r_aload_n (dk kX9_isStone 2 rfl) rfl ?_
  refine r_getR (dk kX9_isStone 3 rfl) fa_X9_7_8 o.k rfl o.r0 ?_
  refine r_iconst (v := 0) (dk kX9_isStone 4 rfl) (by decide) ?_
  refine r_ial (dk kX9_isStone 5 rfl) o.k1 o.l1 rfl (by decide) (by decide) ?_
  refine r_iconst (v := 1) (dk kX9_isStone 6 rfl) (by decide) ?_
  refine r_isub (dk kX9_isStone 7 rfl) ?_
  refine r_callSp (I' := IX9_in) (as := [_, _, _]) (dk kX9_isStone 8 rfl) ms_X9_in ml_X9_68 rfl rfl rfl (Nat.le_of_ble_eq_true rfl) ⟨by decide, by decide⟩ ⟨rfl, rfl⟩ ⟨Nat.le_of_ble_eq_true rfl, Nat.le_of_ble_eq_true rfl⟩ (k_X9_in _ _ _) ?_
  refine r_ireturn (dk kX9_isStone 9 rfl) rfl (nbI _) ⟨Nat.le_of_ble_eq_true rfl, Nat.le_of_ble_eq_true rfl⟩ ⟨rfl, rfl⟩
theorem k_X9_isOfficer (o : MO M h) (p : Int32) : KP G IX9_isOfficer [.ref h, .int p] M (bI (0 ≤ p ∧ p ≤ mi M (h + 1) 1 - 1)) := by
  refine KK.ofW (by decide) (by simp [Value.category]) (Nat.le_of_ble_eq_true rfl) rfl ?_
  show WW _ _ _ 0 [_, _] [] _ _ _
  refine r_iload_n (dk kX9_isOfficer 0 rfl) rfl ?_
  refine r_iconst (v := 0) (dk kX9_isOfficer 1 rfl) (by decide) ?_
  refine r_aload_n (dk kX9_isOfficer 2 rfl) rfl ?_
  refine r_getR (dk kX9_isOfficer 3 rfl) fa_X9_7_8 o.k rfl o.r0 ?_
  refine r_iconst (v := 1) (dk kX9_isOfficer 4 rfl) (by decide) ?_
  refine r_ial (dk kX9_isOfficer 5 rfl) o.k1 o.l1 rfl (by decide) (by decide) ?_
  refine r_iconst (v := 1) (dk kX9_isOfficer 6 rfl) (by decide) ?_
  refine r_isub (dk kX9_isOfficer 7 rfl) ?_
  refine r_callSp (I' := IX9_in) (as := [_, _, _]) (dk kX9_isOfficer 8 rfl) ms_X9_in ml_X9_68 rfl rfl rfl (Nat.le_of_ble_eq_true rfl) ⟨by decide, by decide⟩ ⟨rfl, rfl⟩ ⟨Nat.le_of_ble_eq_true rfl, Nat.le_of_ble_eq_true rfl⟩ (k_X9_in _ _ _) ?_
  refine r_ireturn (dk kX9_isOfficer 9 rfl) rfl (nbI _) ⟨Nat.le_of_ble_eq_true rfl, Nat.le_of_ble_eq_true rfl⟩ ⟨rfl, rfl⟩
theorem k_X9_isRuling (o : MO M h) (p : Int32) : KP G IX9_isRuling [.ref h, .int p] M (bI (0 ≤ p ∧ p ≤ mi M (h + 1) 5 - 1)) := by
  refine KK.ofW (by decide) (by simp [Value.category]) (Nat.le_of_ble_eq_true rfl) rfl ?_
  show WW _ _ _ 0 [_, _] [] _ _ _
  refine r_iload_n (dk kX9_isRuling 0 rfl) rfl ?_
  refine r_iconst (v := 0) (dk kX9_isRuling 1 rfl) (by decide) ?_
  refine r_aload_n (dk kX9_isRuling 2 rfl) rfl ?_
  refine r_getR (dk kX9_isRuling 3 rfl) fa_X9_7_8 o.k rfl o.r0 ?_
  refine r_iconst (v := 5) (dk kX9_isRuling 4 rfl) (by decide) ?_
  refine r_ial (dk kX9_isRuling 5 rfl) o.k1 o.l1 rfl (by decide) (by decide) ?_
  refine r_iconst (v := 1) (dk kX9_isRuling 6 rfl) (by decide) ?_
  refine r_isub (dk kX9_isRuling 7 rfl) ?_
  refine r_callSp (I' := IX9_in) (as := [_, _, _]) (dk kX9_isRuling 8 rfl) ms_X9_in ml_X9_68 rfl rfl rfl (Nat.le_of_ble_eq_true rfl) ⟨by decide, by decide⟩ ⟨rfl, rfl⟩ ⟨Nat.le_of_ble_eq_true rfl, Nat.le_of_ble_eq_true rfl⟩ (k_X9_in _ _ _) ?_
  refine r_ireturn (dk kX9_isRuling 9 rfl) rfl (nbI _) ⟨Nat.le_of_ble_eq_true rfl, Nat.le_of_ble_eq_true rfl⟩ ⟨rfl, rfl⟩
theorem k_X9_cell (o : MO M h) {s : Nat} (hs : s < 10) : KP G IX9_cell [.ref h, .int (nI s)] M (mi M (h + 1) (9 + 2 * s)) := by
  refine KK.ofW (by decide) (by simp [Value.category]) (Nat.le_of_ble_eq_true rfl) rfl ?_
  show WW _ _ _ 0 [_, _] [] _ _ _
  refine r_aload_n (dk kX9_cell 0 rfl) rfl ?_
  refine r_getR (dk kX9_cell 1 rfl) fa_X9_7_8 o.k rfl o.r0 ?_
  refine r_bipush (v := 9) (dk kX9_cell 2 rfl) (by decide) ?_
  refine r_iconst (v := 2) (dk kX9_cell 3 rfl) (by decide) ?_
  refine r_iload_n (dk kX9_cell 4 rfl) rfl ?_
  refine r_imul (dk kX9_cell 5 rfl) ?_
  refine r_iadd (dk kX9_cell 6 rfl) ?_
  refine r_ial (dk kX9_cell 7 rfl) o.k1 o.l1 (ixa (a' := 9) (b' := 2) rfl rfl) (by omega) (by decide) ?_
  refine r_ireturn (dk kX9_cell 8 rfl) rfl rfl ⟨Nat.le_of_ble_eq_true rfl, Nat.le_of_ble_eq_true rfl⟩ ⟨rfl, rfl⟩
theorem k_X9_heavy (o : MO M h) {s : Nat} (hs : s < 10) : KP G IX9_heavy [.ref h, .int (nI s)] M (mi M (h + 1) (9 + 2 * s + 1)) := by
  refine KK.ofW (by decide) (by simp [Value.category]) (Nat.le_of_ble_eq_true rfl) rfl ?_
  show WW _ _ _ 0 [_, _] [] _ _ _
  refine r_aload_n (dk kX9_heavy 0 rfl) rfl ?_
  refine r_getR (dk kX9_heavy 1 rfl) fa_X9_7_8 o.k rfl o.r0 ?_
  refine r_bipush (v := 9) (dk kX9_heavy 2 rfl) (by decide) ?_
  refine r_iconst (v := 2) (dk kX9_heavy 3 rfl) (by decide) ?_
  refine r_iload_n (dk kX9_heavy 4 rfl) rfl ?_
  refine r_imul (dk kX9_heavy 5 rfl) ?_
  refine r_iadd (dk kX9_heavy 6 rfl) ?_
  refine r_iconst (v := 1) (dk kX9_heavy 7 rfl) (by decide) ?_
  refine r_iadd (dk kX9_heavy 8 rfl) ?_
  refine r_ial (dk kX9_heavy 9 rfl) o.k1 o.l1 (ixc (a' := 9) (b' := 2) (w := 1) rfl rfl rfl) (by omega) (by decide) ?_
  refine r_ireturn (dk kX9_heavy 10 rfl) rfl rfl ⟨Nat.le_of_ble_eq_true rfl, Nat.le_of_ble_eq_true rfl⟩ ⟨rfl, rfl⟩
theorem k_X9_rank (o : MO M h) {s : Nat} (hs : s < 6) : KP G IX9_rank [.ref h, .int (nI s)] M (mi M (h + 1) (29 + s)) := by
  refine KK.ofW (by decide) (by simp [Value.category]) (Nat.le_of_ble_eq_true rfl) rfl ?_
  show WW _ _ _ 0 [_, _] [] _ _ _
  refine r_aload_n (dk kX9_rank 0 rfl) rfl ?_
  refine r_getR (dk kX9_rank 1 rfl) fa_X9_7_8 o.k rfl o.r0 ?_
  refine r_bipush (v := 29) (dk kX9_rank 2 rfl) (by decide) ?_
  refine r_iload_n (dk kX9_rank 3 rfl) rfl ?_
  refine r_iadd (dk kX9_rank 4 rfl) ?_
  refine r_ial (dk kX9_rank 5 rfl) o.k1 o.l1 (ixd (a' := 29) rfl) (by omega) (by decide) ?_
  refine r_ireturn (dk kX9_rank 6 rfl) rfl rfl ⟨Nat.le_of_ble_eq_true rfl, Nat.le_of_ble_eq_true rfl⟩ ⟨rfl, rfl⟩
theorem k_X9_of (o : MO M h) {p w : Nat} {x : Int32} (hx : x = nI w) (hp : p < 8) (hw : w < 11) : KP G IX9_of [.ref h, .int (nI p), .int x] M (mi M (h + 1) (35 + 11 * p + w)) := by
  refine KK.ofW (by decide) (by simp [Value.category]) (Nat.le_of_ble_eq_true rfl) rfl ?_
  show WW _ _ _ 0 [_, _, _] [] _ _ _
  refine r_aload_n (dk kX9_of 0 rfl) rfl ?_
  refine r_getR (dk kX9_of 1 rfl) fa_X9_7_8 o.k rfl o.r0 ?_
  refine r_bipush (v := 35) (dk kX9_of 2 rfl) (by decide) ?_
  refine r_bipush (v := 11) (dk kX9_of 3 rfl) (by decide) ?_
  refine r_iload_n (dk kX9_of 4 rfl) rfl ?_
  refine r_imul (dk kX9_of 5 rfl) ?_
  refine r_iadd (dk kX9_of 6 rfl) ?_
  refine r_iload_n (dk kX9_of 7 rfl) rfl ?_
  refine r_iadd (dk kX9_of 8 rfl) ?_
  refine r_ial (dk kX9_of 9 rfl) o.k1 o.l1 (ixc (a' := 35) (b' := 11) rfl rfl hx) (by omega) (by decide) ?_
  refine r_ireturn (dk kX9_of 10 rfl) rfl rfl ⟨Nat.le_of_ble_eq_true rfl, Nat.le_of_ble_eq_true rfl⟩ ⟨rfl, rfl⟩
theorem k_X9_by (o : MO M h) {p w : Nat} {x : Int32} (hx : x = nI w) (hp : p < 16) (hw : w < 6) : KP G IX9_by [.ref h, .int (nI p), .int x] M (mi M (h + 1) (123 + 6 * p + w)) := by
  refine KK.ofW (by decide) (by simp [Value.category]) (Nat.le_of_ble_eq_true rfl) rfl ?_
  show WW _ _ _ 0 [_, _, _] [] _ _ _
  refine r_aload_n (dk kX9_by 0 rfl) rfl ?_
  refine r_getR (dk kX9_by 1 rfl) fa_X9_7_8 o.k rfl o.r0 ?_
  refine r_bipush (v := 123) (dk kX9_by 2 rfl) (by decide) ?_
  refine r_bipush (v := 6) (dk kX9_by 3 rfl) (by decide) ?_
  refine r_iload_n (dk kX9_by 4 rfl) rfl ?_
  refine r_imul (dk kX9_by 5 rfl) ?_
  refine r_iadd (dk kX9_by 6 rfl) ?_
  refine r_iload_n (dk kX9_by 7 rfl) rfl ?_
  refine r_iadd (dk kX9_by 8 rfl) ?_
  refine r_ial (dk kX9_by 9 rfl) o.k1 o.l1 (ixc (a' := 123) (b' := 6) rfl rfl hx) (by omega) (by decide) ?_
  refine r_ireturn (dk kX9_by 10 rfl) rfl rfl ⟨Nat.le_of_ble_eq_true rfl, Nat.le_of_ble_eq_true rfl⟩ ⟨rfl, rfl⟩
theorem k_X9_of0 (o : MO M h) {p : Nat} (hp : p < 8) : KP G IX9_of [.ref h, .int (nI p), .int 0] M (mi M (h + 1) (35 + 11 * p)) := k_X9_of o (w := 0) rfl hp (by decide)
theorem k_X9_by0 (o : MO M h) {p : Nat} (hp : p < 16) : KP G IX9_by [.ref h, .int (nI p), .int 0] M (mi M (h + 1) (123 + 6 * p)) := k_X9_by o (w := 0) rfl hp (by decide)
theorem k_X9_lays (o : MO M h) {p w : Nat} {x v : Int32} (hx : x = nI w) (hp : p < 8) (hw : w < 11) : KU G IX9_lays [.ref h, .int (nI p), .int x, .int v] M (sI M (h + 1) (35 + 11 * p + w) v) := by
  refine KK.ofW (by decide) (by simp [Value.category]) (Nat.le_of_ble_eq_true rfl) rfl ?_
  show WW _ _ _ 0 [_, _, _, _] [] _ _ _
  refine r_aload_n (dk kX9_lays 0 rfl) rfl ?_
  refine r_getR (dk kX9_lays 1 rfl) fa_X9_7_8 o.k rfl o.r0 ?_
  refine r_bipush (v := 35) (dk kX9_lays 2 rfl) (by decide) ?_
  refine r_bipush (v := 11) (dk kX9_lays 3 rfl) (by decide) ?_
  refine r_iload_n (dk kX9_lays 4 rfl) rfl ?_
  refine r_imul (dk kX9_lays 5 rfl) ?_
  refine r_iadd (dk kX9_lays 6 rfl) ?_
  refine r_iload_n (dk kX9_lays 7 rfl) rfl ?_
  refine r_iadd (dk kX9_lays 8 rfl) ?_
  refine r_iload_n (dk kX9_lays 9 rfl) rfl ?_
  refine r_ias (dk kX9_lays 10 rfl) o.k1 o.l1 (ixc (a' := 35) (b' := 11) rfl rfl hx) (by omega) (by decide) ?_
  refine r_return (dk kX9_lays 11 rfl) rfl ⟨Nat.le_of_ble_eq_true rfl, Nat.le_of_ble_eq_true rfl⟩ rfl
theorem k_X9_within (o : MO M h) {F : Nat} (gi : GI F (mi M (h + 1))) (c : Int32) : KP G IX9_within [.ref h, .int c] M (oI (gWithin (mi M (h + 1)) c)) := by
  refine KK.ofW (by decide) (by simp [Value.category]) (Nat.le_of_ble_eq_true rfl) rfl ?_
  show WW _ _ _ 0 [_, _, lj] [] _ _ _
  obtain ⟨hS, hS2⟩ := gi.s
  refine r_iconst (v := 0) (dk kX9_within 0 rfl) (by decide) ?_
  refine r_istore_n (j := 2) (dk kX9_within 1 rfl) rfl (by decide) rfl ?_
  simp only [List.set_cons_succ, List.set_cons_zero]
  -- at 2
  suffices key : ∀ d j, j + d = gn (mi M (h + 1)) 0 → (∀ i, i < j → decide (mi M (h + 1) (9 + 2 * i) = c) = false) → WW G IX9_within (qi (fun y M' => y = oI (gWithin (mi M (h + 1)) c) ∧ M' = M) nox) 2 [.ref h, .int c, .int (nI j)] [] M 0 0 from key _ 0 (Nat.zero_add _) (fun i hi => absurd hi (Nat.not_lt_zero i))
  intro d
  induction d with
  | zero =>
    intro j hj hn
    refine r_iload_n (dk kX9_within 2 rfl) rfl ?_
    refine r_aload_n (dk kX9_within 3 rfl) rfl ?_
    refine r_getR (dk kX9_within 4 rfl) fa_X9_7_8 o.k rfl o.r0 ?_
    refine r_iconst (v := 0) (dk kX9_within 5 rfl) (by decide) ?_
    refine r_ial (dk kX9_within 6 rfl) o.k1 o.l1 rfl (by decide) (by decide) ?_
    refine r_icmp_ge (tgt := 29) (dk kX9_within 7 rfl) (by decide) (fun c9 => ?_) (fun c9 => absurd (by rw [hS]; exact nI_le (by omega) (by omega)) c9)
    refine r_iconst (v := (-1)) (dk kX9_within 17 rfl) (by decide) ?_
    refine r_ireturn (dk kX9_within 18 rfl) rfl rfl ⟨Nat.le_of_ble_eq_true rfl, Nat.le_of_ble_eq_true rfl⟩ ⟨by rw [show gWithin (mi M (h + 1)) c = none from fx_none.mpr (by rw [← hj]; exact hn)]; rfl, rfl⟩
  | succ d ih =>
    intro j hj hn
    refine r_iload_n (dk kX9_within 2 rfl) rfl ?_
    refine r_aload_n (dk kX9_within 3 rfl) rfl ?_
    refine r_getR (dk kX9_within 4 rfl) fa_X9_7_8 o.k rfl o.r0 ?_
    refine r_iconst (v := 0) (dk kX9_within 5 rfl) (by decide) ?_
    refine r_ial (dk kX9_within 6 rfl) o.k1 o.l1 rfl (by decide) (by decide) ?_
    refine r_icmp_ge (tgt := 29) (dk kX9_within 7 rfl) (by decide) (fun c9 => absurd c9 (by rw [hS]; exact nI_ge (by omega) (by omega))) (fun c9 => ?_)
    refine r_aload_n (dk kX9_within 8 rfl) rfl ?_
    refine r_iload_n (dk kX9_within 9 rfl) rfl ?_
    refine r_callVp (I' := IX9_cell) (as := [_]) (dk kX9_within 10 rfl) mv_X9_cell ml_X9_72 rfl rfl o.k rfl rfl (Nat.le_of_ble_eq_true rfl) ⟨by decide, by decide⟩ ⟨rfl, rfl⟩ ⟨Nat.le_of_ble_eq_true rfl, Nat.le_of_ble_eq_true rfl⟩ (k_X9_cell o (by omega)) ?_
    refine r_iload_n (dk kX9_within 11 rfl) rfl ?_
    refine r_icmp_ne (tgt := 23) (dk kX9_within 12 rfl) (by decide) (fun c18 => ?_) (fun c18 => ?_)
    · refine r_iinc (dk kX9_within 15 rfl) (by decide) rfl rfl rfl ?_
      simp only [List.set_cons_succ, List.set_cons_zero]
      refine r_goto (tgt := 2) (dk kX9_within 16 rfl) (by decide) ?_
      -- at 2
      rw [show nI j + Int32.ofInt 1 = nI (j + 1) from nI_1 j]
      exact ih (j + 1) (by omega) (fun i hi => by
        rcases Nat.lt_succ_iff_lt_or_eq.mp hi with q | q
        · exact hn i q
        · rw [q]; exact decide_eq_false c18)
    · refine r_iload_n (dk kX9_within 13 rfl) rfl ?_
      refine r_ireturn (dk kX9_within 14 rfl) rfl rfl ⟨Nat.le_of_ble_eq_true rfl, Nat.le_of_ble_eq_true rfl⟩ ⟨by rw [show gWithin (mi M (h + 1)) c = some j from fx_some.mpr ⟨by omega, decide_eq_true (Decidable.not_not.mp c18), hn⟩]; rfl, rfl⟩
theorem k_X9_placeOf (o : MO M h) {F : Nat} (gi : GI F (mi M (h + 1))) (c : Int32) : KP G IX9_placeOf [.ref h, .int c] M (oI (gPlace (mi M (h + 1)) c)) := by
  refine KK.ofW (by decide) (by simp [Value.category]) (Nat.le_of_ble_eq_true rfl) rfl ?_
  show WW _ _ _ 0 [_, _, lj] [] _ _ _
  obtain ⟨hS, hS2⟩ := gi.p
  refine r_iconst (v := 0) (dk kX9_placeOf 0 rfl) (by decide) ?_
  refine r_istore_n (j := 2) (dk kX9_placeOf 1 rfl) rfl (by decide) rfl ?_
  simp only [List.set_cons_succ, List.set_cons_zero]
  -- at 2
  suffices key : ∀ d j, j + d = gn (mi M (h + 1)) 3 → (∀ i, i < j → decide (mi M (h + 1) (35 + 11 * i) = c) = false) → WW G IX9_placeOf (qi (fun y M' => y = oI (gPlace (mi M (h + 1)) c) ∧ M' = M) nox) 2 [.ref h, .int c, .int (nI j)] [] M 0 0 from key _ 0 (Nat.zero_add _) (fun i hi => absurd hi (Nat.not_lt_zero i))
  intro d
  induction d with
  | zero =>
    intro j hj hn
    refine r_iload_n (dk kX9_placeOf 2 rfl) rfl ?_
    refine r_aload_n (dk kX9_placeOf 3 rfl) rfl ?_
    refine r_getR (dk kX9_placeOf 4 rfl) fa_X9_7_8 o.k rfl o.r0 ?_
    refine r_iconst (v := 3) (dk kX9_placeOf 5 rfl) (by decide) ?_
    refine r_ial (dk kX9_placeOf 6 rfl) o.k1 o.l1 (j := 3) rfl (by decide) (by decide) ?_
    refine r_icmp_ge (tgt := 30) (dk kX9_placeOf 7 rfl) (by decide) (fun c9 => ?_) (fun c9 => absurd (by rw [hS]; exact nI_le (by omega) (by omega)) c9)
    refine r_iconst (v := (-1)) (dk kX9_placeOf 18 rfl) (by decide) ?_
    refine r_ireturn (dk kX9_placeOf 19 rfl) rfl rfl ⟨Nat.le_of_ble_eq_true rfl, Nat.le_of_ble_eq_true rfl⟩ ⟨by rw [show gPlace (mi M (h + 1)) c = none from fx_none.mpr (by rw [← hj]; exact hn)]; rfl, rfl⟩
  | succ d ih =>
    intro j hj hn
    refine r_iload_n (dk kX9_placeOf 2 rfl) rfl ?_
    refine r_aload_n (dk kX9_placeOf 3 rfl) rfl ?_
    refine r_getR (dk kX9_placeOf 4 rfl) fa_X9_7_8 o.k rfl o.r0 ?_
    refine r_iconst (v := 3) (dk kX9_placeOf 5 rfl) (by decide) ?_
    refine r_ial (dk kX9_placeOf 6 rfl) o.k1 o.l1 (j := 3) rfl (by decide) (by decide) ?_
    refine r_icmp_ge (tgt := 30) (dk kX9_placeOf 7 rfl) (by decide) (fun c9 => absurd c9 (by rw [hS]; exact nI_ge (by omega) (by omega))) (fun c9 => ?_)
    refine r_aload_n (dk kX9_placeOf 8 rfl) rfl ?_
    refine r_iload_n (dk kX9_placeOf 9 rfl) rfl ?_
    refine r_iconst (v := 0) (dk kX9_placeOf 10 rfl) (by decide) ?_
    refine r_callVp (I' := IX9_of) (as := [_, _]) (dk kX9_placeOf 11 rfl) mv_X9_of ml_X9_106 rfl rfl o.k rfl rfl (Nat.le_of_ble_eq_true rfl) ⟨by decide, by decide⟩ ⟨rfl, rfl⟩ ⟨Nat.le_of_ble_eq_true rfl, Nat.le_of_ble_eq_true rfl⟩ (k_X9_of0 o (by omega)) ?_
    refine r_iload_n (dk kX9_placeOf 12 rfl) rfl ?_
    refine r_icmp_ne (tgt := 24) (dk kX9_placeOf 13 rfl) (by decide) (fun c19 => ?_) (fun c19 => ?_)
    · refine r_iinc (dk kX9_placeOf 16 rfl) (by decide) rfl rfl rfl ?_
      simp only [List.set_cons_succ, List.set_cons_zero]
      refine r_goto (tgt := 2) (dk kX9_placeOf 17 rfl) (by decide) ?_
      -- at 2
      rw [show nI j + Int32.ofInt 1 = nI (j + 1) from nI_1 j]
      exact ih (j + 1) (by omega) (fun i hi => by
        rcases Nat.lt_succ_iff_lt_or_eq.mp hi with q | q
        · exact hn i q
        · rw [q]; exact decide_eq_false c19)
    · refine r_iload_n (dk kX9_placeOf 14 rfl) rfl ?_
      refine r_ireturn (dk kX9_placeOf 15 rfl) rfl rfl ⟨Nat.le_of_ble_eq_true rfl, Nat.le_of_ble_eq_true rfl⟩ ⟨by rw [show gPlace (mi M (h + 1)) c = some j from fx_some.mpr ⟨by omega, decide_eq_true (Decidable.not_not.mp c19), hn⟩]; rfl, rfl⟩
theorem k_X9_about (o : MO M h) {F : Nat} (gi : GI F (mi M (h + 1))) (c : Int32) : KP G IX9_about [.ref h, .int c] M (oI (gAbout (mi M (h + 1)) c)) := by
  refine KK.ofW (by decide) (by simp [Value.category]) (Nat.le_of_ble_eq_true rfl) rfl ?_
  show WW _ _ _ 0 [_, _, lj] [] _ _ _
  obtain ⟨hS, hS2⟩ := gi.p
  refine r_iconst (v := 0) (dk kX9_about 0 rfl) (by decide) ?_
  refine r_istore_n (j := 2) (dk kX9_about 1 rfl) rfl (by decide) rfl ?_
  simp only [List.set_cons_succ, List.set_cons_zero]
  -- at 2
  suffices key : ∀ d j, j + d = gn (mi M (h + 1)) 3 → (∀ i, i < j → decide (mi M (h + 1) (35 + 11 * i + 2) = c) = false) → WW G IX9_about (qi (fun y M' => y = oI (gAbout (mi M (h + 1)) c) ∧ M' = M) nox) 2 [.ref h, .int c, .int (nI j)] [] M 0 0 from key _ 0 (Nat.zero_add _) (fun i hi => absurd hi (Nat.not_lt_zero i))
  intro d
  induction d with
  | zero =>
    intro j hj hn
    refine r_iload_n (dk kX9_about 2 rfl) rfl ?_
    refine r_aload_n (dk kX9_about 3 rfl) rfl ?_
    refine r_getR (dk kX9_about 4 rfl) fa_X9_7_8 o.k rfl o.r0 ?_
    refine r_iconst (v := 3) (dk kX9_about 5 rfl) (by decide) ?_
    refine r_ial (dk kX9_about 6 rfl) o.k1 o.l1 (j := 3) rfl (by decide) (by decide) ?_
    refine r_icmp_ge (tgt := 30) (dk kX9_about 7 rfl) (by decide) (fun c9 => ?_) (fun c9 => absurd (by rw [hS]; exact nI_le (by omega) (by omega)) c9)
    refine r_iconst (v := (-1)) (dk kX9_about 18 rfl) (by decide) ?_
    refine r_ireturn (dk kX9_about 19 rfl) rfl rfl ⟨Nat.le_of_ble_eq_true rfl, Nat.le_of_ble_eq_true rfl⟩ ⟨by rw [show gAbout (mi M (h + 1)) c = none from fx_none.mpr (by rw [← hj]; exact hn)]; rfl, rfl⟩
  | succ d ih =>
    intro j hj hn
    refine r_iload_n (dk kX9_about 2 rfl) rfl ?_
    refine r_aload_n (dk kX9_about 3 rfl) rfl ?_
    refine r_getR (dk kX9_about 4 rfl) fa_X9_7_8 o.k rfl o.r0 ?_
    refine r_iconst (v := 3) (dk kX9_about 5 rfl) (by decide) ?_
    refine r_ial (dk kX9_about 6 rfl) o.k1 o.l1 (j := 3) rfl (by decide) (by decide) ?_
    refine r_icmp_ge (tgt := 30) (dk kX9_about 7 rfl) (by decide) (fun c9 => absurd c9 (by rw [hS]; exact nI_ge (by omega) (by omega))) (fun c9 => ?_)
    refine r_aload_n (dk kX9_about 8 rfl) rfl ?_
    refine r_iload_n (dk kX9_about 9 rfl) rfl ?_
    refine r_iconst (v := 2) (dk kX9_about 10 rfl) (by decide) ?_
    refine r_callVp (I' := IX9_of) (as := [_, _]) (dk kX9_about 11 rfl) mv_X9_of ml_X9_106 rfl rfl o.k rfl rfl (Nat.le_of_ble_eq_true rfl) ⟨by decide, by decide⟩ ⟨rfl, rfl⟩ ⟨Nat.le_of_ble_eq_true rfl, Nat.le_of_ble_eq_true rfl⟩ (k_X9_of o (w := 2) rfl (by omega) (by decide)) ?_
    refine r_iload_n (dk kX9_about 12 rfl) rfl ?_
    refine r_icmp_ne (tgt := 24) (dk kX9_about 13 rfl) (by decide) (fun c19 => ?_) (fun c19 => ?_)
    · refine r_iinc (dk kX9_about 16 rfl) (by decide) rfl rfl rfl ?_
      simp only [List.set_cons_succ, List.set_cons_zero]
      refine r_goto (tgt := 2) (dk kX9_about 17 rfl) (by decide) ?_
      -- at 2
      rw [show nI j + Int32.ofInt 1 = nI (j + 1) from nI_1 j]
      exact ih (j + 1) (by omega) (fun i hi => by
        rcases Nat.lt_succ_iff_lt_or_eq.mp hi with q | q
        · exact hn i q
        · rw [q]; exact decide_eq_false c19)
    · refine r_iload_n (dk kX9_about 14 rfl) rfl ?_
      refine r_ireturn (dk kX9_about 15 rfl) rfl rfl ⟨Nat.le_of_ble_eq_true rfl, Nat.le_of_ble_eq_true rfl⟩ ⟨by rw [show gAbout (mi M (h + 1)) c = some j from fx_some.mpr ⟨by omega, decide_eq_true (Decidable.not_not.mp c19), hn⟩]; rfl, rfl⟩
theorem k_X9_isNone (o : MO M h) {F : Nat} (gi : GI F (mi M (h + 1))) (c : Int32) : KE G IX9_isNone [.ref h, .int c] M (bI (gPlace (mi M (h + 1)) c = none)) (mFail M h (bI (gPlace (mi M (h + 1)) c = none))) := by
  refine KK.ofW (by decide) (by simp [Value.category]) (Nat.le_of_ble_eq_true rfl) rfl ?_
  show WW _ _ _ 0 [_, _] [] _ _ _
  have hlt : ∀ k, gPlace (mi M (h + 1)) c = some k → k < 9 := fun k hk => Nat.lt_trans (fx_lt hk) gi.p.2
  refine r_aload_n (dk kX9_isNone 0 rfl) rfl ?_
  refine r_aload_n (dk kX9_isNone 1 rfl) rfl ?_
  refine r_iload_n (dk kX9_isNone 2 rfl) rfl ?_
  refine r_callVp (I' := IX9_placeOf) (as := [_]) (dk kX9_isNone 3 rfl) mv_X9_placeOf ml_X9_110 rfl rfl o.k rfl rfl (Nat.le_of_ble_eq_true rfl) ⟨by decide, by decide⟩ ⟨rfl, rfl⟩ ⟨Nat.le_of_ble_eq_true rfl, Nat.le_of_ble_eq_true rfl⟩ (k_X9_placeOf o gi c) ?_
  refine r_if_ge (tgt := 13) (dk kX9_isNone 4 rfl) (by decide) (fun c6 => ?_) (fun c6 => ?_)
  · have hs : ¬ gPlace (mi M (h + 1)) c = none := fun z => absurd c6 (Int32.not_le.mpr ((oI_neg hlt (by decide)).mpr z))
    rw [bI_f hs]
    refine r_iconst (v := 0) (dk kX9_isNone 7 rfl) (by decide) ?_
    refine r_callVp (I' := IX9_fails) (as := [_]) (dk kX9_isNone 8 rfl) mv_X9_fails ml_X9_80 rfl rfl o.k rfl rfl (Nat.le_of_ble_eq_true rfl) ⟨by decide, by decide⟩ ⟨rfl, rfl⟩ ⟨Nat.le_of_ble_eq_true rfl, Nat.le_of_ble_eq_true rfl⟩ (k_X9_fails o _) ?_
    refine r_ireturn (dk kX9_isNone 9 rfl) rfl rfl ⟨Nat.le_of_ble_eq_true rfl, Nat.le_of_ble_eq_true rfl⟩ ⟨rfl, rfl⟩
  · have hs : gPlace (mi M (h + 1)) c = none := (oI_neg hlt (by decide)).mp (Int32.not_le.mp c6)
    rw [bI_t hs]
    refine r_iconst (v := 1) (dk kX9_isNone 5 rfl) (by decide) ?_
    refine r_goto (tgt := 14) (dk kX9_isNone 6 rfl) (by decide) ?_
    refine r_callVp (I' := IX9_fails) (as := [_]) (dk kX9_isNone 8 rfl) mv_X9_fails ml_X9_80 rfl rfl o.k rfl rfl (Nat.le_of_ble_eq_true rfl) ⟨by decide, by decide⟩ ⟨rfl, rfl⟩ ⟨Nat.le_of_ble_eq_true rfl, Nat.le_of_ble_eq_true rfl⟩ (k_X9_fails o _) ?_
    refine r_ireturn (dk kX9_isNone 9 rfl) rfl rfl ⟨Nat.le_of_ble_eq_true rfl, Nat.le_of_ble_eq_true rfl⟩ ⟨rfl, rfl⟩
theorem bits_ok : ∀ m, m < 64 → 0 + (nI m >>> ((0 : Int32) &&& 31) &&& 1) + (nI m >>> (((0 : Int32) + Int32.ofInt 1) &&& 31) &&& 1) + (nI m >>> (((0 : Int32) + Int32.ofInt 1 + Int32.ofInt 1) &&& 31) &&& 1) + (nI m >>> (((0 : Int32) + Int32.ofInt 1 + Int32.ofInt 1 + Int32.ofInt 1) &&& 31) &&& 1) + (nI m >>> (((0 : Int32) + Int32.ofInt 1 + Int32.ofInt 1 + Int32.ofInt 1 + Int32.ofInt 1) &&& 31) &&& 1) + (nI m >>> (((0 : Int32) + Int32.ofInt 1 + Int32.ofInt 1 + Int32.ofInt 1 + Int32.ofInt 1 + Int32.ofInt 1) &&& 31) &&& 1) = nI (bN m) := by decide +kernel
theorem k_X9_bits {m : Nat} (hm : m < 64) : KP G IX9_bits [.int (nI m)] M (nI (bN m)) := by
  refine KK.ofW (by decide) (by simp [Value.category]) (Nat.le_of_ble_eq_true rfl) rfl ?_
  show WW _ _ _ 0 [_, lj, lj] [] _ _ _
  refine r_iconst (v := 0) (dk kX9_bits 0 rfl) (by decide) ?_
  refine r_istore_n (j := 1) (dk kX9_bits 1 rfl) rfl (by decide) rfl ?_
  simp only [List.set_cons_succ, List.set_cons_zero]
  refine r_iconst (v := 0) (dk kX9_bits 2 rfl) (by decide) ?_
  refine r_istore_n (j := 2) (dk kX9_bits 3 rfl) rfl (by decide) rfl ?_
  simp only [List.set_cons_succ, List.set_cons_zero]
  refine r_iload_n (dk kX9_bits 4 rfl) rfl ?_
  refine r_bipush (v := 6) (dk kX9_bits 5 rfl) (by decide) ?_
  refine r_icmp_ge (tgt := 24) (dk kX9_bits 6 rfl) (by decide) (fun c7 => absurd c7 (by decide)) (fun c7 => ?_)
  refine r_iload_n (dk kX9_bits 7 rfl) rfl ?_
  refine r_iload_n (dk kX9_bits 8 rfl) rfl ?_
  refine r_iload_n (dk kX9_bits 9 rfl) rfl ?_
  refine r_ishr (dk kX9_bits 10 rfl) ?_
  refine r_iconst (v := 1) (dk kX9_bits 11 rfl) (by decide) ?_
  refine r_iand (dk kX9_bits 12 rfl) ?_
  refine r_iadd (dk kX9_bits 13 rfl) ?_
  refine r_istore_n (j := 1) (dk kX9_bits 14 rfl) rfl (by decide) rfl ?_
  simp only [List.set_cons_succ, List.set_cons_zero]
  refine r_iinc (dk kX9_bits 15 rfl) (by decide) rfl rfl rfl ?_
  simp only [List.set_cons_succ, List.set_cons_zero]
  refine r_goto (tgt := 4) (dk kX9_bits 16 rfl) (by decide) ?_
  refine r_iload_n (dk kX9_bits 4 rfl) rfl ?_
  refine r_bipush (v := 6) (dk kX9_bits 5 rfl) (by decide) ?_
  refine r_icmp_ge (tgt := 24) (dk kX9_bits 6 rfl) (by decide) (fun c7 => absurd c7 (by decide)) (fun c7 => ?_)
  refine r_iload_n (dk kX9_bits 7 rfl) rfl ?_
  refine r_iload_n (dk kX9_bits 8 rfl) rfl ?_
  refine r_iload_n (dk kX9_bits 9 rfl) rfl ?_
  refine r_ishr (dk kX9_bits 10 rfl) ?_
  refine r_iconst (v := 1) (dk kX9_bits 11 rfl) (by decide) ?_
  refine r_iand (dk kX9_bits 12 rfl) ?_
  refine r_iadd (dk kX9_bits 13 rfl) ?_
  refine r_istore_n (j := 1) (dk kX9_bits 14 rfl) rfl (by decide) rfl ?_
  simp only [List.set_cons_succ, List.set_cons_zero]
  refine r_iinc (dk kX9_bits 15 rfl) (by decide) rfl rfl rfl ?_
  simp only [List.set_cons_succ, List.set_cons_zero]
  refine r_goto (tgt := 4) (dk kX9_bits 16 rfl) (by decide) ?_
  refine r_iload_n (dk kX9_bits 4 rfl) rfl ?_
  refine r_bipush (v := 6) (dk kX9_bits 5 rfl) (by decide) ?_
  refine r_icmp_ge (tgt := 24) (dk kX9_bits 6 rfl) (by decide) (fun c7 => absurd c7 (by decide)) (fun c7 => ?_)
  refine r_iload_n (dk kX9_bits 7 rfl) rfl ?_
  refine r_iload_n (dk kX9_bits 8 rfl) rfl ?_
  refine r_iload_n (dk kX9_bits 9 rfl) rfl ?_
  refine r_ishr (dk kX9_bits 10 rfl) ?_
  refine r_iconst (v := 1) (dk kX9_bits 11 rfl) (by decide) ?_
  refine r_iand (dk kX9_bits 12 rfl) ?_
  refine r_iadd (dk kX9_bits 13 rfl) ?_
  refine r_istore_n (j := 1) (dk kX9_bits 14 rfl) rfl (by decide) rfl ?_
  simp only [List.set_cons_succ, List.set_cons_zero]
  refine r_iinc (dk kX9_bits 15 rfl) (by decide) rfl rfl rfl ?_
  simp only [List.set_cons_succ, List.set_cons_zero]
  refine r_goto (tgt := 4) (dk kX9_bits 16 rfl) (by decide) ?_
  refine r_iload_n (dk kX9_bits 4 rfl) rfl ?_
  refine r_bipush (v := 6) (dk kX9_bits 5 rfl) (by decide) ?_
  refine r_icmp_ge (tgt := 24) (dk kX9_bits 6 rfl) (by decide) (fun c7 => absurd c7 (by decide)) (fun c7 => ?_)
  refine r_iload_n (dk kX9_bits 7 rfl) rfl ?_
  refine r_iload_n (dk kX9_bits 8 rfl) rfl ?_
  refine r_iload_n (dk kX9_bits 9 rfl) rfl ?_
  refine r_ishr (dk kX9_bits 10 rfl) ?_
  refine r_iconst (v := 1) (dk kX9_bits 11 rfl) (by decide) ?_
  refine r_iand (dk kX9_bits 12 rfl) ?_
  refine r_iadd (dk kX9_bits 13 rfl) ?_
  refine r_istore_n (j := 1) (dk kX9_bits 14 rfl) rfl (by decide) rfl ?_
  simp only [List.set_cons_succ, List.set_cons_zero]
  refine r_iinc (dk kX9_bits 15 rfl) (by decide) rfl rfl rfl ?_
  simp only [List.set_cons_succ, List.set_cons_zero]
  refine r_goto (tgt := 4) (dk kX9_bits 16 rfl) (by decide) ?_
  refine r_iload_n (dk kX9_bits 4 rfl) rfl ?_
  refine r_bipush (v := 6) (dk kX9_bits 5 rfl) (by decide) ?_
  refine r_icmp_ge (tgt := 24) (dk kX9_bits 6 rfl) (by decide) (fun c7 => absurd c7 (by decide)) (fun c7 => ?_)
  refine r_iload_n (dk kX9_bits 7 rfl) rfl ?_
  refine r_iload_n (dk kX9_bits 8 rfl) rfl ?_
  refine r_iload_n (dk kX9_bits 9 rfl) rfl ?_
  refine r_ishr (dk kX9_bits 10 rfl) ?_
  refine r_iconst (v := 1) (dk kX9_bits 11 rfl) (by decide) ?_
  refine r_iand (dk kX9_bits 12 rfl) ?_
  refine r_iadd (dk kX9_bits 13 rfl) ?_
  refine r_istore_n (j := 1) (dk kX9_bits 14 rfl) rfl (by decide) rfl ?_
  simp only [List.set_cons_succ, List.set_cons_zero]
  refine r_iinc (dk kX9_bits 15 rfl) (by decide) rfl rfl rfl ?_
  simp only [List.set_cons_succ, List.set_cons_zero]
  refine r_goto (tgt := 4) (dk kX9_bits 16 rfl) (by decide) ?_
  refine r_iload_n (dk kX9_bits 4 rfl) rfl ?_
  refine r_bipush (v := 6) (dk kX9_bits 5 rfl) (by decide) ?_
  refine r_icmp_ge (tgt := 24) (dk kX9_bits 6 rfl) (by decide) (fun c7 => absurd c7 (by decide)) (fun c7 => ?_)
  refine r_iload_n (dk kX9_bits 7 rfl) rfl ?_
  refine r_iload_n (dk kX9_bits 8 rfl) rfl ?_
  refine r_iload_n (dk kX9_bits 9 rfl) rfl ?_
  refine r_ishr (dk kX9_bits 10 rfl) ?_
  refine r_iconst (v := 1) (dk kX9_bits 11 rfl) (by decide) ?_
  refine r_iand (dk kX9_bits 12 rfl) ?_
  refine r_iadd (dk kX9_bits 13 rfl) ?_
  refine r_istore_n (j := 1) (dk kX9_bits 14 rfl) rfl (by decide) rfl ?_
  simp only [List.set_cons_succ, List.set_cons_zero]
  refine r_iinc (dk kX9_bits 15 rfl) (by decide) rfl rfl rfl ?_
  simp only [List.set_cons_succ, List.set_cons_zero]
  refine r_goto (tgt := 4) (dk kX9_bits 16 rfl) (by decide) ?_
  refine r_iload_n (dk kX9_bits 4 rfl) rfl ?_
  refine r_bipush (v := 6) (dk kX9_bits 5 rfl) (by decide) ?_
  refine r_icmp_ge (tgt := 24) (dk kX9_bits 6 rfl) (by decide) (fun c7 => ?_) (fun c7 => absurd (by decide) c7)
  refine r_iload_n (dk kX9_bits 17 rfl) rfl ?_
  refine r_ireturn (dk kX9_bits 18 rfl) rfl rfl ⟨Nat.le_of_ble_eq_true rfl, Nat.le_of_ble_eq_true rfl⟩ ⟨bits_ok m hm, rfl⟩
theorem k_X9_votes (o : MO M h) {F p : Nat} (gi : GI F (mi M (h + 1))) (hp : p < gn (mi M (h + 1)) 3) : KP G IX9_votes [.ref h, .int (nI p)] M (nI (gVotes (mi M (h + 1)) p)) := by
  refine KK.ofW (by decide) (by simp [Value.category]) (Nat.le_of_ble_eq_true rfl) rfl ?_
  show WW _ _ _ 0 [_, _] [] _ _ _
  have hp8 := gi.p.2
  obtain ⟨-, -, -, -, -, y1, y2, -⟩ := gi.pi hp
  refine r_aload_n (dk kX9_votes 0 rfl) rfl ?_
  refine r_iload_n (dk kX9_votes 1 rfl) rfl ?_
  refine r_iconst (v := 5) (dk kX9_votes 2 rfl) (by decide) ?_
  refine r_callVp (I' := IX9_of) (as := [_, _]) (dk kX9_votes 3 rfl) mv_X9_of ml_X9_106 rfl rfl o.k rfl rfl (Nat.le_of_ble_eq_true rfl) ⟨by decide, by decide⟩ ⟨rfl, rfl⟩ ⟨Nat.le_of_ble_eq_true rfl, Nat.le_of_ble_eq_true rfl⟩ (k_X9_of o (w := 5) rfl (by omega) (by decide)) ?_
  -- at 6
  rw [y1.1]
  refine r_callSp (I' := IX9_bits) (as := [_]) (dk kX9_votes 4 rfl) ms_X9_bits ml_X9_120 rfl rfl rfl (Nat.le_of_ble_eq_true rfl) ⟨by decide, by decide⟩ ⟨rfl, rfl⟩ ⟨Nat.le_of_ble_eq_true rfl, Nat.le_of_ble_eq_true rfl⟩ (k_X9_bits y1.2) ?_
  refine r_aload_n (dk kX9_votes 5 rfl) rfl ?_
  refine r_iload_n (dk kX9_votes 6 rfl) rfl ?_
  refine r_bipush (v := 6) (dk kX9_votes 7 rfl) (by decide) ?_
  refine r_callVp (I' := IX9_of) (as := [_, _]) (dk kX9_votes 8 rfl) mv_X9_of ml_X9_106 rfl rfl o.k rfl rfl (Nat.le_of_ble_eq_true rfl) ⟨by decide, by decide⟩ ⟨rfl, rfl⟩ ⟨Nat.le_of_ble_eq_true rfl, Nat.le_of_ble_eq_true rfl⟩ (k_X9_of o (w := 6) rfl (by omega) (by decide)) ?_
  -- at 16
  rw [y2.1]
  refine r_callSp (I' := IX9_bits) (as := [_]) (dk kX9_votes 9 rfl) ms_X9_bits ml_X9_120 rfl rfl rfl (Nat.le_of_ble_eq_true rfl) ⟨by decide, by decide⟩ ⟨rfl, rfl⟩ ⟨Nat.le_of_ble_eq_true rfl, Nat.le_of_ble_eq_true rfl⟩ (k_X9_bits y2.2) ?_
  refine r_iadd (dk kX9_votes 10 rfl) ?_
  refine r_ireturn (dk kX9_votes 11 rfl) rfl rfl ⟨Nat.le_of_ble_eq_true rfl, Nat.le_of_ble_eq_true rfl⟩ ⟨by rw [nI_add]; rfl, rfl⟩
theorem k_X9_isUnruled (o : MO M h) (c : Int32) : KE G IX9_isUnruled [.ref h, .int c] M (bI (¬ (0 ≤ c ∧ c ≤ mi M (h + 1) 5 - 1))) (mFail M h (bI (¬ (0 ≤ c ∧ c ≤ mi M (h + 1) 5 - 1)))) := by
  refine KK.ofW (by decide) (by simp [Value.category]) (Nat.le_of_ble_eq_true rfl) rfl ?_
  show WW _ _ _ 0 [_, _] [] _ _ _
  refine r_aload_n (dk kX9_isUnruled 0 rfl) rfl ?_
  refine r_aload_n (dk kX9_isUnruled 1 rfl) rfl ?_
  refine r_iload_n (dk kX9_isUnruled 2 rfl) rfl ?_
  refine r_callVp (I' := IX9_isRuling) (as := [_]) (dk kX9_isUnruled 3 rfl) mv_X9_isRuling ml_X9_126 rfl rfl o.k rfl rfl (Nat.le_of_ble_eq_true rfl) ⟨by decide, by decide⟩ ⟨rfl, rfl⟩ ⟨Nat.le_of_ble_eq_true rfl, Nat.le_of_ble_eq_true rfl⟩ (k_X9_isRuling o c) ?_
  refine r_if_eq (tgt := 13) (dk kX9_isUnruled 4 rfl) (by decide) (fun c6 => ?_) (fun c6 => ?_)
  · have hs := bI_0.mp c6
    rw [bI_t hs]
    refine r_iconst (v := 1) (dk kX9_isUnruled 7 rfl) (by decide) ?_
    refine r_callVp (I' := IX9_fails) (as := [_]) (dk kX9_isUnruled 8 rfl) mv_X9_fails ml_X9_80 rfl rfl o.k rfl rfl (Nat.le_of_ble_eq_true rfl) ⟨by decide, by decide⟩ ⟨rfl, rfl⟩ ⟨Nat.le_of_ble_eq_true rfl, Nat.le_of_ble_eq_true rfl⟩ (k_X9_fails o _) ?_
    refine r_ireturn (dk kX9_isUnruled 9 rfl) rfl rfl ⟨Nat.le_of_ble_eq_true rfl, Nat.le_of_ble_eq_true rfl⟩ ⟨rfl, rfl⟩
  · have hs : ¬ ¬ (0 ≤ c ∧ c ≤ mi M (h + 1) 5 - 1) := fun z => c6 (bI_f z)
    rw [bI_f hs]
    refine r_iconst (v := 0) (dk kX9_isUnruled 5 rfl) (by decide) ?_
    refine r_goto (tgt := 14) (dk kX9_isUnruled 6 rfl) (by decide) ?_
    refine r_callVp (I' := IX9_fails) (as := [_]) (dk kX9_isUnruled 8 rfl) mv_X9_fails ml_X9_80 rfl rfl o.k rfl rfl (Nat.le_of_ble_eq_true rfl) ⟨by decide, by decide⟩ ⟨rfl, rfl⟩ ⟨Nat.le_of_ble_eq_true rfl, Nat.le_of_ble_eq_true rfl⟩ (k_X9_fails o _) ?_
    refine r_ireturn (dk kX9_isUnruled 9 rfl) rfl rfl ⟨Nat.le_of_ble_eq_true rfl, Nat.le_of_ble_eq_true rfl⟩ ⟨rfl, rfl⟩
theorem k_X9_names (o : MO M h) {F r : Nat} (gi : GI F (mi M (h + 1))) (hr : r < gn (mi M (h + 1)) 5) (c : Int32) : KP G IX9_names [.ref h, .int (nI r), .int c] M (bI (gNames (mi M (h + 1)) r c = true)) := by
  refine KK.ofW (by decide) (by simp [Value.category]) (Nat.le_of_ble_eq_true rfl) rfl ?_
  show WW _ _ _ 0 [_, _, _, lj] [] _ _ _
  have hr9 := gi.r.2
  obtain ⟨-, -, ⟨hS, hS2⟩, -⟩ := gi.ri hr
  refine r_iconst (v := 0) (dk kX9_names 0 rfl) (by decide) ?_
  refine r_istore_n (j := 3) (dk kX9_names 1 rfl) rfl (by decide) rfl ?_
  simp only [List.set_cons_succ, List.set_cons_zero]
  -- at 2
  suffices key : ∀ d j, j + d = gn (mi M (h + 1)) (123 + 6 * r + 2) → (∀ i, i < j → decide (mi M (h + 1) (123 + 6 * r + 3 + i) = c) = false) → WW G IX9_names (qi (fun y M' => y = bI (gNames (mi M (h + 1)) r c = true) ∧ M' = M) nox) 2 [.ref h, .int (nI r), .int c, .int (nI j)] [] M 0 0 from key _ 0 (Nat.zero_add _) (fun i hi => absurd hi (Nat.not_lt_zero i))
  intro d
  induction d with
  | zero =>
    intro j hj hn
    refine r_iload_n (dk kX9_names 2 rfl) rfl ?_
    refine r_aload_n (dk kX9_names 3 rfl) rfl ?_
    refine r_iload_n (dk kX9_names 4 rfl) rfl ?_
    refine r_iconst (v := 2) (dk kX9_names 5 rfl) (by decide) ?_
    refine r_callVp (I' := IX9_by) (as := [_, _]) (dk kX9_names 6 rfl) mv_X9_by ml_X9_146 rfl rfl o.k rfl rfl (Nat.le_of_ble_eq_true rfl) ⟨by decide, by decide⟩ ⟨rfl, rfl⟩ ⟨Nat.le_of_ble_eq_true rfl, Nat.le_of_ble_eq_true rfl⟩ (k_X9_by o (w := 2) rfl (by omega) (by decide)) ?_
    refine r_icmp_ge (tgt := 32) (dk kX9_names 7 rfl) (by decide) (fun c9 => ?_) (fun c9 => absurd (by rw [hS]; exact nI_le (by omega) (by omega)) c9)
    refine r_iconst (v := 0) (dk kX9_names 20 rfl) (by decide) ?_
    refine r_ireturn (dk kX9_names 21 rfl) rfl rfl ⟨Nat.le_of_ble_eq_true rfl, Nat.le_of_ble_eq_true rfl⟩ ⟨by rw [bI_f]; unfold gNames; rw [fx_none.mpr (by rw [← hj]; exact hn)]; decide, rfl⟩
  | succ d ih =>
    intro j hj hn
    refine r_iload_n (dk kX9_names 2 rfl) rfl ?_
    refine r_aload_n (dk kX9_names 3 rfl) rfl ?_
    refine r_iload_n (dk kX9_names 4 rfl) rfl ?_
    refine r_iconst (v := 2) (dk kX9_names 5 rfl) (by decide) ?_
    refine r_callVp (I' := IX9_by) (as := [_, _]) (dk kX9_names 6 rfl) mv_X9_by ml_X9_146 rfl rfl o.k rfl rfl (Nat.le_of_ble_eq_true rfl) ⟨by decide, by decide⟩ ⟨rfl, rfl⟩ ⟨Nat.le_of_ble_eq_true rfl, Nat.le_of_ble_eq_true rfl⟩ (k_X9_by o (w := 2) rfl (by omega) (by decide)) ?_
    refine r_icmp_ge (tgt := 32) (dk kX9_names 7 rfl) (by decide) (fun c9 => absurd c9 (by rw [hS]; exact nI_ge (by omega) (by omega))) (fun c9 => ?_)
    refine r_aload_n (dk kX9_names 8 rfl) rfl ?_
    refine r_iload_n (dk kX9_names 9 rfl) rfl ?_
    refine r_iconst (v := 3) (dk kX9_names 10 rfl) (by decide) ?_
    refine r_iload_n (dk kX9_names 11 rfl) rfl ?_
    refine r_iadd (dk kX9_names 12 rfl) ?_
    refine r_callVp (I' := IX9_by) (as := [_, _]) (dk kX9_names 13 rfl) mv_X9_by ml_X9_146 rfl rfl o.k rfl rfl (Nat.le_of_ble_eq_true rfl) ⟨by decide, by decide⟩ ⟨rfl, rfl⟩ ⟨Nat.le_of_ble_eq_true rfl, Nat.le_of_ble_eq_true rfl⟩ (k_X9_by o (w := 3 + j) (ixd rfl) (by omega) (by omega)) ?_
    refine r_iload_n (dk kX9_names 14 rfl) rfl ?_
    refine r_icmp_ne (tgt := 26) (dk kX9_names 15 rfl) (by decide) (fun c21 => ?_) (fun c21 => ?_)
    · rw [← Nat.add_assoc] at c21
      refine r_iinc (dk kX9_names 18 rfl) (by decide) rfl rfl rfl ?_
      simp only [List.set_cons_succ, List.set_cons_zero]
      refine r_goto (tgt := 2) (dk kX9_names 19 rfl) (by decide) ?_
      -- at 2
      rw [show nI j + Int32.ofInt 1 = nI (j + 1) from nI_1 j]
      exact ih (j + 1) (by omega) (fun i hi => by
        rcases Nat.lt_succ_iff_lt_or_eq.mp hi with q | q
        · exact hn i q
        · rw [q]; exact decide_eq_false c21)
    · rw [← Nat.add_assoc] at c21
      refine r_iconst (v := 1) (dk kX9_names 16 rfl) (by decide) ?_
      refine r_ireturn (dk kX9_names 17 rfl) rfl rfl ⟨Nat.le_of_ble_eq_true rfl, Nat.le_of_ble_eq_true rfl⟩ ⟨by rw [bI_t]; unfold gNames; rw [fx_some.mpr ⟨by omega, decide_eq_true (Decidable.not_not.mp c21), hn⟩]; rfl, rfl⟩
end MODEL
end
section
/-! THE REFERENCE, further helpers -/
section MODEL
variable {G : GG} {M : Mm} {h : Nat}
theorem k_X9_isAhead (o : MO M h) {F a b : Nat} (gi : GI F (mi M (h + 1))) (ha : a < gn (mi M (h + 1)) 3) (hb : b < gn (mi M (h + 1)) 3) : KP G IX9_isAhead [.ref h, .int (nI a), .int (nI b)] M (bI (gAhd (mi M (h + 1)) a b = true)) := by
  refine KK.ofW (by decide) (by simp [Value.category]) (Nat.le_of_ble_eq_true rfl) rfl ?_
  show WW _ _ _ 0 [_, _, _, lj, lj] [] _ _ _
  have hp8 := gi.p.2
  have hF := gi.hF
  have hf4 := gi.f.2
  have ho7 := gi.o.2
  obtain ⟨a0, a1, -, -, a4, -⟩ := gi.pi ha
  obtain ⟨b0, b1, -, -, b4, -⟩ := gi.pi hb
  have ra := gi.rank a1.2
  have rb := gi.rank b1.2
  have a1' := a1.2
  have b1' := b1.2
  refine r_aload_n (dk kX9_isAhead 0 rfl) rfl ?_
  refine r_aload_n (dk kX9_isAhead 1 rfl) rfl ?_
  refine r_iload_n (dk kX9_isAhead 2 rfl) rfl ?_
  refine r_iconst (v := 1) (dk kX9_isAhead 3 rfl) (by decide) ?_
  refine r_callVp (I' := IX9_of) (as := [_, _]) (dk kX9_isAhead 4 rfl) mv_X9_of ml_X9_106 rfl rfl o.k rfl rfl (Nat.le_of_ble_eq_true rfl) ⟨by decide, by decide⟩ ⟨rfl, rfl⟩ ⟨Nat.le_of_ble_eq_true rfl, Nat.le_of_ble_eq_true rfl⟩ (k_X9_of o (w := 1) rfl (by omega) (by decide)) ?_
  -- at 7
  rw [a1.1]
  refine r_callVp (I' := IX9_rank) (as := [_]) (dk kX9_isAhead 5 rfl) mv_X9_rank ml_X9_103 rfl rfl o.k rfl rfl (Nat.le_of_ble_eq_true rfl) ⟨by decide, by decide⟩ ⟨rfl, rfl⟩ ⟨Nat.le_of_ble_eq_true rfl, Nat.le_of_ble_eq_true rfl⟩ (k_X9_rank o (by omega)) ?_
  refine r_aload_n (dk kX9_isAhead 6 rfl) rfl ?_
  refine r_aload_n (dk kX9_isAhead 7 rfl) rfl ?_
  refine r_iload_n (dk kX9_isAhead 8 rfl) rfl ?_
  refine r_iconst (v := 1) (dk kX9_isAhead 9 rfl) (by decide) ?_
  -- at 14
  rw [ra.1]
  refine r_callVp (I' := IX9_of) (as := [_, _]) (dk kX9_isAhead 10 rfl) mv_X9_of ml_X9_106 rfl rfl o.k rfl rfl (Nat.le_of_ble_eq_true rfl) ⟨by decide, by decide⟩ ⟨rfl, rfl⟩ ⟨Nat.le_of_ble_eq_true rfl, Nat.le_of_ble_eq_true rfl⟩ (k_X9_of o (w := 1) rfl (by omega) (by decide)) ?_
  -- at 17
  rw [b1.1]
  refine r_callVp (I' := IX9_rank) (as := [_]) (dk kX9_isAhead 11 rfl) mv_X9_rank ml_X9_103 rfl rfl o.k rfl rfl (Nat.le_of_ble_eq_true rfl) ⟨by decide, by decide⟩ ⟨rfl, rfl⟩ ⟨Nat.le_of_ble_eq_true rfl, Nat.le_of_ble_eq_true rfl⟩ (k_X9_rank o (by omega)) ?_
  -- at 20
  rw [rb.1]
  have hra : gn (mi M (h + 1)) (29 + gn (mi M (h + 1)) (35 + 11 * a + 1)) = gRk (mi M (h + 1)) a := rfl
  have hrb : gn (mi M (h + 1)) (29 + gn (mi M (h + 1)) (35 + 11 * b + 1)) = gRk (mi M (h + 1)) b := rfl
  have ra2 := ra.2
  have rb2 := rb.2
  rw [hra] at ra2 ⊢
  rw [hrb] at rb2 ⊢
  generalize ea : gRk (mi M (h + 1)) a = xa at ra2 ⊢
  generalize eb : gRk (mi M (h + 1)) b = xb at rb2 ⊢
  have hu := a4.2
  have hu2 := b4.2
  have hw : (gAhd (mi M (h + 1)) a b = true) ↔ (xb < xa ∨ xa = xb ∧ (gUr (mi M (h + 1)) b < gUr (mi M (h + 1)) a ∨ gUr (mi M (h + 1)) a = gUr (mi M (h + 1)) b ∧ gNum (mi M (h + 1)) a < gNum (mi M (h + 1)) b)) := by
    unfold gAhd
    rw [decide_eq_true_eq, ea, eb]
  refine r_isub (dk kX9_isAhead 12 rfl) ?_
  refine r_istore_n (j := 3) (dk kX9_isAhead 13 rfl) rfl (by decide) rfl ?_
  simp only [List.set_cons_succ, List.set_cons_zero]
  refine r_iload_n (dk kX9_isAhead 14 rfl) rfl ?_
  refine r_if_eq (tgt := 36) (dk kX9_isAhead 15 rfl) (by decide) (fun c23 => ?_) (fun c23 => ?_)
  · have he := (sb_eq (by omega) (by omega)).mp c23
    refine r_aload_n (dk kX9_isAhead 22 rfl) rfl ?_
    refine r_iload_n (dk kX9_isAhead 23 rfl) rfl ?_
    refine r_iconst (v := 4) (dk kX9_isAhead 24 rfl) (by decide) ?_
    refine r_callVp (I' := IX9_of) (as := [_, _]) (dk kX9_isAhead 25 rfl) mv_X9_of ml_X9_106 rfl rfl o.k rfl rfl (Nat.le_of_ble_eq_true rfl) ⟨by decide, by decide⟩ ⟨rfl, rfl⟩ ⟨Nat.le_of_ble_eq_true rfl, Nat.le_of_ble_eq_true rfl⟩ (k_X9_of o (w := 4) rfl (by omega) (by decide)) ?_
    refine r_aload_n (dk kX9_isAhead 26 rfl) rfl ?_
    refine r_iload_n (dk kX9_isAhead 27 rfl) rfl ?_
    refine r_iconst (v := 4) (dk kX9_isAhead 28 rfl) (by decide) ?_
    refine r_callVp (I' := IX9_of) (as := [_, _]) (dk kX9_isAhead 29 rfl) mv_X9_of ml_X9_106 rfl rfl o.k rfl rfl (Nat.le_of_ble_eq_true rfl) ⟨by decide, by decide⟩ ⟨rfl, rfl⟩ ⟨Nat.le_of_ble_eq_true rfl, Nat.le_of_ble_eq_true rfl⟩ (k_X9_of o (w := 4) rfl (by omega) (by decide)) ?_
    -- at 48
    rw [a4.1, b4.1]
    have hu3 : gn (mi M (h + 1)) (35 + 11 * a + 4) = gUr (mi M (h + 1)) a := rfl
    have hu4 : gn (mi M (h + 1)) (35 + 11 * b + 4) = gUr (mi M (h + 1)) b := rfl
    rw [hu3] at hu ⊢
    rw [hu4] at hu2 ⊢
    generalize gUr (mi M (h + 1)) a = ya at hu hw ⊢
    generalize gUr (mi M (h + 1)) b = yb at hu2 hw ⊢
    refine r_isub (dk kX9_isAhead 30 rfl) ?_
    refine r_istore (dk kX9_isAhead 31 rfl) (by decide) rfl ?_
    simp only [List.set_cons_succ, List.set_cons_zero]
    refine r_iload (dk kX9_isAhead 32 rfl) rfl ?_
    refine r_if_gt (tgt := 76) (dk kX9_isAhead 33 rfl) (by decide) (fun c53 => ?_) (fun c53 => ?_)
    · have h1 := (sb_gt (by omega) (by omega)).mp c53
      refine r_iconst (v := 1) (dk kX9_isAhead 45 rfl) (by decide) ?_
      refine r_goto (tgt := 81) (dk kX9_isAhead 46 rfl) (by decide) ?_
      refine r_ireturn (dk kX9_isAhead 48 rfl) rfl rfl ⟨Nat.le_of_ble_eq_true rfl, Nat.le_of_ble_eq_true rfl⟩ ⟨(bI_t (hw.mpr (Or.inr ⟨he, Or.inl h1⟩))).symm, rfl⟩
    · have h1 : ¬ yb < ya := fun z => c53 ((sb_gt (by omega) (by omega)).mpr z)
      refine r_iload (dk kX9_isAhead 34 rfl) rfl ?_
      refine r_if_ne (tgt := 80) (dk kX9_isAhead 35 rfl) (by decide) (fun c58 => ?_) (fun c58 => ?_)
      · have h2 : ya ≠ yb := fun z => c58 ((sb_eq (by omega) (by omega)).mpr z)
        refine r_iconst (v := 0) (dk kX9_isAhead 47 rfl) (by decide) ?_
        refine r_ireturn (dk kX9_isAhead 48 rfl) rfl rfl ⟨Nat.le_of_ble_eq_true rfl, Nat.le_of_ble_eq_true rfl⟩ ⟨(bI_f (fun z => by rcases hw.mp z with z|⟨z, z2|⟨z2, z3⟩⟩ <;> omega)).symm, rfl⟩
      · have h2 : ya = yb := (sb_eq (by omega) (by omega)).mp (Decidable.not_not.mp c58)
        refine r_aload_n (dk kX9_isAhead 36 rfl) rfl ?_
        refine r_iload_n (dk kX9_isAhead 37 rfl) rfl ?_
        refine r_iconst (v := 0) (dk kX9_isAhead 38 rfl) (by decide) ?_
        refine r_callVp (I' := IX9_of) (as := [_, _]) (dk kX9_isAhead 39 rfl) mv_X9_of ml_X9_106 rfl rfl o.k rfl rfl (Nat.le_of_ble_eq_true rfl) ⟨by decide, by decide⟩ ⟨rfl, rfl⟩ ⟨Nat.le_of_ble_eq_true rfl, Nat.le_of_ble_eq_true rfl⟩ (k_X9_of0 o (by omega)) ?_
        refine r_aload_n (dk kX9_isAhead 40 rfl) rfl ?_
        refine r_iload_n (dk kX9_isAhead 41 rfl) rfl ?_
        refine r_iconst (v := 0) (dk kX9_isAhead 42 rfl) (by decide) ?_
        refine r_callVp (I' := IX9_of) (as := [_, _]) (dk kX9_isAhead 43 rfl) mv_X9_of ml_X9_106 rfl rfl o.k rfl rfl (Nat.le_of_ble_eq_true rfl) ⟨by decide, by decide⟩ ⟨rfl, rfl⟩ ⟨Nat.le_of_ble_eq_true rfl, Nat.le_of_ble_eq_true rfl⟩ (k_X9_of0 o (by omega)) ?_
        refine r_icmp_ge (tgt := 80) (dk kX9_isAhead 44 rfl) (by decide) (fun c73 => ?_) (fun c73 => ?_)
        · have h3 : ¬ gNum (mi M (h + 1)) a < gNum (mi M (h + 1)) b := by
            rw [a0.1, b0.1] at c73
            have a02 : gNum (mi M (h + 1)) a < gn (mi M (h + 1)) 4 := a0.2
            have b02 : gNum (mi M (h + 1)) b < gn (mi M (h + 1)) 4 := b0.2
            exact fun z => nI_ge (a := gNum (mi M (h + 1)) a) (b := gNum (mi M (h + 1)) b) z (by omega) c73
          refine r_iconst (v := 0) (dk kX9_isAhead 47 rfl) (by decide) ?_
          refine r_ireturn (dk kX9_isAhead 48 rfl) rfl rfl ⟨Nat.le_of_ble_eq_true rfl, Nat.le_of_ble_eq_true rfl⟩ ⟨(bI_f (fun z => by rcases hw.mp z with z|⟨z, z2|⟨z2, z3⟩⟩ <;> omega)).symm, rfl⟩
        · have h3 : gNum (mi M (h + 1)) a < gNum (mi M (h + 1)) b := by
            rw [a0.1, b0.1] at c73
            have a02 : gNum (mi M (h + 1)) a < gn (mi M (h + 1)) 4 := a0.2
            have b02 : gNum (mi M (h + 1)) b < gn (mi M (h + 1)) 4 := b0.2
            exact Nat.lt_of_not_le fun z => c73 (nI_le (a := gNum (mi M (h + 1)) b) (b := gNum (mi M (h + 1)) a) z (by omega))
          refine r_iconst (v := 1) (dk kX9_isAhead 45 rfl) (by decide) ?_
          refine r_goto (tgt := 81) (dk kX9_isAhead 46 rfl) (by decide) ?_
          refine r_ireturn (dk kX9_isAhead 48 rfl) rfl rfl ⟨Nat.le_of_ble_eq_true rfl, Nat.le_of_ble_eq_true rfl⟩ ⟨(bI_t (hw.mpr (Or.inr ⟨he, Or.inr ⟨h2, h3⟩⟩))).symm, rfl⟩
  · have hne : xa ≠ xb := fun z => c23 ((sb_eq (by omega) (by omega)).mpr z)
    refine r_iload_n (dk kX9_isAhead 16 rfl) rfl ?_
    refine r_if_le (tgt := 34) (dk kX9_isAhead 17 rfl) (by decide) (fun c27 => ?_) (fun c27 => ?_)
    · have h1 := (sb_le (by omega) (by omega)).mp c27
      refine r_iconst (v := 0) (dk kX9_isAhead 20 rfl) (by decide) ?_
      refine r_ireturn (dk kX9_isAhead 21 rfl) rfl rfl ⟨Nat.le_of_ble_eq_true rfl, Nat.le_of_ble_eq_true rfl⟩ ⟨(bI_f (fun z => by rcases hw.mp z with z|⟨z, -⟩ <;> omega)).symm, rfl⟩
    · have h1 : xb < xa := Nat.lt_of_not_le fun z => c27 ((sb_le (by omega) (by omega)).mpr z)
      refine r_iconst (v := 1) (dk kX9_isAhead 18 rfl) (by decide) ?_
      refine r_goto (tgt := 35) (dk kX9_isAhead 19 rfl) (by decide) ?_
      refine r_ireturn (dk kX9_isAhead 21 rfl) rfl rfl ⟨Nat.le_of_ble_eq_true rfl, Nat.le_of_ble_eq_true rfl⟩ ⟨(bI_t (hw.mpr (Or.inl h1))).symm, rfl⟩
theorem k_X9_ahead (o : MO M h) {F p : Nat} (gi : GI F (mi M (h + 1))) (hp : p < gn (mi M (h + 1)) 3) : KP G IX9_ahead [.ref h, .int (nI p)] M (nI (gAhead (mi M (h + 1)) p)) := by
  refine KK.ofW (by decide) (by simp [Value.category]) (Nat.le_of_ble_eq_true rfl) rfl ?_
  show WW _ _ _ 0 [_, _, lj, lj] [] _ _ _
  obtain ⟨hS, hS2⟩ := gi.p
  refine r_iconst (v := 0) (dk kX9_ahead 0 rfl) (by decide) ?_
  refine r_istore_n (j := 2) (dk kX9_ahead 1 rfl) rfl (by decide) rfl ?_
  simp only [List.set_cons_succ, List.set_cons_zero]
  refine r_iconst (v := 0) (dk kX9_ahead 2 rfl) (by decide) ?_
  refine r_istore_n (j := 3) (dk kX9_ahead 3 rfl) rfl (by decide) rfl ?_
  simp only [List.set_cons_succ, List.set_cons_zero]
  -- at 4
  suffices key : ∀ d j, j + d = gn (mi M (h + 1)) 3 → WW G IX9_ahead (qi (fun y M' => y = nI (gAhead (mi M (h + 1)) p) ∧ M' = M) nox) 4 [.ref h, .int (nI p), .int (nI (ct (fun i => gAhd (mi M (h + 1)) i p) j)), .int (nI j)] [] M 0 0 from key _ 0 (Nat.zero_add _)
  intro d
  induction d with
  | zero =>
    intro j hj
    refine r_iload_n (dk kX9_ahead 4 rfl) rfl ?_
    refine r_aload_n (dk kX9_ahead 5 rfl) rfl ?_
    refine r_getR (dk kX9_ahead 6 rfl) fa_X9_7_8 o.k rfl o.r0 ?_
    refine r_iconst (v := 3) (dk kX9_ahead 7 rfl) (by decide) ?_
    refine r_ial (dk kX9_ahead 8 rfl) o.k1 o.l1 (j := 3) rfl (by decide) (by decide) ?_
    refine r_icmp_ge (tgt := 37) (dk kX9_ahead 9 rfl) (by decide) (fun c11 => ?_) (fun c11 => absurd (by rw [hS]; exact nI_le (by omega) (by omega)) c11)
    refine r_iload_n (dk kX9_ahead 23 rfl) rfl ?_
    refine r_ireturn (dk kX9_ahead 24 rfl) rfl rfl ⟨Nat.le_of_ble_eq_true rfl, Nat.le_of_ble_eq_true rfl⟩ ⟨by rw [show j = gn (mi M (h + 1)) 3 from hj]; rfl, rfl⟩
  | succ d ih =>
    intro j hj
    have hst : ct (fun i => gAhd (mi M (h + 1)) i p) (j + 1) = ct (fun i => gAhd (mi M (h + 1)) i p) j + (if gAhd (mi M (h + 1)) j p = true then 1 else 0) := rfl
    refine r_iload_n (dk kX9_ahead 4 rfl) rfl ?_
    refine r_aload_n (dk kX9_ahead 5 rfl) rfl ?_
    refine r_getR (dk kX9_ahead 6 rfl) fa_X9_7_8 o.k rfl o.r0 ?_
    refine r_iconst (v := 3) (dk kX9_ahead 7 rfl) (by decide) ?_
    refine r_ial (dk kX9_ahead 8 rfl) o.k1 o.l1 (j := 3) rfl (by decide) (by decide) ?_
    refine r_icmp_ge (tgt := 37) (dk kX9_ahead 9 rfl) (by decide) (fun c11 => absurd c11 (by rw [hS]; exact nI_ge (by omega) (by omega))) (fun c11 => ?_)
    refine r_iload_n (dk kX9_ahead 10 rfl) rfl ?_
    refine r_aload_n (dk kX9_ahead 11 rfl) rfl ?_
    refine r_iload_n (dk kX9_ahead 12 rfl) rfl ?_
    refine r_iload_n (dk kX9_ahead 13 rfl) rfl ?_
    refine r_callVp (I' := IX9_isAhead) (as := [_, _]) (dk kX9_ahead 14 rfl) mv_X9_isAhead ml_X9_136 rfl rfl o.k rfl rfl (Nat.le_of_ble_eq_true rfl) ⟨by decide, by decide⟩ ⟨rfl, rfl⟩ ⟨Nat.le_of_ble_eq_true rfl, Nat.le_of_ble_eq_true rfl⟩ (k_X9_isAhead o gi (by omega) hp) ?_
    refine r_if_eq (tgt := 28) (dk kX9_ahead 15 rfl) (by decide) (fun c21 => ?_) (fun c21 => ?_)
    · have h1 := bI_0.mp c21
      rw [if_neg h1] at hst
      refine r_iconst (v := 0) (dk kX9_ahead 18 rfl) (by decide) ?_
      refine r_iadd (dk kX9_ahead 19 rfl) ?_
      refine r_istore_n (j := 2) (dk kX9_ahead 20 rfl) rfl (by decide) rfl ?_
      simp only [List.set_cons_succ, List.set_cons_zero]
      refine r_iinc (dk kX9_ahead 21 rfl) (by decide) rfl rfl rfl ?_
      simp only [List.set_cons_succ, List.set_cons_zero]
      refine r_goto (tgt := 4) (dk kX9_ahead 22 rfl) (by decide) ?_
      -- at 4
      rw [show nI j + Int32.ofInt 1 = nI (j + 1) from nI_1 j, show nI (ct (fun i => gAhd (mi M (h + 1)) i p) j) + 0 = nI (ct (fun i => gAhd (mi M (h + 1)) i p) (j + 1)) by rw [hst, show (0 : Int32) = nI 0 from rfl, nI_add]]
      exact ih (j + 1) (by omega)
    · have h1 := bI_1.mp c21
      rw [if_pos h1] at hst
      refine r_iconst (v := 1) (dk kX9_ahead 16 rfl) (by decide) ?_
      refine r_goto (tgt := 29) (dk kX9_ahead 17 rfl) (by decide) ?_
      refine r_iadd (dk kX9_ahead 19 rfl) ?_
      refine r_istore_n (j := 2) (dk kX9_ahead 20 rfl) rfl (by decide) rfl ?_
      simp only [List.set_cons_succ, List.set_cons_zero]
      refine r_iinc (dk kX9_ahead 21 rfl) (by decide) rfl rfl rfl ?_
      simp only [List.set_cons_succ, List.set_cons_zero]
      refine r_goto (tgt := 4) (dk kX9_ahead 22 rfl) (by decide) ?_
      -- at 4
      rw [show nI j + Int32.ofInt 1 = nI (j + 1) from nI_1 j, show nI (ct (fun i => gAhd (mi M (h + 1)) i p) j) + 1 = nI (ct (fun i => gAhd (mi M (h + 1)) i p) (j + 1)) by rw [hst, nI_1]]
      exact ih (j + 1) (by omega)
theorem k_X9_queued (o : MO M h) {F : Nat} (gi : GI F (mi M (h + 1))) (c : Int32) : KP G IX9_queued [.ref h, .int c] M (oI (gQueued (mi M (h + 1)) c)) := by
  refine KK.ofW (by decide) (by simp [Value.category]) (Nat.le_of_ble_eq_true rfl) rfl ?_
  show WW _ _ _ 0 [_, _, lj] [] _ _ _
  obtain ⟨hS, hS2⟩ := gi.p
  refine r_iconst (v := 0) (dk kX9_queued 0 rfl) (by decide) ?_
  refine r_istore_n (j := 2) (dk kX9_queued 1 rfl) rfl (by decide) rfl ?_
  simp only [List.set_cons_succ, List.set_cons_zero]
  -- at 2
  suffices key : ∀ d j, j + d = gn (mi M (h + 1)) 3 → (∀ i, i < j → decide (nI (gAhead (mi M (h + 1)) i) = c) = false) → WW G IX9_queued (qi (fun y M' => y = oI (gQueued (mi M (h + 1)) c) ∧ M' = M) nox) 2 [.ref h, .int c, .int (nI j)] [] M 0 0 from key _ 0 (Nat.zero_add _) (fun i hi => absurd hi (Nat.not_lt_zero i))
  intro d
  induction d with
  | zero =>
    intro j hj hn
    refine r_iload_n (dk kX9_queued 2 rfl) rfl ?_
    refine r_aload_n (dk kX9_queued 3 rfl) rfl ?_
    refine r_getR (dk kX9_queued 4 rfl) fa_X9_7_8 o.k rfl o.r0 ?_
    refine r_iconst (v := 3) (dk kX9_queued 5 rfl) (by decide) ?_
    refine r_ial (dk kX9_queued 6 rfl) o.k1 o.l1 (j := 3) rfl (by decide) (by decide) ?_
    refine r_icmp_ge (tgt := 29) (dk kX9_queued 7 rfl) (by decide) (fun c9 => ?_) (fun c9 => absurd (by rw [hS]; exact nI_le (by omega) (by omega)) c9)
    refine r_iconst (v := (-1)) (dk kX9_queued 17 rfl) (by decide) ?_
    refine r_ireturn (dk kX9_queued 18 rfl) rfl rfl ⟨Nat.le_of_ble_eq_true rfl, Nat.le_of_ble_eq_true rfl⟩ ⟨by rw [show gQueued (mi M (h + 1)) c = none from fx_none.mpr (by rw [← hj]; exact hn)]; rfl, rfl⟩
  | succ d ih =>
    intro j hj hn
    refine r_iload_n (dk kX9_queued 2 rfl) rfl ?_
    refine r_aload_n (dk kX9_queued 3 rfl) rfl ?_
    refine r_getR (dk kX9_queued 4 rfl) fa_X9_7_8 o.k rfl o.r0 ?_
    refine r_iconst (v := 3) (dk kX9_queued 5 rfl) (by decide) ?_
    refine r_ial (dk kX9_queued 6 rfl) o.k1 o.l1 (j := 3) rfl (by decide) (by decide) ?_
    refine r_icmp_ge (tgt := 29) (dk kX9_queued 7 rfl) (by decide) (fun c9 => absurd c9 (by rw [hS]; exact nI_ge (by omega) (by omega))) (fun c9 => ?_)
    refine r_aload_n (dk kX9_queued 8 rfl) rfl ?_
    refine r_iload_n (dk kX9_queued 9 rfl) rfl ?_
    refine r_callVp (I' := IX9_ahead) (as := [_]) (dk kX9_queued 10 rfl) mv_X9_ahead ml_X9_140 rfl rfl o.k rfl rfl (Nat.le_of_ble_eq_true rfl) ⟨by decide, by decide⟩ ⟨rfl, rfl⟩ ⟨Nat.le_of_ble_eq_true rfl, Nat.le_of_ble_eq_true rfl⟩ (k_X9_ahead o gi (by omega)) ?_
    refine r_iload_n (dk kX9_queued 11 rfl) rfl ?_
    refine r_icmp_ne (tgt := 23) (dk kX9_queued 12 rfl) (by decide) (fun c18 => ?_) (fun c18 => ?_)
    · refine r_iinc (dk kX9_queued 15 rfl) (by decide) rfl rfl rfl ?_
      simp only [List.set_cons_succ, List.set_cons_zero]
      refine r_goto (tgt := 2) (dk kX9_queued 16 rfl) (by decide) ?_
      -- at 2
      rw [show nI j + Int32.ofInt 1 = nI (j + 1) from nI_1 j]
      exact ih (j + 1) (by omega) (fun i hi => by
        rcases Nat.lt_succ_iff_lt_or_eq.mp hi with q | q
        · exact hn i q
        · rw [q]; exact decide_eq_false c18)
    · refine r_iload_n (dk kX9_queued 13 rfl) rfl ?_
      refine r_ireturn (dk kX9_queued 14 rfl) rfl rfl ⟨Nat.le_of_ble_eq_true rfl, Nat.le_of_ble_eq_true rfl⟩ ⟨by rw [show gQueued (mi M (h + 1)) c = some j from fx_some.mpr ⟨by omega, decide_eq_true (Decidable.not_not.mp c18), hn⟩]; rfl, rfl⟩
theorem k_X9_wins (o : MO M h) {F p : Nat} (gi : GI F (mi M (h + 1))) (hp : p < gn (mi M (h + 1)) 3) : KP G IX9_wins [.ref h, .int (nI p)] M (bI (gWins (mi M (h + 1)) p = true)) := by
  refine KK.ofW (by decide) (by simp [Value.category]) (Nat.le_of_ble_eq_true rfl) rfl ?_
  show WW _ _ _ 0 [_, _, lj, lj] [] _ _ _
  have hp8 := gi.p.2
  have hr9 := gi.r.2
  obtain ⟨-, -, -, -, -, y1, y2, ⟨hS, hS2⟩, hc⟩ := gi.pi hp
  refine r_aload_n (dk kX9_wins 0 rfl) rfl ?_
  refine r_iload_n (dk kX9_wins 1 rfl) rfl ?_
  refine r_iconst (v := 5) (dk kX9_wins 2 rfl) (by decide) ?_
  refine r_callVp (I' := IX9_of) (as := [_, _]) (dk kX9_wins 3 rfl) mv_X9_of ml_X9_106 rfl rfl o.k rfl rfl (Nat.le_of_ble_eq_true rfl) ⟨by decide, by decide⟩ ⟨rfl, rfl⟩ ⟨Nat.le_of_ble_eq_true rfl, Nat.le_of_ble_eq_true rfl⟩ (k_X9_of o (w := 5) rfl (by omega) (by decide)) ?_
  -- at 6
  rw [y1.1]
  refine r_callSp (I' := IX9_bits) (as := [_]) (dk kX9_wins 4 rfl) ms_X9_bits ml_X9_120 rfl rfl rfl (Nat.le_of_ble_eq_true rfl) ⟨by decide, by decide⟩ ⟨rfl, rfl⟩ ⟨Nat.le_of_ble_eq_true rfl, Nat.le_of_ble_eq_true rfl⟩ (k_X9_bits y1.2) ?_
  refine r_aload_n (dk kX9_wins 5 rfl) rfl ?_
  refine r_iload_n (dk kX9_wins 6 rfl) rfl ?_
  refine r_bipush (v := 6) (dk kX9_wins 7 rfl) (by decide) ?_
  refine r_callVp (I' := IX9_of) (as := [_, _]) (dk kX9_wins 8 rfl) mv_X9_of ml_X9_106 rfl rfl o.k rfl rfl (Nat.le_of_ble_eq_true rfl) ⟨by decide, by decide⟩ ⟨rfl, rfl⟩ ⟨Nat.le_of_ble_eq_true rfl, Nat.le_of_ble_eq_true rfl⟩ (k_X9_of o (w := 6) rfl (by omega) (by decide)) ?_
  -- at 16
  rw [y2.1]
  refine r_callSp (I' := IX9_bits) (as := [_]) (dk kX9_wins 9 rfl) ms_X9_bits ml_X9_120 rfl rfl rfl (Nat.le_of_ble_eq_true rfl) ⟨by decide, by decide⟩ ⟨rfl, rfl⟩ ⟨Nat.le_of_ble_eq_true rfl, Nat.le_of_ble_eq_true rfl⟩ (k_X9_bits y2.2) ?_
  refine r_isub (dk kX9_wins 10 rfl) ?_
  refine r_istore_n (j := 2) (dk kX9_wins 11 rfl) rfl (by decide) rfl ?_
  simp only [List.set_cons_succ, List.set_cons_zero]
  refine r_iconst (v := 0) (dk kX9_wins 12 rfl) (by decide) ?_
  refine r_istore_n (j := 3) (dk kX9_wins 13 rfl) rfl (by decide) rfl ?_
  simp only [List.set_cons_succ, List.set_cons_zero]
  -- at 23
  suffices key : ∀ d j, j + d = gn (mi M (h + 1)) (35 + 11 * p + 7) → WW G IX9_wins (qi (fun y M' => y = bI (gWins (mi M (h + 1)) p = true) ∧ M' = M) nox) 23 [.ref h, .int (nI p), .int (gLead (mi M (h + 1)) p j), .int (nI j)] [] M 0 0 from key _ 0 (Nat.zero_add _)
  intro d
  induction d with
  | zero =>
    intro j hj
    have hj : j = gn (mi M (h + 1)) (35 + 11 * p + 7) := hj
    have hw : gWins (mi M (h + 1)) p = true ↔ 0 < gLead (mi M (h + 1)) p j := by
      unfold gWins
      rw [decide_eq_true_eq, hj]
    refine r_iload_n (dk kX9_wins 14 rfl) rfl ?_
    refine r_aload_n (dk kX9_wins 15 rfl) rfl ?_
    refine r_iload_n (dk kX9_wins 16 rfl) rfl ?_
    refine r_bipush (v := 7) (dk kX9_wins 17 rfl) (by decide) ?_
    refine r_callVp (I' := IX9_of) (as := [_, _]) (dk kX9_wins 18 rfl) mv_X9_of ml_X9_106 rfl rfl o.k rfl rfl (Nat.le_of_ble_eq_true rfl) ⟨by decide, by decide⟩ ⟨rfl, rfl⟩ ⟨Nat.le_of_ble_eq_true rfl, Nat.le_of_ble_eq_true rfl⟩ (k_X9_of o (w := 7) rfl (by omega) (by decide)) ?_
    refine r_icmp_ge (tgt := 66) (dk kX9_wins 19 rfl) (by decide) (fun c31 => ?_) (fun c31 => absurd (by rw [hS]; exact nI_le (by omega) (by omega)) c31)
    refine r_iload_n (dk kX9_wins 39 rfl) rfl ?_
    refine r_if_le (tgt := 74) (dk kX9_wins 40 rfl) (by decide) (fun c67 => ?_) (fun c67 => ?_)
    · refine r_iconst (v := 0) (dk kX9_wins 43 rfl) (by decide) ?_
      refine r_ireturn (dk kX9_wins 44 rfl) rfl rfl ⟨Nat.le_of_ble_eq_true rfl, Nat.le_of_ble_eq_true rfl⟩ ⟨(bI_f (fun z => absurd c67 (Int32.not_le.mpr (hw.mp z)))).symm, rfl⟩
    · refine r_iconst (v := 1) (dk kX9_wins 41 rfl) (by decide) ?_
      refine r_goto (tgt := 75) (dk kX9_wins 42 rfl) (by decide) ?_
      refine r_ireturn (dk kX9_wins 44 rfl) rfl rfl ⟨Nat.le_of_ble_eq_true rfl, Nat.le_of_ble_eq_true rfl⟩ ⟨(bI_t (hw.mpr (Int32.not_le.mp c67))).symm, rfl⟩
  | succ d ih =>
    intro j hj
    obtain ⟨n1, n2⟩ := hc j (by omega)
    refine r_iload_n (dk kX9_wins 14 rfl) rfl ?_
    refine r_aload_n (dk kX9_wins 15 rfl) rfl ?_
    refine r_iload_n (dk kX9_wins 16 rfl) rfl ?_
    refine r_bipush (v := 7) (dk kX9_wins 17 rfl) (by decide) ?_
    refine r_callVp (I' := IX9_of) (as := [_, _]) (dk kX9_wins 18 rfl) mv_X9_of ml_X9_106 rfl rfl o.k rfl rfl (Nat.le_of_ble_eq_true rfl) ⟨by decide, by decide⟩ ⟨rfl, rfl⟩ ⟨Nat.le_of_ble_eq_true rfl, Nat.le_of_ble_eq_true rfl⟩ (k_X9_of o (w := 7) rfl (by omega) (by decide)) ?_
    refine r_icmp_ge (tgt := 66) (dk kX9_wins 19 rfl) (by decide) (fun c31 => absurd c31 (by rw [hS]; exact nI_ge (by omega) (by omega))) (fun c31 => ?_)
    refine r_iload_n (dk kX9_wins 20 rfl) rfl ?_
    refine r_aload_n (dk kX9_wins 21 rfl) rfl ?_
    refine r_aload_n (dk kX9_wins 22 rfl) rfl ?_
    refine r_iload_n (dk kX9_wins 23 rfl) rfl ?_
    refine r_bipush (v := 8) (dk kX9_wins 24 rfl) (by decide) ?_
    refine r_iload_n (dk kX9_wins 25 rfl) rfl ?_
    refine r_iadd (dk kX9_wins 26 rfl) ?_
    refine r_callVp (I' := IX9_of) (as := [_, _]) (dk kX9_wins 27 rfl) mv_X9_of ml_X9_106 rfl rfl o.k rfl rfl (Nat.le_of_ble_eq_true rfl) ⟨by decide, by decide⟩ ⟨rfl, rfl⟩ ⟨Nat.le_of_ble_eq_true rfl, Nat.le_of_ble_eq_true rfl⟩ (k_X9_of o (w := 8 + j) (ixd rfl) (by omega) (by omega)) ?_
    refine r_iconst (v := 0) (dk kX9_wins 28 rfl) (by decide) ?_
    -- at 46
    rw [← Nat.add_assoc, n1]
    refine r_callVp (I' := IX9_by) (as := [_, _]) (dk kX9_wins 29 rfl) mv_X9_by ml_X9_146 rfl rfl o.k rfl rfl (Nat.le_of_ble_eq_true rfl) ⟨by decide, by decide⟩ ⟨rfl, rfl⟩ ⟨Nat.le_of_ble_eq_true rfl, Nat.le_of_ble_eq_true rfl⟩ (k_X9_by0 o (by omega)) ?_
    refine r_iconst (v := 1) (dk kX9_wins 30 rfl) (by decide) ?_
    refine r_icmp_ne (tgt := 57) (dk kX9_wins 31 rfl) (by decide) (fun c50 => ?_) (fun c50 => ?_)
    · refine r_iconst (v := (-1)) (dk kX9_wins 34 rfl) (by decide) ?_
      refine r_iadd (dk kX9_wins 35 rfl) ?_
      refine r_istore_n (j := 2) (dk kX9_wins 36 rfl) rfl (by decide) rfl ?_
      simp only [List.set_cons_succ, List.set_cons_zero]
      refine r_iinc (dk kX9_wins 37 rfl) (by decide) rfl rfl rfl ?_
      simp only [List.set_cons_succ, List.set_cons_zero]
      refine r_goto (tgt := 23) (dk kX9_wins 38 rfl) (by decide) ?_
      -- at 23
      rw [show nI j + Int32.ofInt 1 = nI (j + 1) from nI_1 j]
      have hst : gLead (mi M (h + 1)) p j + -1 = gLead (mi M (h + 1)) p (j + 1) := by
        show _ = gLead (mi M (h + 1)) p j + (if _ then _ else _)
        rw [if_neg c50]
      rw [hst]
      exact ih (j + 1) (by omega)
    · refine r_iconst (v := 1) (dk kX9_wins 32 rfl) (by decide) ?_
      refine r_goto (tgt := 58) (dk kX9_wins 33 rfl) (by decide) ?_
      refine r_iadd (dk kX9_wins 35 rfl) ?_
      refine r_istore_n (j := 2) (dk kX9_wins 36 rfl) rfl (by decide) rfl ?_
      simp only [List.set_cons_succ, List.set_cons_zero]
      refine r_iinc (dk kX9_wins 37 rfl) (by decide) rfl rfl rfl ?_
      simp only [List.set_cons_succ, List.set_cons_zero]
      refine r_goto (tgt := 23) (dk kX9_wins 38 rfl) (by decide) ?_
      -- at 23
      rw [show nI j + Int32.ofInt 1 = nI (j + 1) from nI_1 j]
      have hst : gLead (mi M (h + 1)) p j + 1 = gLead (mi M (h + 1)) p (j + 1) := by
        show _ = gLead (mi M (h + 1)) p j + (if _ then _ else _)
        rw [if_pos (Decidable.not_not.mp c50)]
      rw [hst]
      exact ih (j + 1) (by omega)
theorem sI_I (M : Mm) (a j : Nat) (x y : Int32) : sI (sI M a j x) a j y = sI M a j y := by
  rw [sI_A, sI_A, sI_A, sA_A, mi_sA_s, va_up_up]
theorem mi_sI_s (M : Mm) (a j : Nat) (v : Int32) : mi (sI M a j v) a = va_up (mi M a) j v := u2_s _ _ _ _
theorem mi_sI_n (M : Mm) {a b : Nat} (j : Nat) (v : Int32) (hb : b ≠ a) : mi (sI M a j v) b = mi M b := u2_n _ _ _ hb
theorem sI_sA (M : Mm) (a j : Nat) (f : Nat → Int32) (v : Int32) : sI (sA M a f) a j v = sA M a (va_up f j v) := by
  rw [sI_A, sA_A, mi_sA_s]
theorem k_X9_copies {a b : Nat} {i0 o0 : Nat} {x y : Int32} {na nb' : Nat} (hab : a ≠ b) (ka : kd M a = 20) (kb : kd M b = 20) (la : ln M a = na) (lb : ln M b = nb') (hna : na < 2 ^ 31) (hnb : nb' < 2 ^ 31) (hx : x = nI i0) (hy : y = nI o0) (hi : i0 + 219 ≤ na) (ho : o0 + 219 ≤ nb') : KU G IX9_copies [.ref a, .int x, .ref b, .int y] M (sA M b (va_cpy (mi M a) (mi M b) i0 o0 219)) := by
  subst hx; subst hy
  refine KK.ofW (by decide) (by simp [Value.category]) (Nat.le_of_ble_eq_true rfl) rfl ?_
  show WW _ _ _ 0 [_, _, _, _, lj] [] _ _ _
  refine r_iconst (v := 0) (dk kX9_copies 0 rfl) (by decide) ?_
  refine r_istore (dk kX9_copies 1 rfl) (by decide) rfl ?_
  simp only [List.set_cons_succ, List.set_cons_zero]
  -- at 3
  suffices key : ∀ d j, j + d = 219 → WW G IX9_copies (qv (fun M' => M' = sA M b (va_cpy (mi M a) (mi M b) i0 o0 219)) nox) 3 [.ref a, .int (nI i0), .ref b, .int (nI o0), .int (nI j)] [] (sA M b (va_cpy (mi M a) (mi M b) i0 o0 j)) 0 0 by
    have h0 := key 219 0 (by omega)
    have e0 : va_cpy (mi M a) (mi M b) i0 o0 0 = mi M b := by
      funext z
      exact pk_cpy_out (by omega)
    rw [e0, sA_eq] at h0
    exact h0
  intro d
  induction d with
  | zero =>
    intro j hj
    have hj : j = 219 := hj
    subst hj
    refine r_iload (dk kX9_copies 2 rfl) rfl ?_
    refine r_sipush (v := 219) (dk kX9_copies 3 rfl) (by decide) ?_
    refine r_icmp_ge (tgt := 29) (dk kX9_copies 4 rfl) (by decide) (fun c8 => ?_) (fun c8 => absurd (by decide) c8)
    refine r_return (dk kX9_copies 17 rfl) rfl ⟨Nat.le_of_ble_eq_true rfl, Nat.le_of_ble_eq_true rfl⟩ rfl
  | succ d ih =>
    intro j hj
    refine r_iload (dk kX9_copies 2 rfl) rfl ?_
    refine r_sipush (v := 219) (dk kX9_copies 3 rfl) (by decide) ?_
    refine r_icmp_ge (tgt := 29) (dk kX9_copies 4 rfl) (by decide) (fun c8 => absurd c8 (fun z => absurd ((nI_leI (a := 219) (b := j) (by decide) (by omega)).mp z) (by omega))) (fun c8 => ?_)
    refine r_aload_n (dk kX9_copies 5 rfl) rfl ?_
    refine r_iload_n (dk kX9_copies 6 rfl) rfl ?_
    refine r_iload (dk kX9_copies 7 rfl) rfl ?_
    refine r_iadd (dk kX9_copies 8 rfl) ?_
    refine r_aload_n (dk kX9_copies 9 rfl) rfl ?_
    refine r_iload_n (dk kX9_copies 10 rfl) rfl ?_
    refine r_iload (dk kX9_copies 11 rfl) rfl ?_
    refine r_iadd (dk kX9_copies 12 rfl) ?_
    -- at 21
    have e1 : mi (sA M b (va_cpy (mi M a) (mi M b) i0 o0 j)) a (i0 + j) = mi M a (i0 + j) := by rw [mi_sA_n _ _ hab]
    refine r_ial (dk kX9_copies 13 rfl) (j := i0 + j) ka la (nI_add i0 j) (by omega) hna ?_
    rw [e1]
    refine r_ias (dk kX9_copies 14 rfl) (j := o0 + j) kb lb (nI_add o0 j) (by omega) hnb ?_
    refine r_iinc (dk kX9_copies 15 rfl) (by decide) rfl rfl rfl ?_
    simp only [List.set_cons_succ, List.set_cons_zero]
    refine r_goto (tgt := 3) (dk kX9_copies 16 rfl) (by decide) ?_
    -- at 3
    rw [show nI j + Int32.ofInt 1 = nI (j + 1) from nI_1 j, sI_sA]
    have e2 : va_up (va_cpy (mi M a) (mi M b) i0 o0 j) (o0 + j) (mi M a (i0 + j)) = va_cpy (mi M a) (mi M b) i0 o0 (j + 1) := by
      funext z
      by_cases hz : z = o0 + j
      · subst hz
        rw [va_up_self, pk_cpy_in (by omega) (by omega), show o0 + j - o0 = j by omega]
      · rw [va_up_ne _ _ hz]
        by_cases hz2 : o0 ≤ z ∧ z < o0 + j
        · rw [pk_cpy_in hz2.1 hz2.2, pk_cpy_in hz2.1 (by omega)]
        · rw [pk_cpy_out (by omega), pk_cpy_out (by omega)]
    rw [e2]
    exact ih (j + 1) (by omega)
end MODEL
end
section
/-! THE REFERENCE: drops, keeps, the sets of rulings -/
section MODEL
variable {G : GG} {M : Mm} {h : Nat}
theorem k_X9_drops (o : MO M h) {F p : Nat} (gi : GI F (mi M (h + 1))) (hp : p < gn (mi M (h + 1)) 3) : KU G IX9_drops [.ref h, .int (nI p)] M (sA M (h + 1) (gDrop (mi M (h + 1)) p)) := by
  refine KK.ofW (by decide) (by simp [Value.category]) (Nat.le_of_ble_eq_true rfl) rfl ?_
  show WW _ _ _ 0 [_, _, lj] [] _ _ _
  obtain ⟨hS, hS2⟩ := gi.p
  generalize hg : mi M (h + 1) = g at *
  generalize hn : gn g 3 = N at *
  refine r_aload_n (dk kX9_drops 0 rfl) rfl ?_
  refine r_getR (dk kX9_drops 1 rfl) fa_X9_7_8 o.k rfl o.r0 ?_
  refine r_iconst (v := 3) (dk kX9_drops 2 rfl) (by decide) ?_
  refine r_dup2 (dk kX9_drops 3 rfl) rfl rfl ?_
  refine r_ial (dk kX9_drops 4 rfl) o.k1 o.l1 (j := 3) rfl (by decide) (by decide) ?_
  refine r_iconst (v := 1) (dk kX9_drops 5 rfl) (by decide) ?_
  refine r_isub (dk kX9_drops 6 rfl) ?_
  refine r_ias (dk kX9_drops 7 rfl) o.k1 o.l1 (j := 3) rfl (by decide) (by decide) ?_
  -- at 10
  rw [hg, hS, nI_sub1 (by omega), sI_A, hg]
  generalize hg1 : va_up g 3 (nI (N - 1)) = g1
  have h13 : g1 3 = nI (N - 1) := by rw [← hg1, va_up_self]
  have h1n : ∀ i, i ≠ 3 → g1 i = g i := fun i hi => by rw [← hg1, va_up_ne _ _ hi]
  refine r_bipush (v := 35) (dk kX9_drops 8 rfl) (by decide) ?_
  refine r_bipush (v := 11) (dk kX9_drops 9 rfl) (by decide) ?_
  refine r_iload_n (dk kX9_drops 10 rfl) rfl ?_
  refine r_imul (dk kX9_drops 11 rfl) ?_
  refine r_iadd (dk kX9_drops 12 rfl) ?_
  refine r_istore_n (j := 2) (dk kX9_drops 13 rfl) rfl (by decide) rfl ?_
  simp only [List.set_cons_succ, List.set_cons_zero]
  -- at 18
  rw [show (35 : Int32) + 11 * nI p = nI (35 + 11 * p) from ixa rfl rfl]
  suffices key : ∀ d j, j + d = 35 + 11 * (N - 1) → 35 + 11 * p ≤ j → WW G IX9_drops (qv (fun M' => M' = sA M (h + 1) (gDrop g p)) nox) 18 [.ref h, .int (nI p), .int (nI j)] [] (sA M (h + 1) (fun i => if 35 + 11 * p ≤ i ∧ i < j then g1 (i + 11) else g1 i)) 0 0 by
    have h0 := key (11 * (N - 1 - p)) (35 + 11 * p) (by omega) (by omega)
    rw [show (fun i => if 35 + 11 * p ≤ i ∧ i < 35 + 11 * p then g1 (i + 11) else g1 i) = g1 from funext fun i => if_neg (by omega)] at h0
    exact h0
  intro d
  induction d with
  | zero =>
    intro j hj hpj
    have hj : j = 35 + 11 * (N - 1) := hj
    generalize hf : (fun i => if 35 + 11 * p ≤ i ∧ i < j then g1 (i + 11) else g1 i) = f
    have hf3 : f 3 = nI (N - 1) := by rw [← hf]; show (if _ then _ else _) = _; rw [if_neg (by omega)]; exact h13
    have e3 : mi (sA M (h + 1) f) (h + 1) = f := mi_sA_s _ _ _
    refine r_iload_n (dk kX9_drops 14 rfl) rfl ?_
    refine r_bipush (v := 35) (dk kX9_drops 15 rfl) (by decide) ?_
    refine r_bipush (v := 11) (dk kX9_drops 16 rfl) (by decide) ?_
    refine r_aload_n (dk kX9_drops 17 rfl) rfl ?_
    refine r_getR (dk kX9_drops 18 rfl) fa_X9_7_8 o.k rfl o.r0 ?_
    refine r_iconst (v := 3) (dk kX9_drops 19 rfl) (by decide) ?_
    refine r_ial (dk kX9_drops 20 rfl) o.k1 o.l1 (j := 3) rfl (by decide) (by decide) ?_
    -- at 29
    rw [e3, hf3]
    refine r_imul (dk kX9_drops 21 rfl) ?_
    refine r_iadd (dk kX9_drops 22 rfl) ?_
    refine r_icmp_ge (tgt := 55) (dk kX9_drops 23 rfl) (by decide) (fun c31 => ?_) (fun c31 => absurd (by rw [show (35 : Int32) + 11 * nI (N - 1) = nI (35 + 11 * (N - 1)) from ixa rfl rfl]; exact nI_le (by omega) (by omega)) c31)
    refine r_iconst (v := 0) (dk kX9_drops 36 rfl) (by decide) ?_
    refine r_istore_n (j := 2) (dk kX9_drops 37 rfl) rfl (by decide) rfl ?_
    simp only [List.set_cons_succ, List.set_cons_zero]
    -- at 57
    suffices key2 : ∀ d j, j + d = 11 → WW G IX9_drops (qv (fun M' => M' = sA M (h + 1) (gDrop g p)) nox) 57 [.ref h, .int (nI p), .int (nI j)] [] (sA M (h + 1) (fun i => if 35 + 11 * (N - 1) ≤ i ∧ i < 35 + 11 * (N - 1) + j then 0 else f i)) 0 0 by
      have h0 := key2 11 0 (by omega)
      rw [show (fun i => if 35 + 11 * (N - 1) ≤ i ∧ i < 35 + 11 * (N - 1) + 0 then 0 else f i) = f from funext fun i => if_neg (by omega)] at h0
      exact h0
    intro d
    induction d with
    | zero =>
      intro k hk
      have hk : k = 11 := hk
      subst hk
      refine r_iload_n (dk kX9_drops 38 rfl) rfl ?_
      refine r_bipush (v := 11) (dk kX9_drops 39 rfl) (by decide) ?_
      refine r_icmp_ge (tgt := 81) (dk kX9_drops 40 rfl) (by decide) (fun c60 => ?_) (fun c60 => absurd (by decide) c60)
      refine r_return (dk kX9_drops 51 rfl) rfl ⟨Nat.le_of_ble_eq_true rfl, Nat.le_of_ble_eq_true rfl⟩ ?_
      congr 1
      funext i
      show (if _ then (0 : Int32) else f i) = gDrop g p i
      unfold gDrop
      rw [hn]
      by_cases i3 : i = 3
      · subst i3
        rw [if_neg (by omega), if_pos rfl, hf3, hS, nI_sub1 (by omega)]
      · rw [if_neg i3]
        by_cases c1 : 35 + 11 * p ≤ i ∧ i < 35 + 11 * (N - 1)
        · rw [if_pos c1, if_neg (by omega), ← hf]
          show (if _ then _ else _) = _
          rw [if_pos (by omega), h1n _ (by omega)]
        · rw [if_neg c1]
          by_cases c2 : 35 + 11 * (N - 1) ≤ i ∧ i < 35 + 11 * (N - 1) + 11
          · rw [if_pos c2, if_pos c2]
          · rw [if_neg c2, if_neg c2, ← hf]
            show (if _ then _ else _) = _
            rw [if_neg (by omega), h1n _ i3]
    | succ d ih =>
      intro k hk
      generalize hf2 : (fun i => if 35 + 11 * (N - 1) ≤ i ∧ i < 35 + 11 * (N - 1) + k then 0 else f i) = f2
      have hf23 : f2 3 = nI (N - 1) := by rw [← hf2]; show (if _ then _ else _) = _; rw [if_neg (by omega)]; exact hf3
      have e4 : mi (sA M (h + 1) f2) (h + 1) = f2 := mi_sA_s _ _ _
      refine r_iload_n (dk kX9_drops 38 rfl) rfl ?_
      refine r_bipush (v := 11) (dk kX9_drops 39 rfl) (by decide) ?_
      refine r_icmp_ge (tgt := 81) (dk kX9_drops 40 rfl) (by decide) (fun c60 => absurd c60 (by exact fun z => absurd ((nI_leI (a := 11) (b := k) (by decide) (by omega)).mp z) (by omega))) (fun c60 => ?_)
      refine r_aload_n (dk kX9_drops 41 rfl) rfl ?_
      refine r_aload_n (dk kX9_drops 42 rfl) rfl ?_
      refine r_getR (dk kX9_drops 43 rfl) fa_X9_7_8 o.k rfl o.r0 ?_
      refine r_iconst (v := 3) (dk kX9_drops 44 rfl) (by decide) ?_
      refine r_ial (dk kX9_drops 45 rfl) o.k1 o.l1 (j := 3) rfl (by decide) (by decide) ?_
      -- at 70
      rw [e4, hf23]
      refine r_iload_n (dk kX9_drops 46 rfl) rfl ?_
      refine r_iconst (v := 0) (dk kX9_drops 47 rfl) (by decide) ?_
      refine r_callVu (I' := IX9_lays) (as := [_, _, _]) (dk kX9_drops 48 rfl) mv_X9_lays ml_X9_116 rfl rfl o.k rfl rfl (Nat.le_of_ble_eq_true rfl) ⟨by decide, by decide⟩ ⟨rfl, rfl⟩ ⟨Nat.le_of_ble_eq_true rfl, Nat.le_of_ble_eq_true rfl⟩ (k_X9_lays (M := sA M (h + 1) f2) o (p := N - 1) (w := k) rfl (by omega) (by omega)) ?_
      -- at 75
      refine r_iinc (dk kX9_drops 49 rfl) (by decide) rfl rfl rfl ?_
      simp only [List.set_cons_succ, List.set_cons_zero]
      refine r_goto (tgt := 57) (dk kX9_drops 50 rfl) (by decide) ?_
      -- at 57
      rw [show nI k + Int32.ofInt 1 = nI (k + 1) from nI_1 k, sI_sA]
      rw [show va_up f2 (35 + 11 * (N - 1) + k) 0 = (fun i => if 35 + 11 * (N - 1) ≤ i ∧ i < 35 + 11 * (N - 1) + (k + 1) then 0 else f i) from ?_]
      · exact ih (k + 1) (by omega)
      · funext i
        by_cases hi : i = 35 + 11 * (N - 1) + k
        · rw [hi, va_up_self, if_pos (by omega)]
        · rw [va_up_ne _ _ hi, ← hf2]
          show (if _ then _ else _) = _
          by_cases c1 : 35 + 11 * (N - 1) ≤ i ∧ i < 35 + 11 * (N - 1) + k
          · rw [if_pos c1, if_pos (by omega)]
          · rw [if_neg c1, if_neg (by omega)]
  | succ d ih =>
    intro j hj hpj
    generalize hf : (fun i => if 35 + 11 * p ≤ i ∧ i < j then g1 (i + 11) else g1 i) = f
    have hf3 : f 3 = nI (N - 1) := by rw [← hf]; show (if _ then _ else _) = _; rw [if_neg (by omega)]; exact h13
    have e3 : mi (sA M (h + 1) f) (h + 1) = f := mi_sA_s _ _ _
    refine r_iload_n (dk kX9_drops 14 rfl) rfl ?_
    refine r_bipush (v := 35) (dk kX9_drops 15 rfl) (by decide) ?_
    refine r_bipush (v := 11) (dk kX9_drops 16 rfl) (by decide) ?_
    refine r_aload_n (dk kX9_drops 17 rfl) rfl ?_
    refine r_getR (dk kX9_drops 18 rfl) fa_X9_7_8 o.k rfl o.r0 ?_
    refine r_iconst (v := 3) (dk kX9_drops 19 rfl) (by decide) ?_
    refine r_ial (dk kX9_drops 20 rfl) o.k1 o.l1 (j := 3) rfl (by decide) (by decide) ?_
    -- at 29
    rw [e3, hf3]
    refine r_imul (dk kX9_drops 21 rfl) ?_
    refine r_iadd (dk kX9_drops 22 rfl) ?_
    refine r_icmp_ge (tgt := 55) (dk kX9_drops 23 rfl) (by decide) (fun c31 => absurd c31 (by rw [show (35 : Int32) + 11 * nI (N - 1) = nI (35 + 11 * (N - 1)) from ixa rfl rfl]; exact nI_ge (by omega) (by omega))) (fun c31 => ?_)
    refine r_aload_n (dk kX9_drops 24 rfl) rfl ?_
    refine r_getR (dk kX9_drops 25 rfl) fa_X9_7_8 o.k rfl o.r0 ?_
    refine r_iload_n (dk kX9_drops 26 rfl) rfl ?_
    refine r_aload_n (dk kX9_drops 27 rfl) rfl ?_
    refine r_getR (dk kX9_drops 28 rfl) fa_X9_7_8 o.k rfl o.r0 ?_
    refine r_iload_n (dk kX9_drops 29 rfl) rfl ?_
    refine r_bipush (v := 11) (dk kX9_drops 30 rfl) (by decide) ?_
    refine r_iadd (dk kX9_drops 31 rfl) ?_
    refine r_ial (dk kX9_drops 32 rfl) o.k1 o.l1 (j := j + 11) (by rw [show (11 : Int32) = nI 11 from rfl, nI_add]) (by omega) (by decide) ?_
    refine r_ias (dk kX9_drops 33 rfl) o.k1 o.l1 (j := j) rfl (by omega) (by decide) ?_
    refine r_iinc (dk kX9_drops 34 rfl) (by decide) rfl rfl rfl ?_
    simp only [List.set_cons_succ, List.set_cons_zero]
    -- at 52
    refine r_goto (tgt := 18) (dk kX9_drops 35 rfl) (by decide) ?_
    -- at 18
    rw [e3, show nI j + Int32.ofInt 1 = nI (j + 1) from nI_1 j, sI_sA]
    rw [show va_up f j (f (j + 11)) = (fun i => if 35 + 11 * p ≤ i ∧ i < j + 1 then g1 (i + 11) else g1 i) from ?_]
    · exact ih (j + 1) (by omega) (by omega)
    · funext i
      by_cases hi : i = j
      · rw [hi, va_up_self, if_pos (by omega), ← hf]
        show (if _ then _ else _) = _
        rw [if_neg (by omega)]
      · rw [va_up_ne _ _ hi, ← hf]
        show (if _ then _ else _) = _
        by_cases c1 : 35 + 11 * p ≤ i ∧ i < j
        · rw [if_pos c1, if_pos (by omega)]
        · rw [if_neg c1, if_neg (by omega)]
theorem sA_in (M : Mm) {a b : Nat} (f x y : Nat → Int32) (hab : a ≠ b) : sA (sA (sA M a f) b x) a y = sA (sA M a y) b x := by
  rw [sA_co (sA M a f) x y hab.symm, sA_A]
/-- kept rows behind 'keeps' -/
def mShift (kept : Nat → Int32) : Nat → Int32 := fun i => if i < 1533 then kept (i + 219) else kept i
def mKeepRow (kept row : Nat → Int32) (n : Nat) : Nat → Int32 := va_cpy row (if n = 8 then mShift kept else kept) 0 (219 * min n 7) 219
def mKeep (M : Mm) (h a : Nat) : Mm := if mi M h 6 = 0 then sA (sA M (h + 2) (mKeepRow (mi M (h + 2)) (mi M a) (gn (mi M h) 5))) h (va_up (va_up (mi M h) 8 0) 5 (nI (min (gn (mi M h) 5) 7 + 1))) else sI M h 8 0
theorem k_X9_keeps (o : MO M h) {a : Nat} (ha : a ≠ h ∧ a ≠ h + 2) (ka : kd M a = 20) (la : ln M a = 219) (hc : nb (mi M h) 5 9) : KU G IX9_keeps [.ref h, .ref a] M (mKeep M h a) := by
  refine KK.ofW (by decide) (by simp [Value.category]) (Nat.le_of_ble_eq_true rfl) rfl ?_
  show WW _ _ _ 0 [_, _, lj] [] _ _ _
  obtain ⟨hc1, hc2⟩ := hc
  have e6 : mi (sI M h 8 0) h 6 = mi M h 6 := by rw [mi_sI_s]; rfl
  have e5 : mi (sI M h 8 0) h 5 = nI (gn (mi M h) 5) := by rw [mi_sI_s]; exact hc1
  have h2 : h ≠ h + 2 := by omega
  generalize hn : gn (mi M h) 5 = n at *
  refine r_aload_n (dk kX9_keeps 0 rfl) rfl ?_
  refine r_iconst (v := 0) (dk kX9_keeps 1 rfl) (by decide) ?_
  refine r_puti (dk kX9_keeps 2 rfl) fa_X9_39_8 o.k rfl rfl rfl rfl ?_
  refine r_aload_n (dk kX9_keeps 3 rfl) rfl ?_
  refine r_geti (dk kX9_keeps 4 rfl) fa_X9_58_8 o.k rfl ?_
  -- at 9
  rw [e6]
  refine r_if_eq (tgt := 13) (dk kX9_keeps 5 rfl) (by decide) (fun c9 => ?_) (fun c9 => ?_)
  · unfold mKeep
    rw [if_pos c9, hn]
    refine r_aload_n (dk kX9_keeps 7 rfl) rfl ?_
    refine r_geti (dk kX9_keeps 8 rfl) fa_X9_61_8 o.k rfl ?_
    refine r_bipush (v := 8) (dk kX9_keeps 9 rfl) (by decide) ?_
    -- at 19
    rw [e5]
    -- the end, from any shifted rows
    have fin : ∀ (z : Nat) (w : Nat → Int32) (f : Nat → Int32), z ≤ 7 → f 5 = nI z → va_up f 5 (nI (z + 1)) = va_up (va_up (mi M h) 8 0) 5 (nI (min n 7 + 1)) → va_cpy (mi M a) w 0 (219 * z) 219 = mKeepRow (mi M (h + 2)) (mi M a) n → ∀ y, WW G IX9_keeps (qv (fun M' => M' = sA (sA M (h + 2) (mKeepRow (mi M (h + 2)) (mi M a) n)) h (va_up (va_up (mi M h) 8 0) 5 (nI (min n 7 + 1)))) nox) 63 [.ref h, .ref a, y] [] (sA (sA M (h + 2) w) h f) 0 0 := by
      intro z w f hz hf5 hf hw y
      have q1 : mi (sA (sA M (h + 2) w) h f) h = f := mi_sA_s _ _ _
      have q2 : mi (sA (sA M (h + 2) w) h f) (h + 2) = w := by rw [mi_sA_n _ _ h2.symm, mi_sA_s]
      have q3 : mi (sA (sA M (h + 2) w) h f) a = mi M a := by rw [mi_sA_n _ _ ha.1, mi_sA_n _ _ ha.2]
      refine r_aload_n (dk kX9_keeps 34 rfl) rfl ?_
      refine r_iconst (v := 0) (dk kX9_keeps 35 rfl) (by decide) ?_
      refine r_aload_n (dk kX9_keeps 36 rfl) rfl ?_
      refine r_getR (dk kX9_keeps 37 rfl) fa_X9_13_8 o.k rfl o.r1 ?_
      refine r_sipush (v := 219) (dk kX9_keeps 38 rfl) (by decide) ?_
      refine r_aload_n (dk kX9_keeps 39 rfl) rfl ?_
      refine r_geti (dk kX9_keeps 40 rfl) fa_X9_61_8 o.k rfl ?_
      refine r_imul (dk kX9_keeps 41 rfl) ?_
      -- at 77
      rw [q1, hf5, show (219 : Int32) * nI z = nI (219 * z) from pk_mul 219 z]
      refine r_callSu (I' := IX9_copies) (as := [_, _, _, _]) (dk kX9_keeps 42 rfl) ms_X9_copies ml_X9_64 rfl rfl rfl (Nat.le_of_ble_eq_true rfl) ⟨by decide, by decide⟩ ⟨rfl, rfl⟩ ⟨Nat.le_of_ble_eq_true rfl, Nat.le_of_ble_eq_true rfl⟩ (k_X9_copies (M := sA (sA M (h + 2) w) h f) (i0 := 0) (o0 := 219 * z) ha.2 ka o.k2 la o.l2 (by decide) (by decide) rfl rfl (by omega) (by omega)) ?_
      -- at 80
      rw [q2, q3, hw]
      refine r_aload_n (dk kX9_keeps 43 rfl) rfl ?_
      refine r_dup (dk kX9_keeps 44 rfl) rfl ?_
      refine r_geti (dk kX9_keeps 45 rfl) fa_X9_61_8 o.k rfl ?_
      -- at 85
      have q4 : mi (sA (sA (sA M (h + 2) w) h f) (h + 2) (mKeepRow (mi M (h + 2)) (mi M a) n)) h = f := by rw [mi_sA_n _ _ h2, q1]
      rw [q4, hf5]
      refine r_iconst (v := 1) (dk kX9_keeps 46 rfl) (by decide) ?_
      refine r_iadd (dk kX9_keeps 47 rfl) ?_
      refine r_puti (dk kX9_keeps 48 rfl) fa_X9_61_8 o.k rfl rfl rfl rfl ?_
      -- at 90
      rw [show nI z + 1 = nI (z + 1) from nI_1 z, sI_A, q4, hf, sA_in _ _ _ _ h2.symm, sA_A]
      refine r_return (dk kX9_keeps 49 rfl) rfl ⟨Nat.le_of_ble_eq_true rfl, Nat.le_of_ble_eq_true rfl⟩ rfl
    by_cases h8 : n = 8
    · subst h8
      refine r_icmp_ne (tgt := 63) (dk kX9_keeps 10 rfl) (by decide) (fun c19 => absurd c19 (by decide)) (fun c19 => ?_)
      refine r_iconst (v := 0) (dk kX9_keeps 11 rfl) (by decide) ?_
      refine r_istore_n (j := 2) (dk kX9_keeps 12 rfl) rfl (by decide) rfl ?_
      simp only [List.set_cons_succ, List.set_cons_zero]
      -- at 24
      suffices key : ∀ d j, j + d = 1533 → WW G IX9_keeps (qv (fun M' => M' = sA (sA M (h + 2) (mKeepRow (mi M (h + 2)) (mi M a) 8)) h (va_up (va_up (mi M h) 8 0) 5 (nI (min 8 7 + 1)))) nox) 24 [.ref h, .ref a, .int (nI j)] [] (sA (sA M (h + 2) (fun i => if i < j then mi M (h + 2) (i + 219) else mi M (h + 2) i)) h (va_up (mi M h) 8 0)) 0 0 by
        have h0 := key 1533 0 (by omega)
        rw [show (fun i => if i < 0 then mi M (h + 2) (i + 219) else mi M (h + 2) i) = mi M (h + 2) from funext fun i => if_neg (by omega), sA_eq] at h0
        exact h0
      intro d
      induction d with
      | zero =>
        intro j hj
        have hj : j = 1533 := hj
        subst hj
        refine r_iload_n (dk kX9_keeps 13 rfl) rfl ?_
        refine r_sipush (v := 1533) (dk kX9_keeps 14 rfl) (by decide) ?_
        refine r_icmp_ge (tgt := 53) (dk kX9_keeps 15 rfl) (by decide) (fun c28 => ?_) (fun c28 => absurd (by decide) c28)
        refine r_aload_n (dk kX9_keeps 28 rfl) rfl ?_
        refine r_dup (dk kX9_keeps 29 rfl) rfl ?_
        refine r_geti (dk kX9_keeps 30 rfl) fa_X9_61_8 o.k rfl ?_
        -- at 58
        have q1 : mi (sA (sA M (h + 2) (fun i => if i < 1533 then mi M (h + 2) (i + 219) else mi M (h + 2) i)) h (va_up (mi M h) 8 0)) h = va_up (mi M h) 8 0 := mi_sA_s _ _ _
        rw [q1, show va_up (mi M h) 8 0 5 = nI 8 from hc1]
        refine r_iconst (v := 1) (dk kX9_keeps 31 rfl) (by decide) ?_
        refine r_isub (dk kX9_keeps 32 rfl) ?_
        refine r_puti (dk kX9_keeps 33 rfl) fa_X9_61_8 o.k rfl rfl rfl rfl ?_
        -- at 63
        rw [sI_sA]
        exact fin 7 _ _ (by decide) (by rw [va_up_self]; decide) (by rw [va_up_up]; rfl) rfl _
      | succ d ih =>
        intro j hj
        generalize hf : (fun i => if i < j then mi M (h + 2) (i + 219) else mi M (h + 2) i) = f
        have q2 : mi (sA (sA M (h + 2) f) h (va_up (mi M h) 8 0)) (h + 2) = f := by rw [mi_sA_n _ _ h2.symm, mi_sA_s]
        refine r_iload_n (dk kX9_keeps 13 rfl) rfl ?_
        refine r_sipush (v := 1533) (dk kX9_keeps 14 rfl) (by decide) ?_
        refine r_icmp_ge (tgt := 53) (dk kX9_keeps 15 rfl) (by decide) (fun c28 => absurd c28 (fun z => absurd ((nI_leI (a := 1533) (b := j) (by decide) (by omega)).mp z) (by omega))) (fun c28 => ?_)
        refine r_aload_n (dk kX9_keeps 16 rfl) rfl ?_
        refine r_getR (dk kX9_keeps 17 rfl) fa_X9_13_8 o.k rfl o.r1 ?_
        refine r_iload_n (dk kX9_keeps 18 rfl) rfl ?_
        refine r_aload_n (dk kX9_keeps 19 rfl) rfl ?_
        refine r_getR (dk kX9_keeps 20 rfl) fa_X9_13_8 o.k rfl o.r1 ?_
        refine r_iload_n (dk kX9_keeps 21 rfl) rfl ?_
        refine r_sipush (v := 219) (dk kX9_keeps 22 rfl) (by decide) ?_
        refine r_iadd (dk kX9_keeps 23 rfl) ?_
        refine r_ial (dk kX9_keeps 24 rfl) o.k2 o.l2 (j := j + 219) (by rw [show (219 : Int32) = nI 219 from rfl, nI_add]) (by omega) (by decide) ?_
        -- at 46
        rw [q2]
        refine r_ias (dk kX9_keeps 25 rfl) o.k2 o.l2 (j := j) rfl (by omega) (by decide) ?_
        refine r_iinc (dk kX9_keeps 26 rfl) (by decide) rfl rfl rfl ?_
        simp only [List.set_cons_succ, List.set_cons_zero]
        refine r_goto (tgt := 24) (dk kX9_keeps 27 rfl) (by decide) ?_
        -- at 24
        rw [show nI j + Int32.ofInt 1 = nI (j + 1) from nI_1 j, sI_A, q2, sA_in _ _ _ _ h2.symm]
        rw [show va_up f j (f (j + 219)) = (fun i => if i < j + 1 then mi M (h + 2) (i + 219) else mi M (h + 2) i) from ?_]
        · exact ih (j + 1) (by omega)
        · funext i
          by_cases hi : i = j
          · rw [hi, va_up_self, if_pos (by omega), ← hf]
            show (if _ then _ else _) = _
            rw [if_neg (by omega)]
          · rw [va_up_ne _ _ hi, ← hf]
            show (if _ then _ else _) = _
            by_cases c1 : i < j
            · rw [if_pos c1, if_pos (by omega)]
            · rw [if_neg c1, if_neg (by omega)]
    · refine r_icmp_ne (tgt := 63) (dk kX9_keeps 10 rfl) (by decide) (fun c19 => ?_) (fun c19 => absurd (fun z => h8 (nI_inj (by omega) (by decide) z)) c19)
      -- at 63
      have hm : min n 7 = n := by omega
      have h0 := fin n (mi M (h + 2)) (va_up (mi M h) 8 0) (by omega) hc1 (by rw [hm]) (by unfold mKeepRow; rw [if_neg h8, hm])
      rw [sA_eq] at h0
      exact h0 _
  · unfold mKeep
    rw [if_neg c9]
    refine r_return (dk kX9_keeps 6 rfl) rfl ⟨Nat.le_of_ble_eq_true rfl, Nat.le_of_ble_eq_true rfl⟩ rfl
end MODEL
end
section
/-! THE REFERENCE: sets of rulings -/
section MODEL
variable {G : GG} {M : Mm} {h : Nat}
theorem k_X9_based (o : MO M h) {F r : Nat} (gi : GI F (mi M (h + 1))) (hr : r < gn (mi M (h + 1)) 5) : KP G IX9_based [.ref h, .int (nI r)] M (gBm (mi M (h + 1)) r) := by
  refine KK.ofW (by decide) (by simp [Value.category]) (Nat.le_of_ble_eq_true rfl) rfl ?_
  show WW _ _ _ 0 [_, _, lj, lj, lj] [] _ _ _
  obtain ⟨hS, hS2⟩ := gi.r
  refine r_iconst (v := 1) (dk kX9_based 0 rfl) (by decide) ?_
  refine r_iload_n (dk kX9_based 1 rfl) rfl ?_
  refine r_ishl (dk kX9_based 2 rfl) ?_
  refine r_istore_n (j := 2) (dk kX9_based 3 rfl) rfl (by decide) rfl ?_
  simp only [List.set_cons_succ, List.set_cons_zero]
  refine r_iload_n (dk kX9_based 4 rfl) rfl ?_
  refine r_iconst (v := 1) (dk kX9_based 5 rfl) (by decide) ?_
  refine r_iadd (dk kX9_based 6 rfl) ?_
  refine r_istore_n (j := 3) (dk kX9_based 7 rfl) rfl (by decide) rfl ?_
  simp only [List.set_cons_succ, List.set_cons_zero]
  -- at 8
  rw [nI_sh1 r (by omega), ← gBs_self (mi M (h + 1)) r, show nI r + 1 = nI (r + 1) from nI_1 r]
  suffices key : ∀ d k (y : Value), (∀ x, y ≠ .long x) → y.category = 1 → k + d = gn (mi M (h + 1)) 5 → r < k → WW G IX9_based (qi (fun y M' => y = gBm (mi M (h + 1)) r ∧ M' = M) nox) 8 [.ref h, .int (nI r), .int (nI (gBs (mi M (h + 1)) r k)), .int (nI k), y] [] M 0 0 from key (gn (mi M (h + 1)) 5 - (r + 1)) (r + 1) _ (fun _ h => by cases h) rfl (by omega) (by omega)
  intro d
  induction d with
  | zero =>
    intro k y hy hy2 hk hrk
    have hk : k = gn (mi M (h + 1)) 5 := hk
    refine r_iload_n (dk kX9_based 8 rfl) rfl ?_
    refine r_aload_n (dk kX9_based 9 rfl) rfl ?_
    refine r_getR (dk kX9_based 10 rfl) fa_X9_7_8 o.k rfl o.r0 ?_
    refine r_iconst (v := 5) (dk kX9_based 11 rfl) (by decide) ?_
    refine r_ial (dk kX9_based 12 rfl) o.k1 o.l1 (j := 5) rfl (by decide) (by decide) ?_
    refine r_icmp_ge (tgt := 65) (dk kX9_based 13 rfl) (by decide) (fun c15 => ?_) (fun c15 => absurd (by rw [hS]; exact nI_le (by omega) (by omega)) c15)
    refine r_iload_n (dk kX9_based 41 rfl) rfl ?_
    refine r_iconst (v := 1) (dk kX9_based 42 rfl) (by decide) ?_
    refine r_iload_n (dk kX9_based 43 rfl) rfl ?_
    refine r_ishl (dk kX9_based 44 rfl) ?_
    refine r_iconst (v := (-1)) (dk kX9_based 45 rfl) (by decide) ?_
    refine r_ixor (dk kX9_based 46 rfl) ?_
    refine r_iand (dk kX9_based 47 rfl) ?_
    refine r_ireturn (dk kX9_based 48 rfl) rfl rfl ⟨Nat.le_of_ble_eq_true rfl, Nat.le_of_ble_eq_true rfl⟩ ⟨by rw [hk]; rfl, rfl⟩
  | succ d ih =>
    intro k y hy hy2 hk hrk
    have hB := gBs_lt (mi M (h + 1)) r k
    have hB2 : 2 ^ k ≤ 2 ^ 16 := Nat.pow_le_pow_right (by decide) (by omega)
    refine r_iload_n (dk kX9_based 8 rfl) rfl ?_
    refine r_aload_n (dk kX9_based 9 rfl) rfl ?_
    refine r_getR (dk kX9_based 10 rfl) fa_X9_7_8 o.k rfl o.r0 ?_
    refine r_iconst (v := 5) (dk kX9_based 11 rfl) (by decide) ?_
    refine r_ial (dk kX9_based 12 rfl) o.k1 o.l1 (j := 5) rfl (by decide) (by decide) ?_
    refine r_icmp_ge (tgt := 65) (dk kX9_based 13 rfl) (by decide) (fun c15 => absurd c15 (by rw [hS]; exact nI_ge (by omega) (by omega))) (fun c15 => ?_)
    refine r_iload_n (dk kX9_based 14 rfl) rfl ?_
    refine r_istore (dk kX9_based 15 rfl) (by decide) rfl ?_
    simp only [List.set_cons_succ, List.set_cons_zero]
    -- at 21
    have hst := gBs_step (mi M (h + 1)) hrk
    generalize hb : gBs (mi M (h + 1)) r k = B at *
    generalize hp : (fun i => B.testBit i && gNames (mi M (h + 1)) k (nI i)) = P at *
    suffices key2 : ∀ d q, q + d = k → WW G IX9_based (qi (fun y M' => y = gBm (mi M (h + 1)) r ∧ M' = M) nox) 21 [.ref h, .int (nI r), .int (nI (if (fx P q).isSome = true then B ||| 2 ^ k else B)), .int (nI k), .int (nI q)] [] M 0 0 by
      have h0 := key2 (k - r) r (by omega)
      have hn : fx P r = none := fx_none.mpr fun j hj => by
        rw [← hp]
        show (B.testBit j && _) = false
        rw [← hb, gBs_low _ _ _ _ hj]
        rfl
      rw [hn, if_neg (by decide)] at h0
      exact h0
    intro d
    induction d with
    | zero =>
      intro q hq
      have hq : q = k := hq
      refine r_iload (dk kX9_based 16 rfl) rfl ?_
      refine r_iload_n (dk kX9_based 17 rfl) rfl ?_
      refine r_icmp_ge (tgt := 59) (dk kX9_based 18 rfl) (by decide) (fun c24 => ?_) (fun c24 => absurd (nI_le (by omega) (by omega)) c24)
      refine r_iinc (dk kX9_based 39 rfl) (by decide) rfl rfl rfl ?_
      simp only [List.set_cons_succ, List.set_cons_zero]
      refine r_goto (tgt := 8) (dk kX9_based 40 rfl) (by decide) ?_
      -- at 8
      rw [hq, ← hst, show nI k + Int32.ofInt 1 = nI (k + 1) from nI_1 k]
      exact ih (k + 1) _ (fun _ h => by cases h) rfl (by omega) (by omega)
    | succ d ih2 =>
      intro q hq
      have hPq : P q = (B.testBit q && gNames (mi M (h + 1)) k (nI q)) := by rw [← hp]
      have hs : (fx P (q + 1)).isSome = ((fx P q).isSome || P q) := fx_succ P q
      generalize hC : (if (fx P q).isSome = true then B ||| 2 ^ k else B) = C at *
      have hC2 : C < 2 ^ 17 := by
        have h17 : (2 : Nat) ^ k < 2 ^ 17 := Nat.lt_of_le_of_lt hB2 (by decide)
        rw [← hC]
        split
        · exact Nat.or_lt_two_pow (by omega) h17
        · omega
      have hCb : C.testBit q = B.testBit q := by
        rw [← hC]
        split
        · rw [Nat.testBit_or, Nat.testBit_two_pow_of_ne (by omega), Bool.or_false]
        · rfl
      refine r_iload (dk kX9_based 16 rfl) rfl ?_
      refine r_iload_n (dk kX9_based 17 rfl) rfl ?_
      refine r_icmp_ge (tgt := 59) (dk kX9_based 18 rfl) (by decide) (fun c24 => absurd c24 (nI_ge (by omega) (by omega))) (fun c24 => ?_)
      refine r_iload_n (dk kX9_based 19 rfl) rfl ?_
      refine r_iload (dk kX9_based 20 rfl) rfl ?_
      refine r_ishr (dk kX9_based 21 rfl) ?_
      refine r_iconst (v := 1) (dk kX9_based 22 rfl) (by decide) ?_
      refine r_iand (dk kX9_based 23 rfl) ?_
      refine r_iconst (v := 1) (dk kX9_based 24 rfl) (by decide) ?_
      -- at 34
      rw [nI_bit (by omega) (by omega), hCb]
      refine r_icmp_ne (tgt := 53) (dk kX9_based 25 rfl) (by decide) (fun c34 => ?_) (fun c34 => ?_)
      · have hb0 : B.testBit q = false := by
          cases hbq : B.testBit q with
          | false => rfl
          | true => rw [hbq] at c34; exact absurd rfl c34
        rw [hb0, Bool.false_and] at hPq
        rw [hPq, Bool.or_false] at hs
        refine r_iinc (dk kX9_based 37 rfl) (by decide) rfl rfl rfl ?_
        simp only [List.set_cons_succ, List.set_cons_zero]
        refine r_goto (tgt := 21) (dk kX9_based 38 rfl) (by decide) ?_
        -- at 21
        rw [show nI q + Int32.ofInt 1 = nI (q + 1) from nI_1 q]
        have h9 := ih2 (q + 1) (by omega)
        rw [hs, hC] at h9
        exact h9
      · have hb0 : B.testBit q = true := by
          cases hbq : B.testBit q with
          | true => rfl
          | false => rw [hbq] at c34; exact absurd (by decide) c34
        rw [hb0, Bool.true_and] at hPq
        refine r_aload_n (dk kX9_based 26 rfl) rfl ?_
        refine r_iload_n (dk kX9_based 27 rfl) rfl ?_
        refine r_iload (dk kX9_based 28 rfl) rfl ?_
        refine r_callVp (I' := IX9_names) (as := [_, _]) (dk kX9_based 29 rfl) mv_X9_names ml_X9_155 rfl rfl o.k rfl rfl (Nat.le_of_ble_eq_true rfl) ⟨by decide, by decide⟩ ⟨rfl, rfl⟩ ⟨Nat.le_of_ble_eq_true rfl, Nat.le_of_ble_eq_true rfl⟩ (k_X9_names o gi (by omega) (nI q)) ?_
        refine r_if_eq (tgt := 53) (dk kX9_based 30 rfl) (by decide) (fun c44 => ?_) (fun c44 => ?_)
        · have hn0 := bI_0.mp c44
          rw [Bool.not_eq_true] at hn0
          rw [hn0] at hPq
          rw [hPq, Bool.or_false] at hs
          refine r_iinc (dk kX9_based 37 rfl) (by decide) rfl rfl rfl ?_
          simp only [List.set_cons_succ, List.set_cons_zero]
          refine r_goto (tgt := 21) (dk kX9_based 38 rfl) (by decide) ?_
          -- at 21
          rw [show nI q + Int32.ofInt 1 = nI (q + 1) from nI_1 q]
          have h9 := ih2 (q + 1) (by omega)
          rw [hs, hC] at h9
          exact h9
        · have hn0 := bI_1.mp c44
          rw [hn0] at hPq
          rw [hPq, Bool.or_true] at hs
          refine r_iload_n (dk kX9_based 31 rfl) rfl ?_
          refine r_iconst (v := 1) (dk kX9_based 32 rfl) (by decide) ?_
          refine r_iload_n (dk kX9_based 33 rfl) rfl ?_
          refine r_ishl (dk kX9_based 34 rfl) ?_
          refine r_ior (dk kX9_based 35 rfl) ?_
          refine r_istore_n (j := 2) (dk kX9_based 36 rfl) rfl (by decide) rfl ?_
          simp only [List.set_cons_succ, List.set_cons_zero]
          refine r_iinc (dk kX9_based 37 rfl) (by decide) rfl rfl rfl ?_
          simp only [List.set_cons_succ, List.set_cons_zero]
          refine r_goto (tgt := 21) (dk kX9_based 38 rfl) (by decide) ?_
          -- at 21
          rw [show nI q + Int32.ofInt 1 = nI (q + 1) from nI_1 q, nI_sh1 k (by omega), nI_or]
          have h9 := ih2 (q + 1) (by omega)
          rw [if_pos hs] at h9
          have hor : C ||| 2 ^ k = B ||| 2 ^ k := by
            rw [← hC]
            split
            · rw [Nat.or_assoc, Nat.or_self]
            · rfl
          rw [hor]
          exact h9
theorem k_X9_reaches (o : MO M h) {F r : Nat} (gi : GI F (mi M (h + 1))) (hr : r < gn (mi M (h + 1)) 5) : KP G IX9_reaches [.ref h, .int (nI r)] M (nI (gReach (mi M (h + 1)) r)) := by
  refine KK.ofW (by decide) (by simp [Value.category]) (Nat.le_of_ble_eq_true rfl) rfl ?_
  show WW _ _ _ 0 [_, _, lj, lj] [] _ _ _
  obtain ⟨hS, hS2⟩ := gi.r
  refine r_iconst (v := 0) (dk kX9_reaches 0 rfl) (by decide) ?_
  refine r_istore_n (j := 2) (dk kX9_reaches 1 rfl) rfl (by decide) rfl ?_
  simp only [List.set_cons_succ, List.set_cons_zero]
  refine r_iconst (v := 0) (dk kX9_reaches 2 rfl) (by decide) ?_
  refine r_istore_n (j := 3) (dk kX9_reaches 3 rfl) rfl (by decide) rfl ?_
  simp only [List.set_cons_succ, List.set_cons_zero]
  -- at 4
  suffices key : ∀ d j, j + d = gn (mi M (h + 1)) 5 → WW G IX9_reaches (qi (fun y M' => y = nI (gReach (mi M (h + 1)) r) ∧ M' = M) nox) 4 [.ref h, .int (nI r), .int (nI (ct (fun i => gBased (mi M (h + 1)) r i) j)), .int (nI j)] [] M 0 0 from key _ 0 (Nat.zero_add _)
  intro d
  induction d with
  | zero =>
    intro j hj
    refine r_iload_n (dk kX9_reaches 4 rfl) rfl ?_
    refine r_aload_n (dk kX9_reaches 5 rfl) rfl ?_
    refine r_getR (dk kX9_reaches 6 rfl) fa_X9_7_8 o.k rfl o.r0 ?_
    refine r_iconst (v := 5) (dk kX9_reaches 7 rfl) (by decide) ?_
    refine r_ial (dk kX9_reaches 8 rfl) o.k1 o.l1 (j := 5) rfl (by decide) (by decide) ?_
    refine r_icmp_ge (tgt := 32) (dk kX9_reaches 9 rfl) (by decide) (fun c11 => ?_) (fun c11 => absurd (by rw [hS]; exact nI_le (by omega) (by omega)) c11)
    refine r_iload_n (dk kX9_reaches 22 rfl) rfl ?_
    refine r_ireturn (dk kX9_reaches 23 rfl) rfl rfl ⟨Nat.le_of_ble_eq_true rfl, Nat.le_of_ble_eq_true rfl⟩ ⟨by rw [show j = gn (mi M (h + 1)) 5 from hj]; rfl, rfl⟩
  | succ d ih =>
    intro j hj
    have hst : ct (fun i => gBased (mi M (h + 1)) r i) (j + 1) = ct (fun i => gBased (mi M (h + 1)) r i) j + (if gBased (mi M (h + 1)) r j = true then 1 else 0) := rfl
    refine r_iload_n (dk kX9_reaches 4 rfl) rfl ?_
    refine r_aload_n (dk kX9_reaches 5 rfl) rfl ?_
    refine r_getR (dk kX9_reaches 6 rfl) fa_X9_7_8 o.k rfl o.r0 ?_
    refine r_iconst (v := 5) (dk kX9_reaches 7 rfl) (by decide) ?_
    refine r_ial (dk kX9_reaches 8 rfl) o.k1 o.l1 (j := 5) rfl (by decide) (by decide) ?_
    refine r_icmp_ge (tgt := 32) (dk kX9_reaches 9 rfl) (by decide) (fun c11 => absurd c11 (by rw [hS]; exact nI_ge (by omega) (by omega))) (fun c11 => ?_)
    refine r_iload_n (dk kX9_reaches 10 rfl) rfl ?_
    refine r_aload_n (dk kX9_reaches 11 rfl) rfl ?_
    refine r_iload_n (dk kX9_reaches 12 rfl) rfl ?_
    refine r_callVp (I' := IX9_based) (as := [_]) (dk kX9_reaches 13 rfl) mv_X9_based ml_X9_158 rfl rfl o.k rfl rfl (Nat.le_of_ble_eq_true rfl) ⟨by decide, by decide⟩ ⟨rfl, rfl⟩ ⟨Nat.le_of_ble_eq_true rfl, Nat.le_of_ble_eq_true rfl⟩ (k_X9_based o gi hr) ?_
    refine r_iload_n (dk kX9_reaches 14 rfl) rfl ?_
    refine r_ishr (dk kX9_reaches 15 rfl) ?_
    refine r_iconst (v := 1) (dk kX9_reaches 16 rfl) (by decide) ?_
    refine r_iand (dk kX9_reaches 17 rfl) ?_
    -- at 24
    rw [bitx _ (by omega), gBm_bt _ (by omega) (by omega)]
    refine r_iadd (dk kX9_reaches 18 rfl) ?_
    refine r_istore_n (j := 2) (dk kX9_reaches 19 rfl) rfl (by decide) rfl ?_
    simp only [List.set_cons_succ, List.set_cons_zero]
    refine r_iinc (dk kX9_reaches 20 rfl) (by decide) rfl rfl rfl ?_
    simp only [List.set_cons_succ, List.set_cons_zero]
    refine r_goto (tgt := 4) (dk kX9_reaches 21 rfl) (by decide) ?_
    -- at 4
    rw [show nI j + Int32.ofInt 1 = nI (j + 1) from nI_1 j, show nI (ct (fun i => gBased (mi M (h + 1)) r i) j) + bI (gBased (mi M (h + 1)) r j = true) = nI (ct (fun i => gBased (mi M (h + 1)) r i) (j + 1)) by rw [hst, bI_nI, nI_add]]
    exact ih (j + 1) (by omega)
end MODEL
end
